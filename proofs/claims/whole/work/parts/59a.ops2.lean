section OPS2
variable {F : Fn} {L : Lc} {S : List Value} {h : AH} {x y : Int32} {u : Int64} {k j : Nat} {v1 v2 v3 v4 v5 v6 : Value} {f : List Value → AH → Option Ou}
theorem qI_0 (w : WF h) : i_getI 10 k F L (.ref 0 :: S) h = F L (.int (gI h 0 k) :: S) h := by rw [r_getI, if_pos ⟨sh_0, by rw [w.n]; exact Nat.le_of_ble_eq_true rfl⟩]
theorem qP_0 (w : WF h) : i_putI 10 k F L (.int x :: .ref 0 :: S) h = F L S (sI h 0 k x) := by rw [r_putI, if_pos ⟨sh_0, by rw [w.n]; exact Nat.le_of_ble_eq_true rfl⟩]
theorem qV0_0 (w : WF h) (hc : cs S ≤ 8) : i_callV 10 0 f F L (.ref 0 :: S) h = i_after (f [.ref 0] h) S F L := by rw [r_callV_0, if_pos ⟨sh_0, by rw [w.n]; exact Nat.le_of_ble_eq_true rfl, hc⟩]
theorem qV1_0 (w : WF h) (hc : cs S ≤ 8) : i_callV 10 1 f F L (v1 :: .ref 0 :: S) h = i_after (f [.ref 0, v1] h) S F L := by rw [r_callV_1, if_pos ⟨sh_0, by rw [w.n]; exact Nat.le_of_ble_eq_true rfl, hc⟩]
theorem qV2_0 (w : WF h) (hc : cs S ≤ 8) : i_callV 10 2 f F L (v2 :: v1 :: .ref 0 :: S) h = i_after (f [.ref 0, v1, v2] h) S F L := by rw [r_callV_2, if_pos ⟨sh_0, by rw [w.n]; exact Nat.le_of_ble_eq_true rfl, hc⟩]
theorem qV3_0 (w : WF h) (hc : cs S ≤ 8) : i_callV 10 3 f F L (v3 :: v2 :: v1 :: .ref 0 :: S) h = i_after (f [.ref 0, v1, v2, v3] h) S F L := by rw [r_callV_3, if_pos ⟨sh_0, by rw [w.n]; exact Nat.le_of_ble_eq_true rfl, hc⟩]
theorem qV4_0 (w : WF h) (hc : cs S ≤ 8) : i_callV 10 4 f F L (v4 :: v3 :: v2 :: v1 :: .ref 0 :: S) h = i_after (f [.ref 0, v1, v2, v3, v4] h) S F L := by rw [r_callV_4, if_pos ⟨sh_0, by rw [w.n]; exact Nat.le_of_ble_eq_true rfl, hc⟩]
theorem q_0_0 (w : WF h) : i_getR 10 0 F L (.ref 0 :: S) h = F L (.ref 1 :: S) h := by rw [r_getR, if_pos ⟨sh_0, by rw [w.n]; exact Nat.le_of_ble_eq_true rfl⟩, rf_0_0 w]; rfl
theorem q_0_1 (w : WF h) : i_getR 10 1 F L (.ref 0 :: S) h = F L (.ref 2 :: S) h := by rw [r_getR, if_pos ⟨sh_0, by rw [w.n]; exact Nat.le_of_ble_eq_true rfl⟩, rf_0_1 w]; rfl
theorem q_0_2 (w : WF h) : i_getR 10 2 F L (.ref 0 :: S) h = F L (.ref 6 :: S) h := by rw [r_getR, if_pos ⟨sh_0, by rw [w.n]; exact Nat.le_of_ble_eq_true rfl⟩, rf_0_2 w]; rfl
theorem q_0_3 (w : WF h) : i_getR 10 3 F L (.ref 0 :: S) h = F L (.ref 50 :: S) h := by rw [r_getR, if_pos ⟨sh_0, by rw [w.n]; exact Nat.le_of_ble_eq_true rfl⟩, rf_0_3 w]; rfl
theorem q_0_4 (w : WF h) : i_getR 10 4 F L (.ref 0 :: S) h = F L (.ref 51 :: S) h := by rw [r_getR, if_pos ⟨sh_0, by rw [w.n]; exact Nat.le_of_ble_eq_true rfl⟩, rf_0_4 w]; rfl
theorem q_0_5 (w : WF h) : i_getR 10 5 F L (.ref 0 :: S) h = F L (.ref 56 :: S) h := by rw [r_getR, if_pos ⟨sh_0, by rw [w.n]; exact Nat.le_of_ble_eq_true rfl⟩, rf_0_5 w]; rfl
theorem q_0_6 (w : WF h) : i_getR 10 6 F L (.ref 0 :: S) h = F L (.ref 72 :: S) h := by rw [r_getR, if_pos ⟨sh_0, by rw [w.n]; exact Nat.le_of_ble_eq_true rfl⟩, rf_0_6 w]; rfl
theorem q_0_7 (w : WF h) : i_getR 10 7 F L (.ref 0 :: S) h = F L (.ref 88 :: S) h := by rw [r_getR, if_pos ⟨sh_0, by rw [w.n]; exact Nat.le_of_ble_eq_true rfl⟩, rf_0_7 w]; rfl
theorem q_0_8 (w : WF h) : i_getR 10 8 F L (.ref 0 :: S) h = F L (rv (gR h 0 8) :: S) h := by rw [r_getR, if_pos ⟨sh_0, by rw [w.n]; exact Nat.le_of_ble_eq_true rfl⟩]
theorem qR_0_8 (w : WF h) : i_putR 10 8 F L (.ref j :: .ref 0 :: S) h = F L S (sR h 0 8 (some j)) := by rw [r_putR, if_pos ⟨sh_0, by rw [w.n]; exact Nat.le_of_ble_eq_true rfl⟩]
theorem q_0_9 (w : WF h) : i_getR 10 9 F L (.ref 0 :: S) h = F L (rv (gR h 0 9) :: S) h := by rw [r_getR, if_pos ⟨sh_0, by rw [w.n]; exact Nat.le_of_ble_eq_true rfl⟩]
theorem qR_0_9 (w : WF h) : i_putR 10 9 F L (.ref j :: .ref 0 :: S) h = F L S (sR h 0 9 (some j)) := by rw [r_putR, if_pos ⟨sh_0, by rw [w.n]; exact Nat.le_of_ble_eq_true rfl⟩]
theorem qI_2 (w : WF h) : i_getI 9 k F L (.ref 2 :: S) h = F L (.int (gI h 2 k) :: S) h := by rw [r_getI, if_pos ⟨sh_2, by rw [w.n]; exact Nat.le_of_ble_eq_true rfl⟩]
theorem qP_2 (w : WF h) : i_putI 9 k F L (.int x :: .ref 2 :: S) h = F L S (sI h 2 k x) := by rw [r_putI, if_pos ⟨sh_2, by rw [w.n]; exact Nat.le_of_ble_eq_true rfl⟩]
theorem qV0_2 (w : WF h) (hc : cs S ≤ 8) : i_callV 9 0 f F L (.ref 2 :: S) h = i_after (f [.ref 2] h) S F L := by rw [r_callV_0, if_pos ⟨sh_2, by rw [w.n]; exact Nat.le_of_ble_eq_true rfl, hc⟩]
theorem qV1_2 (w : WF h) (hc : cs S ≤ 8) : i_callV 9 1 f F L (v1 :: .ref 2 :: S) h = i_after (f [.ref 2, v1] h) S F L := by rw [r_callV_1, if_pos ⟨sh_2, by rw [w.n]; exact Nat.le_of_ble_eq_true rfl, hc⟩]
theorem qV2_2 (w : WF h) (hc : cs S ≤ 8) : i_callV 9 2 f F L (v2 :: v1 :: .ref 2 :: S) h = i_after (f [.ref 2, v1, v2] h) S F L := by rw [r_callV_2, if_pos ⟨sh_2, by rw [w.n]; exact Nat.le_of_ble_eq_true rfl, hc⟩]
theorem qV3_2 (w : WF h) (hc : cs S ≤ 8) : i_callV 9 3 f F L (v3 :: v2 :: v1 :: .ref 2 :: S) h = i_after (f [.ref 2, v1, v2, v3] h) S F L := by rw [r_callV_3, if_pos ⟨sh_2, by rw [w.n]; exact Nat.le_of_ble_eq_true rfl, hc⟩]
theorem qV4_2 (w : WF h) (hc : cs S ≤ 8) : i_callV 9 4 f F L (v4 :: v3 :: v2 :: v1 :: .ref 2 :: S) h = i_after (f [.ref 2, v1, v2, v3, v4] h) S F L := by rw [r_callV_4, if_pos ⟨sh_2, by rw [w.n]; exact Nat.le_of_ble_eq_true rfl, hc⟩]
theorem q_2_0 (w : WF h) : i_getR 9 0 F L (.ref 2 :: S) h = F L (.ref 3 :: S) h := by rw [r_getR, if_pos ⟨sh_2, by rw [w.n]; exact Nat.le_of_ble_eq_true rfl⟩, rf_2_0 w]; rfl
theorem q_2_1 (w : WF h) : i_getR 9 1 F L (.ref 2 :: S) h = F L (.ref 4 :: S) h := by rw [r_getR, if_pos ⟨sh_2, by rw [w.n]; exact Nat.le_of_ble_eq_true rfl⟩, rf_2_1 w]; rfl
theorem q_2_2 (w : WF h) : i_getR 9 2 F L (.ref 2 :: S) h = F L (.ref 5 :: S) h := by rw [r_getR, if_pos ⟨sh_2, by rw [w.n]; exact Nat.le_of_ble_eq_true rfl⟩, rf_2_2 w]; rfl
theorem qA_4 (w : WF h) (hj : j < 1001) : i_iaload F L (.int (N j) :: .ref 4 :: S) h = F L (.int (gI h 4 j) :: S) h := by
  have e : ¬ N j < 0 := by rw [lit32, N_lt (by omega) (by omega)]; omega
  rw [r_iaload, N_nat (by omega), if_pos ⟨by rw [sh_4], by rw [w.n]; exact Nat.le_of_ble_eq_true rfl, e, by rw [sh_4]; exact hj⟩]
theorem qS_4 (w : WF h) (hj : j < 1001) : i_iastore F L (.int y :: .int (N j) :: .ref 4 :: S) h = F L S (sI h 4 j y) := by
  have e : ¬ N j < 0 := by rw [lit32, N_lt (by omega) (by omega)]; omega
  rw [r_iastore, N_nat (by omega), if_pos ⟨by rw [sh_4], by rw [w.n]; exact Nat.le_of_ble_eq_true rfl, e, by rw [sh_4]; exact hj⟩]
theorem qc_4 (w : WF h) (hj : j < 1001) : mX11_cell [.ref 4, .int (N j)] h = some (.inl (some (.int (gI h 4 j))), h) := by
  have e := cell_N w (i := 4) (k := j) (by rw [sh_4]) (by decide) (by rw [sh_4]; decide) (by omega)
  rw [sh_4] at e
  rw [e]
  dsimp only
  rw [if_pos hj]
theorem qp_4 (w : WF h) (hj : j < 1001) : mX11_put [.ref 4, .int (N j), .int y] h = some (.inl none, sI h 4 j y) := by
  have e := put_N w (i := 4) (k := j) (by rw [sh_4]) (by decide) (by rw [sh_4]; decide) (by omega) y
  rw [sh_4] at e
  rw [e]
  dsimp only
  rw [if_pos hj]
theorem qpo_4 (w : WF h) (hj : 1001 ≤ j) (hk : j < 2147483648) : mX11_put [.ref 4, .int (N j), .int y] h = some (.inl none, h) := by
  have e := put_N w (i := 4) (k := j) (by rw [sh_4]) (by decide) (by rw [sh_4]; decide) hk y
  rw [sh_4] at e
  rw [e]
  dsimp only
  rw [if_neg (by omega)]
theorem qco_4 (w : WF h) (hj : 1001 ≤ j) (hk : j < 2147483648) : mX11_cell [.ref 4, .int (N j)] h = some (.inl (some (.int (N 0))), h) := by
  have e := cell_N w (i := 4) (k := j) (by rw [sh_4]) (by decide) (by rw [sh_4]; decide) hk
  rw [sh_4] at e
  rw [e]
  dsimp only
  rw [if_neg (by omega)]
theorem qf_4 (w : WF h) : mJ7_fill_53178 [.ref 4, .int y] h = some (.inl none, stR h 4 1001 (fun _ => y)) := by
  have e := fill_ok w (i := 4) (by rw [sh_4]) (by decide) (by rw [sh_4]; decide) y
  rw [sh_4] at e
  exact e
theorem qA_5 (w : WF h) (hj : j < 1001) : i_iaload F L (.int (N j) :: .ref 5 :: S) h = F L (.int (gI h 5 j) :: S) h := by
  have e : ¬ N j < 0 := by rw [lit32, N_lt (by omega) (by omega)]; omega
  rw [r_iaload, N_nat (by omega), if_pos ⟨by rw [sh_5], by rw [w.n]; exact Nat.le_of_ble_eq_true rfl, e, by rw [sh_5]; exact hj⟩]
theorem qS_5 (w : WF h) (hj : j < 1001) : i_iastore F L (.int y :: .int (N j) :: .ref 5 :: S) h = F L S (sI h 5 j y) := by
  have e : ¬ N j < 0 := by rw [lit32, N_lt (by omega) (by omega)]; omega
  rw [r_iastore, N_nat (by omega), if_pos ⟨by rw [sh_5], by rw [w.n]; exact Nat.le_of_ble_eq_true rfl, e, by rw [sh_5]; exact hj⟩]
theorem qc_5 (w : WF h) (hj : j < 1001) : mX11_cell [.ref 5, .int (N j)] h = some (.inl (some (.int (gI h 5 j))), h) := by
  have e := cell_N w (i := 5) (k := j) (by rw [sh_5]) (by decide) (by rw [sh_5]; decide) (by omega)
  rw [sh_5] at e
  rw [e]
  dsimp only
  rw [if_pos hj]
theorem qp_5 (w : WF h) (hj : j < 1001) : mX11_put [.ref 5, .int (N j), .int y] h = some (.inl none, sI h 5 j y) := by
  have e := put_N w (i := 5) (k := j) (by rw [sh_5]) (by decide) (by rw [sh_5]; decide) (by omega) y
  rw [sh_5] at e
  rw [e]
  dsimp only
  rw [if_pos hj]
theorem qpo_5 (w : WF h) (hj : 1001 ≤ j) (hk : j < 2147483648) : mX11_put [.ref 5, .int (N j), .int y] h = some (.inl none, h) := by
  have e := put_N w (i := 5) (k := j) (by rw [sh_5]) (by decide) (by rw [sh_5]; decide) hk y
  rw [sh_5] at e
  rw [e]
  dsimp only
  rw [if_neg (by omega)]
theorem qco_5 (w : WF h) (hj : 1001 ≤ j) (hk : j < 2147483648) : mX11_cell [.ref 5, .int (N j)] h = some (.inl (some (.int (N 0))), h) := by
  have e := cell_N w (i := 5) (k := j) (by rw [sh_5]) (by decide) (by rw [sh_5]; decide) hk
  rw [sh_5] at e
  rw [e]
  dsimp only
  rw [if_neg (by omega)]
theorem qf_5 (w : WF h) : mJ7_fill_53178 [.ref 5, .int y] h = some (.inl none, stR h 5 1001 (fun _ => y)) := by
  have e := fill_ok w (i := 5) (by rw [sh_5]) (by decide) (by rw [sh_5]; decide) y
  rw [sh_5] at e
  exact e
theorem qI_6 (w : WF h) : i_getI 4 k F L (.ref 6 :: S) h = F L (.int (gI h 6 k) :: S) h := by rw [r_getI, if_pos ⟨sh_6, by rw [w.n]; exact Nat.le_of_ble_eq_true rfl⟩]
theorem qP_6 (w : WF h) : i_putI 4 k F L (.int x :: .ref 6 :: S) h = F L S (sI h 6 k x) := by rw [r_putI, if_pos ⟨sh_6, by rw [w.n]; exact Nat.le_of_ble_eq_true rfl⟩]
theorem qV0_6 (w : WF h) (hc : cs S ≤ 8) : i_callV 4 0 f F L (.ref 6 :: S) h = i_after (f [.ref 6] h) S F L := by rw [r_callV_0, if_pos ⟨sh_6, by rw [w.n]; exact Nat.le_of_ble_eq_true rfl, hc⟩]
theorem qV1_6 (w : WF h) (hc : cs S ≤ 8) : i_callV 4 1 f F L (v1 :: .ref 6 :: S) h = i_after (f [.ref 6, v1] h) S F L := by rw [r_callV_1, if_pos ⟨sh_6, by rw [w.n]; exact Nat.le_of_ble_eq_true rfl, hc⟩]
theorem qV2_6 (w : WF h) (hc : cs S ≤ 8) : i_callV 4 2 f F L (v2 :: v1 :: .ref 6 :: S) h = i_after (f [.ref 6, v1, v2] h) S F L := by rw [r_callV_2, if_pos ⟨sh_6, by rw [w.n]; exact Nat.le_of_ble_eq_true rfl, hc⟩]
theorem qV3_6 (w : WF h) (hc : cs S ≤ 8) : i_callV 4 3 f F L (v3 :: v2 :: v1 :: .ref 6 :: S) h = i_after (f [.ref 6, v1, v2, v3] h) S F L := by rw [r_callV_3, if_pos ⟨sh_6, by rw [w.n]; exact Nat.le_of_ble_eq_true rfl, hc⟩]
theorem qV4_6 (w : WF h) (hc : cs S ≤ 8) : i_callV 4 4 f F L (v4 :: v3 :: v2 :: v1 :: .ref 6 :: S) h = i_after (f [.ref 6, v1, v2, v3, v4] h) S F L := by rw [r_callV_4, if_pos ⟨sh_6, by rw [w.n]; exact Nat.le_of_ble_eq_true rfl, hc⟩]
theorem q_6_1 (w : WF h) : i_getR 4 1 F L (.ref 6 :: S) h = F L (.ref 7 :: S) h := by rw [r_getR, if_pos ⟨sh_6, by rw [w.n]; exact Nat.le_of_ble_eq_true rfl⟩, rf_6_1 w]; rfl
theorem qA_7 (w : WF h) (hj : j < 40) : i_iaload F L (.int (N j) :: .ref 7 :: S) h = F L (.int (gI h 7 j) :: S) h := by
  have e : ¬ N j < 0 := by rw [lit32, N_lt (by omega) (by omega)]; omega
  rw [r_iaload, N_nat (by omega), if_pos ⟨by rw [sh_7], by rw [w.n]; exact Nat.le_of_ble_eq_true rfl, e, by rw [sh_7]; exact hj⟩]
theorem qS_7 (w : WF h) (hj : j < 40) : i_iastore F L (.int y :: .int (N j) :: .ref 7 :: S) h = F L S (sI h 7 j y) := by
  have e : ¬ N j < 0 := by rw [lit32, N_lt (by omega) (by omega)]; omega
  rw [r_iastore, N_nat (by omega), if_pos ⟨by rw [sh_7], by rw [w.n]; exact Nat.le_of_ble_eq_true rfl, e, by rw [sh_7]; exact hj⟩]
theorem qc_7 (w : WF h) (hj : j < 40) : mX11_cell [.ref 7, .int (N j)] h = some (.inl (some (.int (gI h 7 j))), h) := by
  have e := cell_N w (i := 7) (k := j) (by rw [sh_7]) (by decide) (by rw [sh_7]; decide) (by omega)
  rw [sh_7] at e
  rw [e]
  dsimp only
  rw [if_pos hj]
theorem qp_7 (w : WF h) (hj : j < 40) : mX11_put [.ref 7, .int (N j), .int y] h = some (.inl none, sI h 7 j y) := by
  have e := put_N w (i := 7) (k := j) (by rw [sh_7]) (by decide) (by rw [sh_7]; decide) (by omega) y
  rw [sh_7] at e
  rw [e]
  dsimp only
  rw [if_pos hj]
theorem qpo_7 (w : WF h) (hj : 40 ≤ j) (hk : j < 2147483648) : mX11_put [.ref 7, .int (N j), .int y] h = some (.inl none, h) := by
  have e := put_N w (i := 7) (k := j) (by rw [sh_7]) (by decide) (by rw [sh_7]; decide) hk y
  rw [sh_7] at e
  rw [e]
  dsimp only
  rw [if_neg (by omega)]
theorem qco_7 (w : WF h) (hj : 40 ≤ j) (hk : j < 2147483648) : mX11_cell [.ref 7, .int (N j)] h = some (.inl (some (.int (N 0))), h) := by
  have e := cell_N w (i := 7) (k := j) (by rw [sh_7]) (by decide) (by rw [sh_7]; decide) hk
  rw [sh_7] at e
  rw [e]
  dsimp only
  rw [if_neg (by omega)]
theorem qf_7 (w : WF h) : mJ7_fill_53178 [.ref 7, .int y] h = some (.inl none, stR h 7 40 (fun _ => y)) := by
  have e := fill_ok w (i := 7) (by rw [sh_7]) (by decide) (by rw [sh_7]; decide) y
  rw [sh_7] at e
  exact e
theorem qI_50 (w : WF h) : i_getI 1 k F L (.ref 50 :: S) h = F L (.int (gI h 50 k) :: S) h := by rw [r_getI, if_pos ⟨sh_50, by rw [w.n]; exact Nat.le_of_ble_eq_true rfl⟩]
theorem qP_50 (w : WF h) : i_putI 1 k F L (.int x :: .ref 50 :: S) h = F L S (sI h 50 k x) := by rw [r_putI, if_pos ⟨sh_50, by rw [w.n]; exact Nat.le_of_ble_eq_true rfl⟩]
theorem qV0_50 (w : WF h) (hc : cs S ≤ 8) : i_callV 1 0 f F L (.ref 50 :: S) h = i_after (f [.ref 50] h) S F L := by rw [r_callV_0, if_pos ⟨sh_50, by rw [w.n]; exact Nat.le_of_ble_eq_true rfl, hc⟩]
theorem qV1_50 (w : WF h) (hc : cs S ≤ 8) : i_callV 1 1 f F L (v1 :: .ref 50 :: S) h = i_after (f [.ref 50, v1] h) S F L := by rw [r_callV_1, if_pos ⟨sh_50, by rw [w.n]; exact Nat.le_of_ble_eq_true rfl, hc⟩]
theorem qV2_50 (w : WF h) (hc : cs S ≤ 8) : i_callV 1 2 f F L (v2 :: v1 :: .ref 50 :: S) h = i_after (f [.ref 50, v1, v2] h) S F L := by rw [r_callV_2, if_pos ⟨sh_50, by rw [w.n]; exact Nat.le_of_ble_eq_true rfl, hc⟩]
theorem qV3_50 (w : WF h) (hc : cs S ≤ 8) : i_callV 1 3 f F L (v3 :: v2 :: v1 :: .ref 50 :: S) h = i_after (f [.ref 50, v1, v2, v3] h) S F L := by rw [r_callV_3, if_pos ⟨sh_50, by rw [w.n]; exact Nat.le_of_ble_eq_true rfl, hc⟩]
theorem qV4_50 (w : WF h) (hc : cs S ≤ 8) : i_callV 1 4 f F L (v4 :: v3 :: v2 :: v1 :: .ref 50 :: S) h = i_after (f [.ref 50, v1, v2, v3, v4] h) S F L := by rw [r_callV_4, if_pos ⟨sh_50, by rw [w.n]; exact Nat.le_of_ble_eq_true rfl, hc⟩]
theorem q_50_2 (w : WF h) : i_getR 1 2 F L (.ref 50 :: S) h = F L (.ref 2 :: S) h := by rw [r_getR, if_pos ⟨sh_50, by rw [w.n]; exact Nat.le_of_ble_eq_true rfl⟩, rf_50_2 w]; rfl
theorem q_50_3 (w : WF h) : i_getR 1 3 F L (.ref 50 :: S) h = F L (rv (gR h 50 3) :: S) h := by rw [r_getR, if_pos ⟨sh_50, by rw [w.n]; exact Nat.le_of_ble_eq_true rfl⟩]
theorem qR_50_3 (w : WF h) : i_putR 1 3 F L (.ref j :: .ref 50 :: S) h = F L S (sR h 50 3 (some j)) := by rw [r_putR, if_pos ⟨sh_50, by rw [w.n]; exact Nat.le_of_ble_eq_true rfl⟩]
theorem qZ0_50 (w : WF h) : i_putZ 1 k F L (.int (N 0) :: .ref 50 :: S) h = F L S (sI h 50 k (N 0)) := by rw [r_putZ, if_pos ⟨Or.inl rfl, sh_50, by rw [w.n]; exact Nat.le_of_ble_eq_true rfl⟩]
theorem qZ1_50 (w : WF h) : i_putZ 1 k F L (.int (N 1) :: .ref 50 :: S) h = F L S (sI h 50 k (N 1)) := by rw [r_putZ, if_pos ⟨Or.inr rfl, sh_50, by rw [w.n]; exact Nat.le_of_ble_eq_true rfl⟩]
theorem qI_51 (w : WF h) : i_getI 2 k F L (.ref 51 :: S) h = F L (.int (gI h 51 k) :: S) h := by rw [r_getI, if_pos ⟨sh_51, by rw [w.n]; exact Nat.le_of_ble_eq_true rfl⟩]
theorem qP_51 (w : WF h) : i_putI 2 k F L (.int x :: .ref 51 :: S) h = F L S (sI h 51 k x) := by rw [r_putI, if_pos ⟨sh_51, by rw [w.n]; exact Nat.le_of_ble_eq_true rfl⟩]
theorem qV0_51 (w : WF h) (hc : cs S ≤ 8) : i_callV 2 0 f F L (.ref 51 :: S) h = i_after (f [.ref 51] h) S F L := by rw [r_callV_0, if_pos ⟨sh_51, by rw [w.n]; exact Nat.le_of_ble_eq_true rfl, hc⟩]
theorem qV1_51 (w : WF h) (hc : cs S ≤ 8) : i_callV 2 1 f F L (v1 :: .ref 51 :: S) h = i_after (f [.ref 51, v1] h) S F L := by rw [r_callV_1, if_pos ⟨sh_51, by rw [w.n]; exact Nat.le_of_ble_eq_true rfl, hc⟩]
theorem qV2_51 (w : WF h) (hc : cs S ≤ 8) : i_callV 2 2 f F L (v2 :: v1 :: .ref 51 :: S) h = i_after (f [.ref 51, v1, v2] h) S F L := by rw [r_callV_2, if_pos ⟨sh_51, by rw [w.n]; exact Nat.le_of_ble_eq_true rfl, hc⟩]
theorem qV3_51 (w : WF h) (hc : cs S ≤ 8) : i_callV 2 3 f F L (v3 :: v2 :: v1 :: .ref 51 :: S) h = i_after (f [.ref 51, v1, v2, v3] h) S F L := by rw [r_callV_3, if_pos ⟨sh_51, by rw [w.n]; exact Nat.le_of_ble_eq_true rfl, hc⟩]
theorem qV4_51 (w : WF h) (hc : cs S ≤ 8) : i_callV 2 4 f F L (v4 :: v3 :: v2 :: v1 :: .ref 51 :: S) h = i_after (f [.ref 51, v1, v2, v3, v4] h) S F L := by rw [r_callV_4, if_pos ⟨sh_51, by rw [w.n]; exact Nat.le_of_ble_eq_true rfl, hc⟩]
theorem q_51_1 (w : WF h) : i_getR 2 1 F L (.ref 51 :: S) h = F L (.ref 52 :: S) h := by rw [r_getR, if_pos ⟨sh_51, by rw [w.n]; exact Nat.le_of_ble_eq_true rfl⟩, rf_51_1 w]; rfl
theorem q_51_2 (w : WF h) : i_getR 2 2 F L (.ref 51 :: S) h = F L (.ref 53 :: S) h := by rw [r_getR, if_pos ⟨sh_51, by rw [w.n]; exact Nat.le_of_ble_eq_true rfl⟩, rf_51_2 w]; rfl
theorem q_51_3 (w : WF h) : i_getR 2 3 F L (.ref 51 :: S) h = F L (.ref 54 :: S) h := by rw [r_getR, if_pos ⟨sh_51, by rw [w.n]; exact Nat.le_of_ble_eq_true rfl⟩, rf_51_3 w]; rfl
theorem q_51_4 (w : WF h) : i_getR 2 4 F L (.ref 51 :: S) h = F L (.ref 55 :: S) h := by rw [r_getR, if_pos ⟨sh_51, by rw [w.n]; exact Nat.le_of_ble_eq_true rfl⟩, rf_51_4 w]; rfl
theorem q_51_0 (w : WF h) : i_getR 2 0 F L (.ref 51 :: S) h = F L (rv (gR h 51 0) :: S) h := by rw [r_getR, if_pos ⟨sh_51, by rw [w.n]; exact Nat.le_of_ble_eq_true rfl⟩]
theorem qR_51_0 (w : WF h) : i_putR 2 0 F L (.ref j :: .ref 51 :: S) h = F L S (sR h 51 0 (some j)) := by rw [r_putR, if_pos ⟨sh_51, by rw [w.n]; exact Nat.le_of_ble_eq_true rfl⟩]
theorem qA_52 (w : WF h) (hj : j < 1024) : i_iaload F L (.int (N j) :: .ref 52 :: S) h = F L (.int (gI h 52 j) :: S) h := by
  have e : ¬ N j < 0 := by rw [lit32, N_lt (by omega) (by omega)]; omega
  rw [r_iaload, N_nat (by omega), if_pos ⟨by rw [sh_52], by rw [w.n]; exact Nat.le_of_ble_eq_true rfl, e, by rw [sh_52]; exact hj⟩]
theorem qS_52 (w : WF h) (hj : j < 1024) : i_iastore F L (.int y :: .int (N j) :: .ref 52 :: S) h = F L S (sI h 52 j y) := by
  have e : ¬ N j < 0 := by rw [lit32, N_lt (by omega) (by omega)]; omega
  rw [r_iastore, N_nat (by omega), if_pos ⟨by rw [sh_52], by rw [w.n]; exact Nat.le_of_ble_eq_true rfl, e, by rw [sh_52]; exact hj⟩]
theorem qc_52 (w : WF h) (hj : j < 1024) : mX11_cell [.ref 52, .int (N j)] h = some (.inl (some (.int (gI h 52 j))), h) := by
  have e := cell_N w (i := 52) (k := j) (by rw [sh_52]) (by decide) (by rw [sh_52]; decide) (by omega)
  rw [sh_52] at e
  rw [e]
  dsimp only
  rw [if_pos hj]
theorem qp_52 (w : WF h) (hj : j < 1024) : mX11_put [.ref 52, .int (N j), .int y] h = some (.inl none, sI h 52 j y) := by
  have e := put_N w (i := 52) (k := j) (by rw [sh_52]) (by decide) (by rw [sh_52]; decide) (by omega) y
  rw [sh_52] at e
  rw [e]
  dsimp only
  rw [if_pos hj]
theorem qpo_52 (w : WF h) (hj : 1024 ≤ j) (hk : j < 2147483648) : mX11_put [.ref 52, .int (N j), .int y] h = some (.inl none, h) := by
  have e := put_N w (i := 52) (k := j) (by rw [sh_52]) (by decide) (by rw [sh_52]; decide) hk y
  rw [sh_52] at e
  rw [e]
  dsimp only
  rw [if_neg (by omega)]
theorem qco_52 (w : WF h) (hj : 1024 ≤ j) (hk : j < 2147483648) : mX11_cell [.ref 52, .int (N j)] h = some (.inl (some (.int (N 0))), h) := by
  have e := cell_N w (i := 52) (k := j) (by rw [sh_52]) (by decide) (by rw [sh_52]; decide) hk
  rw [sh_52] at e
  rw [e]
  dsimp only
  rw [if_neg (by omega)]
theorem qf_52 (w : WF h) : mJ7_fill_53178 [.ref 52, .int y] h = some (.inl none, stR h 52 1024 (fun _ => y)) := by
  have e := fill_ok w (i := 52) (by rw [sh_52]) (by decide) (by rw [sh_52]; decide) y
  rw [sh_52] at e
  exact e
theorem qA_53 (w : WF h) (hj : j < 18) : i_iaload F L (.int (N j) :: .ref 53 :: S) h = F L (.int (gI h 53 j) :: S) h := by
  have e : ¬ N j < 0 := by rw [lit32, N_lt (by omega) (by omega)]; omega
  rw [r_iaload, N_nat (by omega), if_pos ⟨by rw [sh_53], by rw [w.n]; exact Nat.le_of_ble_eq_true rfl, e, by rw [sh_53]; exact hj⟩]
theorem qS_53 (w : WF h) (hj : j < 18) : i_iastore F L (.int y :: .int (N j) :: .ref 53 :: S) h = F L S (sI h 53 j y) := by
  have e : ¬ N j < 0 := by rw [lit32, N_lt (by omega) (by omega)]; omega
  rw [r_iastore, N_nat (by omega), if_pos ⟨by rw [sh_53], by rw [w.n]; exact Nat.le_of_ble_eq_true rfl, e, by rw [sh_53]; exact hj⟩]
theorem qc_53 (w : WF h) (hj : j < 18) : mX11_cell [.ref 53, .int (N j)] h = some (.inl (some (.int (gI h 53 j))), h) := by
  have e := cell_N w (i := 53) (k := j) (by rw [sh_53]) (by decide) (by rw [sh_53]; decide) (by omega)
  rw [sh_53] at e
  rw [e]
  dsimp only
  rw [if_pos hj]
theorem qp_53 (w : WF h) (hj : j < 18) : mX11_put [.ref 53, .int (N j), .int y] h = some (.inl none, sI h 53 j y) := by
  have e := put_N w (i := 53) (k := j) (by rw [sh_53]) (by decide) (by rw [sh_53]; decide) (by omega) y
  rw [sh_53] at e
  rw [e]
  dsimp only
  rw [if_pos hj]
theorem qpo_53 (w : WF h) (hj : 18 ≤ j) (hk : j < 2147483648) : mX11_put [.ref 53, .int (N j), .int y] h = some (.inl none, h) := by
  have e := put_N w (i := 53) (k := j) (by rw [sh_53]) (by decide) (by rw [sh_53]; decide) hk y
  rw [sh_53] at e
  rw [e]
  dsimp only
  rw [if_neg (by omega)]
theorem qco_53 (w : WF h) (hj : 18 ≤ j) (hk : j < 2147483648) : mX11_cell [.ref 53, .int (N j)] h = some (.inl (some (.int (N 0))), h) := by
  have e := cell_N w (i := 53) (k := j) (by rw [sh_53]) (by decide) (by rw [sh_53]; decide) hk
  rw [sh_53] at e
  rw [e]
  dsimp only
  rw [if_neg (by omega)]
theorem qf_53 (w : WF h) : mJ7_fill_53178 [.ref 53, .int y] h = some (.inl none, stR h 53 18 (fun _ => y)) := by
  have e := fill_ok w (i := 53) (by rw [sh_53]) (by decide) (by rw [sh_53]; decide) y
  rw [sh_53] at e
  exact e
theorem qA_54 (w : WF h) (hj : j < 10) : i_iaload F L (.int (N j) :: .ref 54 :: S) h = F L (.int (gI h 54 j) :: S) h := by
  have e : ¬ N j < 0 := by rw [lit32, N_lt (by omega) (by omega)]; omega
  rw [r_iaload, N_nat (by omega), if_pos ⟨by rw [sh_54], by rw [w.n]; exact Nat.le_of_ble_eq_true rfl, e, by rw [sh_54]; exact hj⟩]
theorem qS_54 (w : WF h) (hj : j < 10) : i_iastore F L (.int y :: .int (N j) :: .ref 54 :: S) h = F L S (sI h 54 j y) := by
  have e : ¬ N j < 0 := by rw [lit32, N_lt (by omega) (by omega)]; omega
  rw [r_iastore, N_nat (by omega), if_pos ⟨by rw [sh_54], by rw [w.n]; exact Nat.le_of_ble_eq_true rfl, e, by rw [sh_54]; exact hj⟩]
theorem qc_54 (w : WF h) (hj : j < 10) : mX11_cell [.ref 54, .int (N j)] h = some (.inl (some (.int (gI h 54 j))), h) := by
  have e := cell_N w (i := 54) (k := j) (by rw [sh_54]) (by decide) (by rw [sh_54]; decide) (by omega)
  rw [sh_54] at e
  rw [e]
  dsimp only
  rw [if_pos hj]
theorem qp_54 (w : WF h) (hj : j < 10) : mX11_put [.ref 54, .int (N j), .int y] h = some (.inl none, sI h 54 j y) := by
  have e := put_N w (i := 54) (k := j) (by rw [sh_54]) (by decide) (by rw [sh_54]; decide) (by omega) y
  rw [sh_54] at e
  rw [e]
  dsimp only
  rw [if_pos hj]
theorem qpo_54 (w : WF h) (hj : 10 ≤ j) (hk : j < 2147483648) : mX11_put [.ref 54, .int (N j), .int y] h = some (.inl none, h) := by
  have e := put_N w (i := 54) (k := j) (by rw [sh_54]) (by decide) (by rw [sh_54]; decide) hk y
  rw [sh_54] at e
  rw [e]
  dsimp only
  rw [if_neg (by omega)]
theorem qco_54 (w : WF h) (hj : 10 ≤ j) (hk : j < 2147483648) : mX11_cell [.ref 54, .int (N j)] h = some (.inl (some (.int (N 0))), h) := by
  have e := cell_N w (i := 54) (k := j) (by rw [sh_54]) (by decide) (by rw [sh_54]; decide) hk
  rw [sh_54] at e
  rw [e]
  dsimp only
  rw [if_neg (by omega)]
theorem qf_54 (w : WF h) : mJ7_fill_53178 [.ref 54, .int y] h = some (.inl none, stR h 54 10 (fun _ => y)) := by
  have e := fill_ok w (i := 54) (by rw [sh_54]) (by decide) (by rw [sh_54]; decide) y
  rw [sh_54] at e
  exact e
theorem qA_55 (w : WF h) (hj : j < 6) : i_iaload F L (.int (N j) :: .ref 55 :: S) h = F L (.int (gI h 55 j) :: S) h := by
  have e : ¬ N j < 0 := by rw [lit32, N_lt (by omega) (by omega)]; omega
  rw [r_iaload, N_nat (by omega), if_pos ⟨by rw [sh_55], by rw [w.n]; exact Nat.le_of_ble_eq_true rfl, e, by rw [sh_55]; exact hj⟩]
theorem qS_55 (w : WF h) (hj : j < 6) : i_iastore F L (.int y :: .int (N j) :: .ref 55 :: S) h = F L S (sI h 55 j y) := by
  have e : ¬ N j < 0 := by rw [lit32, N_lt (by omega) (by omega)]; omega
  rw [r_iastore, N_nat (by omega), if_pos ⟨by rw [sh_55], by rw [w.n]; exact Nat.le_of_ble_eq_true rfl, e, by rw [sh_55]; exact hj⟩]
theorem qc_55 (w : WF h) (hj : j < 6) : mX11_cell [.ref 55, .int (N j)] h = some (.inl (some (.int (gI h 55 j))), h) := by
  have e := cell_N w (i := 55) (k := j) (by rw [sh_55]) (by decide) (by rw [sh_55]; decide) (by omega)
  rw [sh_55] at e
  rw [e]
  dsimp only
  rw [if_pos hj]
theorem qp_55 (w : WF h) (hj : j < 6) : mX11_put [.ref 55, .int (N j), .int y] h = some (.inl none, sI h 55 j y) := by
  have e := put_N w (i := 55) (k := j) (by rw [sh_55]) (by decide) (by rw [sh_55]; decide) (by omega) y
  rw [sh_55] at e
  rw [e]
  dsimp only
  rw [if_pos hj]
theorem qpo_55 (w : WF h) (hj : 6 ≤ j) (hk : j < 2147483648) : mX11_put [.ref 55, .int (N j), .int y] h = some (.inl none, h) := by
  have e := put_N w (i := 55) (k := j) (by rw [sh_55]) (by decide) (by rw [sh_55]; decide) hk y
  rw [sh_55] at e
  rw [e]
  dsimp only
  rw [if_neg (by omega)]
theorem qco_55 (w : WF h) (hj : 6 ≤ j) (hk : j < 2147483648) : mX11_cell [.ref 55, .int (N j)] h = some (.inl (some (.int (N 0))), h) := by
  have e := cell_N w (i := 55) (k := j) (by rw [sh_55]) (by decide) (by rw [sh_55]; decide) hk
  rw [sh_55] at e
  rw [e]
  dsimp only
  rw [if_neg (by omega)]
theorem qf_55 (w : WF h) : mJ7_fill_53178 [.ref 55, .int y] h = some (.inl none, stR h 55 6 (fun _ => y)) := by
  have e := fill_ok w (i := 55) (by rw [sh_55]) (by decide) (by rw [sh_55]; decide) y
  rw [sh_55] at e
  exact e
theorem qI_56 (w : WF h) : i_getI 8 k F L (.ref 56 :: S) h = F L (.int (gI h 56 k) :: S) h := by rw [r_getI, if_pos ⟨sh_56, by rw [w.n]; exact Nat.le_of_ble_eq_true rfl⟩]
theorem qP_56 (w : WF h) : i_putI 8 k F L (.int x :: .ref 56 :: S) h = F L S (sI h 56 k x) := by rw [r_putI, if_pos ⟨sh_56, by rw [w.n]; exact Nat.le_of_ble_eq_true rfl⟩]
theorem qV0_56 (w : WF h) (hc : cs S ≤ 8) : i_callV 8 0 f F L (.ref 56 :: S) h = i_after (f [.ref 56] h) S F L := by rw [r_callV_0, if_pos ⟨sh_56, by rw [w.n]; exact Nat.le_of_ble_eq_true rfl, hc⟩]
theorem qV1_56 (w : WF h) (hc : cs S ≤ 8) : i_callV 8 1 f F L (v1 :: .ref 56 :: S) h = i_after (f [.ref 56, v1] h) S F L := by rw [r_callV_1, if_pos ⟨sh_56, by rw [w.n]; exact Nat.le_of_ble_eq_true rfl, hc⟩]
theorem qV2_56 (w : WF h) (hc : cs S ≤ 8) : i_callV 8 2 f F L (v2 :: v1 :: .ref 56 :: S) h = i_after (f [.ref 56, v1, v2] h) S F L := by rw [r_callV_2, if_pos ⟨sh_56, by rw [w.n]; exact Nat.le_of_ble_eq_true rfl, hc⟩]
theorem qV3_56 (w : WF h) (hc : cs S ≤ 8) : i_callV 8 3 f F L (v3 :: v2 :: v1 :: .ref 56 :: S) h = i_after (f [.ref 56, v1, v2, v3] h) S F L := by rw [r_callV_3, if_pos ⟨sh_56, by rw [w.n]; exact Nat.le_of_ble_eq_true rfl, hc⟩]
theorem qV4_56 (w : WF h) (hc : cs S ≤ 8) : i_callV 8 4 f F L (v4 :: v3 :: v2 :: v1 :: .ref 56 :: S) h = i_after (f [.ref 56, v1, v2, v3, v4] h) S F L := by rw [r_callV_4, if_pos ⟨sh_56, by rw [w.n]; exact Nat.le_of_ble_eq_true rfl, hc⟩]
theorem q_56_0 (w : WF h) : i_getR 8 0 F L (.ref 56 :: S) h = F L (.ref 57 :: S) h := by rw [r_getR, if_pos ⟨sh_56, by rw [w.n]; exact Nat.le_of_ble_eq_true rfl⟩, rf_56_0 w]; rfl
theorem q_56_9 (w : WF h) : i_getR 8 9 F L (.ref 56 :: S) h = F L (.ref 51 :: S) h := by rw [r_getR, if_pos ⟨sh_56, by rw [w.n]; exact Nat.le_of_ble_eq_true rfl⟩, rf_56_9 w]; rfl
theorem q_56_10 (w : WF h) : i_getR 8 10 F L (.ref 56 :: S) h = F L (.ref 70 :: S) h := by rw [r_getR, if_pos ⟨sh_56, by rw [w.n]; exact Nat.le_of_ble_eq_true rfl⟩, rf_56_10 w]; rfl
theorem q_56_11 (w : WF h) : i_getR 8 11 F L (.ref 56 :: S) h = F L (.ref 71 :: S) h := by rw [r_getR, if_pos ⟨sh_56, by rw [w.n]; exact Nat.le_of_ble_eq_true rfl⟩, rf_56_11 w]; rfl
theorem q_56_1 (w : WF h) : i_getR 8 1 F L (.ref 56 :: S) h = F L (.ref 63 :: S) h := by rw [r_getR, if_pos ⟨sh_56, by rw [w.n]; exact Nat.le_of_ble_eq_true rfl⟩, rf_56_1 w]; rfl
theorem q_56_2 (w : WF h) : i_getR 8 2 F L (.ref 56 :: S) h = F L (.ref 64 :: S) h := by rw [r_getR, if_pos ⟨sh_56, by rw [w.n]; exact Nat.le_of_ble_eq_true rfl⟩, rf_56_2 w]; rfl
theorem q_56_3 (w : WF h) : i_getR 8 3 F L (.ref 56 :: S) h = F L (.ref 65 :: S) h := by rw [r_getR, if_pos ⟨sh_56, by rw [w.n]; exact Nat.le_of_ble_eq_true rfl⟩, rf_56_3 w]; rfl
theorem q_56_4 (w : WF h) : i_getR 8 4 F L (.ref 56 :: S) h = F L (.ref 66 :: S) h := by rw [r_getR, if_pos ⟨sh_56, by rw [w.n]; exact Nat.le_of_ble_eq_true rfl⟩, rf_56_4 w]; rfl
theorem q_56_5 (w : WF h) : i_getR 8 5 F L (.ref 56 :: S) h = F L (.ref 67 :: S) h := by rw [r_getR, if_pos ⟨sh_56, by rw [w.n]; exact Nat.le_of_ble_eq_true rfl⟩, rf_56_5 w]; rfl
theorem q_56_6 (w : WF h) : i_getR 8 6 F L (.ref 56 :: S) h = F L (.ref 68 :: S) h := by rw [r_getR, if_pos ⟨sh_56, by rw [w.n]; exact Nat.le_of_ble_eq_true rfl⟩, rf_56_6 w]; rfl
theorem q_56_7 (w : WF h) : i_getR 8 7 F L (.ref 56 :: S) h = F L (.ref 69 :: S) h := by rw [r_getR, if_pos ⟨sh_56, by rw [w.n]; exact Nat.le_of_ble_eq_true rfl⟩, rf_56_7 w]; rfl
theorem q_56_12 (w : WF h) : i_getR 8 12 F L (.ref 56 :: S) h = F L (rv (gR h 56 12) :: S) h := by rw [r_getR, if_pos ⟨sh_56, by rw [w.n]; exact Nat.le_of_ble_eq_true rfl⟩]
theorem qR_56_12 (w : WF h) : i_putR 8 12 F L (.ref j :: .ref 56 :: S) h = F L S (sR h 56 12 (some j)) := by rw [r_putR, if_pos ⟨sh_56, by rw [w.n]; exact Nat.le_of_ble_eq_true rfl⟩]
theorem qI_57 (w : WF h) : i_getI 5 k F L (.ref 57 :: S) h = F L (.int (gI h 57 k) :: S) h := by rw [r_getI, if_pos ⟨sh_57, by rw [w.n]; exact Nat.le_of_ble_eq_true rfl⟩]
theorem qP_57 (w : WF h) : i_putI 5 k F L (.int x :: .ref 57 :: S) h = F L S (sI h 57 k x) := by rw [r_putI, if_pos ⟨sh_57, by rw [w.n]; exact Nat.le_of_ble_eq_true rfl⟩]
theorem qV0_57 (w : WF h) (hc : cs S ≤ 8) : i_callV 5 0 f F L (.ref 57 :: S) h = i_after (f [.ref 57] h) S F L := by rw [r_callV_0, if_pos ⟨sh_57, by rw [w.n]; exact Nat.le_of_ble_eq_true rfl, hc⟩]
theorem qV1_57 (w : WF h) (hc : cs S ≤ 8) : i_callV 5 1 f F L (v1 :: .ref 57 :: S) h = i_after (f [.ref 57, v1] h) S F L := by rw [r_callV_1, if_pos ⟨sh_57, by rw [w.n]; exact Nat.le_of_ble_eq_true rfl, hc⟩]
theorem qV2_57 (w : WF h) (hc : cs S ≤ 8) : i_callV 5 2 f F L (v2 :: v1 :: .ref 57 :: S) h = i_after (f [.ref 57, v1, v2] h) S F L := by rw [r_callV_2, if_pos ⟨sh_57, by rw [w.n]; exact Nat.le_of_ble_eq_true rfl, hc⟩]
theorem qV3_57 (w : WF h) (hc : cs S ≤ 8) : i_callV 5 3 f F L (v3 :: v2 :: v1 :: .ref 57 :: S) h = i_after (f [.ref 57, v1, v2, v3] h) S F L := by rw [r_callV_3, if_pos ⟨sh_57, by rw [w.n]; exact Nat.le_of_ble_eq_true rfl, hc⟩]
theorem qV4_57 (w : WF h) (hc : cs S ≤ 8) : i_callV 5 4 f F L (v4 :: v3 :: v2 :: v1 :: .ref 57 :: S) h = i_after (f [.ref 57, v1, v2, v3, v4] h) S F L := by rw [r_callV_4, if_pos ⟨sh_57, by rw [w.n]; exact Nat.le_of_ble_eq_true rfl, hc⟩]
theorem q_57_0 (w : WF h) : i_getR 5 0 F L (.ref 57 :: S) h = F L (.ref 58 :: S) h := by rw [r_getR, if_pos ⟨sh_57, by rw [w.n]; exact Nat.le_of_ble_eq_true rfl⟩, rf_57_0 w]; rfl
theorem q_57_1 (w : WF h) : i_getR 5 1 F L (.ref 57 :: S) h = F L (.ref 59 :: S) h := by rw [r_getR, if_pos ⟨sh_57, by rw [w.n]; exact Nat.le_of_ble_eq_true rfl⟩, rf_57_1 w]; rfl
theorem q_57_2 (w : WF h) : i_getR 5 2 F L (.ref 57 :: S) h = F L (.ref 60 :: S) h := by rw [r_getR, if_pos ⟨sh_57, by rw [w.n]; exact Nat.le_of_ble_eq_true rfl⟩, rf_57_2 w]; rfl
theorem q_57_8 (w : WF h) : i_getR 5 8 F L (.ref 57 :: S) h = F L (.ref 61 :: S) h := by rw [r_getR, if_pos ⟨sh_57, by rw [w.n]; exact Nat.le_of_ble_eq_true rfl⟩, rf_57_8 w]; rfl
theorem q_57_9 (w : WF h) : i_getR 5 9 F L (.ref 57 :: S) h = F L (.ref 62 :: S) h := by rw [r_getR, if_pos ⟨sh_57, by rw [w.n]; exact Nat.le_of_ble_eq_true rfl⟩, rf_57_9 w]; rfl
theorem qA_58 (w : WF h) (hj : j < 48) : i_iaload F L (.int (N j) :: .ref 58 :: S) h = F L (.int (gI h 58 j) :: S) h := by
  have e : ¬ N j < 0 := by rw [lit32, N_lt (by omega) (by omega)]; omega
  rw [r_iaload, N_nat (by omega), if_pos ⟨by rw [sh_58], by rw [w.n]; exact Nat.le_of_ble_eq_true rfl, e, by rw [sh_58]; exact hj⟩]
theorem qS_58 (w : WF h) (hj : j < 48) : i_iastore F L (.int y :: .int (N j) :: .ref 58 :: S) h = F L S (sI h 58 j y) := by
  have e : ¬ N j < 0 := by rw [lit32, N_lt (by omega) (by omega)]; omega
  rw [r_iastore, N_nat (by omega), if_pos ⟨by rw [sh_58], by rw [w.n]; exact Nat.le_of_ble_eq_true rfl, e, by rw [sh_58]; exact hj⟩]
theorem qc_58 (w : WF h) (hj : j < 48) : mX11_cell [.ref 58, .int (N j)] h = some (.inl (some (.int (gI h 58 j))), h) := by
  have e := cell_N w (i := 58) (k := j) (by rw [sh_58]) (by decide) (by rw [sh_58]; decide) (by omega)
  rw [sh_58] at e
  rw [e]
  dsimp only
  rw [if_pos hj]
theorem qp_58 (w : WF h) (hj : j < 48) : mX11_put [.ref 58, .int (N j), .int y] h = some (.inl none, sI h 58 j y) := by
  have e := put_N w (i := 58) (k := j) (by rw [sh_58]) (by decide) (by rw [sh_58]; decide) (by omega) y
  rw [sh_58] at e
  rw [e]
  dsimp only
  rw [if_pos hj]
theorem qpo_58 (w : WF h) (hj : 48 ≤ j) (hk : j < 2147483648) : mX11_put [.ref 58, .int (N j), .int y] h = some (.inl none, h) := by
  have e := put_N w (i := 58) (k := j) (by rw [sh_58]) (by decide) (by rw [sh_58]; decide) hk y
  rw [sh_58] at e
  rw [e]
  dsimp only
  rw [if_neg (by omega)]
theorem qco_58 (w : WF h) (hj : 48 ≤ j) (hk : j < 2147483648) : mX11_cell [.ref 58, .int (N j)] h = some (.inl (some (.int (N 0))), h) := by
  have e := cell_N w (i := 58) (k := j) (by rw [sh_58]) (by decide) (by rw [sh_58]; decide) hk
  rw [sh_58] at e
  rw [e]
  dsimp only
  rw [if_neg (by omega)]
theorem qf_58 (w : WF h) : mJ7_fill_53178 [.ref 58, .int y] h = some (.inl none, stR h 58 48 (fun _ => y)) := by
  have e := fill_ok w (i := 58) (by rw [sh_58]) (by decide) (by rw [sh_58]; decide) y
  rw [sh_58] at e
  exact e
theorem qA_59 (w : WF h) (hj : j < 48) : i_iaload F L (.int (N j) :: .ref 59 :: S) h = F L (.int (gI h 59 j) :: S) h := by
  have e : ¬ N j < 0 := by rw [lit32, N_lt (by omega) (by omega)]; omega
  rw [r_iaload, N_nat (by omega), if_pos ⟨by rw [sh_59], by rw [w.n]; exact Nat.le_of_ble_eq_true rfl, e, by rw [sh_59]; exact hj⟩]
theorem qS_59 (w : WF h) (hj : j < 48) : i_iastore F L (.int y :: .int (N j) :: .ref 59 :: S) h = F L S (sI h 59 j y) := by
  have e : ¬ N j < 0 := by rw [lit32, N_lt (by omega) (by omega)]; omega
  rw [r_iastore, N_nat (by omega), if_pos ⟨by rw [sh_59], by rw [w.n]; exact Nat.le_of_ble_eq_true rfl, e, by rw [sh_59]; exact hj⟩]
theorem qc_59 (w : WF h) (hj : j < 48) : mX11_cell [.ref 59, .int (N j)] h = some (.inl (some (.int (gI h 59 j))), h) := by
  have e := cell_N w (i := 59) (k := j) (by rw [sh_59]) (by decide) (by rw [sh_59]; decide) (by omega)
  rw [sh_59] at e
  rw [e]
  dsimp only
  rw [if_pos hj]
theorem qp_59 (w : WF h) (hj : j < 48) : mX11_put [.ref 59, .int (N j), .int y] h = some (.inl none, sI h 59 j y) := by
  have e := put_N w (i := 59) (k := j) (by rw [sh_59]) (by decide) (by rw [sh_59]; decide) (by omega) y
  rw [sh_59] at e
  rw [e]
  dsimp only
  rw [if_pos hj]
theorem qpo_59 (w : WF h) (hj : 48 ≤ j) (hk : j < 2147483648) : mX11_put [.ref 59, .int (N j), .int y] h = some (.inl none, h) := by
  have e := put_N w (i := 59) (k := j) (by rw [sh_59]) (by decide) (by rw [sh_59]; decide) hk y
  rw [sh_59] at e
  rw [e]
  dsimp only
  rw [if_neg (by omega)]
theorem qco_59 (w : WF h) (hj : 48 ≤ j) (hk : j < 2147483648) : mX11_cell [.ref 59, .int (N j)] h = some (.inl (some (.int (N 0))), h) := by
  have e := cell_N w (i := 59) (k := j) (by rw [sh_59]) (by decide) (by rw [sh_59]; decide) hk
  rw [sh_59] at e
  rw [e]
  dsimp only
  rw [if_neg (by omega)]
theorem qf_59 (w : WF h) : mJ7_fill_53178 [.ref 59, .int y] h = some (.inl none, stR h 59 48 (fun _ => y)) := by
  have e := fill_ok w (i := 59) (by rw [sh_59]) (by decide) (by rw [sh_59]; decide) y
  rw [sh_59] at e
  exact e
theorem qA_60 (w : WF h) (hj : j < 48) : i_iaload F L (.int (N j) :: .ref 60 :: S) h = F L (.int (gI h 60 j) :: S) h := by
  have e : ¬ N j < 0 := by rw [lit32, N_lt (by omega) (by omega)]; omega
  rw [r_iaload, N_nat (by omega), if_pos ⟨by rw [sh_60], by rw [w.n]; exact Nat.le_of_ble_eq_true rfl, e, by rw [sh_60]; exact hj⟩]
theorem qS_60 (w : WF h) (hj : j < 48) : i_iastore F L (.int y :: .int (N j) :: .ref 60 :: S) h = F L S (sI h 60 j y) := by
  have e : ¬ N j < 0 := by rw [lit32, N_lt (by omega) (by omega)]; omega
  rw [r_iastore, N_nat (by omega), if_pos ⟨by rw [sh_60], by rw [w.n]; exact Nat.le_of_ble_eq_true rfl, e, by rw [sh_60]; exact hj⟩]
theorem qc_60 (w : WF h) (hj : j < 48) : mX11_cell [.ref 60, .int (N j)] h = some (.inl (some (.int (gI h 60 j))), h) := by
  have e := cell_N w (i := 60) (k := j) (by rw [sh_60]) (by decide) (by rw [sh_60]; decide) (by omega)
  rw [sh_60] at e
  rw [e]
  dsimp only
  rw [if_pos hj]
theorem qp_60 (w : WF h) (hj : j < 48) : mX11_put [.ref 60, .int (N j), .int y] h = some (.inl none, sI h 60 j y) := by
  have e := put_N w (i := 60) (k := j) (by rw [sh_60]) (by decide) (by rw [sh_60]; decide) (by omega) y
  rw [sh_60] at e
  rw [e]
  dsimp only
  rw [if_pos hj]
theorem qpo_60 (w : WF h) (hj : 48 ≤ j) (hk : j < 2147483648) : mX11_put [.ref 60, .int (N j), .int y] h = some (.inl none, h) := by
  have e := put_N w (i := 60) (k := j) (by rw [sh_60]) (by decide) (by rw [sh_60]; decide) hk y
  rw [sh_60] at e
  rw [e]
  dsimp only
  rw [if_neg (by omega)]
theorem qco_60 (w : WF h) (hj : 48 ≤ j) (hk : j < 2147483648) : mX11_cell [.ref 60, .int (N j)] h = some (.inl (some (.int (N 0))), h) := by
  have e := cell_N w (i := 60) (k := j) (by rw [sh_60]) (by decide) (by rw [sh_60]; decide) hk
  rw [sh_60] at e
  rw [e]
  dsimp only
  rw [if_neg (by omega)]
theorem qf_60 (w : WF h) : mJ7_fill_53178 [.ref 60, .int y] h = some (.inl none, stR h 60 48 (fun _ => y)) := by
  have e := fill_ok w (i := 60) (by rw [sh_60]) (by decide) (by rw [sh_60]; decide) y
  rw [sh_60] at e
  exact e
theorem qA_61 (w : WF h) (hj : j < 48) : i_iaload F L (.int (N j) :: .ref 61 :: S) h = F L (.int (gI h 61 j) :: S) h := by
  have e : ¬ N j < 0 := by rw [lit32, N_lt (by omega) (by omega)]; omega
  rw [r_iaload, N_nat (by omega), if_pos ⟨by rw [sh_61], by rw [w.n]; exact Nat.le_of_ble_eq_true rfl, e, by rw [sh_61]; exact hj⟩]
theorem qS_61 (w : WF h) (hj : j < 48) : i_iastore F L (.int y :: .int (N j) :: .ref 61 :: S) h = F L S (sI h 61 j y) := by
  have e : ¬ N j < 0 := by rw [lit32, N_lt (by omega) (by omega)]; omega
  rw [r_iastore, N_nat (by omega), if_pos ⟨by rw [sh_61], by rw [w.n]; exact Nat.le_of_ble_eq_true rfl, e, by rw [sh_61]; exact hj⟩]
theorem qc_61 (w : WF h) (hj : j < 48) : mX11_cell [.ref 61, .int (N j)] h = some (.inl (some (.int (gI h 61 j))), h) := by
  have e := cell_N w (i := 61) (k := j) (by rw [sh_61]) (by decide) (by rw [sh_61]; decide) (by omega)
  rw [sh_61] at e
  rw [e]
  dsimp only
  rw [if_pos hj]
theorem qp_61 (w : WF h) (hj : j < 48) : mX11_put [.ref 61, .int (N j), .int y] h = some (.inl none, sI h 61 j y) := by
  have e := put_N w (i := 61) (k := j) (by rw [sh_61]) (by decide) (by rw [sh_61]; decide) (by omega) y
  rw [sh_61] at e
  rw [e]
  dsimp only
  rw [if_pos hj]
theorem qpo_61 (w : WF h) (hj : 48 ≤ j) (hk : j < 2147483648) : mX11_put [.ref 61, .int (N j), .int y] h = some (.inl none, h) := by
  have e := put_N w (i := 61) (k := j) (by rw [sh_61]) (by decide) (by rw [sh_61]; decide) hk y
  rw [sh_61] at e
  rw [e]
  dsimp only
  rw [if_neg (by omega)]
theorem qco_61 (w : WF h) (hj : 48 ≤ j) (hk : j < 2147483648) : mX11_cell [.ref 61, .int (N j)] h = some (.inl (some (.int (N 0))), h) := by
  have e := cell_N w (i := 61) (k := j) (by rw [sh_61]) (by decide) (by rw [sh_61]; decide) hk
  rw [sh_61] at e
  rw [e]
  dsimp only
  rw [if_neg (by omega)]
theorem qf_61 (w : WF h) : mJ7_fill_53178 [.ref 61, .int y] h = some (.inl none, stR h 61 48 (fun _ => y)) := by
  have e := fill_ok w (i := 61) (by rw [sh_61]) (by decide) (by rw [sh_61]; decide) y
  rw [sh_61] at e
  exact e
theorem qA_62 (w : WF h) (hj : j < 48) : i_iaload F L (.int (N j) :: .ref 62 :: S) h = F L (.int (gI h 62 j) :: S) h := by
  have e : ¬ N j < 0 := by rw [lit32, N_lt (by omega) (by omega)]; omega
  rw [r_iaload, N_nat (by omega), if_pos ⟨by rw [sh_62], by rw [w.n]; exact Nat.le_of_ble_eq_true rfl, e, by rw [sh_62]; exact hj⟩]
theorem qS_62 (w : WF h) (hj : j < 48) : i_iastore F L (.int y :: .int (N j) :: .ref 62 :: S) h = F L S (sI h 62 j y) := by
  have e : ¬ N j < 0 := by rw [lit32, N_lt (by omega) (by omega)]; omega
  rw [r_iastore, N_nat (by omega), if_pos ⟨by rw [sh_62], by rw [w.n]; exact Nat.le_of_ble_eq_true rfl, e, by rw [sh_62]; exact hj⟩]
theorem qc_62 (w : WF h) (hj : j < 48) : mX11_cell [.ref 62, .int (N j)] h = some (.inl (some (.int (gI h 62 j))), h) := by
  have e := cell_N w (i := 62) (k := j) (by rw [sh_62]) (by decide) (by rw [sh_62]; decide) (by omega)
  rw [sh_62] at e
  rw [e]
  dsimp only
  rw [if_pos hj]
theorem qp_62 (w : WF h) (hj : j < 48) : mX11_put [.ref 62, .int (N j), .int y] h = some (.inl none, sI h 62 j y) := by
  have e := put_N w (i := 62) (k := j) (by rw [sh_62]) (by decide) (by rw [sh_62]; decide) (by omega) y
  rw [sh_62] at e
  rw [e]
  dsimp only
  rw [if_pos hj]
theorem qpo_62 (w : WF h) (hj : 48 ≤ j) (hk : j < 2147483648) : mX11_put [.ref 62, .int (N j), .int y] h = some (.inl none, h) := by
  have e := put_N w (i := 62) (k := j) (by rw [sh_62]) (by decide) (by rw [sh_62]; decide) hk y
  rw [sh_62] at e
  rw [e]
  dsimp only
  rw [if_neg (by omega)]
theorem qco_62 (w : WF h) (hj : 48 ≤ j) (hk : j < 2147483648) : mX11_cell [.ref 62, .int (N j)] h = some (.inl (some (.int (N 0))), h) := by
  have e := cell_N w (i := 62) (k := j) (by rw [sh_62]) (by decide) (by rw [sh_62]; decide) hk
  rw [sh_62] at e
  rw [e]
  dsimp only
  rw [if_neg (by omega)]
theorem qf_62 (w : WF h) : mJ7_fill_53178 [.ref 62, .int y] h = some (.inl none, stR h 62 48 (fun _ => y)) := by
  have e := fill_ok w (i := 62) (by rw [sh_62]) (by decide) (by rw [sh_62]; decide) y
  rw [sh_62] at e
  exact e
theorem qA_63 (w : WF h) (hj : j < 5) : i_iaload F L (.int (N j) :: .ref 63 :: S) h = F L (.int (gI h 63 j) :: S) h := by
  have e : ¬ N j < 0 := by rw [lit32, N_lt (by omega) (by omega)]; omega
  rw [r_iaload, N_nat (by omega), if_pos ⟨by rw [sh_63], by rw [w.n]; exact Nat.le_of_ble_eq_true rfl, e, by rw [sh_63]; exact hj⟩]
theorem qS_63 (w : WF h) (hj : j < 5) : i_iastore F L (.int y :: .int (N j) :: .ref 63 :: S) h = F L S (sI h 63 j y) := by
  have e : ¬ N j < 0 := by rw [lit32, N_lt (by omega) (by omega)]; omega
  rw [r_iastore, N_nat (by omega), if_pos ⟨by rw [sh_63], by rw [w.n]; exact Nat.le_of_ble_eq_true rfl, e, by rw [sh_63]; exact hj⟩]
theorem qc_63 (w : WF h) (hj : j < 5) : mX11_cell [.ref 63, .int (N j)] h = some (.inl (some (.int (gI h 63 j))), h) := by
  have e := cell_N w (i := 63) (k := j) (by rw [sh_63]) (by decide) (by rw [sh_63]; decide) (by omega)
  rw [sh_63] at e
  rw [e]
  dsimp only
  rw [if_pos hj]
theorem qp_63 (w : WF h) (hj : j < 5) : mX11_put [.ref 63, .int (N j), .int y] h = some (.inl none, sI h 63 j y) := by
  have e := put_N w (i := 63) (k := j) (by rw [sh_63]) (by decide) (by rw [sh_63]; decide) (by omega) y
  rw [sh_63] at e
  rw [e]
  dsimp only
  rw [if_pos hj]
theorem qpo_63 (w : WF h) (hj : 5 ≤ j) (hk : j < 2147483648) : mX11_put [.ref 63, .int (N j), .int y] h = some (.inl none, h) := by
  have e := put_N w (i := 63) (k := j) (by rw [sh_63]) (by decide) (by rw [sh_63]; decide) hk y
  rw [sh_63] at e
  rw [e]
  dsimp only
  rw [if_neg (by omega)]
theorem qco_63 (w : WF h) (hj : 5 ≤ j) (hk : j < 2147483648) : mX11_cell [.ref 63, .int (N j)] h = some (.inl (some (.int (N 0))), h) := by
  have e := cell_N w (i := 63) (k := j) (by rw [sh_63]) (by decide) (by rw [sh_63]; decide) hk
  rw [sh_63] at e
  rw [e]
  dsimp only
  rw [if_neg (by omega)]
theorem qf_63 (w : WF h) : mJ7_fill_53178 [.ref 63, .int y] h = some (.inl none, stR h 63 5 (fun _ => y)) := by
  have e := fill_ok w (i := 63) (by rw [sh_63]) (by decide) (by rw [sh_63]; decide) y
  rw [sh_63] at e
  exact e
theorem qA_64 (w : WF h) (hj : j < 5) : i_iaload F L (.int (N j) :: .ref 64 :: S) h = F L (.int (gI h 64 j) :: S) h := by
  have e : ¬ N j < 0 := by rw [lit32, N_lt (by omega) (by omega)]; omega
  rw [r_iaload, N_nat (by omega), if_pos ⟨by rw [sh_64], by rw [w.n]; exact Nat.le_of_ble_eq_true rfl, e, by rw [sh_64]; exact hj⟩]
theorem qS_64 (w : WF h) (hj : j < 5) : i_iastore F L (.int y :: .int (N j) :: .ref 64 :: S) h = F L S (sI h 64 j y) := by
  have e : ¬ N j < 0 := by rw [lit32, N_lt (by omega) (by omega)]; omega
  rw [r_iastore, N_nat (by omega), if_pos ⟨by rw [sh_64], by rw [w.n]; exact Nat.le_of_ble_eq_true rfl, e, by rw [sh_64]; exact hj⟩]
theorem qc_64 (w : WF h) (hj : j < 5) : mX11_cell [.ref 64, .int (N j)] h = some (.inl (some (.int (gI h 64 j))), h) := by
  have e := cell_N w (i := 64) (k := j) (by rw [sh_64]) (by decide) (by rw [sh_64]; decide) (by omega)
  rw [sh_64] at e
  rw [e]
  dsimp only
  rw [if_pos hj]
theorem qp_64 (w : WF h) (hj : j < 5) : mX11_put [.ref 64, .int (N j), .int y] h = some (.inl none, sI h 64 j y) := by
  have e := put_N w (i := 64) (k := j) (by rw [sh_64]) (by decide) (by rw [sh_64]; decide) (by omega) y
  rw [sh_64] at e
  rw [e]
  dsimp only
  rw [if_pos hj]
theorem qpo_64 (w : WF h) (hj : 5 ≤ j) (hk : j < 2147483648) : mX11_put [.ref 64, .int (N j), .int y] h = some (.inl none, h) := by
  have e := put_N w (i := 64) (k := j) (by rw [sh_64]) (by decide) (by rw [sh_64]; decide) hk y
  rw [sh_64] at e
  rw [e]
  dsimp only
  rw [if_neg (by omega)]
theorem qco_64 (w : WF h) (hj : 5 ≤ j) (hk : j < 2147483648) : mX11_cell [.ref 64, .int (N j)] h = some (.inl (some (.int (N 0))), h) := by
  have e := cell_N w (i := 64) (k := j) (by rw [sh_64]) (by decide) (by rw [sh_64]; decide) hk
  rw [sh_64] at e
  rw [e]
  dsimp only
  rw [if_neg (by omega)]
theorem qf_64 (w : WF h) : mJ7_fill_53178 [.ref 64, .int y] h = some (.inl none, stR h 64 5 (fun _ => y)) := by
  have e := fill_ok w (i := 64) (by rw [sh_64]) (by decide) (by rw [sh_64]; decide) y
  rw [sh_64] at e
  exact e
theorem qA_65 (w : WF h) (hj : j < 5) : i_iaload F L (.int (N j) :: .ref 65 :: S) h = F L (.int (gI h 65 j) :: S) h := by
  have e : ¬ N j < 0 := by rw [lit32, N_lt (by omega) (by omega)]; omega
  rw [r_iaload, N_nat (by omega), if_pos ⟨by rw [sh_65], by rw [w.n]; exact Nat.le_of_ble_eq_true rfl, e, by rw [sh_65]; exact hj⟩]
theorem qS_65 (w : WF h) (hj : j < 5) : i_iastore F L (.int y :: .int (N j) :: .ref 65 :: S) h = F L S (sI h 65 j y) := by
  have e : ¬ N j < 0 := by rw [lit32, N_lt (by omega) (by omega)]; omega
  rw [r_iastore, N_nat (by omega), if_pos ⟨by rw [sh_65], by rw [w.n]; exact Nat.le_of_ble_eq_true rfl, e, by rw [sh_65]; exact hj⟩]
theorem qc_65 (w : WF h) (hj : j < 5) : mX11_cell [.ref 65, .int (N j)] h = some (.inl (some (.int (gI h 65 j))), h) := by
  have e := cell_N w (i := 65) (k := j) (by rw [sh_65]) (by decide) (by rw [sh_65]; decide) (by omega)
  rw [sh_65] at e
  rw [e]
  dsimp only
  rw [if_pos hj]
theorem qp_65 (w : WF h) (hj : j < 5) : mX11_put [.ref 65, .int (N j), .int y] h = some (.inl none, sI h 65 j y) := by
  have e := put_N w (i := 65) (k := j) (by rw [sh_65]) (by decide) (by rw [sh_65]; decide) (by omega) y
  rw [sh_65] at e
  rw [e]
  dsimp only
  rw [if_pos hj]
theorem qpo_65 (w : WF h) (hj : 5 ≤ j) (hk : j < 2147483648) : mX11_put [.ref 65, .int (N j), .int y] h = some (.inl none, h) := by
  have e := put_N w (i := 65) (k := j) (by rw [sh_65]) (by decide) (by rw [sh_65]; decide) hk y
  rw [sh_65] at e
  rw [e]
  dsimp only
  rw [if_neg (by omega)]
theorem qco_65 (w : WF h) (hj : 5 ≤ j) (hk : j < 2147483648) : mX11_cell [.ref 65, .int (N j)] h = some (.inl (some (.int (N 0))), h) := by
  have e := cell_N w (i := 65) (k := j) (by rw [sh_65]) (by decide) (by rw [sh_65]; decide) hk
  rw [sh_65] at e
  rw [e]
  dsimp only
  rw [if_neg (by omega)]
theorem qf_65 (w : WF h) : mJ7_fill_53178 [.ref 65, .int y] h = some (.inl none, stR h 65 5 (fun _ => y)) := by
  have e := fill_ok w (i := 65) (by rw [sh_65]) (by decide) (by rw [sh_65]; decide) y
  rw [sh_65] at e
  exact e
theorem qA_66 (w : WF h) (hj : j < 5) : i_iaload F L (.int (N j) :: .ref 66 :: S) h = F L (.int (gI h 66 j) :: S) h := by
  have e : ¬ N j < 0 := by rw [lit32, N_lt (by omega) (by omega)]; omega
  rw [r_iaload, N_nat (by omega), if_pos ⟨by rw [sh_66], by rw [w.n]; exact Nat.le_of_ble_eq_true rfl, e, by rw [sh_66]; exact hj⟩]
theorem qS_66 (w : WF h) (hj : j < 5) : i_iastore F L (.int y :: .int (N j) :: .ref 66 :: S) h = F L S (sI h 66 j y) := by
  have e : ¬ N j < 0 := by rw [lit32, N_lt (by omega) (by omega)]; omega
  rw [r_iastore, N_nat (by omega), if_pos ⟨by rw [sh_66], by rw [w.n]; exact Nat.le_of_ble_eq_true rfl, e, by rw [sh_66]; exact hj⟩]
theorem qc_66 (w : WF h) (hj : j < 5) : mX11_cell [.ref 66, .int (N j)] h = some (.inl (some (.int (gI h 66 j))), h) := by
  have e := cell_N w (i := 66) (k := j) (by rw [sh_66]) (by decide) (by rw [sh_66]; decide) (by omega)
  rw [sh_66] at e
  rw [e]
  dsimp only
  rw [if_pos hj]
theorem qp_66 (w : WF h) (hj : j < 5) : mX11_put [.ref 66, .int (N j), .int y] h = some (.inl none, sI h 66 j y) := by
  have e := put_N w (i := 66) (k := j) (by rw [sh_66]) (by decide) (by rw [sh_66]; decide) (by omega) y
  rw [sh_66] at e
  rw [e]
  dsimp only
  rw [if_pos hj]
theorem qpo_66 (w : WF h) (hj : 5 ≤ j) (hk : j < 2147483648) : mX11_put [.ref 66, .int (N j), .int y] h = some (.inl none, h) := by
  have e := put_N w (i := 66) (k := j) (by rw [sh_66]) (by decide) (by rw [sh_66]; decide) hk y
  rw [sh_66] at e
  rw [e]
  dsimp only
  rw [if_neg (by omega)]
theorem qco_66 (w : WF h) (hj : 5 ≤ j) (hk : j < 2147483648) : mX11_cell [.ref 66, .int (N j)] h = some (.inl (some (.int (N 0))), h) := by
  have e := cell_N w (i := 66) (k := j) (by rw [sh_66]) (by decide) (by rw [sh_66]; decide) hk
  rw [sh_66] at e
  rw [e]
  dsimp only
  rw [if_neg (by omega)]
theorem qf_66 (w : WF h) : mJ7_fill_53178 [.ref 66, .int y] h = some (.inl none, stR h 66 5 (fun _ => y)) := by
  have e := fill_ok w (i := 66) (by rw [sh_66]) (by decide) (by rw [sh_66]; decide) y
  rw [sh_66] at e
  exact e
theorem qA_67 (w : WF h) (hj : j < 5) : i_iaload F L (.int (N j) :: .ref 67 :: S) h = F L (.int (gI h 67 j) :: S) h := by
  have e : ¬ N j < 0 := by rw [lit32, N_lt (by omega) (by omega)]; omega
  rw [r_iaload, N_nat (by omega), if_pos ⟨by rw [sh_67], by rw [w.n]; exact Nat.le_of_ble_eq_true rfl, e, by rw [sh_67]; exact hj⟩]
theorem qS_67 (w : WF h) (hj : j < 5) : i_iastore F L (.int y :: .int (N j) :: .ref 67 :: S) h = F L S (sI h 67 j y) := by
  have e : ¬ N j < 0 := by rw [lit32, N_lt (by omega) (by omega)]; omega
  rw [r_iastore, N_nat (by omega), if_pos ⟨by rw [sh_67], by rw [w.n]; exact Nat.le_of_ble_eq_true rfl, e, by rw [sh_67]; exact hj⟩]
theorem qc_67 (w : WF h) (hj : j < 5) : mX11_cell [.ref 67, .int (N j)] h = some (.inl (some (.int (gI h 67 j))), h) := by
  have e := cell_N w (i := 67) (k := j) (by rw [sh_67]) (by decide) (by rw [sh_67]; decide) (by omega)
  rw [sh_67] at e
  rw [e]
  dsimp only
  rw [if_pos hj]
theorem qp_67 (w : WF h) (hj : j < 5) : mX11_put [.ref 67, .int (N j), .int y] h = some (.inl none, sI h 67 j y) := by
  have e := put_N w (i := 67) (k := j) (by rw [sh_67]) (by decide) (by rw [sh_67]; decide) (by omega) y
  rw [sh_67] at e
  rw [e]
  dsimp only
  rw [if_pos hj]
theorem qpo_67 (w : WF h) (hj : 5 ≤ j) (hk : j < 2147483648) : mX11_put [.ref 67, .int (N j), .int y] h = some (.inl none, h) := by
  have e := put_N w (i := 67) (k := j) (by rw [sh_67]) (by decide) (by rw [sh_67]; decide) hk y
  rw [sh_67] at e
  rw [e]
  dsimp only
  rw [if_neg (by omega)]
theorem qco_67 (w : WF h) (hj : 5 ≤ j) (hk : j < 2147483648) : mX11_cell [.ref 67, .int (N j)] h = some (.inl (some (.int (N 0))), h) := by
  have e := cell_N w (i := 67) (k := j) (by rw [sh_67]) (by decide) (by rw [sh_67]; decide) hk
  rw [sh_67] at e
  rw [e]
  dsimp only
  rw [if_neg (by omega)]
theorem qf_67 (w : WF h) : mJ7_fill_53178 [.ref 67, .int y] h = some (.inl none, stR h 67 5 (fun _ => y)) := by
  have e := fill_ok w (i := 67) (by rw [sh_67]) (by decide) (by rw [sh_67]; decide) y
  rw [sh_67] at e
  exact e
theorem qA_68 (w : WF h) (hj : j < 5) : i_iaload F L (.int (N j) :: .ref 68 :: S) h = F L (.int (gI h 68 j) :: S) h := by
  have e : ¬ N j < 0 := by rw [lit32, N_lt (by omega) (by omega)]; omega
  rw [r_iaload, N_nat (by omega), if_pos ⟨by rw [sh_68], by rw [w.n]; exact Nat.le_of_ble_eq_true rfl, e, by rw [sh_68]; exact hj⟩]
theorem qS_68 (w : WF h) (hj : j < 5) : i_iastore F L (.int y :: .int (N j) :: .ref 68 :: S) h = F L S (sI h 68 j y) := by
  have e : ¬ N j < 0 := by rw [lit32, N_lt (by omega) (by omega)]; omega
  rw [r_iastore, N_nat (by omega), if_pos ⟨by rw [sh_68], by rw [w.n]; exact Nat.le_of_ble_eq_true rfl, e, by rw [sh_68]; exact hj⟩]
theorem qc_68 (w : WF h) (hj : j < 5) : mX11_cell [.ref 68, .int (N j)] h = some (.inl (some (.int (gI h 68 j))), h) := by
  have e := cell_N w (i := 68) (k := j) (by rw [sh_68]) (by decide) (by rw [sh_68]; decide) (by omega)
  rw [sh_68] at e
  rw [e]
  dsimp only
  rw [if_pos hj]
theorem qp_68 (w : WF h) (hj : j < 5) : mX11_put [.ref 68, .int (N j), .int y] h = some (.inl none, sI h 68 j y) := by
  have e := put_N w (i := 68) (k := j) (by rw [sh_68]) (by decide) (by rw [sh_68]; decide) (by omega) y
  rw [sh_68] at e
  rw [e]
  dsimp only
  rw [if_pos hj]
theorem qpo_68 (w : WF h) (hj : 5 ≤ j) (hk : j < 2147483648) : mX11_put [.ref 68, .int (N j), .int y] h = some (.inl none, h) := by
  have e := put_N w (i := 68) (k := j) (by rw [sh_68]) (by decide) (by rw [sh_68]; decide) hk y
  rw [sh_68] at e
  rw [e]
  dsimp only
  rw [if_neg (by omega)]
theorem qco_68 (w : WF h) (hj : 5 ≤ j) (hk : j < 2147483648) : mX11_cell [.ref 68, .int (N j)] h = some (.inl (some (.int (N 0))), h) := by
  have e := cell_N w (i := 68) (k := j) (by rw [sh_68]) (by decide) (by rw [sh_68]; decide) hk
  rw [sh_68] at e
  rw [e]
  dsimp only
  rw [if_neg (by omega)]
theorem qf_68 (w : WF h) : mJ7_fill_53178 [.ref 68, .int y] h = some (.inl none, stR h 68 5 (fun _ => y)) := by
  have e := fill_ok w (i := 68) (by rw [sh_68]) (by decide) (by rw [sh_68]; decide) y
  rw [sh_68] at e
  exact e
theorem qA_69 (w : WF h) (hj : j < 48) : i_iaload F L (.int (N j) :: .ref 69 :: S) h = F L (.int (gI h 69 j) :: S) h := by
  have e : ¬ N j < 0 := by rw [lit32, N_lt (by omega) (by omega)]; omega
  rw [r_iaload, N_nat (by omega), if_pos ⟨by rw [sh_69], by rw [w.n]; exact Nat.le_of_ble_eq_true rfl, e, by rw [sh_69]; exact hj⟩]
theorem qS_69 (w : WF h) (hj : j < 48) : i_iastore F L (.int y :: .int (N j) :: .ref 69 :: S) h = F L S (sI h 69 j y) := by
  have e : ¬ N j < 0 := by rw [lit32, N_lt (by omega) (by omega)]; omega
  rw [r_iastore, N_nat (by omega), if_pos ⟨by rw [sh_69], by rw [w.n]; exact Nat.le_of_ble_eq_true rfl, e, by rw [sh_69]; exact hj⟩]
theorem qc_69 (w : WF h) (hj : j < 48) : mX11_cell [.ref 69, .int (N j)] h = some (.inl (some (.int (gI h 69 j))), h) := by
  have e := cell_N w (i := 69) (k := j) (by rw [sh_69]) (by decide) (by rw [sh_69]; decide) (by omega)
  rw [sh_69] at e
  rw [e]
  dsimp only
  rw [if_pos hj]
theorem qp_69 (w : WF h) (hj : j < 48) : mX11_put [.ref 69, .int (N j), .int y] h = some (.inl none, sI h 69 j y) := by
  have e := put_N w (i := 69) (k := j) (by rw [sh_69]) (by decide) (by rw [sh_69]; decide) (by omega) y
  rw [sh_69] at e
  rw [e]
  dsimp only
  rw [if_pos hj]
theorem qpo_69 (w : WF h) (hj : 48 ≤ j) (hk : j < 2147483648) : mX11_put [.ref 69, .int (N j), .int y] h = some (.inl none, h) := by
  have e := put_N w (i := 69) (k := j) (by rw [sh_69]) (by decide) (by rw [sh_69]; decide) hk y
  rw [sh_69] at e
  rw [e]
  dsimp only
  rw [if_neg (by omega)]
theorem qco_69 (w : WF h) (hj : 48 ≤ j) (hk : j < 2147483648) : mX11_cell [.ref 69, .int (N j)] h = some (.inl (some (.int (N 0))), h) := by
  have e := cell_N w (i := 69) (k := j) (by rw [sh_69]) (by decide) (by rw [sh_69]; decide) hk
  rw [sh_69] at e
  rw [e]
  dsimp only
  rw [if_neg (by omega)]
theorem qf_69 (w : WF h) : mJ7_fill_53178 [.ref 69, .int y] h = some (.inl none, stR h 69 48 (fun _ => y)) := by
  have e := fill_ok w (i := 69) (by rw [sh_69]) (by decide) (by rw [sh_69]; decide) y
  rw [sh_69] at e
  exact e
theorem qA_70 (w : WF h) (hj : j < 53) : i_iaload F L (.int (N j) :: .ref 70 :: S) h = F L (.int (gI h 70 j) :: S) h := by
  have e : ¬ N j < 0 := by rw [lit32, N_lt (by omega) (by omega)]; omega
  rw [r_iaload, N_nat (by omega), if_pos ⟨by rw [sh_70], by rw [w.n]; exact Nat.le_of_ble_eq_true rfl, e, by rw [sh_70]; exact hj⟩]
theorem qS_70 (w : WF h) (hj : j < 53) : i_iastore F L (.int y :: .int (N j) :: .ref 70 :: S) h = F L S (sI h 70 j y) := by
  have e : ¬ N j < 0 := by rw [lit32, N_lt (by omega) (by omega)]; omega
  rw [r_iastore, N_nat (by omega), if_pos ⟨by rw [sh_70], by rw [w.n]; exact Nat.le_of_ble_eq_true rfl, e, by rw [sh_70]; exact hj⟩]
theorem qc_70 (w : WF h) (hj : j < 53) : mX11_cell [.ref 70, .int (N j)] h = some (.inl (some (.int (gI h 70 j))), h) := by
  have e := cell_N w (i := 70) (k := j) (by rw [sh_70]) (by decide) (by rw [sh_70]; decide) (by omega)
  rw [sh_70] at e
  rw [e]
  dsimp only
  rw [if_pos hj]
theorem qp_70 (w : WF h) (hj : j < 53) : mX11_put [.ref 70, .int (N j), .int y] h = some (.inl none, sI h 70 j y) := by
  have e := put_N w (i := 70) (k := j) (by rw [sh_70]) (by decide) (by rw [sh_70]; decide) (by omega) y
  rw [sh_70] at e
  rw [e]
  dsimp only
  rw [if_pos hj]
theorem qpo_70 (w : WF h) (hj : 53 ≤ j) (hk : j < 2147483648) : mX11_put [.ref 70, .int (N j), .int y] h = some (.inl none, h) := by
  have e := put_N w (i := 70) (k := j) (by rw [sh_70]) (by decide) (by rw [sh_70]; decide) hk y
  rw [sh_70] at e
  rw [e]
  dsimp only
  rw [if_neg (by omega)]
theorem qco_70 (w : WF h) (hj : 53 ≤ j) (hk : j < 2147483648) : mX11_cell [.ref 70, .int (N j)] h = some (.inl (some (.int (N 0))), h) := by
  have e := cell_N w (i := 70) (k := j) (by rw [sh_70]) (by decide) (by rw [sh_70]; decide) hk
  rw [sh_70] at e
  rw [e]
  dsimp only
  rw [if_neg (by omega)]
theorem qf_70 (w : WF h) : mJ7_fill_53178 [.ref 70, .int y] h = some (.inl none, stR h 70 53 (fun _ => y)) := by
  have e := fill_ok w (i := 70) (by rw [sh_70]) (by decide) (by rw [sh_70]; decide) y
  rw [sh_70] at e
  exact e
theorem qA_71 (w : WF h) (hj : j < 48) : i_iaload F L (.int (N j) :: .ref 71 :: S) h = F L (.int (gI h 71 j) :: S) h := by
  have e : ¬ N j < 0 := by rw [lit32, N_lt (by omega) (by omega)]; omega
  rw [r_iaload, N_nat (by omega), if_pos ⟨by rw [sh_71], by rw [w.n]; exact Nat.le_of_ble_eq_true rfl, e, by rw [sh_71]; exact hj⟩]
theorem qS_71 (w : WF h) (hj : j < 48) : i_iastore F L (.int y :: .int (N j) :: .ref 71 :: S) h = F L S (sI h 71 j y) := by
  have e : ¬ N j < 0 := by rw [lit32, N_lt (by omega) (by omega)]; omega
  rw [r_iastore, N_nat (by omega), if_pos ⟨by rw [sh_71], by rw [w.n]; exact Nat.le_of_ble_eq_true rfl, e, by rw [sh_71]; exact hj⟩]
theorem qc_71 (w : WF h) (hj : j < 48) : mX11_cell [.ref 71, .int (N j)] h = some (.inl (some (.int (gI h 71 j))), h) := by
  have e := cell_N w (i := 71) (k := j) (by rw [sh_71]) (by decide) (by rw [sh_71]; decide) (by omega)
  rw [sh_71] at e
  rw [e]
  dsimp only
  rw [if_pos hj]
theorem qp_71 (w : WF h) (hj : j < 48) : mX11_put [.ref 71, .int (N j), .int y] h = some (.inl none, sI h 71 j y) := by
  have e := put_N w (i := 71) (k := j) (by rw [sh_71]) (by decide) (by rw [sh_71]; decide) (by omega) y
  rw [sh_71] at e
  rw [e]
  dsimp only
  rw [if_pos hj]
theorem qpo_71 (w : WF h) (hj : 48 ≤ j) (hk : j < 2147483648) : mX11_put [.ref 71, .int (N j), .int y] h = some (.inl none, h) := by
  have e := put_N w (i := 71) (k := j) (by rw [sh_71]) (by decide) (by rw [sh_71]; decide) hk y
  rw [sh_71] at e
  rw [e]
  dsimp only
  rw [if_neg (by omega)]
theorem qco_71 (w : WF h) (hj : 48 ≤ j) (hk : j < 2147483648) : mX11_cell [.ref 71, .int (N j)] h = some (.inl (some (.int (N 0))), h) := by
  have e := cell_N w (i := 71) (k := j) (by rw [sh_71]) (by decide) (by rw [sh_71]; decide) hk
  rw [sh_71] at e
  rw [e]
  dsimp only
  rw [if_neg (by omega)]
theorem qf_71 (w : WF h) : mJ7_fill_53178 [.ref 71, .int y] h = some (.inl none, stR h 71 48 (fun _ => y)) := by
  have e := fill_ok w (i := 71) (by rw [sh_71]) (by decide) (by rw [sh_71]; decide) y
  rw [sh_71] at e
  exact e
theorem qI_72 (w : WF h) : i_getI 8 k F L (.ref 72 :: S) h = F L (.int (gI h 72 k) :: S) h := by rw [r_getI, if_pos ⟨sh_72, by rw [w.n]; exact Nat.le_of_ble_eq_true rfl⟩]
theorem qP_72 (w : WF h) : i_putI 8 k F L (.int x :: .ref 72 :: S) h = F L S (sI h 72 k x) := by rw [r_putI, if_pos ⟨sh_72, by rw [w.n]; exact Nat.le_of_ble_eq_true rfl⟩]
theorem qV0_72 (w : WF h) (hc : cs S ≤ 8) : i_callV 8 0 f F L (.ref 72 :: S) h = i_after (f [.ref 72] h) S F L := by rw [r_callV_0, if_pos ⟨sh_72, by rw [w.n]; exact Nat.le_of_ble_eq_true rfl, hc⟩]
theorem qV1_72 (w : WF h) (hc : cs S ≤ 8) : i_callV 8 1 f F L (v1 :: .ref 72 :: S) h = i_after (f [.ref 72, v1] h) S F L := by rw [r_callV_1, if_pos ⟨sh_72, by rw [w.n]; exact Nat.le_of_ble_eq_true rfl, hc⟩]
theorem qV2_72 (w : WF h) (hc : cs S ≤ 8) : i_callV 8 2 f F L (v2 :: v1 :: .ref 72 :: S) h = i_after (f [.ref 72, v1, v2] h) S F L := by rw [r_callV_2, if_pos ⟨sh_72, by rw [w.n]; exact Nat.le_of_ble_eq_true rfl, hc⟩]
theorem qV3_72 (w : WF h) (hc : cs S ≤ 8) : i_callV 8 3 f F L (v3 :: v2 :: v1 :: .ref 72 :: S) h = i_after (f [.ref 72, v1, v2, v3] h) S F L := by rw [r_callV_3, if_pos ⟨sh_72, by rw [w.n]; exact Nat.le_of_ble_eq_true rfl, hc⟩]
theorem qV4_72 (w : WF h) (hc : cs S ≤ 8) : i_callV 8 4 f F L (v4 :: v3 :: v2 :: v1 :: .ref 72 :: S) h = i_after (f [.ref 72, v1, v2, v3, v4] h) S F L := by rw [r_callV_4, if_pos ⟨sh_72, by rw [w.n]; exact Nat.le_of_ble_eq_true rfl, hc⟩]
theorem q_72_0 (w : WF h) : i_getR 8 0 F L (.ref 72 :: S) h = F L (.ref 73 :: S) h := by rw [r_getR, if_pos ⟨sh_72, by rw [w.n]; exact Nat.le_of_ble_eq_true rfl⟩, rf_72_0 w]; rfl
theorem q_72_9 (w : WF h) : i_getR 8 9 F L (.ref 72 :: S) h = F L (.ref 51 :: S) h := by rw [r_getR, if_pos ⟨sh_72, by rw [w.n]; exact Nat.le_of_ble_eq_true rfl⟩, rf_72_9 w]; rfl
theorem q_72_10 (w : WF h) : i_getR 8 10 F L (.ref 72 :: S) h = F L (.ref 86 :: S) h := by rw [r_getR, if_pos ⟨sh_72, by rw [w.n]; exact Nat.le_of_ble_eq_true rfl⟩, rf_72_10 w]; rfl
theorem q_72_11 (w : WF h) : i_getR 8 11 F L (.ref 72 :: S) h = F L (.ref 87 :: S) h := by rw [r_getR, if_pos ⟨sh_72, by rw [w.n]; exact Nat.le_of_ble_eq_true rfl⟩, rf_72_11 w]; rfl
theorem q_72_1 (w : WF h) : i_getR 8 1 F L (.ref 72 :: S) h = F L (.ref 79 :: S) h := by rw [r_getR, if_pos ⟨sh_72, by rw [w.n]; exact Nat.le_of_ble_eq_true rfl⟩, rf_72_1 w]; rfl
theorem q_72_2 (w : WF h) : i_getR 8 2 F L (.ref 72 :: S) h = F L (.ref 80 :: S) h := by rw [r_getR, if_pos ⟨sh_72, by rw [w.n]; exact Nat.le_of_ble_eq_true rfl⟩, rf_72_2 w]; rfl
theorem q_72_3 (w : WF h) : i_getR 8 3 F L (.ref 72 :: S) h = F L (.ref 81 :: S) h := by rw [r_getR, if_pos ⟨sh_72, by rw [w.n]; exact Nat.le_of_ble_eq_true rfl⟩, rf_72_3 w]; rfl
theorem q_72_4 (w : WF h) : i_getR 8 4 F L (.ref 72 :: S) h = F L (.ref 82 :: S) h := by rw [r_getR, if_pos ⟨sh_72, by rw [w.n]; exact Nat.le_of_ble_eq_true rfl⟩, rf_72_4 w]; rfl
theorem q_72_5 (w : WF h) : i_getR 8 5 F L (.ref 72 :: S) h = F L (.ref 83 :: S) h := by rw [r_getR, if_pos ⟨sh_72, by rw [w.n]; exact Nat.le_of_ble_eq_true rfl⟩, rf_72_5 w]; rfl
theorem q_72_6 (w : WF h) : i_getR 8 6 F L (.ref 72 :: S) h = F L (.ref 84 :: S) h := by rw [r_getR, if_pos ⟨sh_72, by rw [w.n]; exact Nat.le_of_ble_eq_true rfl⟩, rf_72_6 w]; rfl
theorem q_72_7 (w : WF h) : i_getR 8 7 F L (.ref 72 :: S) h = F L (.ref 85 :: S) h := by rw [r_getR, if_pos ⟨sh_72, by rw [w.n]; exact Nat.le_of_ble_eq_true rfl⟩, rf_72_7 w]; rfl
theorem q_72_12 (w : WF h) : i_getR 8 12 F L (.ref 72 :: S) h = F L (rv (gR h 72 12) :: S) h := by rw [r_getR, if_pos ⟨sh_72, by rw [w.n]; exact Nat.le_of_ble_eq_true rfl⟩]
theorem qR_72_12 (w : WF h) : i_putR 8 12 F L (.ref j :: .ref 72 :: S) h = F L S (sR h 72 12 (some j)) := by rw [r_putR, if_pos ⟨sh_72, by rw [w.n]; exact Nat.le_of_ble_eq_true rfl⟩]
theorem qI_73 (w : WF h) : i_getI 5 k F L (.ref 73 :: S) h = F L (.int (gI h 73 k) :: S) h := by rw [r_getI, if_pos ⟨sh_73, by rw [w.n]; exact Nat.le_of_ble_eq_true rfl⟩]
theorem qP_73 (w : WF h) : i_putI 5 k F L (.int x :: .ref 73 :: S) h = F L S (sI h 73 k x) := by rw [r_putI, if_pos ⟨sh_73, by rw [w.n]; exact Nat.le_of_ble_eq_true rfl⟩]
theorem qV0_73 (w : WF h) (hc : cs S ≤ 8) : i_callV 5 0 f F L (.ref 73 :: S) h = i_after (f [.ref 73] h) S F L := by rw [r_callV_0, if_pos ⟨sh_73, by rw [w.n]; exact Nat.le_of_ble_eq_true rfl, hc⟩]
theorem qV1_73 (w : WF h) (hc : cs S ≤ 8) : i_callV 5 1 f F L (v1 :: .ref 73 :: S) h = i_after (f [.ref 73, v1] h) S F L := by rw [r_callV_1, if_pos ⟨sh_73, by rw [w.n]; exact Nat.le_of_ble_eq_true rfl, hc⟩]
theorem qV2_73 (w : WF h) (hc : cs S ≤ 8) : i_callV 5 2 f F L (v2 :: v1 :: .ref 73 :: S) h = i_after (f [.ref 73, v1, v2] h) S F L := by rw [r_callV_2, if_pos ⟨sh_73, by rw [w.n]; exact Nat.le_of_ble_eq_true rfl, hc⟩]
theorem qV3_73 (w : WF h) (hc : cs S ≤ 8) : i_callV 5 3 f F L (v3 :: v2 :: v1 :: .ref 73 :: S) h = i_after (f [.ref 73, v1, v2, v3] h) S F L := by rw [r_callV_3, if_pos ⟨sh_73, by rw [w.n]; exact Nat.le_of_ble_eq_true rfl, hc⟩]
theorem qV4_73 (w : WF h) (hc : cs S ≤ 8) : i_callV 5 4 f F L (v4 :: v3 :: v2 :: v1 :: .ref 73 :: S) h = i_after (f [.ref 73, v1, v2, v3, v4] h) S F L := by rw [r_callV_4, if_pos ⟨sh_73, by rw [w.n]; exact Nat.le_of_ble_eq_true rfl, hc⟩]
theorem q_73_0 (w : WF h) : i_getR 5 0 F L (.ref 73 :: S) h = F L (.ref 74 :: S) h := by rw [r_getR, if_pos ⟨sh_73, by rw [w.n]; exact Nat.le_of_ble_eq_true rfl⟩, rf_73_0 w]; rfl
theorem q_73_1 (w : WF h) : i_getR 5 1 F L (.ref 73 :: S) h = F L (.ref 75 :: S) h := by rw [r_getR, if_pos ⟨sh_73, by rw [w.n]; exact Nat.le_of_ble_eq_true rfl⟩, rf_73_1 w]; rfl
theorem q_73_2 (w : WF h) : i_getR 5 2 F L (.ref 73 :: S) h = F L (.ref 76 :: S) h := by rw [r_getR, if_pos ⟨sh_73, by rw [w.n]; exact Nat.le_of_ble_eq_true rfl⟩, rf_73_2 w]; rfl
theorem q_73_8 (w : WF h) : i_getR 5 8 F L (.ref 73 :: S) h = F L (.ref 77 :: S) h := by rw [r_getR, if_pos ⟨sh_73, by rw [w.n]; exact Nat.le_of_ble_eq_true rfl⟩, rf_73_8 w]; rfl
theorem q_73_9 (w : WF h) : i_getR 5 9 F L (.ref 73 :: S) h = F L (.ref 78 :: S) h := by rw [r_getR, if_pos ⟨sh_73, by rw [w.n]; exact Nat.le_of_ble_eq_true rfl⟩, rf_73_9 w]; rfl
theorem qA_74 (w : WF h) (hj : j < 48) : i_iaload F L (.int (N j) :: .ref 74 :: S) h = F L (.int (gI h 74 j) :: S) h := by
  have e : ¬ N j < 0 := by rw [lit32, N_lt (by omega) (by omega)]; omega
  rw [r_iaload, N_nat (by omega), if_pos ⟨by rw [sh_74], by rw [w.n]; exact Nat.le_of_ble_eq_true rfl, e, by rw [sh_74]; exact hj⟩]
theorem qS_74 (w : WF h) (hj : j < 48) : i_iastore F L (.int y :: .int (N j) :: .ref 74 :: S) h = F L S (sI h 74 j y) := by
  have e : ¬ N j < 0 := by rw [lit32, N_lt (by omega) (by omega)]; omega
  rw [r_iastore, N_nat (by omega), if_pos ⟨by rw [sh_74], by rw [w.n]; exact Nat.le_of_ble_eq_true rfl, e, by rw [sh_74]; exact hj⟩]
theorem qc_74 (w : WF h) (hj : j < 48) : mX11_cell [.ref 74, .int (N j)] h = some (.inl (some (.int (gI h 74 j))), h) := by
  have e := cell_N w (i := 74) (k := j) (by rw [sh_74]) (by decide) (by rw [sh_74]; decide) (by omega)
  rw [sh_74] at e
  rw [e]
  dsimp only
  rw [if_pos hj]
theorem qp_74 (w : WF h) (hj : j < 48) : mX11_put [.ref 74, .int (N j), .int y] h = some (.inl none, sI h 74 j y) := by
  have e := put_N w (i := 74) (k := j) (by rw [sh_74]) (by decide) (by rw [sh_74]; decide) (by omega) y
  rw [sh_74] at e
  rw [e]
  dsimp only
  rw [if_pos hj]
theorem qpo_74 (w : WF h) (hj : 48 ≤ j) (hk : j < 2147483648) : mX11_put [.ref 74, .int (N j), .int y] h = some (.inl none, h) := by
  have e := put_N w (i := 74) (k := j) (by rw [sh_74]) (by decide) (by rw [sh_74]; decide) hk y
  rw [sh_74] at e
  rw [e]
  dsimp only
  rw [if_neg (by omega)]
theorem qco_74 (w : WF h) (hj : 48 ≤ j) (hk : j < 2147483648) : mX11_cell [.ref 74, .int (N j)] h = some (.inl (some (.int (N 0))), h) := by
  have e := cell_N w (i := 74) (k := j) (by rw [sh_74]) (by decide) (by rw [sh_74]; decide) hk
  rw [sh_74] at e
  rw [e]
  dsimp only
  rw [if_neg (by omega)]
theorem qf_74 (w : WF h) : mJ7_fill_53178 [.ref 74, .int y] h = some (.inl none, stR h 74 48 (fun _ => y)) := by
  have e := fill_ok w (i := 74) (by rw [sh_74]) (by decide) (by rw [sh_74]; decide) y
  rw [sh_74] at e
  exact e
theorem qA_75 (w : WF h) (hj : j < 48) : i_iaload F L (.int (N j) :: .ref 75 :: S) h = F L (.int (gI h 75 j) :: S) h := by
  have e : ¬ N j < 0 := by rw [lit32, N_lt (by omega) (by omega)]; omega
  rw [r_iaload, N_nat (by omega), if_pos ⟨by rw [sh_75], by rw [w.n]; exact Nat.le_of_ble_eq_true rfl, e, by rw [sh_75]; exact hj⟩]
theorem qS_75 (w : WF h) (hj : j < 48) : i_iastore F L (.int y :: .int (N j) :: .ref 75 :: S) h = F L S (sI h 75 j y) := by
  have e : ¬ N j < 0 := by rw [lit32, N_lt (by omega) (by omega)]; omega
  rw [r_iastore, N_nat (by omega), if_pos ⟨by rw [sh_75], by rw [w.n]; exact Nat.le_of_ble_eq_true rfl, e, by rw [sh_75]; exact hj⟩]
theorem qc_75 (w : WF h) (hj : j < 48) : mX11_cell [.ref 75, .int (N j)] h = some (.inl (some (.int (gI h 75 j))), h) := by
  have e := cell_N w (i := 75) (k := j) (by rw [sh_75]) (by decide) (by rw [sh_75]; decide) (by omega)
  rw [sh_75] at e
  rw [e]
  dsimp only
  rw [if_pos hj]
theorem qp_75 (w : WF h) (hj : j < 48) : mX11_put [.ref 75, .int (N j), .int y] h = some (.inl none, sI h 75 j y) := by
  have e := put_N w (i := 75) (k := j) (by rw [sh_75]) (by decide) (by rw [sh_75]; decide) (by omega) y
  rw [sh_75] at e
  rw [e]
  dsimp only
  rw [if_pos hj]
theorem qpo_75 (w : WF h) (hj : 48 ≤ j) (hk : j < 2147483648) : mX11_put [.ref 75, .int (N j), .int y] h = some (.inl none, h) := by
  have e := put_N w (i := 75) (k := j) (by rw [sh_75]) (by decide) (by rw [sh_75]; decide) hk y
  rw [sh_75] at e
  rw [e]
  dsimp only
  rw [if_neg (by omega)]
theorem qco_75 (w : WF h) (hj : 48 ≤ j) (hk : j < 2147483648) : mX11_cell [.ref 75, .int (N j)] h = some (.inl (some (.int (N 0))), h) := by
  have e := cell_N w (i := 75) (k := j) (by rw [sh_75]) (by decide) (by rw [sh_75]; decide) hk
  rw [sh_75] at e
  rw [e]
  dsimp only
  rw [if_neg (by omega)]
theorem qf_75 (w : WF h) : mJ7_fill_53178 [.ref 75, .int y] h = some (.inl none, stR h 75 48 (fun _ => y)) := by
  have e := fill_ok w (i := 75) (by rw [sh_75]) (by decide) (by rw [sh_75]; decide) y
  rw [sh_75] at e
  exact e
theorem qA_76 (w : WF h) (hj : j < 48) : i_iaload F L (.int (N j) :: .ref 76 :: S) h = F L (.int (gI h 76 j) :: S) h := by
  have e : ¬ N j < 0 := by rw [lit32, N_lt (by omega) (by omega)]; omega
  rw [r_iaload, N_nat (by omega), if_pos ⟨by rw [sh_76], by rw [w.n]; exact Nat.le_of_ble_eq_true rfl, e, by rw [sh_76]; exact hj⟩]
theorem qS_76 (w : WF h) (hj : j < 48) : i_iastore F L (.int y :: .int (N j) :: .ref 76 :: S) h = F L S (sI h 76 j y) := by
  have e : ¬ N j < 0 := by rw [lit32, N_lt (by omega) (by omega)]; omega
  rw [r_iastore, N_nat (by omega), if_pos ⟨by rw [sh_76], by rw [w.n]; exact Nat.le_of_ble_eq_true rfl, e, by rw [sh_76]; exact hj⟩]
theorem qc_76 (w : WF h) (hj : j < 48) : mX11_cell [.ref 76, .int (N j)] h = some (.inl (some (.int (gI h 76 j))), h) := by
  have e := cell_N w (i := 76) (k := j) (by rw [sh_76]) (by decide) (by rw [sh_76]; decide) (by omega)
  rw [sh_76] at e
  rw [e]
  dsimp only
  rw [if_pos hj]
theorem qp_76 (w : WF h) (hj : j < 48) : mX11_put [.ref 76, .int (N j), .int y] h = some (.inl none, sI h 76 j y) := by
  have e := put_N w (i := 76) (k := j) (by rw [sh_76]) (by decide) (by rw [sh_76]; decide) (by omega) y
  rw [sh_76] at e
  rw [e]
  dsimp only
  rw [if_pos hj]
theorem qpo_76 (w : WF h) (hj : 48 ≤ j) (hk : j < 2147483648) : mX11_put [.ref 76, .int (N j), .int y] h = some (.inl none, h) := by
  have e := put_N w (i := 76) (k := j) (by rw [sh_76]) (by decide) (by rw [sh_76]; decide) hk y
  rw [sh_76] at e
  rw [e]
  dsimp only
  rw [if_neg (by omega)]
theorem qco_76 (w : WF h) (hj : 48 ≤ j) (hk : j < 2147483648) : mX11_cell [.ref 76, .int (N j)] h = some (.inl (some (.int (N 0))), h) := by
  have e := cell_N w (i := 76) (k := j) (by rw [sh_76]) (by decide) (by rw [sh_76]; decide) hk
  rw [sh_76] at e
  rw [e]
  dsimp only
  rw [if_neg (by omega)]
theorem qf_76 (w : WF h) : mJ7_fill_53178 [.ref 76, .int y] h = some (.inl none, stR h 76 48 (fun _ => y)) := by
  have e := fill_ok w (i := 76) (by rw [sh_76]) (by decide) (by rw [sh_76]; decide) y
  rw [sh_76] at e
  exact e
theorem qA_77 (w : WF h) (hj : j < 48) : i_iaload F L (.int (N j) :: .ref 77 :: S) h = F L (.int (gI h 77 j) :: S) h := by
  have e : ¬ N j < 0 := by rw [lit32, N_lt (by omega) (by omega)]; omega
  rw [r_iaload, N_nat (by omega), if_pos ⟨by rw [sh_77], by rw [w.n]; exact Nat.le_of_ble_eq_true rfl, e, by rw [sh_77]; exact hj⟩]
theorem qS_77 (w : WF h) (hj : j < 48) : i_iastore F L (.int y :: .int (N j) :: .ref 77 :: S) h = F L S (sI h 77 j y) := by
  have e : ¬ N j < 0 := by rw [lit32, N_lt (by omega) (by omega)]; omega
  rw [r_iastore, N_nat (by omega), if_pos ⟨by rw [sh_77], by rw [w.n]; exact Nat.le_of_ble_eq_true rfl, e, by rw [sh_77]; exact hj⟩]
theorem qc_77 (w : WF h) (hj : j < 48) : mX11_cell [.ref 77, .int (N j)] h = some (.inl (some (.int (gI h 77 j))), h) := by
  have e := cell_N w (i := 77) (k := j) (by rw [sh_77]) (by decide) (by rw [sh_77]; decide) (by omega)
  rw [sh_77] at e
  rw [e]
  dsimp only
  rw [if_pos hj]
theorem qp_77 (w : WF h) (hj : j < 48) : mX11_put [.ref 77, .int (N j), .int y] h = some (.inl none, sI h 77 j y) := by
  have e := put_N w (i := 77) (k := j) (by rw [sh_77]) (by decide) (by rw [sh_77]; decide) (by omega) y
  rw [sh_77] at e
  rw [e]
  dsimp only
  rw [if_pos hj]
theorem qpo_77 (w : WF h) (hj : 48 ≤ j) (hk : j < 2147483648) : mX11_put [.ref 77, .int (N j), .int y] h = some (.inl none, h) := by
  have e := put_N w (i := 77) (k := j) (by rw [sh_77]) (by decide) (by rw [sh_77]; decide) hk y
  rw [sh_77] at e
  rw [e]
  dsimp only
  rw [if_neg (by omega)]
theorem qco_77 (w : WF h) (hj : 48 ≤ j) (hk : j < 2147483648) : mX11_cell [.ref 77, .int (N j)] h = some (.inl (some (.int (N 0))), h) := by
  have e := cell_N w (i := 77) (k := j) (by rw [sh_77]) (by decide) (by rw [sh_77]; decide) hk
  rw [sh_77] at e
  rw [e]
  dsimp only
  rw [if_neg (by omega)]
theorem qf_77 (w : WF h) : mJ7_fill_53178 [.ref 77, .int y] h = some (.inl none, stR h 77 48 (fun _ => y)) := by
  have e := fill_ok w (i := 77) (by rw [sh_77]) (by decide) (by rw [sh_77]; decide) y
  rw [sh_77] at e
  exact e
theorem qA_78 (w : WF h) (hj : j < 48) : i_iaload F L (.int (N j) :: .ref 78 :: S) h = F L (.int (gI h 78 j) :: S) h := by
  have e : ¬ N j < 0 := by rw [lit32, N_lt (by omega) (by omega)]; omega
  rw [r_iaload, N_nat (by omega), if_pos ⟨by rw [sh_78], by rw [w.n]; exact Nat.le_of_ble_eq_true rfl, e, by rw [sh_78]; exact hj⟩]
theorem qS_78 (w : WF h) (hj : j < 48) : i_iastore F L (.int y :: .int (N j) :: .ref 78 :: S) h = F L S (sI h 78 j y) := by
  have e : ¬ N j < 0 := by rw [lit32, N_lt (by omega) (by omega)]; omega
  rw [r_iastore, N_nat (by omega), if_pos ⟨by rw [sh_78], by rw [w.n]; exact Nat.le_of_ble_eq_true rfl, e, by rw [sh_78]; exact hj⟩]
theorem qc_78 (w : WF h) (hj : j < 48) : mX11_cell [.ref 78, .int (N j)] h = some (.inl (some (.int (gI h 78 j))), h) := by
  have e := cell_N w (i := 78) (k := j) (by rw [sh_78]) (by decide) (by rw [sh_78]; decide) (by omega)
  rw [sh_78] at e
  rw [e]
  dsimp only
  rw [if_pos hj]
theorem qp_78 (w : WF h) (hj : j < 48) : mX11_put [.ref 78, .int (N j), .int y] h = some (.inl none, sI h 78 j y) := by
  have e := put_N w (i := 78) (k := j) (by rw [sh_78]) (by decide) (by rw [sh_78]; decide) (by omega) y
  rw [sh_78] at e
  rw [e]
  dsimp only
  rw [if_pos hj]
theorem qpo_78 (w : WF h) (hj : 48 ≤ j) (hk : j < 2147483648) : mX11_put [.ref 78, .int (N j), .int y] h = some (.inl none, h) := by
  have e := put_N w (i := 78) (k := j) (by rw [sh_78]) (by decide) (by rw [sh_78]; decide) hk y
  rw [sh_78] at e
  rw [e]
  dsimp only
  rw [if_neg (by omega)]
theorem qco_78 (w : WF h) (hj : 48 ≤ j) (hk : j < 2147483648) : mX11_cell [.ref 78, .int (N j)] h = some (.inl (some (.int (N 0))), h) := by
  have e := cell_N w (i := 78) (k := j) (by rw [sh_78]) (by decide) (by rw [sh_78]; decide) hk
  rw [sh_78] at e
  rw [e]
  dsimp only
  rw [if_neg (by omega)]
theorem qf_78 (w : WF h) : mJ7_fill_53178 [.ref 78, .int y] h = some (.inl none, stR h 78 48 (fun _ => y)) := by
  have e := fill_ok w (i := 78) (by rw [sh_78]) (by decide) (by rw [sh_78]; decide) y
  rw [sh_78] at e
  exact e
theorem qA_79 (w : WF h) (hj : j < 5) : i_iaload F L (.int (N j) :: .ref 79 :: S) h = F L (.int (gI h 79 j) :: S) h := by
  have e : ¬ N j < 0 := by rw [lit32, N_lt (by omega) (by omega)]; omega
  rw [r_iaload, N_nat (by omega), if_pos ⟨by rw [sh_79], by rw [w.n]; exact Nat.le_of_ble_eq_true rfl, e, by rw [sh_79]; exact hj⟩]
theorem qS_79 (w : WF h) (hj : j < 5) : i_iastore F L (.int y :: .int (N j) :: .ref 79 :: S) h = F L S (sI h 79 j y) := by
  have e : ¬ N j < 0 := by rw [lit32, N_lt (by omega) (by omega)]; omega
  rw [r_iastore, N_nat (by omega), if_pos ⟨by rw [sh_79], by rw [w.n]; exact Nat.le_of_ble_eq_true rfl, e, by rw [sh_79]; exact hj⟩]
theorem qc_79 (w : WF h) (hj : j < 5) : mX11_cell [.ref 79, .int (N j)] h = some (.inl (some (.int (gI h 79 j))), h) := by
  have e := cell_N w (i := 79) (k := j) (by rw [sh_79]) (by decide) (by rw [sh_79]; decide) (by omega)
  rw [sh_79] at e
  rw [e]
  dsimp only
  rw [if_pos hj]
theorem qp_79 (w : WF h) (hj : j < 5) : mX11_put [.ref 79, .int (N j), .int y] h = some (.inl none, sI h 79 j y) := by
  have e := put_N w (i := 79) (k := j) (by rw [sh_79]) (by decide) (by rw [sh_79]; decide) (by omega) y
  rw [sh_79] at e
  rw [e]
  dsimp only
  rw [if_pos hj]
theorem qpo_79 (w : WF h) (hj : 5 ≤ j) (hk : j < 2147483648) : mX11_put [.ref 79, .int (N j), .int y] h = some (.inl none, h) := by
  have e := put_N w (i := 79) (k := j) (by rw [sh_79]) (by decide) (by rw [sh_79]; decide) hk y
  rw [sh_79] at e
  rw [e]
  dsimp only
  rw [if_neg (by omega)]
theorem qco_79 (w : WF h) (hj : 5 ≤ j) (hk : j < 2147483648) : mX11_cell [.ref 79, .int (N j)] h = some (.inl (some (.int (N 0))), h) := by
  have e := cell_N w (i := 79) (k := j) (by rw [sh_79]) (by decide) (by rw [sh_79]; decide) hk
  rw [sh_79] at e
  rw [e]
  dsimp only
  rw [if_neg (by omega)]
theorem qf_79 (w : WF h) : mJ7_fill_53178 [.ref 79, .int y] h = some (.inl none, stR h 79 5 (fun _ => y)) := by
  have e := fill_ok w (i := 79) (by rw [sh_79]) (by decide) (by rw [sh_79]; decide) y
  rw [sh_79] at e
  exact e
theorem qA_80 (w : WF h) (hj : j < 5) : i_iaload F L (.int (N j) :: .ref 80 :: S) h = F L (.int (gI h 80 j) :: S) h := by
  have e : ¬ N j < 0 := by rw [lit32, N_lt (by omega) (by omega)]; omega
  rw [r_iaload, N_nat (by omega), if_pos ⟨by rw [sh_80], by rw [w.n]; exact Nat.le_of_ble_eq_true rfl, e, by rw [sh_80]; exact hj⟩]
theorem qS_80 (w : WF h) (hj : j < 5) : i_iastore F L (.int y :: .int (N j) :: .ref 80 :: S) h = F L S (sI h 80 j y) := by
  have e : ¬ N j < 0 := by rw [lit32, N_lt (by omega) (by omega)]; omega
  rw [r_iastore, N_nat (by omega), if_pos ⟨by rw [sh_80], by rw [w.n]; exact Nat.le_of_ble_eq_true rfl, e, by rw [sh_80]; exact hj⟩]
theorem qc_80 (w : WF h) (hj : j < 5) : mX11_cell [.ref 80, .int (N j)] h = some (.inl (some (.int (gI h 80 j))), h) := by
  have e := cell_N w (i := 80) (k := j) (by rw [sh_80]) (by decide) (by rw [sh_80]; decide) (by omega)
  rw [sh_80] at e
  rw [e]
  dsimp only
  rw [if_pos hj]
theorem qp_80 (w : WF h) (hj : j < 5) : mX11_put [.ref 80, .int (N j), .int y] h = some (.inl none, sI h 80 j y) := by
  have e := put_N w (i := 80) (k := j) (by rw [sh_80]) (by decide) (by rw [sh_80]; decide) (by omega) y
  rw [sh_80] at e
  rw [e]
  dsimp only
  rw [if_pos hj]
theorem qpo_80 (w : WF h) (hj : 5 ≤ j) (hk : j < 2147483648) : mX11_put [.ref 80, .int (N j), .int y] h = some (.inl none, h) := by
  have e := put_N w (i := 80) (k := j) (by rw [sh_80]) (by decide) (by rw [sh_80]; decide) hk y
  rw [sh_80] at e
  rw [e]
  dsimp only
  rw [if_neg (by omega)]
theorem qco_80 (w : WF h) (hj : 5 ≤ j) (hk : j < 2147483648) : mX11_cell [.ref 80, .int (N j)] h = some (.inl (some (.int (N 0))), h) := by
  have e := cell_N w (i := 80) (k := j) (by rw [sh_80]) (by decide) (by rw [sh_80]; decide) hk
  rw [sh_80] at e
  rw [e]
  dsimp only
  rw [if_neg (by omega)]
theorem qf_80 (w : WF h) : mJ7_fill_53178 [.ref 80, .int y] h = some (.inl none, stR h 80 5 (fun _ => y)) := by
  have e := fill_ok w (i := 80) (by rw [sh_80]) (by decide) (by rw [sh_80]; decide) y
  rw [sh_80] at e
  exact e
theorem qA_81 (w : WF h) (hj : j < 5) : i_iaload F L (.int (N j) :: .ref 81 :: S) h = F L (.int (gI h 81 j) :: S) h := by
  have e : ¬ N j < 0 := by rw [lit32, N_lt (by omega) (by omega)]; omega
  rw [r_iaload, N_nat (by omega), if_pos ⟨by rw [sh_81], by rw [w.n]; exact Nat.le_of_ble_eq_true rfl, e, by rw [sh_81]; exact hj⟩]
theorem qS_81 (w : WF h) (hj : j < 5) : i_iastore F L (.int y :: .int (N j) :: .ref 81 :: S) h = F L S (sI h 81 j y) := by
  have e : ¬ N j < 0 := by rw [lit32, N_lt (by omega) (by omega)]; omega
  rw [r_iastore, N_nat (by omega), if_pos ⟨by rw [sh_81], by rw [w.n]; exact Nat.le_of_ble_eq_true rfl, e, by rw [sh_81]; exact hj⟩]
theorem qc_81 (w : WF h) (hj : j < 5) : mX11_cell [.ref 81, .int (N j)] h = some (.inl (some (.int (gI h 81 j))), h) := by
  have e := cell_N w (i := 81) (k := j) (by rw [sh_81]) (by decide) (by rw [sh_81]; decide) (by omega)
  rw [sh_81] at e
  rw [e]
  dsimp only
  rw [if_pos hj]
theorem qp_81 (w : WF h) (hj : j < 5) : mX11_put [.ref 81, .int (N j), .int y] h = some (.inl none, sI h 81 j y) := by
  have e := put_N w (i := 81) (k := j) (by rw [sh_81]) (by decide) (by rw [sh_81]; decide) (by omega) y
  rw [sh_81] at e
  rw [e]
  dsimp only
  rw [if_pos hj]
theorem qpo_81 (w : WF h) (hj : 5 ≤ j) (hk : j < 2147483648) : mX11_put [.ref 81, .int (N j), .int y] h = some (.inl none, h) := by
  have e := put_N w (i := 81) (k := j) (by rw [sh_81]) (by decide) (by rw [sh_81]; decide) hk y
  rw [sh_81] at e
  rw [e]
  dsimp only
  rw [if_neg (by omega)]
theorem qco_81 (w : WF h) (hj : 5 ≤ j) (hk : j < 2147483648) : mX11_cell [.ref 81, .int (N j)] h = some (.inl (some (.int (N 0))), h) := by
  have e := cell_N w (i := 81) (k := j) (by rw [sh_81]) (by decide) (by rw [sh_81]; decide) hk
  rw [sh_81] at e
  rw [e]
  dsimp only
  rw [if_neg (by omega)]
theorem qf_81 (w : WF h) : mJ7_fill_53178 [.ref 81, .int y] h = some (.inl none, stR h 81 5 (fun _ => y)) := by
  have e := fill_ok w (i := 81) (by rw [sh_81]) (by decide) (by rw [sh_81]; decide) y
  rw [sh_81] at e
  exact e
theorem qA_82 (w : WF h) (hj : j < 5) : i_iaload F L (.int (N j) :: .ref 82 :: S) h = F L (.int (gI h 82 j) :: S) h := by
  have e : ¬ N j < 0 := by rw [lit32, N_lt (by omega) (by omega)]; omega
  rw [r_iaload, N_nat (by omega), if_pos ⟨by rw [sh_82], by rw [w.n]; exact Nat.le_of_ble_eq_true rfl, e, by rw [sh_82]; exact hj⟩]
theorem qS_82 (w : WF h) (hj : j < 5) : i_iastore F L (.int y :: .int (N j) :: .ref 82 :: S) h = F L S (sI h 82 j y) := by
  have e : ¬ N j < 0 := by rw [lit32, N_lt (by omega) (by omega)]; omega
  rw [r_iastore, N_nat (by omega), if_pos ⟨by rw [sh_82], by rw [w.n]; exact Nat.le_of_ble_eq_true rfl, e, by rw [sh_82]; exact hj⟩]
theorem qc_82 (w : WF h) (hj : j < 5) : mX11_cell [.ref 82, .int (N j)] h = some (.inl (some (.int (gI h 82 j))), h) := by
  have e := cell_N w (i := 82) (k := j) (by rw [sh_82]) (by decide) (by rw [sh_82]; decide) (by omega)
  rw [sh_82] at e
  rw [e]
  dsimp only
  rw [if_pos hj]
theorem qp_82 (w : WF h) (hj : j < 5) : mX11_put [.ref 82, .int (N j), .int y] h = some (.inl none, sI h 82 j y) := by
  have e := put_N w (i := 82) (k := j) (by rw [sh_82]) (by decide) (by rw [sh_82]; decide) (by omega) y
  rw [sh_82] at e
  rw [e]
  dsimp only
  rw [if_pos hj]
theorem qpo_82 (w : WF h) (hj : 5 ≤ j) (hk : j < 2147483648) : mX11_put [.ref 82, .int (N j), .int y] h = some (.inl none, h) := by
  have e := put_N w (i := 82) (k := j) (by rw [sh_82]) (by decide) (by rw [sh_82]; decide) hk y
  rw [sh_82] at e
  rw [e]
  dsimp only
  rw [if_neg (by omega)]
theorem qco_82 (w : WF h) (hj : 5 ≤ j) (hk : j < 2147483648) : mX11_cell [.ref 82, .int (N j)] h = some (.inl (some (.int (N 0))), h) := by
  have e := cell_N w (i := 82) (k := j) (by rw [sh_82]) (by decide) (by rw [sh_82]; decide) hk
  rw [sh_82] at e
  rw [e]
  dsimp only
  rw [if_neg (by omega)]
theorem qf_82 (w : WF h) : mJ7_fill_53178 [.ref 82, .int y] h = some (.inl none, stR h 82 5 (fun _ => y)) := by
  have e := fill_ok w (i := 82) (by rw [sh_82]) (by decide) (by rw [sh_82]; decide) y
  rw [sh_82] at e
  exact e
theorem qA_83 (w : WF h) (hj : j < 5) : i_iaload F L (.int (N j) :: .ref 83 :: S) h = F L (.int (gI h 83 j) :: S) h := by
  have e : ¬ N j < 0 := by rw [lit32, N_lt (by omega) (by omega)]; omega
  rw [r_iaload, N_nat (by omega), if_pos ⟨by rw [sh_83], by rw [w.n]; exact Nat.le_of_ble_eq_true rfl, e, by rw [sh_83]; exact hj⟩]
theorem qS_83 (w : WF h) (hj : j < 5) : i_iastore F L (.int y :: .int (N j) :: .ref 83 :: S) h = F L S (sI h 83 j y) := by
  have e : ¬ N j < 0 := by rw [lit32, N_lt (by omega) (by omega)]; omega
  rw [r_iastore, N_nat (by omega), if_pos ⟨by rw [sh_83], by rw [w.n]; exact Nat.le_of_ble_eq_true rfl, e, by rw [sh_83]; exact hj⟩]
theorem qc_83 (w : WF h) (hj : j < 5) : mX11_cell [.ref 83, .int (N j)] h = some (.inl (some (.int (gI h 83 j))), h) := by
  have e := cell_N w (i := 83) (k := j) (by rw [sh_83]) (by decide) (by rw [sh_83]; decide) (by omega)
  rw [sh_83] at e
  rw [e]
  dsimp only
  rw [if_pos hj]
theorem qp_83 (w : WF h) (hj : j < 5) : mX11_put [.ref 83, .int (N j), .int y] h = some (.inl none, sI h 83 j y) := by
  have e := put_N w (i := 83) (k := j) (by rw [sh_83]) (by decide) (by rw [sh_83]; decide) (by omega) y
  rw [sh_83] at e
  rw [e]
  dsimp only
  rw [if_pos hj]
theorem qpo_83 (w : WF h) (hj : 5 ≤ j) (hk : j < 2147483648) : mX11_put [.ref 83, .int (N j), .int y] h = some (.inl none, h) := by
  have e := put_N w (i := 83) (k := j) (by rw [sh_83]) (by decide) (by rw [sh_83]; decide) hk y
  rw [sh_83] at e
  rw [e]
  dsimp only
  rw [if_neg (by omega)]
theorem qco_83 (w : WF h) (hj : 5 ≤ j) (hk : j < 2147483648) : mX11_cell [.ref 83, .int (N j)] h = some (.inl (some (.int (N 0))), h) := by
  have e := cell_N w (i := 83) (k := j) (by rw [sh_83]) (by decide) (by rw [sh_83]; decide) hk
  rw [sh_83] at e
  rw [e]
  dsimp only
  rw [if_neg (by omega)]
theorem qf_83 (w : WF h) : mJ7_fill_53178 [.ref 83, .int y] h = some (.inl none, stR h 83 5 (fun _ => y)) := by
  have e := fill_ok w (i := 83) (by rw [sh_83]) (by decide) (by rw [sh_83]; decide) y
  rw [sh_83] at e
  exact e
theorem qA_84 (w : WF h) (hj : j < 5) : i_iaload F L (.int (N j) :: .ref 84 :: S) h = F L (.int (gI h 84 j) :: S) h := by
  have e : ¬ N j < 0 := by rw [lit32, N_lt (by omega) (by omega)]; omega
  rw [r_iaload, N_nat (by omega), if_pos ⟨by rw [sh_84], by rw [w.n]; exact Nat.le_of_ble_eq_true rfl, e, by rw [sh_84]; exact hj⟩]
theorem qS_84 (w : WF h) (hj : j < 5) : i_iastore F L (.int y :: .int (N j) :: .ref 84 :: S) h = F L S (sI h 84 j y) := by
  have e : ¬ N j < 0 := by rw [lit32, N_lt (by omega) (by omega)]; omega
  rw [r_iastore, N_nat (by omega), if_pos ⟨by rw [sh_84], by rw [w.n]; exact Nat.le_of_ble_eq_true rfl, e, by rw [sh_84]; exact hj⟩]
theorem qc_84 (w : WF h) (hj : j < 5) : mX11_cell [.ref 84, .int (N j)] h = some (.inl (some (.int (gI h 84 j))), h) := by
  have e := cell_N w (i := 84) (k := j) (by rw [sh_84]) (by decide) (by rw [sh_84]; decide) (by omega)
  rw [sh_84] at e
  rw [e]
  dsimp only
  rw [if_pos hj]
theorem qp_84 (w : WF h) (hj : j < 5) : mX11_put [.ref 84, .int (N j), .int y] h = some (.inl none, sI h 84 j y) := by
  have e := put_N w (i := 84) (k := j) (by rw [sh_84]) (by decide) (by rw [sh_84]; decide) (by omega) y
  rw [sh_84] at e
  rw [e]
  dsimp only
  rw [if_pos hj]
theorem qpo_84 (w : WF h) (hj : 5 ≤ j) (hk : j < 2147483648) : mX11_put [.ref 84, .int (N j), .int y] h = some (.inl none, h) := by
  have e := put_N w (i := 84) (k := j) (by rw [sh_84]) (by decide) (by rw [sh_84]; decide) hk y
  rw [sh_84] at e
  rw [e]
  dsimp only
  rw [if_neg (by omega)]
theorem qco_84 (w : WF h) (hj : 5 ≤ j) (hk : j < 2147483648) : mX11_cell [.ref 84, .int (N j)] h = some (.inl (some (.int (N 0))), h) := by
  have e := cell_N w (i := 84) (k := j) (by rw [sh_84]) (by decide) (by rw [sh_84]; decide) hk
  rw [sh_84] at e
  rw [e]
  dsimp only
  rw [if_neg (by omega)]
theorem qf_84 (w : WF h) : mJ7_fill_53178 [.ref 84, .int y] h = some (.inl none, stR h 84 5 (fun _ => y)) := by
  have e := fill_ok w (i := 84) (by rw [sh_84]) (by decide) (by rw [sh_84]; decide) y
  rw [sh_84] at e
  exact e
theorem qA_85 (w : WF h) (hj : j < 48) : i_iaload F L (.int (N j) :: .ref 85 :: S) h = F L (.int (gI h 85 j) :: S) h := by
  have e : ¬ N j < 0 := by rw [lit32, N_lt (by omega) (by omega)]; omega
  rw [r_iaload, N_nat (by omega), if_pos ⟨by rw [sh_85], by rw [w.n]; exact Nat.le_of_ble_eq_true rfl, e, by rw [sh_85]; exact hj⟩]
theorem qS_85 (w : WF h) (hj : j < 48) : i_iastore F L (.int y :: .int (N j) :: .ref 85 :: S) h = F L S (sI h 85 j y) := by
  have e : ¬ N j < 0 := by rw [lit32, N_lt (by omega) (by omega)]; omega
  rw [r_iastore, N_nat (by omega), if_pos ⟨by rw [sh_85], by rw [w.n]; exact Nat.le_of_ble_eq_true rfl, e, by rw [sh_85]; exact hj⟩]
theorem qc_85 (w : WF h) (hj : j < 48) : mX11_cell [.ref 85, .int (N j)] h = some (.inl (some (.int (gI h 85 j))), h) := by
  have e := cell_N w (i := 85) (k := j) (by rw [sh_85]) (by decide) (by rw [sh_85]; decide) (by omega)
  rw [sh_85] at e
  rw [e]
  dsimp only
  rw [if_pos hj]
theorem qp_85 (w : WF h) (hj : j < 48) : mX11_put [.ref 85, .int (N j), .int y] h = some (.inl none, sI h 85 j y) := by
  have e := put_N w (i := 85) (k := j) (by rw [sh_85]) (by decide) (by rw [sh_85]; decide) (by omega) y
  rw [sh_85] at e
  rw [e]
  dsimp only
  rw [if_pos hj]
theorem qpo_85 (w : WF h) (hj : 48 ≤ j) (hk : j < 2147483648) : mX11_put [.ref 85, .int (N j), .int y] h = some (.inl none, h) := by
  have e := put_N w (i := 85) (k := j) (by rw [sh_85]) (by decide) (by rw [sh_85]; decide) hk y
  rw [sh_85] at e
  rw [e]
  dsimp only
  rw [if_neg (by omega)]
theorem qco_85 (w : WF h) (hj : 48 ≤ j) (hk : j < 2147483648) : mX11_cell [.ref 85, .int (N j)] h = some (.inl (some (.int (N 0))), h) := by
  have e := cell_N w (i := 85) (k := j) (by rw [sh_85]) (by decide) (by rw [sh_85]; decide) hk
  rw [sh_85] at e
  rw [e]
  dsimp only
  rw [if_neg (by omega)]
theorem qf_85 (w : WF h) : mJ7_fill_53178 [.ref 85, .int y] h = some (.inl none, stR h 85 48 (fun _ => y)) := by
  have e := fill_ok w (i := 85) (by rw [sh_85]) (by decide) (by rw [sh_85]; decide) y
  rw [sh_85] at e
  exact e
theorem qA_86 (w : WF h) (hj : j < 53) : i_iaload F L (.int (N j) :: .ref 86 :: S) h = F L (.int (gI h 86 j) :: S) h := by
  have e : ¬ N j < 0 := by rw [lit32, N_lt (by omega) (by omega)]; omega
  rw [r_iaload, N_nat (by omega), if_pos ⟨by rw [sh_86], by rw [w.n]; exact Nat.le_of_ble_eq_true rfl, e, by rw [sh_86]; exact hj⟩]
theorem qS_86 (w : WF h) (hj : j < 53) : i_iastore F L (.int y :: .int (N j) :: .ref 86 :: S) h = F L S (sI h 86 j y) := by
  have e : ¬ N j < 0 := by rw [lit32, N_lt (by omega) (by omega)]; omega
  rw [r_iastore, N_nat (by omega), if_pos ⟨by rw [sh_86], by rw [w.n]; exact Nat.le_of_ble_eq_true rfl, e, by rw [sh_86]; exact hj⟩]
theorem qc_86 (w : WF h) (hj : j < 53) : mX11_cell [.ref 86, .int (N j)] h = some (.inl (some (.int (gI h 86 j))), h) := by
  have e := cell_N w (i := 86) (k := j) (by rw [sh_86]) (by decide) (by rw [sh_86]; decide) (by omega)
  rw [sh_86] at e
  rw [e]
  dsimp only
  rw [if_pos hj]
theorem qp_86 (w : WF h) (hj : j < 53) : mX11_put [.ref 86, .int (N j), .int y] h = some (.inl none, sI h 86 j y) := by
  have e := put_N w (i := 86) (k := j) (by rw [sh_86]) (by decide) (by rw [sh_86]; decide) (by omega) y
  rw [sh_86] at e
  rw [e]
  dsimp only
  rw [if_pos hj]
theorem qpo_86 (w : WF h) (hj : 53 ≤ j) (hk : j < 2147483648) : mX11_put [.ref 86, .int (N j), .int y] h = some (.inl none, h) := by
  have e := put_N w (i := 86) (k := j) (by rw [sh_86]) (by decide) (by rw [sh_86]; decide) hk y
  rw [sh_86] at e
  rw [e]
  dsimp only
  rw [if_neg (by omega)]
theorem qco_86 (w : WF h) (hj : 53 ≤ j) (hk : j < 2147483648) : mX11_cell [.ref 86, .int (N j)] h = some (.inl (some (.int (N 0))), h) := by
  have e := cell_N w (i := 86) (k := j) (by rw [sh_86]) (by decide) (by rw [sh_86]; decide) hk
  rw [sh_86] at e
  rw [e]
  dsimp only
  rw [if_neg (by omega)]
theorem qf_86 (w : WF h) : mJ7_fill_53178 [.ref 86, .int y] h = some (.inl none, stR h 86 53 (fun _ => y)) := by
  have e := fill_ok w (i := 86) (by rw [sh_86]) (by decide) (by rw [sh_86]; decide) y
  rw [sh_86] at e
  exact e
theorem qA_87 (w : WF h) (hj : j < 48) : i_iaload F L (.int (N j) :: .ref 87 :: S) h = F L (.int (gI h 87 j) :: S) h := by
  have e : ¬ N j < 0 := by rw [lit32, N_lt (by omega) (by omega)]; omega
  rw [r_iaload, N_nat (by omega), if_pos ⟨by rw [sh_87], by rw [w.n]; exact Nat.le_of_ble_eq_true rfl, e, by rw [sh_87]; exact hj⟩]
theorem qS_87 (w : WF h) (hj : j < 48) : i_iastore F L (.int y :: .int (N j) :: .ref 87 :: S) h = F L S (sI h 87 j y) := by
  have e : ¬ N j < 0 := by rw [lit32, N_lt (by omega) (by omega)]; omega
  rw [r_iastore, N_nat (by omega), if_pos ⟨by rw [sh_87], by rw [w.n]; exact Nat.le_of_ble_eq_true rfl, e, by rw [sh_87]; exact hj⟩]
theorem qc_87 (w : WF h) (hj : j < 48) : mX11_cell [.ref 87, .int (N j)] h = some (.inl (some (.int (gI h 87 j))), h) := by
  have e := cell_N w (i := 87) (k := j) (by rw [sh_87]) (by decide) (by rw [sh_87]; decide) (by omega)
  rw [sh_87] at e
  rw [e]
  dsimp only
  rw [if_pos hj]
theorem qp_87 (w : WF h) (hj : j < 48) : mX11_put [.ref 87, .int (N j), .int y] h = some (.inl none, sI h 87 j y) := by
  have e := put_N w (i := 87) (k := j) (by rw [sh_87]) (by decide) (by rw [sh_87]; decide) (by omega) y
  rw [sh_87] at e
  rw [e]
  dsimp only
  rw [if_pos hj]
theorem qpo_87 (w : WF h) (hj : 48 ≤ j) (hk : j < 2147483648) : mX11_put [.ref 87, .int (N j), .int y] h = some (.inl none, h) := by
  have e := put_N w (i := 87) (k := j) (by rw [sh_87]) (by decide) (by rw [sh_87]; decide) hk y
  rw [sh_87] at e
  rw [e]
  dsimp only
  rw [if_neg (by omega)]
theorem qco_87 (w : WF h) (hj : 48 ≤ j) (hk : j < 2147483648) : mX11_cell [.ref 87, .int (N j)] h = some (.inl (some (.int (N 0))), h) := by
  have e := cell_N w (i := 87) (k := j) (by rw [sh_87]) (by decide) (by rw [sh_87]; decide) hk
  rw [sh_87] at e
  rw [e]
  dsimp only
  rw [if_neg (by omega)]
theorem qf_87 (w : WF h) : mJ7_fill_53178 [.ref 87, .int y] h = some (.inl none, stR h 87 48 (fun _ => y)) := by
  have e := fill_ok w (i := 87) (by rw [sh_87]) (by decide) (by rw [sh_87]; decide) y
  rw [sh_87] at e
  exact e
theorem qI_88 (w : WF h) : i_getI 6 k F L (.ref 88 :: S) h = F L (.int (gI h 88 k) :: S) h := by rw [r_getI, if_pos ⟨sh_88, by rw [w.n]; exact Nat.le_of_ble_eq_true rfl⟩]
theorem qP_88 (w : WF h) : i_putI 6 k F L (.int x :: .ref 88 :: S) h = F L S (sI h 88 k x) := by rw [r_putI, if_pos ⟨sh_88, by rw [w.n]; exact Nat.le_of_ble_eq_true rfl⟩]
theorem qV0_88 (w : WF h) (hc : cs S ≤ 8) : i_callV 6 0 f F L (.ref 88 :: S) h = i_after (f [.ref 88] h) S F L := by rw [r_callV_0, if_pos ⟨sh_88, by rw [w.n]; exact Nat.le_of_ble_eq_true rfl, hc⟩]
theorem qV1_88 (w : WF h) (hc : cs S ≤ 8) : i_callV 6 1 f F L (v1 :: .ref 88 :: S) h = i_after (f [.ref 88, v1] h) S F L := by rw [r_callV_1, if_pos ⟨sh_88, by rw [w.n]; exact Nat.le_of_ble_eq_true rfl, hc⟩]
theorem qV2_88 (w : WF h) (hc : cs S ≤ 8) : i_callV 6 2 f F L (v2 :: v1 :: .ref 88 :: S) h = i_after (f [.ref 88, v1, v2] h) S F L := by rw [r_callV_2, if_pos ⟨sh_88, by rw [w.n]; exact Nat.le_of_ble_eq_true rfl, hc⟩]
theorem qV3_88 (w : WF h) (hc : cs S ≤ 8) : i_callV 6 3 f F L (v3 :: v2 :: v1 :: .ref 88 :: S) h = i_after (f [.ref 88, v1, v2, v3] h) S F L := by rw [r_callV_3, if_pos ⟨sh_88, by rw [w.n]; exact Nat.le_of_ble_eq_true rfl, hc⟩]
theorem qV4_88 (w : WF h) (hc : cs S ≤ 8) : i_callV 6 4 f F L (v4 :: v3 :: v2 :: v1 :: .ref 88 :: S) h = i_after (f [.ref 88, v1, v2, v3, v4] h) S F L := by rw [r_callV_4, if_pos ⟨sh_88, by rw [w.n]; exact Nat.le_of_ble_eq_true rfl, hc⟩]
theorem q_88_2 (w : WF h) : i_getR 6 2 F L (.ref 88 :: S) h = F L (.ref 72 :: S) h := by rw [r_getR, if_pos ⟨sh_88, by rw [w.n]; exact Nat.le_of_ble_eq_true rfl⟩, rf_88_2 w]; rfl
theorem qI_89 (w : WF h) : i_getI 11 k F L (.ref 89 :: S) h = F L (.int (gI h 89 k) :: S) h := by rw [r_getI, if_pos ⟨sh_89, by rw [w.n]; exact Nat.le_of_ble_eq_true rfl⟩]
theorem qP_89 (w : WF h) : i_putI 11 k F L (.int x :: .ref 89 :: S) h = F L S (sI h 89 k x) := by rw [r_putI, if_pos ⟨sh_89, by rw [w.n]; exact Nat.le_of_ble_eq_true rfl⟩]
theorem qV0_89 (w : WF h) (hc : cs S ≤ 8) : i_callV 11 0 f F L (.ref 89 :: S) h = i_after (f [.ref 89] h) S F L := by rw [r_callV_0, if_pos ⟨sh_89, by rw [w.n]; exact Nat.le_of_ble_eq_true rfl, hc⟩]
theorem qV1_89 (w : WF h) (hc : cs S ≤ 8) : i_callV 11 1 f F L (v1 :: .ref 89 :: S) h = i_after (f [.ref 89, v1] h) S F L := by rw [r_callV_1, if_pos ⟨sh_89, by rw [w.n]; exact Nat.le_of_ble_eq_true rfl, hc⟩]
theorem qV2_89 (w : WF h) (hc : cs S ≤ 8) : i_callV 11 2 f F L (v2 :: v1 :: .ref 89 :: S) h = i_after (f [.ref 89, v1, v2] h) S F L := by rw [r_callV_2, if_pos ⟨sh_89, by rw [w.n]; exact Nat.le_of_ble_eq_true rfl, hc⟩]
theorem qV3_89 (w : WF h) (hc : cs S ≤ 8) : i_callV 11 3 f F L (v3 :: v2 :: v1 :: .ref 89 :: S) h = i_after (f [.ref 89, v1, v2, v3] h) S F L := by rw [r_callV_3, if_pos ⟨sh_89, by rw [w.n]; exact Nat.le_of_ble_eq_true rfl, hc⟩]
theorem qV4_89 (w : WF h) (hc : cs S ≤ 8) : i_callV 11 4 f F L (v4 :: v3 :: v2 :: v1 :: .ref 89 :: S) h = i_after (f [.ref 89, v1, v2, v3, v4] h) S F L := by rw [r_callV_4, if_pos ⟨sh_89, by rw [w.n]; exact Nat.le_of_ble_eq_true rfl, hc⟩]
theorem q_89_11 (w : WF h) : i_getR 11 11 F L (.ref 89 :: S) h = F L (.ref 90 :: S) h := by rw [r_getR, if_pos ⟨sh_89, by rw [w.n]; exact Nat.le_of_ble_eq_true rfl⟩, rf_89_11 w]; rfl
theorem q_89_12 (w : WF h) : i_getR 11 12 F L (.ref 89 :: S) h = F L (.ref 91 :: S) h := by rw [r_getR, if_pos ⟨sh_89, by rw [w.n]; exact Nat.le_of_ble_eq_true rfl⟩, rf_89_12 w]; rfl
theorem q_89_13 (w : WF h) : i_getR 11 13 F L (.ref 89 :: S) h = F L (.ref 92 :: S) h := by rw [r_getR, if_pos ⟨sh_89, by rw [w.n]; exact Nat.le_of_ble_eq_true rfl⟩, rf_89_13 w]; rfl
theorem q_89_14 (w : WF h) : i_getR 11 14 F L (.ref 89 :: S) h = F L (.ref 93 :: S) h := by rw [r_getR, if_pos ⟨sh_89, by rw [w.n]; exact Nat.le_of_ble_eq_true rfl⟩, rf_89_14 w]; rfl
theorem q_89_15 (w : WF h) : i_getR 11 15 F L (.ref 89 :: S) h = F L (.ref 94 :: S) h := by rw [r_getR, if_pos ⟨sh_89, by rw [w.n]; exact Nat.le_of_ble_eq_true rfl⟩, rf_89_15 w]; rfl
theorem q_89_16 (w : WF h) : i_getR 11 16 F L (.ref 89 :: S) h = F L (.ref 95 :: S) h := by rw [r_getR, if_pos ⟨sh_89, by rw [w.n]; exact Nat.le_of_ble_eq_true rfl⟩, rf_89_16 w]; rfl
theorem q_89_17 (w : WF h) : i_getR 11 17 F L (.ref 89 :: S) h = F L (.ref 96 :: S) h := by rw [r_getR, if_pos ⟨sh_89, by rw [w.n]; exact Nat.le_of_ble_eq_true rfl⟩, rf_89_17 w]; rfl
theorem q_89_18 (w : WF h) : i_getR 11 18 F L (.ref 89 :: S) h = F L (.ref 97 :: S) h := by rw [r_getR, if_pos ⟨sh_89, by rw [w.n]; exact Nat.le_of_ble_eq_true rfl⟩, rf_89_18 w]; rfl
theorem q_89_19 (w : WF h) : i_getR 11 19 F L (.ref 89 :: S) h = F L (.ref 98 :: S) h := by rw [r_getR, if_pos ⟨sh_89, by rw [w.n]; exact Nat.le_of_ble_eq_true rfl⟩, rf_89_19 w]; rfl
theorem q_89_20 (w : WF h) : i_getR 11 20 F L (.ref 89 :: S) h = F L (.ref 99 :: S) h := by rw [r_getR, if_pos ⟨sh_89, by rw [w.n]; exact Nat.le_of_ble_eq_true rfl⟩, rf_89_20 w]; rfl
theorem q_89_21 (w : WF h) : i_getR 11 21 F L (.ref 89 :: S) h = F L (.ref 100 :: S) h := by rw [r_getR, if_pos ⟨sh_89, by rw [w.n]; exact Nat.le_of_ble_eq_true rfl⟩, rf_89_21 w]; rfl
theorem q_89_22 (w : WF h) : i_getR 11 22 F L (.ref 89 :: S) h = F L (.ref 101 :: S) h := by rw [r_getR, if_pos ⟨sh_89, by rw [w.n]; exact Nat.le_of_ble_eq_true rfl⟩, rf_89_22 w]; rfl
theorem q_89_23 (w : WF h) : i_getR 11 23 F L (.ref 89 :: S) h = F L (.ref 102 :: S) h := by rw [r_getR, if_pos ⟨sh_89, by rw [w.n]; exact Nat.le_of_ble_eq_true rfl⟩, rf_89_23 w]; rfl
theorem q_89_24 (w : WF h) : i_getR 11 24 F L (.ref 89 :: S) h = F L (.ref 103 :: S) h := by rw [r_getR, if_pos ⟨sh_89, by rw [w.n]; exact Nat.le_of_ble_eq_true rfl⟩, rf_89_24 w]; rfl
theorem q_89_25 (w : WF h) : i_getR 11 25 F L (.ref 89 :: S) h = F L (.ref 104 :: S) h := by rw [r_getR, if_pos ⟨sh_89, by rw [w.n]; exact Nat.le_of_ble_eq_true rfl⟩, rf_89_25 w]; rfl
theorem q_89_26 (w : WF h) : i_getR 11 26 F L (.ref 89 :: S) h = F L (.ref 105 :: S) h := by rw [r_getR, if_pos ⟨sh_89, by rw [w.n]; exact Nat.le_of_ble_eq_true rfl⟩, rf_89_26 w]; rfl
theorem q_89_27 (w : WF h) : i_getR 11 27 F L (.ref 89 :: S) h = F L (.ref 106 :: S) h := by rw [r_getR, if_pos ⟨sh_89, by rw [w.n]; exact Nat.le_of_ble_eq_true rfl⟩, rf_89_27 w]; rfl
theorem q_89_28 (w : WF h) : i_getR 11 28 F L (.ref 89 :: S) h = F L (.ref 107 :: S) h := by rw [r_getR, if_pos ⟨sh_89, by rw [w.n]; exact Nat.le_of_ble_eq_true rfl⟩, rf_89_28 w]; rfl
theorem q_89_29 (w : WF h) : i_getR 11 29 F L (.ref 89 :: S) h = F L (.ref 108 :: S) h := by rw [r_getR, if_pos ⟨sh_89, by rw [w.n]; exact Nat.le_of_ble_eq_true rfl⟩, rf_89_29 w]; rfl
theorem q_89_30 (w : WF h) : i_getR 11 30 F L (.ref 89 :: S) h = F L (.ref 109 :: S) h := by rw [r_getR, if_pos ⟨sh_89, by rw [w.n]; exact Nat.le_of_ble_eq_true rfl⟩, rf_89_30 w]; rfl
theorem q_89_31 (w : WF h) : i_getR 11 31 F L (.ref 89 :: S) h = F L (.ref 110 :: S) h := by rw [r_getR, if_pos ⟨sh_89, by rw [w.n]; exact Nat.le_of_ble_eq_true rfl⟩, rf_89_31 w]; rfl
theorem q_89_32 (w : WF h) : i_getR 11 32 F L (.ref 89 :: S) h = F L (.ref 111 :: S) h := by rw [r_getR, if_pos ⟨sh_89, by rw [w.n]; exact Nat.le_of_ble_eq_true rfl⟩, rf_89_32 w]; rfl
theorem q_89_35 (w : WF h) : i_getR 11 35 F L (.ref 89 :: S) h = F L (.ref 112 :: S) h := by rw [r_getR, if_pos ⟨sh_89, by rw [w.n]; exact Nat.le_of_ble_eq_true rfl⟩, rf_89_35 w]; rfl
theorem q_89_36 (w : WF h) : i_getR 11 36 F L (.ref 89 :: S) h = F L (.ref 113 :: S) h := by rw [r_getR, if_pos ⟨sh_89, by rw [w.n]; exact Nat.le_of_ble_eq_true rfl⟩, rf_89_36 w]; rfl
theorem q_89_53 (w : WF h) : i_getR 11 53 F L (.ref 89 :: S) h = F L (.ref 114 :: S) h := by rw [r_getR, if_pos ⟨sh_89, by rw [w.n]; exact Nat.le_of_ble_eq_true rfl⟩, rf_89_53 w]; rfl
theorem q_89_54 (w : WF h) : i_getR 11 54 F L (.ref 89 :: S) h = F L (.ref 115 :: S) h := by rw [r_getR, if_pos ⟨sh_89, by rw [w.n]; exact Nat.le_of_ble_eq_true rfl⟩, rf_89_54 w]; rfl
theorem q_89_56 (w : WF h) : i_getR 11 56 F L (.ref 89 :: S) h = F L (.ref 116 :: S) h := by rw [r_getR, if_pos ⟨sh_89, by rw [w.n]; exact Nat.le_of_ble_eq_true rfl⟩, rf_89_56 w]; rfl
theorem q_89_57 (w : WF h) : i_getR 11 57 F L (.ref 89 :: S) h = F L (.ref 117 :: S) h := by rw [r_getR, if_pos ⟨sh_89, by rw [w.n]; exact Nat.le_of_ble_eq_true rfl⟩, rf_89_57 w]; rfl
theorem q_89_61 (w : WF h) : i_getR 11 61 F L (.ref 89 :: S) h = F L (.ref 118 :: S) h := by rw [r_getR, if_pos ⟨sh_89, by rw [w.n]; exact Nat.le_of_ble_eq_true rfl⟩, rf_89_61 w]; rfl
theorem q_89_62 (w : WF h) : i_getR 11 62 F L (.ref 89 :: S) h = F L (.ref 119 :: S) h := by rw [r_getR, if_pos ⟨sh_89, by rw [w.n]; exact Nat.le_of_ble_eq_true rfl⟩, rf_89_62 w]; rfl
theorem q_89_63 (w : WF h) : i_getR 11 63 F L (.ref 89 :: S) h = F L (.ref 120 :: S) h := by rw [r_getR, if_pos ⟨sh_89, by rw [w.n]; exact Nat.le_of_ble_eq_true rfl⟩, rf_89_63 w]; rfl
theorem q_89_64 (w : WF h) : i_getR 11 64 F L (.ref 89 :: S) h = F L (.ref 121 :: S) h := by rw [r_getR, if_pos ⟨sh_89, by rw [w.n]; exact Nat.le_of_ble_eq_true rfl⟩, rf_89_64 w]; rfl
theorem q_89_65 (w : WF h) : i_getR 11 65 F L (.ref 89 :: S) h = F L (.ref 122 :: S) h := by rw [r_getR, if_pos ⟨sh_89, by rw [w.n]; exact Nat.le_of_ble_eq_true rfl⟩, rf_89_65 w]; rfl
theorem q_89_66 (w : WF h) : i_getR 11 66 F L (.ref 89 :: S) h = F L (.ref 123 :: S) h := by rw [r_getR, if_pos ⟨sh_89, by rw [w.n]; exact Nat.le_of_ble_eq_true rfl⟩, rf_89_66 w]; rfl
theorem q_89_67 (w : WF h) : i_getR 11 67 F L (.ref 89 :: S) h = F L (.ref 124 :: S) h := by rw [r_getR, if_pos ⟨sh_89, by rw [w.n]; exact Nat.le_of_ble_eq_true rfl⟩, rf_89_67 w]; rfl
theorem q_89_68 (w : WF h) : i_getR 11 68 F L (.ref 89 :: S) h = F L (.ref 125 :: S) h := by rw [r_getR, if_pos ⟨sh_89, by rw [w.n]; exact Nat.le_of_ble_eq_true rfl⟩, rf_89_68 w]; rfl
theorem q_89_69 (w : WF h) : i_getR 11 69 F L (.ref 89 :: S) h = F L (.ref 126 :: S) h := by rw [r_getR, if_pos ⟨sh_89, by rw [w.n]; exact Nat.le_of_ble_eq_true rfl⟩, rf_89_69 w]; rfl
theorem q_89_70 (w : WF h) : i_getR 11 70 F L (.ref 89 :: S) h = F L (.ref 127 :: S) h := by rw [r_getR, if_pos ⟨sh_89, by rw [w.n]; exact Nat.le_of_ble_eq_true rfl⟩, rf_89_70 w]; rfl
theorem q_89_71 (w : WF h) : i_getR 11 71 F L (.ref 89 :: S) h = F L (.ref 128 :: S) h := by rw [r_getR, if_pos ⟨sh_89, by rw [w.n]; exact Nat.le_of_ble_eq_true rfl⟩, rf_89_71 w]; rfl
theorem q_89_76 (w : WF h) : i_getR 11 76 F L (.ref 89 :: S) h = F L (.ref 129 :: S) h := by rw [r_getR, if_pos ⟨sh_89, by rw [w.n]; exact Nat.le_of_ble_eq_true rfl⟩, rf_89_76 w]; rfl
theorem q_89_81 (w : WF h) : i_getR 11 81 F L (.ref 89 :: S) h = F L (.ref 130 :: S) h := by rw [r_getR, if_pos ⟨sh_89, by rw [w.n]; exact Nat.le_of_ble_eq_true rfl⟩, rf_89_81 w]; rfl
theorem q_89_82 (w : WF h) : i_getR 11 82 F L (.ref 89 :: S) h = F L (.ref 131 :: S) h := by rw [r_getR, if_pos ⟨sh_89, by rw [w.n]; exact Nat.le_of_ble_eq_true rfl⟩, rf_89_82 w]; rfl
theorem q_89_85 (w : WF h) : i_getR 11 85 F L (.ref 89 :: S) h = F L (.ref 132 :: S) h := by rw [r_getR, if_pos ⟨sh_89, by rw [w.n]; exact Nat.le_of_ble_eq_true rfl⟩, rf_89_85 w]; rfl
theorem qL_89 (w : WF h) : i_getL 11 k F L (.ref 89 :: S) h = F L (.long (gL h 89 k) :: S) h := by rw [r_getL, if_pos ⟨sh_89, by rw [w.n]; exact Nat.le_of_ble_eq_true rfl⟩]
theorem qPL_89 (w : WF h) : i_putL 11 k F L (.long u :: .ref 89 :: S) h = F L S (sL h 89 k u) := by rw [r_putL, if_pos ⟨sh_89, by rw [w.n]; exact Nat.le_of_ble_eq_true rfl⟩]
theorem qZ0_89 (w : WF h) : i_putZ 11 k F L (.int (N 0) :: .ref 89 :: S) h = F L S (sI h 89 k (N 0)) := by rw [r_putZ, if_pos ⟨Or.inl rfl, sh_89, by rw [w.n]; exact Nat.le_of_ble_eq_true rfl⟩]
theorem qZ1_89 (w : WF h) : i_putZ 11 k F L (.int (N 1) :: .ref 89 :: S) h = F L S (sI h 89 k (N 1)) := by rw [r_putZ, if_pos ⟨Or.inr rfl, sh_89, by rw [w.n]; exact Nat.le_of_ble_eq_true rfl⟩]
theorem qA_91 (w : WF h) (hj : j < 20) : i_iaload F L (.int (N j) :: .ref 91 :: S) h = F L (.int (gI h 91 j) :: S) h := by
  have e : ¬ N j < 0 := by rw [lit32, N_lt (by omega) (by omega)]; omega
  rw [r_iaload, N_nat (by omega), if_pos ⟨by rw [sh_91], by rw [w.n]; exact Nat.le_of_ble_eq_true rfl, e, by rw [sh_91]; exact hj⟩]
theorem qS_91 (w : WF h) (hj : j < 20) : i_iastore F L (.int y :: .int (N j) :: .ref 91 :: S) h = F L S (sI h 91 j y) := by
  have e : ¬ N j < 0 := by rw [lit32, N_lt (by omega) (by omega)]; omega
  rw [r_iastore, N_nat (by omega), if_pos ⟨by rw [sh_91], by rw [w.n]; exact Nat.le_of_ble_eq_true rfl, e, by rw [sh_91]; exact hj⟩]
theorem qc_91 (w : WF h) (hj : j < 20) : mX11_cell [.ref 91, .int (N j)] h = some (.inl (some (.int (gI h 91 j))), h) := by
  have e := cell_N w (i := 91) (k := j) (by rw [sh_91]) (by decide) (by rw [sh_91]; decide) (by omega)
  rw [sh_91] at e
  rw [e]
  dsimp only
  rw [if_pos hj]
theorem qp_91 (w : WF h) (hj : j < 20) : mX11_put [.ref 91, .int (N j), .int y] h = some (.inl none, sI h 91 j y) := by
  have e := put_N w (i := 91) (k := j) (by rw [sh_91]) (by decide) (by rw [sh_91]; decide) (by omega) y
  rw [sh_91] at e
  rw [e]
  dsimp only
  rw [if_pos hj]
theorem qpo_91 (w : WF h) (hj : 20 ≤ j) (hk : j < 2147483648) : mX11_put [.ref 91, .int (N j), .int y] h = some (.inl none, h) := by
  have e := put_N w (i := 91) (k := j) (by rw [sh_91]) (by decide) (by rw [sh_91]; decide) hk y
  rw [sh_91] at e
  rw [e]
  dsimp only
  rw [if_neg (by omega)]
theorem qco_91 (w : WF h) (hj : 20 ≤ j) (hk : j < 2147483648) : mX11_cell [.ref 91, .int (N j)] h = some (.inl (some (.int (N 0))), h) := by
  have e := cell_N w (i := 91) (k := j) (by rw [sh_91]) (by decide) (by rw [sh_91]; decide) hk
  rw [sh_91] at e
  rw [e]
  dsimp only
  rw [if_neg (by omega)]
theorem qf_91 (w : WF h) : mJ7_fill_53178 [.ref 91, .int y] h = some (.inl none, stR h 91 20 (fun _ => y)) := by
  have e := fill_ok w (i := 91) (by rw [sh_91]) (by decide) (by rw [sh_91]; decide) y
  rw [sh_91] at e
  exact e
theorem qA_92 (w : WF h) (hj : j < 20) : i_iaload F L (.int (N j) :: .ref 92 :: S) h = F L (.int (gI h 92 j) :: S) h := by
  have e : ¬ N j < 0 := by rw [lit32, N_lt (by omega) (by omega)]; omega
  rw [r_iaload, N_nat (by omega), if_pos ⟨by rw [sh_92], by rw [w.n]; exact Nat.le_of_ble_eq_true rfl, e, by rw [sh_92]; exact hj⟩]
theorem qS_92 (w : WF h) (hj : j < 20) : i_iastore F L (.int y :: .int (N j) :: .ref 92 :: S) h = F L S (sI h 92 j y) := by
  have e : ¬ N j < 0 := by rw [lit32, N_lt (by omega) (by omega)]; omega
  rw [r_iastore, N_nat (by omega), if_pos ⟨by rw [sh_92], by rw [w.n]; exact Nat.le_of_ble_eq_true rfl, e, by rw [sh_92]; exact hj⟩]
theorem qc_92 (w : WF h) (hj : j < 20) : mX11_cell [.ref 92, .int (N j)] h = some (.inl (some (.int (gI h 92 j))), h) := by
  have e := cell_N w (i := 92) (k := j) (by rw [sh_92]) (by decide) (by rw [sh_92]; decide) (by omega)
  rw [sh_92] at e
  rw [e]
  dsimp only
  rw [if_pos hj]
theorem qp_92 (w : WF h) (hj : j < 20) : mX11_put [.ref 92, .int (N j), .int y] h = some (.inl none, sI h 92 j y) := by
  have e := put_N w (i := 92) (k := j) (by rw [sh_92]) (by decide) (by rw [sh_92]; decide) (by omega) y
  rw [sh_92] at e
  rw [e]
  dsimp only
  rw [if_pos hj]
theorem qpo_92 (w : WF h) (hj : 20 ≤ j) (hk : j < 2147483648) : mX11_put [.ref 92, .int (N j), .int y] h = some (.inl none, h) := by
  have e := put_N w (i := 92) (k := j) (by rw [sh_92]) (by decide) (by rw [sh_92]; decide) hk y
  rw [sh_92] at e
  rw [e]
  dsimp only
  rw [if_neg (by omega)]
theorem qco_92 (w : WF h) (hj : 20 ≤ j) (hk : j < 2147483648) : mX11_cell [.ref 92, .int (N j)] h = some (.inl (some (.int (N 0))), h) := by
  have e := cell_N w (i := 92) (k := j) (by rw [sh_92]) (by decide) (by rw [sh_92]; decide) hk
  rw [sh_92] at e
  rw [e]
  dsimp only
  rw [if_neg (by omega)]
theorem qf_92 (w : WF h) : mJ7_fill_53178 [.ref 92, .int y] h = some (.inl none, stR h 92 20 (fun _ => y)) := by
  have e := fill_ok w (i := 92) (by rw [sh_92]) (by decide) (by rw [sh_92]; decide) y
  rw [sh_92] at e
  exact e
theorem qA_93 (w : WF h) (hj : j < 20) : i_iaload F L (.int (N j) :: .ref 93 :: S) h = F L (.int (gI h 93 j) :: S) h := by
  have e : ¬ N j < 0 := by rw [lit32, N_lt (by omega) (by omega)]; omega
  rw [r_iaload, N_nat (by omega), if_pos ⟨by rw [sh_93], by rw [w.n]; exact Nat.le_of_ble_eq_true rfl, e, by rw [sh_93]; exact hj⟩]
theorem qS_93 (w : WF h) (hj : j < 20) : i_iastore F L (.int y :: .int (N j) :: .ref 93 :: S) h = F L S (sI h 93 j y) := by
  have e : ¬ N j < 0 := by rw [lit32, N_lt (by omega) (by omega)]; omega
  rw [r_iastore, N_nat (by omega), if_pos ⟨by rw [sh_93], by rw [w.n]; exact Nat.le_of_ble_eq_true rfl, e, by rw [sh_93]; exact hj⟩]
theorem qc_93 (w : WF h) (hj : j < 20) : mX11_cell [.ref 93, .int (N j)] h = some (.inl (some (.int (gI h 93 j))), h) := by
  have e := cell_N w (i := 93) (k := j) (by rw [sh_93]) (by decide) (by rw [sh_93]; decide) (by omega)
  rw [sh_93] at e
  rw [e]
  dsimp only
  rw [if_pos hj]
theorem qp_93 (w : WF h) (hj : j < 20) : mX11_put [.ref 93, .int (N j), .int y] h = some (.inl none, sI h 93 j y) := by
  have e := put_N w (i := 93) (k := j) (by rw [sh_93]) (by decide) (by rw [sh_93]; decide) (by omega) y
  rw [sh_93] at e
  rw [e]
  dsimp only
  rw [if_pos hj]
theorem qpo_93 (w : WF h) (hj : 20 ≤ j) (hk : j < 2147483648) : mX11_put [.ref 93, .int (N j), .int y] h = some (.inl none, h) := by
  have e := put_N w (i := 93) (k := j) (by rw [sh_93]) (by decide) (by rw [sh_93]; decide) hk y
  rw [sh_93] at e
  rw [e]
  dsimp only
  rw [if_neg (by omega)]
theorem qco_93 (w : WF h) (hj : 20 ≤ j) (hk : j < 2147483648) : mX11_cell [.ref 93, .int (N j)] h = some (.inl (some (.int (N 0))), h) := by
  have e := cell_N w (i := 93) (k := j) (by rw [sh_93]) (by decide) (by rw [sh_93]; decide) hk
  rw [sh_93] at e
  rw [e]
  dsimp only
  rw [if_neg (by omega)]
theorem qf_93 (w : WF h) : mJ7_fill_53178 [.ref 93, .int y] h = some (.inl none, stR h 93 20 (fun _ => y)) := by
  have e := fill_ok w (i := 93) (by rw [sh_93]) (by decide) (by rw [sh_93]; decide) y
  rw [sh_93] at e
  exact e
theorem qA_95 (w : WF h) (hj : j < 6) : i_iaload F L (.int (N j) :: .ref 95 :: S) h = F L (.int (gI h 95 j) :: S) h := by
  have e : ¬ N j < 0 := by rw [lit32, N_lt (by omega) (by omega)]; omega
  rw [r_iaload, N_nat (by omega), if_pos ⟨by rw [sh_95], by rw [w.n]; exact Nat.le_of_ble_eq_true rfl, e, by rw [sh_95]; exact hj⟩]
theorem qS_95 (w : WF h) (hj : j < 6) : i_iastore F L (.int y :: .int (N j) :: .ref 95 :: S) h = F L S (sI h 95 j y) := by
  have e : ¬ N j < 0 := by rw [lit32, N_lt (by omega) (by omega)]; omega
  rw [r_iastore, N_nat (by omega), if_pos ⟨by rw [sh_95], by rw [w.n]; exact Nat.le_of_ble_eq_true rfl, e, by rw [sh_95]; exact hj⟩]
theorem qc_95 (w : WF h) (hj : j < 6) : mX11_cell [.ref 95, .int (N j)] h = some (.inl (some (.int (gI h 95 j))), h) := by
  have e := cell_N w (i := 95) (k := j) (by rw [sh_95]) (by decide) (by rw [sh_95]; decide) (by omega)
  rw [sh_95] at e
  rw [e]
  dsimp only
  rw [if_pos hj]
theorem qp_95 (w : WF h) (hj : j < 6) : mX11_put [.ref 95, .int (N j), .int y] h = some (.inl none, sI h 95 j y) := by
  have e := put_N w (i := 95) (k := j) (by rw [sh_95]) (by decide) (by rw [sh_95]; decide) (by omega) y
  rw [sh_95] at e
  rw [e]
  dsimp only
  rw [if_pos hj]
theorem qpo_95 (w : WF h) (hj : 6 ≤ j) (hk : j < 2147483648) : mX11_put [.ref 95, .int (N j), .int y] h = some (.inl none, h) := by
  have e := put_N w (i := 95) (k := j) (by rw [sh_95]) (by decide) (by rw [sh_95]; decide) hk y
  rw [sh_95] at e
  rw [e]
  dsimp only
  rw [if_neg (by omega)]
theorem qco_95 (w : WF h) (hj : 6 ≤ j) (hk : j < 2147483648) : mX11_cell [.ref 95, .int (N j)] h = some (.inl (some (.int (N 0))), h) := by
  have e := cell_N w (i := 95) (k := j) (by rw [sh_95]) (by decide) (by rw [sh_95]; decide) hk
  rw [sh_95] at e
  rw [e]
  dsimp only
  rw [if_neg (by omega)]
theorem qf_95 (w : WF h) : mJ7_fill_53178 [.ref 95, .int y] h = some (.inl none, stR h 95 6 (fun _ => y)) := by
  have e := fill_ok w (i := 95) (by rw [sh_95]) (by decide) (by rw [sh_95]; decide) y
  rw [sh_95] at e
  exact e
theorem qA_97 (w : WF h) (hj : j < 10) : i_iaload F L (.int (N j) :: .ref 97 :: S) h = F L (.int (gI h 97 j) :: S) h := by
  have e : ¬ N j < 0 := by rw [lit32, N_lt (by omega) (by omega)]; omega
  rw [r_iaload, N_nat (by omega), if_pos ⟨by rw [sh_97], by rw [w.n]; exact Nat.le_of_ble_eq_true rfl, e, by rw [sh_97]; exact hj⟩]
theorem qS_97 (w : WF h) (hj : j < 10) : i_iastore F L (.int y :: .int (N j) :: .ref 97 :: S) h = F L S (sI h 97 j y) := by
  have e : ¬ N j < 0 := by rw [lit32, N_lt (by omega) (by omega)]; omega
  rw [r_iastore, N_nat (by omega), if_pos ⟨by rw [sh_97], by rw [w.n]; exact Nat.le_of_ble_eq_true rfl, e, by rw [sh_97]; exact hj⟩]
theorem qc_97 (w : WF h) (hj : j < 10) : mX11_cell [.ref 97, .int (N j)] h = some (.inl (some (.int (gI h 97 j))), h) := by
  have e := cell_N w (i := 97) (k := j) (by rw [sh_97]) (by decide) (by rw [sh_97]; decide) (by omega)
  rw [sh_97] at e
  rw [e]
  dsimp only
  rw [if_pos hj]
theorem qp_97 (w : WF h) (hj : j < 10) : mX11_put [.ref 97, .int (N j), .int y] h = some (.inl none, sI h 97 j y) := by
  have e := put_N w (i := 97) (k := j) (by rw [sh_97]) (by decide) (by rw [sh_97]; decide) (by omega) y
  rw [sh_97] at e
  rw [e]
  dsimp only
  rw [if_pos hj]
theorem qpo_97 (w : WF h) (hj : 10 ≤ j) (hk : j < 2147483648) : mX11_put [.ref 97, .int (N j), .int y] h = some (.inl none, h) := by
  have e := put_N w (i := 97) (k := j) (by rw [sh_97]) (by decide) (by rw [sh_97]; decide) hk y
  rw [sh_97] at e
  rw [e]
  dsimp only
  rw [if_neg (by omega)]
theorem qco_97 (w : WF h) (hj : 10 ≤ j) (hk : j < 2147483648) : mX11_cell [.ref 97, .int (N j)] h = some (.inl (some (.int (N 0))), h) := by
  have e := cell_N w (i := 97) (k := j) (by rw [sh_97]) (by decide) (by rw [sh_97]; decide) hk
  rw [sh_97] at e
  rw [e]
  dsimp only
  rw [if_neg (by omega)]
theorem qf_97 (w : WF h) : mJ7_fill_53178 [.ref 97, .int y] h = some (.inl none, stR h 97 10 (fun _ => y)) := by
  have e := fill_ok w (i := 97) (by rw [sh_97]) (by decide) (by rw [sh_97]; decide) y
  rw [sh_97] at e
  exact e
theorem qA_98 (w : WF h) (hj : j < 10) : i_iaload F L (.int (N j) :: .ref 98 :: S) h = F L (.int (gI h 98 j) :: S) h := by
  have e : ¬ N j < 0 := by rw [lit32, N_lt (by omega) (by omega)]; omega
  rw [r_iaload, N_nat (by omega), if_pos ⟨by rw [sh_98], by rw [w.n]; exact Nat.le_of_ble_eq_true rfl, e, by rw [sh_98]; exact hj⟩]
theorem qS_98 (w : WF h) (hj : j < 10) : i_iastore F L (.int y :: .int (N j) :: .ref 98 :: S) h = F L S (sI h 98 j y) := by
  have e : ¬ N j < 0 := by rw [lit32, N_lt (by omega) (by omega)]; omega
  rw [r_iastore, N_nat (by omega), if_pos ⟨by rw [sh_98], by rw [w.n]; exact Nat.le_of_ble_eq_true rfl, e, by rw [sh_98]; exact hj⟩]
theorem qc_98 (w : WF h) (hj : j < 10) : mX11_cell [.ref 98, .int (N j)] h = some (.inl (some (.int (gI h 98 j))), h) := by
  have e := cell_N w (i := 98) (k := j) (by rw [sh_98]) (by decide) (by rw [sh_98]; decide) (by omega)
  rw [sh_98] at e
  rw [e]
  dsimp only
  rw [if_pos hj]
theorem qp_98 (w : WF h) (hj : j < 10) : mX11_put [.ref 98, .int (N j), .int y] h = some (.inl none, sI h 98 j y) := by
  have e := put_N w (i := 98) (k := j) (by rw [sh_98]) (by decide) (by rw [sh_98]; decide) (by omega) y
  rw [sh_98] at e
  rw [e]
  dsimp only
  rw [if_pos hj]
theorem qpo_98 (w : WF h) (hj : 10 ≤ j) (hk : j < 2147483648) : mX11_put [.ref 98, .int (N j), .int y] h = some (.inl none, h) := by
  have e := put_N w (i := 98) (k := j) (by rw [sh_98]) (by decide) (by rw [sh_98]; decide) hk y
  rw [sh_98] at e
  rw [e]
  dsimp only
  rw [if_neg (by omega)]
theorem qco_98 (w : WF h) (hj : 10 ≤ j) (hk : j < 2147483648) : mX11_cell [.ref 98, .int (N j)] h = some (.inl (some (.int (N 0))), h) := by
  have e := cell_N w (i := 98) (k := j) (by rw [sh_98]) (by decide) (by rw [sh_98]; decide) hk
  rw [sh_98] at e
  rw [e]
  dsimp only
  rw [if_neg (by omega)]
theorem qf_98 (w : WF h) : mJ7_fill_53178 [.ref 98, .int y] h = some (.inl none, stR h 98 10 (fun _ => y)) := by
  have e := fill_ok w (i := 98) (by rw [sh_98]) (by decide) (by rw [sh_98]; decide) y
  rw [sh_98] at e
  exact e
theorem qA_99 (w : WF h) (hj : j < 12) : i_iaload F L (.int (N j) :: .ref 99 :: S) h = F L (.int (gI h 99 j) :: S) h := by
  have e : ¬ N j < 0 := by rw [lit32, N_lt (by omega) (by omega)]; omega
  rw [r_iaload, N_nat (by omega), if_pos ⟨by rw [sh_99], by rw [w.n]; exact Nat.le_of_ble_eq_true rfl, e, by rw [sh_99]; exact hj⟩]
theorem qS_99 (w : WF h) (hj : j < 12) : i_iastore F L (.int y :: .int (N j) :: .ref 99 :: S) h = F L S (sI h 99 j y) := by
  have e : ¬ N j < 0 := by rw [lit32, N_lt (by omega) (by omega)]; omega
  rw [r_iastore, N_nat (by omega), if_pos ⟨by rw [sh_99], by rw [w.n]; exact Nat.le_of_ble_eq_true rfl, e, by rw [sh_99]; exact hj⟩]
theorem qc_99 (w : WF h) (hj : j < 12) : mX11_cell [.ref 99, .int (N j)] h = some (.inl (some (.int (gI h 99 j))), h) := by
  have e := cell_N w (i := 99) (k := j) (by rw [sh_99]) (by decide) (by rw [sh_99]; decide) (by omega)
  rw [sh_99] at e
  rw [e]
  dsimp only
  rw [if_pos hj]
theorem qp_99 (w : WF h) (hj : j < 12) : mX11_put [.ref 99, .int (N j), .int y] h = some (.inl none, sI h 99 j y) := by
  have e := put_N w (i := 99) (k := j) (by rw [sh_99]) (by decide) (by rw [sh_99]; decide) (by omega) y
  rw [sh_99] at e
  rw [e]
  dsimp only
  rw [if_pos hj]
theorem qpo_99 (w : WF h) (hj : 12 ≤ j) (hk : j < 2147483648) : mX11_put [.ref 99, .int (N j), .int y] h = some (.inl none, h) := by
  have e := put_N w (i := 99) (k := j) (by rw [sh_99]) (by decide) (by rw [sh_99]; decide) hk y
  rw [sh_99] at e
  rw [e]
  dsimp only
  rw [if_neg (by omega)]
theorem qco_99 (w : WF h) (hj : 12 ≤ j) (hk : j < 2147483648) : mX11_cell [.ref 99, .int (N j)] h = some (.inl (some (.int (N 0))), h) := by
  have e := cell_N w (i := 99) (k := j) (by rw [sh_99]) (by decide) (by rw [sh_99]; decide) hk
  rw [sh_99] at e
  rw [e]
  dsimp only
  rw [if_neg (by omega)]
theorem qf_99 (w : WF h) : mJ7_fill_53178 [.ref 99, .int y] h = some (.inl none, stR h 99 12 (fun _ => y)) := by
  have e := fill_ok w (i := 99) (by rw [sh_99]) (by decide) (by rw [sh_99]; decide) y
  rw [sh_99] at e
  exact e
theorem qA_100 (w : WF h) (hj : j < 12) : i_iaload F L (.int (N j) :: .ref 100 :: S) h = F L (.int (gI h 100 j) :: S) h := by
  have e : ¬ N j < 0 := by rw [lit32, N_lt (by omega) (by omega)]; omega
  rw [r_iaload, N_nat (by omega), if_pos ⟨by rw [sh_100], by rw [w.n]; exact Nat.le_of_ble_eq_true rfl, e, by rw [sh_100]; exact hj⟩]
theorem qS_100 (w : WF h) (hj : j < 12) : i_iastore F L (.int y :: .int (N j) :: .ref 100 :: S) h = F L S (sI h 100 j y) := by
  have e : ¬ N j < 0 := by rw [lit32, N_lt (by omega) (by omega)]; omega
  rw [r_iastore, N_nat (by omega), if_pos ⟨by rw [sh_100], by rw [w.n]; exact Nat.le_of_ble_eq_true rfl, e, by rw [sh_100]; exact hj⟩]
theorem qc_100 (w : WF h) (hj : j < 12) : mX11_cell [.ref 100, .int (N j)] h = some (.inl (some (.int (gI h 100 j))), h) := by
  have e := cell_N w (i := 100) (k := j) (by rw [sh_100]) (by decide) (by rw [sh_100]; decide) (by omega)
  rw [sh_100] at e
  rw [e]
  dsimp only
  rw [if_pos hj]
theorem qp_100 (w : WF h) (hj : j < 12) : mX11_put [.ref 100, .int (N j), .int y] h = some (.inl none, sI h 100 j y) := by
  have e := put_N w (i := 100) (k := j) (by rw [sh_100]) (by decide) (by rw [sh_100]; decide) (by omega) y
  rw [sh_100] at e
  rw [e]
  dsimp only
  rw [if_pos hj]
theorem qpo_100 (w : WF h) (hj : 12 ≤ j) (hk : j < 2147483648) : mX11_put [.ref 100, .int (N j), .int y] h = some (.inl none, h) := by
  have e := put_N w (i := 100) (k := j) (by rw [sh_100]) (by decide) (by rw [sh_100]; decide) hk y
  rw [sh_100] at e
  rw [e]
  dsimp only
  rw [if_neg (by omega)]
theorem qco_100 (w : WF h) (hj : 12 ≤ j) (hk : j < 2147483648) : mX11_cell [.ref 100, .int (N j)] h = some (.inl (some (.int (N 0))), h) := by
  have e := cell_N w (i := 100) (k := j) (by rw [sh_100]) (by decide) (by rw [sh_100]; decide) hk
  rw [sh_100] at e
  rw [e]
  dsimp only
  rw [if_neg (by omega)]
theorem qf_100 (w : WF h) : mJ7_fill_53178 [.ref 100, .int y] h = some (.inl none, stR h 100 12 (fun _ => y)) := by
  have e := fill_ok w (i := 100) (by rw [sh_100]) (by decide) (by rw [sh_100]; decide) y
  rw [sh_100] at e
  exact e
theorem qA_101 (w : WF h) (hj : j < 12) : i_iaload F L (.int (N j) :: .ref 101 :: S) h = F L (.int (gI h 101 j) :: S) h := by
  have e : ¬ N j < 0 := by rw [lit32, N_lt (by omega) (by omega)]; omega
  rw [r_iaload, N_nat (by omega), if_pos ⟨by rw [sh_101], by rw [w.n]; exact Nat.le_of_ble_eq_true rfl, e, by rw [sh_101]; exact hj⟩]
theorem qS_101 (w : WF h) (hj : j < 12) : i_iastore F L (.int y :: .int (N j) :: .ref 101 :: S) h = F L S (sI h 101 j y) := by
  have e : ¬ N j < 0 := by rw [lit32, N_lt (by omega) (by omega)]; omega
  rw [r_iastore, N_nat (by omega), if_pos ⟨by rw [sh_101], by rw [w.n]; exact Nat.le_of_ble_eq_true rfl, e, by rw [sh_101]; exact hj⟩]
theorem qc_101 (w : WF h) (hj : j < 12) : mX11_cell [.ref 101, .int (N j)] h = some (.inl (some (.int (gI h 101 j))), h) := by
  have e := cell_N w (i := 101) (k := j) (by rw [sh_101]) (by decide) (by rw [sh_101]; decide) (by omega)
  rw [sh_101] at e
  rw [e]
  dsimp only
  rw [if_pos hj]
theorem qp_101 (w : WF h) (hj : j < 12) : mX11_put [.ref 101, .int (N j), .int y] h = some (.inl none, sI h 101 j y) := by
  have e := put_N w (i := 101) (k := j) (by rw [sh_101]) (by decide) (by rw [sh_101]; decide) (by omega) y
  rw [sh_101] at e
  rw [e]
  dsimp only
  rw [if_pos hj]
theorem qpo_101 (w : WF h) (hj : 12 ≤ j) (hk : j < 2147483648) : mX11_put [.ref 101, .int (N j), .int y] h = some (.inl none, h) := by
  have e := put_N w (i := 101) (k := j) (by rw [sh_101]) (by decide) (by rw [sh_101]; decide) hk y
  rw [sh_101] at e
  rw [e]
  dsimp only
  rw [if_neg (by omega)]
theorem qco_101 (w : WF h) (hj : 12 ≤ j) (hk : j < 2147483648) : mX11_cell [.ref 101, .int (N j)] h = some (.inl (some (.int (N 0))), h) := by
  have e := cell_N w (i := 101) (k := j) (by rw [sh_101]) (by decide) (by rw [sh_101]; decide) hk
  rw [sh_101] at e
  rw [e]
  dsimp only
  rw [if_neg (by omega)]
theorem qf_101 (w : WF h) : mJ7_fill_53178 [.ref 101, .int y] h = some (.inl none, stR h 101 12 (fun _ => y)) := by
  have e := fill_ok w (i := 101) (by rw [sh_101]) (by decide) (by rw [sh_101]; decide) y
  rw [sh_101] at e
  exact e
theorem qA_103 (w : WF h) (hj : j < 5) : i_iaload F L (.int (N j) :: .ref 103 :: S) h = F L (.int (gI h 103 j) :: S) h := by
  have e : ¬ N j < 0 := by rw [lit32, N_lt (by omega) (by omega)]; omega
  rw [r_iaload, N_nat (by omega), if_pos ⟨by rw [sh_103], by rw [w.n]; exact Nat.le_of_ble_eq_true rfl, e, by rw [sh_103]; exact hj⟩]
theorem qS_103 (w : WF h) (hj : j < 5) : i_iastore F L (.int y :: .int (N j) :: .ref 103 :: S) h = F L S (sI h 103 j y) := by
  have e : ¬ N j < 0 := by rw [lit32, N_lt (by omega) (by omega)]; omega
  rw [r_iastore, N_nat (by omega), if_pos ⟨by rw [sh_103], by rw [w.n]; exact Nat.le_of_ble_eq_true rfl, e, by rw [sh_103]; exact hj⟩]
theorem qc_103 (w : WF h) (hj : j < 5) : mX11_cell [.ref 103, .int (N j)] h = some (.inl (some (.int (gI h 103 j))), h) := by
  have e := cell_N w (i := 103) (k := j) (by rw [sh_103]) (by decide) (by rw [sh_103]; decide) (by omega)
  rw [sh_103] at e
  rw [e]
  dsimp only
  rw [if_pos hj]
theorem qp_103 (w : WF h) (hj : j < 5) : mX11_put [.ref 103, .int (N j), .int y] h = some (.inl none, sI h 103 j y) := by
  have e := put_N w (i := 103) (k := j) (by rw [sh_103]) (by decide) (by rw [sh_103]; decide) (by omega) y
  rw [sh_103] at e
  rw [e]
  dsimp only
  rw [if_pos hj]
theorem qpo_103 (w : WF h) (hj : 5 ≤ j) (hk : j < 2147483648) : mX11_put [.ref 103, .int (N j), .int y] h = some (.inl none, h) := by
  have e := put_N w (i := 103) (k := j) (by rw [sh_103]) (by decide) (by rw [sh_103]; decide) hk y
  rw [sh_103] at e
  rw [e]
  dsimp only
  rw [if_neg (by omega)]
theorem qco_103 (w : WF h) (hj : 5 ≤ j) (hk : j < 2147483648) : mX11_cell [.ref 103, .int (N j)] h = some (.inl (some (.int (N 0))), h) := by
  have e := cell_N w (i := 103) (k := j) (by rw [sh_103]) (by decide) (by rw [sh_103]; decide) hk
  rw [sh_103] at e
  rw [e]
  dsimp only
  rw [if_neg (by omega)]
theorem qf_103 (w : WF h) : mJ7_fill_53178 [.ref 103, .int y] h = some (.inl none, stR h 103 5 (fun _ => y)) := by
  have e := fill_ok w (i := 103) (by rw [sh_103]) (by decide) (by rw [sh_103]; decide) y
  rw [sh_103] at e
  exact e
theorem qA_104 (w : WF h) (hj : j < 5) : i_iaload F L (.int (N j) :: .ref 104 :: S) h = F L (.int (gI h 104 j) :: S) h := by
  have e : ¬ N j < 0 := by rw [lit32, N_lt (by omega) (by omega)]; omega
  rw [r_iaload, N_nat (by omega), if_pos ⟨by rw [sh_104], by rw [w.n]; exact Nat.le_of_ble_eq_true rfl, e, by rw [sh_104]; exact hj⟩]
theorem qS_104 (w : WF h) (hj : j < 5) : i_iastore F L (.int y :: .int (N j) :: .ref 104 :: S) h = F L S (sI h 104 j y) := by
  have e : ¬ N j < 0 := by rw [lit32, N_lt (by omega) (by omega)]; omega
  rw [r_iastore, N_nat (by omega), if_pos ⟨by rw [sh_104], by rw [w.n]; exact Nat.le_of_ble_eq_true rfl, e, by rw [sh_104]; exact hj⟩]
theorem qc_104 (w : WF h) (hj : j < 5) : mX11_cell [.ref 104, .int (N j)] h = some (.inl (some (.int (gI h 104 j))), h) := by
  have e := cell_N w (i := 104) (k := j) (by rw [sh_104]) (by decide) (by rw [sh_104]; decide) (by omega)
  rw [sh_104] at e
  rw [e]
  dsimp only
  rw [if_pos hj]
theorem qp_104 (w : WF h) (hj : j < 5) : mX11_put [.ref 104, .int (N j), .int y] h = some (.inl none, sI h 104 j y) := by
  have e := put_N w (i := 104) (k := j) (by rw [sh_104]) (by decide) (by rw [sh_104]; decide) (by omega) y
  rw [sh_104] at e
  rw [e]
  dsimp only
  rw [if_pos hj]
theorem qpo_104 (w : WF h) (hj : 5 ≤ j) (hk : j < 2147483648) : mX11_put [.ref 104, .int (N j), .int y] h = some (.inl none, h) := by
  have e := put_N w (i := 104) (k := j) (by rw [sh_104]) (by decide) (by rw [sh_104]; decide) hk y
  rw [sh_104] at e
  rw [e]
  dsimp only
  rw [if_neg (by omega)]
theorem qco_104 (w : WF h) (hj : 5 ≤ j) (hk : j < 2147483648) : mX11_cell [.ref 104, .int (N j)] h = some (.inl (some (.int (N 0))), h) := by
  have e := cell_N w (i := 104) (k := j) (by rw [sh_104]) (by decide) (by rw [sh_104]; decide) hk
  rw [sh_104] at e
  rw [e]
  dsimp only
  rw [if_neg (by omega)]
theorem qf_104 (w : WF h) : mJ7_fill_53178 [.ref 104, .int y] h = some (.inl none, stR h 104 5 (fun _ => y)) := by
  have e := fill_ok w (i := 104) (by rw [sh_104]) (by decide) (by rw [sh_104]; decide) y
  rw [sh_104] at e
  exact e
theorem qA_105 (w : WF h) (hj : j < 15) : i_iaload F L (.int (N j) :: .ref 105 :: S) h = F L (.int (gI h 105 j) :: S) h := by
  have e : ¬ N j < 0 := by rw [lit32, N_lt (by omega) (by omega)]; omega
  rw [r_iaload, N_nat (by omega), if_pos ⟨by rw [sh_105], by rw [w.n]; exact Nat.le_of_ble_eq_true rfl, e, by rw [sh_105]; exact hj⟩]
theorem qS_105 (w : WF h) (hj : j < 15) : i_iastore F L (.int y :: .int (N j) :: .ref 105 :: S) h = F L S (sI h 105 j y) := by
  have e : ¬ N j < 0 := by rw [lit32, N_lt (by omega) (by omega)]; omega
  rw [r_iastore, N_nat (by omega), if_pos ⟨by rw [sh_105], by rw [w.n]; exact Nat.le_of_ble_eq_true rfl, e, by rw [sh_105]; exact hj⟩]
theorem qc_105 (w : WF h) (hj : j < 15) : mX11_cell [.ref 105, .int (N j)] h = some (.inl (some (.int (gI h 105 j))), h) := by
  have e := cell_N w (i := 105) (k := j) (by rw [sh_105]) (by decide) (by rw [sh_105]; decide) (by omega)
  rw [sh_105] at e
  rw [e]
  dsimp only
  rw [if_pos hj]
theorem qp_105 (w : WF h) (hj : j < 15) : mX11_put [.ref 105, .int (N j), .int y] h = some (.inl none, sI h 105 j y) := by
  have e := put_N w (i := 105) (k := j) (by rw [sh_105]) (by decide) (by rw [sh_105]; decide) (by omega) y
  rw [sh_105] at e
  rw [e]
  dsimp only
  rw [if_pos hj]
theorem qpo_105 (w : WF h) (hj : 15 ≤ j) (hk : j < 2147483648) : mX11_put [.ref 105, .int (N j), .int y] h = some (.inl none, h) := by
  have e := put_N w (i := 105) (k := j) (by rw [sh_105]) (by decide) (by rw [sh_105]; decide) hk y
  rw [sh_105] at e
  rw [e]
  dsimp only
  rw [if_neg (by omega)]
theorem qco_105 (w : WF h) (hj : 15 ≤ j) (hk : j < 2147483648) : mX11_cell [.ref 105, .int (N j)] h = some (.inl (some (.int (N 0))), h) := by
  have e := cell_N w (i := 105) (k := j) (by rw [sh_105]) (by decide) (by rw [sh_105]; decide) hk
  rw [sh_105] at e
  rw [e]
  dsimp only
  rw [if_neg (by omega)]
theorem qf_105 (w : WF h) : mJ7_fill_53178 [.ref 105, .int y] h = some (.inl none, stR h 105 15 (fun _ => y)) := by
  have e := fill_ok w (i := 105) (by rw [sh_105]) (by decide) (by rw [sh_105]; decide) y
  rw [sh_105] at e
  exact e
theorem qA_106 (w : WF h) (hj : j < 5) : i_iaload F L (.int (N j) :: .ref 106 :: S) h = F L (.int (gI h 106 j) :: S) h := by
  have e : ¬ N j < 0 := by rw [lit32, N_lt (by omega) (by omega)]; omega
  rw [r_iaload, N_nat (by omega), if_pos ⟨by rw [sh_106], by rw [w.n]; exact Nat.le_of_ble_eq_true rfl, e, by rw [sh_106]; exact hj⟩]
theorem qS_106 (w : WF h) (hj : j < 5) : i_iastore F L (.int y :: .int (N j) :: .ref 106 :: S) h = F L S (sI h 106 j y) := by
  have e : ¬ N j < 0 := by rw [lit32, N_lt (by omega) (by omega)]; omega
  rw [r_iastore, N_nat (by omega), if_pos ⟨by rw [sh_106], by rw [w.n]; exact Nat.le_of_ble_eq_true rfl, e, by rw [sh_106]; exact hj⟩]
theorem qc_106 (w : WF h) (hj : j < 5) : mX11_cell [.ref 106, .int (N j)] h = some (.inl (some (.int (gI h 106 j))), h) := by
  have e := cell_N w (i := 106) (k := j) (by rw [sh_106]) (by decide) (by rw [sh_106]; decide) (by omega)
  rw [sh_106] at e
  rw [e]
  dsimp only
  rw [if_pos hj]
theorem qp_106 (w : WF h) (hj : j < 5) : mX11_put [.ref 106, .int (N j), .int y] h = some (.inl none, sI h 106 j y) := by
  have e := put_N w (i := 106) (k := j) (by rw [sh_106]) (by decide) (by rw [sh_106]; decide) (by omega) y
  rw [sh_106] at e
  rw [e]
  dsimp only
  rw [if_pos hj]
theorem qpo_106 (w : WF h) (hj : 5 ≤ j) (hk : j < 2147483648) : mX11_put [.ref 106, .int (N j), .int y] h = some (.inl none, h) := by
  have e := put_N w (i := 106) (k := j) (by rw [sh_106]) (by decide) (by rw [sh_106]; decide) hk y
  rw [sh_106] at e
  rw [e]
  dsimp only
  rw [if_neg (by omega)]
theorem qco_106 (w : WF h) (hj : 5 ≤ j) (hk : j < 2147483648) : mX11_cell [.ref 106, .int (N j)] h = some (.inl (some (.int (N 0))), h) := by
  have e := cell_N w (i := 106) (k := j) (by rw [sh_106]) (by decide) (by rw [sh_106]; decide) hk
  rw [sh_106] at e
  rw [e]
  dsimp only
  rw [if_neg (by omega)]
theorem qf_106 (w : WF h) : mJ7_fill_53178 [.ref 106, .int y] h = some (.inl none, stR h 106 5 (fun _ => y)) := by
  have e := fill_ok w (i := 106) (by rw [sh_106]) (by decide) (by rw [sh_106]; decide) y
  rw [sh_106] at e
  exact e
theorem qA_107 (w : WF h) (hj : j < 5) : i_iaload F L (.int (N j) :: .ref 107 :: S) h = F L (.int (gI h 107 j) :: S) h := by
  have e : ¬ N j < 0 := by rw [lit32, N_lt (by omega) (by omega)]; omega
  rw [r_iaload, N_nat (by omega), if_pos ⟨by rw [sh_107], by rw [w.n]; exact Nat.le_of_ble_eq_true rfl, e, by rw [sh_107]; exact hj⟩]
theorem qS_107 (w : WF h) (hj : j < 5) : i_iastore F L (.int y :: .int (N j) :: .ref 107 :: S) h = F L S (sI h 107 j y) := by
  have e : ¬ N j < 0 := by rw [lit32, N_lt (by omega) (by omega)]; omega
  rw [r_iastore, N_nat (by omega), if_pos ⟨by rw [sh_107], by rw [w.n]; exact Nat.le_of_ble_eq_true rfl, e, by rw [sh_107]; exact hj⟩]
theorem qc_107 (w : WF h) (hj : j < 5) : mX11_cell [.ref 107, .int (N j)] h = some (.inl (some (.int (gI h 107 j))), h) := by
  have e := cell_N w (i := 107) (k := j) (by rw [sh_107]) (by decide) (by rw [sh_107]; decide) (by omega)
  rw [sh_107] at e
  rw [e]
  dsimp only
  rw [if_pos hj]
theorem qp_107 (w : WF h) (hj : j < 5) : mX11_put [.ref 107, .int (N j), .int y] h = some (.inl none, sI h 107 j y) := by
  have e := put_N w (i := 107) (k := j) (by rw [sh_107]) (by decide) (by rw [sh_107]; decide) (by omega) y
  rw [sh_107] at e
  rw [e]
  dsimp only
  rw [if_pos hj]
theorem qpo_107 (w : WF h) (hj : 5 ≤ j) (hk : j < 2147483648) : mX11_put [.ref 107, .int (N j), .int y] h = some (.inl none, h) := by
  have e := put_N w (i := 107) (k := j) (by rw [sh_107]) (by decide) (by rw [sh_107]; decide) hk y
  rw [sh_107] at e
  rw [e]
  dsimp only
  rw [if_neg (by omega)]
theorem qco_107 (w : WF h) (hj : 5 ≤ j) (hk : j < 2147483648) : mX11_cell [.ref 107, .int (N j)] h = some (.inl (some (.int (N 0))), h) := by
  have e := cell_N w (i := 107) (k := j) (by rw [sh_107]) (by decide) (by rw [sh_107]; decide) hk
  rw [sh_107] at e
  rw [e]
  dsimp only
  rw [if_neg (by omega)]
theorem qf_107 (w : WF h) : mJ7_fill_53178 [.ref 107, .int y] h = some (.inl none, stR h 107 5 (fun _ => y)) := by
  have e := fill_ok w (i := 107) (by rw [sh_107]) (by decide) (by rw [sh_107]; decide) y
  rw [sh_107] at e
  exact e
theorem qA_108 (w : WF h) (hj : j < 5) : i_iaload F L (.int (N j) :: .ref 108 :: S) h = F L (.int (gI h 108 j) :: S) h := by
  have e : ¬ N j < 0 := by rw [lit32, N_lt (by omega) (by omega)]; omega
  rw [r_iaload, N_nat (by omega), if_pos ⟨by rw [sh_108], by rw [w.n]; exact Nat.le_of_ble_eq_true rfl, e, by rw [sh_108]; exact hj⟩]
theorem qS_108 (w : WF h) (hj : j < 5) : i_iastore F L (.int y :: .int (N j) :: .ref 108 :: S) h = F L S (sI h 108 j y) := by
  have e : ¬ N j < 0 := by rw [lit32, N_lt (by omega) (by omega)]; omega
  rw [r_iastore, N_nat (by omega), if_pos ⟨by rw [sh_108], by rw [w.n]; exact Nat.le_of_ble_eq_true rfl, e, by rw [sh_108]; exact hj⟩]
theorem qc_108 (w : WF h) (hj : j < 5) : mX11_cell [.ref 108, .int (N j)] h = some (.inl (some (.int (gI h 108 j))), h) := by
  have e := cell_N w (i := 108) (k := j) (by rw [sh_108]) (by decide) (by rw [sh_108]; decide) (by omega)
  rw [sh_108] at e
  rw [e]
  dsimp only
  rw [if_pos hj]
theorem qp_108 (w : WF h) (hj : j < 5) : mX11_put [.ref 108, .int (N j), .int y] h = some (.inl none, sI h 108 j y) := by
  have e := put_N w (i := 108) (k := j) (by rw [sh_108]) (by decide) (by rw [sh_108]; decide) (by omega) y
  rw [sh_108] at e
  rw [e]
  dsimp only
  rw [if_pos hj]
theorem qpo_108 (w : WF h) (hj : 5 ≤ j) (hk : j < 2147483648) : mX11_put [.ref 108, .int (N j), .int y] h = some (.inl none, h) := by
  have e := put_N w (i := 108) (k := j) (by rw [sh_108]) (by decide) (by rw [sh_108]; decide) hk y
  rw [sh_108] at e
  rw [e]
  dsimp only
  rw [if_neg (by omega)]
theorem qco_108 (w : WF h) (hj : 5 ≤ j) (hk : j < 2147483648) : mX11_cell [.ref 108, .int (N j)] h = some (.inl (some (.int (N 0))), h) := by
  have e := cell_N w (i := 108) (k := j) (by rw [sh_108]) (by decide) (by rw [sh_108]; decide) hk
  rw [sh_108] at e
  rw [e]
  dsimp only
  rw [if_neg (by omega)]
theorem qf_108 (w : WF h) : mJ7_fill_53178 [.ref 108, .int y] h = some (.inl none, stR h 108 5 (fun _ => y)) := by
  have e := fill_ok w (i := 108) (by rw [sh_108]) (by decide) (by rw [sh_108]; decide) y
  rw [sh_108] at e
  exact e
theorem qA_109 (w : WF h) (hj : j < 5) : i_iaload F L (.int (N j) :: .ref 109 :: S) h = F L (.int (gI h 109 j) :: S) h := by
  have e : ¬ N j < 0 := by rw [lit32, N_lt (by omega) (by omega)]; omega
  rw [r_iaload, N_nat (by omega), if_pos ⟨by rw [sh_109], by rw [w.n]; exact Nat.le_of_ble_eq_true rfl, e, by rw [sh_109]; exact hj⟩]
theorem qS_109 (w : WF h) (hj : j < 5) : i_iastore F L (.int y :: .int (N j) :: .ref 109 :: S) h = F L S (sI h 109 j y) := by
  have e : ¬ N j < 0 := by rw [lit32, N_lt (by omega) (by omega)]; omega
  rw [r_iastore, N_nat (by omega), if_pos ⟨by rw [sh_109], by rw [w.n]; exact Nat.le_of_ble_eq_true rfl, e, by rw [sh_109]; exact hj⟩]
theorem qc_109 (w : WF h) (hj : j < 5) : mX11_cell [.ref 109, .int (N j)] h = some (.inl (some (.int (gI h 109 j))), h) := by
  have e := cell_N w (i := 109) (k := j) (by rw [sh_109]) (by decide) (by rw [sh_109]; decide) (by omega)
  rw [sh_109] at e
  rw [e]
  dsimp only
  rw [if_pos hj]
theorem qp_109 (w : WF h) (hj : j < 5) : mX11_put [.ref 109, .int (N j), .int y] h = some (.inl none, sI h 109 j y) := by
  have e := put_N w (i := 109) (k := j) (by rw [sh_109]) (by decide) (by rw [sh_109]; decide) (by omega) y
  rw [sh_109] at e
  rw [e]
  dsimp only
  rw [if_pos hj]
theorem qpo_109 (w : WF h) (hj : 5 ≤ j) (hk : j < 2147483648) : mX11_put [.ref 109, .int (N j), .int y] h = some (.inl none, h) := by
  have e := put_N w (i := 109) (k := j) (by rw [sh_109]) (by decide) (by rw [sh_109]; decide) hk y
  rw [sh_109] at e
  rw [e]
  dsimp only
  rw [if_neg (by omega)]
theorem qco_109 (w : WF h) (hj : 5 ≤ j) (hk : j < 2147483648) : mX11_cell [.ref 109, .int (N j)] h = some (.inl (some (.int (N 0))), h) := by
  have e := cell_N w (i := 109) (k := j) (by rw [sh_109]) (by decide) (by rw [sh_109]; decide) hk
  rw [sh_109] at e
  rw [e]
  dsimp only
  rw [if_neg (by omega)]
theorem qf_109 (w : WF h) : mJ7_fill_53178 [.ref 109, .int y] h = some (.inl none, stR h 109 5 (fun _ => y)) := by
  have e := fill_ok w (i := 109) (by rw [sh_109]) (by decide) (by rw [sh_109]; decide) y
  rw [sh_109] at e
  exact e
theorem qA_110 (w : WF h) (hj : j < 220) : i_iaload F L (.int (N j) :: .ref 110 :: S) h = F L (.int (gI h 110 j) :: S) h := by
  have e : ¬ N j < 0 := by rw [lit32, N_lt (by omega) (by omega)]; omega
  rw [r_iaload, N_nat (by omega), if_pos ⟨by rw [sh_110], by rw [w.n]; exact Nat.le_of_ble_eq_true rfl, e, by rw [sh_110]; exact hj⟩]
theorem qS_110 (w : WF h) (hj : j < 220) : i_iastore F L (.int y :: .int (N j) :: .ref 110 :: S) h = F L S (sI h 110 j y) := by
  have e : ¬ N j < 0 := by rw [lit32, N_lt (by omega) (by omega)]; omega
  rw [r_iastore, N_nat (by omega), if_pos ⟨by rw [sh_110], by rw [w.n]; exact Nat.le_of_ble_eq_true rfl, e, by rw [sh_110]; exact hj⟩]
theorem qc_110 (w : WF h) (hj : j < 220) : mX11_cell [.ref 110, .int (N j)] h = some (.inl (some (.int (gI h 110 j))), h) := by
  have e := cell_N w (i := 110) (k := j) (by rw [sh_110]) (by decide) (by rw [sh_110]; decide) (by omega)
  rw [sh_110] at e
  rw [e]
  dsimp only
  rw [if_pos hj]
theorem qp_110 (w : WF h) (hj : j < 220) : mX11_put [.ref 110, .int (N j), .int y] h = some (.inl none, sI h 110 j y) := by
  have e := put_N w (i := 110) (k := j) (by rw [sh_110]) (by decide) (by rw [sh_110]; decide) (by omega) y
  rw [sh_110] at e
  rw [e]
  dsimp only
  rw [if_pos hj]
theorem qpo_110 (w : WF h) (hj : 220 ≤ j) (hk : j < 2147483648) : mX11_put [.ref 110, .int (N j), .int y] h = some (.inl none, h) := by
  have e := put_N w (i := 110) (k := j) (by rw [sh_110]) (by decide) (by rw [sh_110]; decide) hk y
  rw [sh_110] at e
  rw [e]
  dsimp only
  rw [if_neg (by omega)]
theorem qco_110 (w : WF h) (hj : 220 ≤ j) (hk : j < 2147483648) : mX11_cell [.ref 110, .int (N j)] h = some (.inl (some (.int (N 0))), h) := by
  have e := cell_N w (i := 110) (k := j) (by rw [sh_110]) (by decide) (by rw [sh_110]; decide) hk
  rw [sh_110] at e
  rw [e]
  dsimp only
  rw [if_neg (by omega)]
theorem qf_110 (w : WF h) : mJ7_fill_53178 [.ref 110, .int y] h = some (.inl none, stR h 110 220 (fun _ => y)) := by
  have e := fill_ok w (i := 110) (by rw [sh_110]) (by decide) (by rw [sh_110]; decide) y
  rw [sh_110] at e
  exact e
theorem qA_112 (w : WF h) (hj : j < 10) : i_iaload F L (.int (N j) :: .ref 112 :: S) h = F L (.int (gI h 112 j) :: S) h := by
  have e : ¬ N j < 0 := by rw [lit32, N_lt (by omega) (by omega)]; omega
  rw [r_iaload, N_nat (by omega), if_pos ⟨by rw [sh_112], by rw [w.n]; exact Nat.le_of_ble_eq_true rfl, e, by rw [sh_112]; exact hj⟩]
theorem qS_112 (w : WF h) (hj : j < 10) : i_iastore F L (.int y :: .int (N j) :: .ref 112 :: S) h = F L S (sI h 112 j y) := by
  have e : ¬ N j < 0 := by rw [lit32, N_lt (by omega) (by omega)]; omega
  rw [r_iastore, N_nat (by omega), if_pos ⟨by rw [sh_112], by rw [w.n]; exact Nat.le_of_ble_eq_true rfl, e, by rw [sh_112]; exact hj⟩]
theorem qc_112 (w : WF h) (hj : j < 10) : mX11_cell [.ref 112, .int (N j)] h = some (.inl (some (.int (gI h 112 j))), h) := by
  have e := cell_N w (i := 112) (k := j) (by rw [sh_112]) (by decide) (by rw [sh_112]; decide) (by omega)
  rw [sh_112] at e
  rw [e]
  dsimp only
  rw [if_pos hj]
theorem qp_112 (w : WF h) (hj : j < 10) : mX11_put [.ref 112, .int (N j), .int y] h = some (.inl none, sI h 112 j y) := by
  have e := put_N w (i := 112) (k := j) (by rw [sh_112]) (by decide) (by rw [sh_112]; decide) (by omega) y
  rw [sh_112] at e
  rw [e]
  dsimp only
  rw [if_pos hj]
theorem qpo_112 (w : WF h) (hj : 10 ≤ j) (hk : j < 2147483648) : mX11_put [.ref 112, .int (N j), .int y] h = some (.inl none, h) := by
  have e := put_N w (i := 112) (k := j) (by rw [sh_112]) (by decide) (by rw [sh_112]; decide) hk y
  rw [sh_112] at e
  rw [e]
  dsimp only
  rw [if_neg (by omega)]
theorem qco_112 (w : WF h) (hj : 10 ≤ j) (hk : j < 2147483648) : mX11_cell [.ref 112, .int (N j)] h = some (.inl (some (.int (N 0))), h) := by
  have e := cell_N w (i := 112) (k := j) (by rw [sh_112]) (by decide) (by rw [sh_112]; decide) hk
  rw [sh_112] at e
  rw [e]
  dsimp only
  rw [if_neg (by omega)]
theorem qf_112 (w : WF h) : mJ7_fill_53178 [.ref 112, .int y] h = some (.inl none, stR h 112 10 (fun _ => y)) := by
  have e := fill_ok w (i := 112) (by rw [sh_112]) (by decide) (by rw [sh_112]; decide) y
  rw [sh_112] at e
  exact e
theorem qA_113 (w : WF h) (hj : j < 1000) : i_iaload F L (.int (N j) :: .ref 113 :: S) h = F L (.int (gI h 113 j) :: S) h := by
  have e : ¬ N j < 0 := by rw [lit32, N_lt (by omega) (by omega)]; omega
  rw [r_iaload, N_nat (by omega), if_pos ⟨by rw [sh_113], by rw [w.n]; exact Nat.le_of_ble_eq_true rfl, e, by rw [sh_113]; exact hj⟩]
theorem qS_113 (w : WF h) (hj : j < 1000) : i_iastore F L (.int y :: .int (N j) :: .ref 113 :: S) h = F L S (sI h 113 j y) := by
  have e : ¬ N j < 0 := by rw [lit32, N_lt (by omega) (by omega)]; omega
  rw [r_iastore, N_nat (by omega), if_pos ⟨by rw [sh_113], by rw [w.n]; exact Nat.le_of_ble_eq_true rfl, e, by rw [sh_113]; exact hj⟩]
theorem qc_113 (w : WF h) (hj : j < 1000) : mX11_cell [.ref 113, .int (N j)] h = some (.inl (some (.int (gI h 113 j))), h) := by
  have e := cell_N w (i := 113) (k := j) (by rw [sh_113]) (by decide) (by rw [sh_113]; decide) (by omega)
  rw [sh_113] at e
  rw [e]
  dsimp only
  rw [if_pos hj]
theorem qp_113 (w : WF h) (hj : j < 1000) : mX11_put [.ref 113, .int (N j), .int y] h = some (.inl none, sI h 113 j y) := by
  have e := put_N w (i := 113) (k := j) (by rw [sh_113]) (by decide) (by rw [sh_113]; decide) (by omega) y
  rw [sh_113] at e
  rw [e]
  dsimp only
  rw [if_pos hj]
theorem qpo_113 (w : WF h) (hj : 1000 ≤ j) (hk : j < 2147483648) : mX11_put [.ref 113, .int (N j), .int y] h = some (.inl none, h) := by
  have e := put_N w (i := 113) (k := j) (by rw [sh_113]) (by decide) (by rw [sh_113]; decide) hk y
  rw [sh_113] at e
  rw [e]
  dsimp only
  rw [if_neg (by omega)]
theorem qco_113 (w : WF h) (hj : 1000 ≤ j) (hk : j < 2147483648) : mX11_cell [.ref 113, .int (N j)] h = some (.inl (some (.int (N 0))), h) := by
  have e := cell_N w (i := 113) (k := j) (by rw [sh_113]) (by decide) (by rw [sh_113]; decide) hk
  rw [sh_113] at e
  rw [e]
  dsimp only
  rw [if_neg (by omega)]
theorem qf_113 (w : WF h) : mJ7_fill_53178 [.ref 113, .int y] h = some (.inl none, stR h 113 1000 (fun _ => y)) := by
  have e := fill_ok w (i := 113) (by rw [sh_113]) (by decide) (by rw [sh_113]; decide) y
  rw [sh_113] at e
  exact e
theorem qA_114 (w : WF h) (hj : j < 144) : i_iaload F L (.int (N j) :: .ref 114 :: S) h = F L (.int (gI h 114 j) :: S) h := by
  have e : ¬ N j < 0 := by rw [lit32, N_lt (by omega) (by omega)]; omega
  rw [r_iaload, N_nat (by omega), if_pos ⟨by rw [sh_114], by rw [w.n]; exact Nat.le_of_ble_eq_true rfl, e, by rw [sh_114]; exact hj⟩]
theorem qS_114 (w : WF h) (hj : j < 144) : i_iastore F L (.int y :: .int (N j) :: .ref 114 :: S) h = F L S (sI h 114 j y) := by
  have e : ¬ N j < 0 := by rw [lit32, N_lt (by omega) (by omega)]; omega
  rw [r_iastore, N_nat (by omega), if_pos ⟨by rw [sh_114], by rw [w.n]; exact Nat.le_of_ble_eq_true rfl, e, by rw [sh_114]; exact hj⟩]
theorem qc_114 (w : WF h) (hj : j < 144) : mX11_cell [.ref 114, .int (N j)] h = some (.inl (some (.int (gI h 114 j))), h) := by
  have e := cell_N w (i := 114) (k := j) (by rw [sh_114]) (by decide) (by rw [sh_114]; decide) (by omega)
  rw [sh_114] at e
  rw [e]
  dsimp only
  rw [if_pos hj]
theorem qp_114 (w : WF h) (hj : j < 144) : mX11_put [.ref 114, .int (N j), .int y] h = some (.inl none, sI h 114 j y) := by
  have e := put_N w (i := 114) (k := j) (by rw [sh_114]) (by decide) (by rw [sh_114]; decide) (by omega) y
  rw [sh_114] at e
  rw [e]
  dsimp only
  rw [if_pos hj]
theorem qpo_114 (w : WF h) (hj : 144 ≤ j) (hk : j < 2147483648) : mX11_put [.ref 114, .int (N j), .int y] h = some (.inl none, h) := by
  have e := put_N w (i := 114) (k := j) (by rw [sh_114]) (by decide) (by rw [sh_114]; decide) hk y
  rw [sh_114] at e
  rw [e]
  dsimp only
  rw [if_neg (by omega)]
theorem qco_114 (w : WF h) (hj : 144 ≤ j) (hk : j < 2147483648) : mX11_cell [.ref 114, .int (N j)] h = some (.inl (some (.int (N 0))), h) := by
  have e := cell_N w (i := 114) (k := j) (by rw [sh_114]) (by decide) (by rw [sh_114]; decide) hk
  rw [sh_114] at e
  rw [e]
  dsimp only
  rw [if_neg (by omega)]
theorem qf_114 (w : WF h) : mJ7_fill_53178 [.ref 114, .int y] h = some (.inl none, stR h 114 144 (fun _ => y)) := by
  have e := fill_ok w (i := 114) (by rw [sh_114]) (by decide) (by rw [sh_114]; decide) y
  rw [sh_114] at e
  exact e
theorem qA_115 (w : WF h) (hj : j < 1024) : i_iaload F L (.int (N j) :: .ref 115 :: S) h = F L (.int (gI h 115 j) :: S) h := by
  have e : ¬ N j < 0 := by rw [lit32, N_lt (by omega) (by omega)]; omega
  rw [r_iaload, N_nat (by omega), if_pos ⟨by rw [sh_115], by rw [w.n]; exact Nat.le_of_ble_eq_true rfl, e, by rw [sh_115]; exact hj⟩]
theorem qS_115 (w : WF h) (hj : j < 1024) : i_iastore F L (.int y :: .int (N j) :: .ref 115 :: S) h = F L S (sI h 115 j y) := by
  have e : ¬ N j < 0 := by rw [lit32, N_lt (by omega) (by omega)]; omega
  rw [r_iastore, N_nat (by omega), if_pos ⟨by rw [sh_115], by rw [w.n]; exact Nat.le_of_ble_eq_true rfl, e, by rw [sh_115]; exact hj⟩]
theorem qc_115 (w : WF h) (hj : j < 1024) : mX11_cell [.ref 115, .int (N j)] h = some (.inl (some (.int (gI h 115 j))), h) := by
  have e := cell_N w (i := 115) (k := j) (by rw [sh_115]) (by decide) (by rw [sh_115]; decide) (by omega)
  rw [sh_115] at e
  rw [e]
  dsimp only
  rw [if_pos hj]
theorem qp_115 (w : WF h) (hj : j < 1024) : mX11_put [.ref 115, .int (N j), .int y] h = some (.inl none, sI h 115 j y) := by
  have e := put_N w (i := 115) (k := j) (by rw [sh_115]) (by decide) (by rw [sh_115]; decide) (by omega) y
  rw [sh_115] at e
  rw [e]
  dsimp only
  rw [if_pos hj]
theorem qpo_115 (w : WF h) (hj : 1024 ≤ j) (hk : j < 2147483648) : mX11_put [.ref 115, .int (N j), .int y] h = some (.inl none, h) := by
  have e := put_N w (i := 115) (k := j) (by rw [sh_115]) (by decide) (by rw [sh_115]; decide) hk y
  rw [sh_115] at e
  rw [e]
  dsimp only
  rw [if_neg (by omega)]
theorem qco_115 (w : WF h) (hj : 1024 ≤ j) (hk : j < 2147483648) : mX11_cell [.ref 115, .int (N j)] h = some (.inl (some (.int (N 0))), h) := by
  have e := cell_N w (i := 115) (k := j) (by rw [sh_115]) (by decide) (by rw [sh_115]; decide) hk
  rw [sh_115] at e
  rw [e]
  dsimp only
  rw [if_neg (by omega)]
theorem qf_115 (w : WF h) : mJ7_fill_53178 [.ref 115, .int y] h = some (.inl none, stR h 115 1024 (fun _ => y)) := by
  have e := fill_ok w (i := 115) (by rw [sh_115]) (by decide) (by rw [sh_115]; decide) y
  rw [sh_115] at e
  exact e
theorem qA_116 (w : WF h) (hj : j < 10) : i_iaload F L (.int (N j) :: .ref 116 :: S) h = F L (.int (gI h 116 j) :: S) h := by
  have e : ¬ N j < 0 := by rw [lit32, N_lt (by omega) (by omega)]; omega
  rw [r_iaload, N_nat (by omega), if_pos ⟨by rw [sh_116], by rw [w.n]; exact Nat.le_of_ble_eq_true rfl, e, by rw [sh_116]; exact hj⟩]
theorem qS_116 (w : WF h) (hj : j < 10) : i_iastore F L (.int y :: .int (N j) :: .ref 116 :: S) h = F L S (sI h 116 j y) := by
  have e : ¬ N j < 0 := by rw [lit32, N_lt (by omega) (by omega)]; omega
  rw [r_iastore, N_nat (by omega), if_pos ⟨by rw [sh_116], by rw [w.n]; exact Nat.le_of_ble_eq_true rfl, e, by rw [sh_116]; exact hj⟩]
theorem qc_116 (w : WF h) (hj : j < 10) : mX11_cell [.ref 116, .int (N j)] h = some (.inl (some (.int (gI h 116 j))), h) := by
  have e := cell_N w (i := 116) (k := j) (by rw [sh_116]) (by decide) (by rw [sh_116]; decide) (by omega)
  rw [sh_116] at e
  rw [e]
  dsimp only
  rw [if_pos hj]
theorem qp_116 (w : WF h) (hj : j < 10) : mX11_put [.ref 116, .int (N j), .int y] h = some (.inl none, sI h 116 j y) := by
  have e := put_N w (i := 116) (k := j) (by rw [sh_116]) (by decide) (by rw [sh_116]; decide) (by omega) y
  rw [sh_116] at e
  rw [e]
  dsimp only
  rw [if_pos hj]
theorem qpo_116 (w : WF h) (hj : 10 ≤ j) (hk : j < 2147483648) : mX11_put [.ref 116, .int (N j), .int y] h = some (.inl none, h) := by
  have e := put_N w (i := 116) (k := j) (by rw [sh_116]) (by decide) (by rw [sh_116]; decide) hk y
  rw [sh_116] at e
  rw [e]
  dsimp only
  rw [if_neg (by omega)]
theorem qco_116 (w : WF h) (hj : 10 ≤ j) (hk : j < 2147483648) : mX11_cell [.ref 116, .int (N j)] h = some (.inl (some (.int (N 0))), h) := by
  have e := cell_N w (i := 116) (k := j) (by rw [sh_116]) (by decide) (by rw [sh_116]; decide) hk
  rw [sh_116] at e
  rw [e]
  dsimp only
  rw [if_neg (by omega)]
theorem qf_116 (w : WF h) : mJ7_fill_53178 [.ref 116, .int y] h = some (.inl none, stR h 116 10 (fun _ => y)) := by
  have e := fill_ok w (i := 116) (by rw [sh_116]) (by decide) (by rw [sh_116]; decide) y
  rw [sh_116] at e
  exact e
theorem qA_117 (w : WF h) (hj : j < 6) : i_iaload F L (.int (N j) :: .ref 117 :: S) h = F L (.int (gI h 117 j) :: S) h := by
  have e : ¬ N j < 0 := by rw [lit32, N_lt (by omega) (by omega)]; omega
  rw [r_iaload, N_nat (by omega), if_pos ⟨by rw [sh_117], by rw [w.n]; exact Nat.le_of_ble_eq_true rfl, e, by rw [sh_117]; exact hj⟩]
theorem qS_117 (w : WF h) (hj : j < 6) : i_iastore F L (.int y :: .int (N j) :: .ref 117 :: S) h = F L S (sI h 117 j y) := by
  have e : ¬ N j < 0 := by rw [lit32, N_lt (by omega) (by omega)]; omega
  rw [r_iastore, N_nat (by omega), if_pos ⟨by rw [sh_117], by rw [w.n]; exact Nat.le_of_ble_eq_true rfl, e, by rw [sh_117]; exact hj⟩]
theorem qc_117 (w : WF h) (hj : j < 6) : mX11_cell [.ref 117, .int (N j)] h = some (.inl (some (.int (gI h 117 j))), h) := by
  have e := cell_N w (i := 117) (k := j) (by rw [sh_117]) (by decide) (by rw [sh_117]; decide) (by omega)
  rw [sh_117] at e
  rw [e]
  dsimp only
  rw [if_pos hj]
theorem qp_117 (w : WF h) (hj : j < 6) : mX11_put [.ref 117, .int (N j), .int y] h = some (.inl none, sI h 117 j y) := by
  have e := put_N w (i := 117) (k := j) (by rw [sh_117]) (by decide) (by rw [sh_117]; decide) (by omega) y
  rw [sh_117] at e
  rw [e]
  dsimp only
  rw [if_pos hj]
theorem qpo_117 (w : WF h) (hj : 6 ≤ j) (hk : j < 2147483648) : mX11_put [.ref 117, .int (N j), .int y] h = some (.inl none, h) := by
  have e := put_N w (i := 117) (k := j) (by rw [sh_117]) (by decide) (by rw [sh_117]; decide) hk y
  rw [sh_117] at e
  rw [e]
  dsimp only
  rw [if_neg (by omega)]
theorem qco_117 (w : WF h) (hj : 6 ≤ j) (hk : j < 2147483648) : mX11_cell [.ref 117, .int (N j)] h = some (.inl (some (.int (N 0))), h) := by
  have e := cell_N w (i := 117) (k := j) (by rw [sh_117]) (by decide) (by rw [sh_117]; decide) hk
  rw [sh_117] at e
  rw [e]
  dsimp only
  rw [if_neg (by omega)]
theorem qf_117 (w : WF h) : mJ7_fill_53178 [.ref 117, .int y] h = some (.inl none, stR h 117 6 (fun _ => y)) := by
  have e := fill_ok w (i := 117) (by rw [sh_117]) (by decide) (by rw [sh_117]; decide) y
  rw [sh_117] at e
  exact e
theorem qA_118 (w : WF h) (hj : j < 5) : i_iaload F L (.int (N j) :: .ref 118 :: S) h = F L (.int (gI h 118 j) :: S) h := by
  have e : ¬ N j < 0 := by rw [lit32, N_lt (by omega) (by omega)]; omega
  rw [r_iaload, N_nat (by omega), if_pos ⟨by rw [sh_118], by rw [w.n]; exact Nat.le_of_ble_eq_true rfl, e, by rw [sh_118]; exact hj⟩]
theorem qS_118 (w : WF h) (hj : j < 5) : i_iastore F L (.int y :: .int (N j) :: .ref 118 :: S) h = F L S (sI h 118 j y) := by
  have e : ¬ N j < 0 := by rw [lit32, N_lt (by omega) (by omega)]; omega
  rw [r_iastore, N_nat (by omega), if_pos ⟨by rw [sh_118], by rw [w.n]; exact Nat.le_of_ble_eq_true rfl, e, by rw [sh_118]; exact hj⟩]
theorem qc_118 (w : WF h) (hj : j < 5) : mX11_cell [.ref 118, .int (N j)] h = some (.inl (some (.int (gI h 118 j))), h) := by
  have e := cell_N w (i := 118) (k := j) (by rw [sh_118]) (by decide) (by rw [sh_118]; decide) (by omega)
  rw [sh_118] at e
  rw [e]
  dsimp only
  rw [if_pos hj]
theorem qp_118 (w : WF h) (hj : j < 5) : mX11_put [.ref 118, .int (N j), .int y] h = some (.inl none, sI h 118 j y) := by
  have e := put_N w (i := 118) (k := j) (by rw [sh_118]) (by decide) (by rw [sh_118]; decide) (by omega) y
  rw [sh_118] at e
  rw [e]
  dsimp only
  rw [if_pos hj]
theorem qpo_118 (w : WF h) (hj : 5 ≤ j) (hk : j < 2147483648) : mX11_put [.ref 118, .int (N j), .int y] h = some (.inl none, h) := by
  have e := put_N w (i := 118) (k := j) (by rw [sh_118]) (by decide) (by rw [sh_118]; decide) hk y
  rw [sh_118] at e
  rw [e]
  dsimp only
  rw [if_neg (by omega)]
theorem qco_118 (w : WF h) (hj : 5 ≤ j) (hk : j < 2147483648) : mX11_cell [.ref 118, .int (N j)] h = some (.inl (some (.int (N 0))), h) := by
  have e := cell_N w (i := 118) (k := j) (by rw [sh_118]) (by decide) (by rw [sh_118]; decide) hk
  rw [sh_118] at e
  rw [e]
  dsimp only
  rw [if_neg (by omega)]
theorem qf_118 (w : WF h) : mJ7_fill_53178 [.ref 118, .int y] h = some (.inl none, stR h 118 5 (fun _ => y)) := by
  have e := fill_ok w (i := 118) (by rw [sh_118]) (by decide) (by rw [sh_118]; decide) y
  rw [sh_118] at e
  exact e
theorem qA_119 (w : WF h) (hj : j < 5) : i_iaload F L (.int (N j) :: .ref 119 :: S) h = F L (.int (gI h 119 j) :: S) h := by
  have e : ¬ N j < 0 := by rw [lit32, N_lt (by omega) (by omega)]; omega
  rw [r_iaload, N_nat (by omega), if_pos ⟨by rw [sh_119], by rw [w.n]; exact Nat.le_of_ble_eq_true rfl, e, by rw [sh_119]; exact hj⟩]
theorem qS_119 (w : WF h) (hj : j < 5) : i_iastore F L (.int y :: .int (N j) :: .ref 119 :: S) h = F L S (sI h 119 j y) := by
  have e : ¬ N j < 0 := by rw [lit32, N_lt (by omega) (by omega)]; omega
  rw [r_iastore, N_nat (by omega), if_pos ⟨by rw [sh_119], by rw [w.n]; exact Nat.le_of_ble_eq_true rfl, e, by rw [sh_119]; exact hj⟩]
theorem qc_119 (w : WF h) (hj : j < 5) : mX11_cell [.ref 119, .int (N j)] h = some (.inl (some (.int (gI h 119 j))), h) := by
  have e := cell_N w (i := 119) (k := j) (by rw [sh_119]) (by decide) (by rw [sh_119]; decide) (by omega)
  rw [sh_119] at e
  rw [e]
  dsimp only
  rw [if_pos hj]
theorem qp_119 (w : WF h) (hj : j < 5) : mX11_put [.ref 119, .int (N j), .int y] h = some (.inl none, sI h 119 j y) := by
  have e := put_N w (i := 119) (k := j) (by rw [sh_119]) (by decide) (by rw [sh_119]; decide) (by omega) y
  rw [sh_119] at e
  rw [e]
  dsimp only
  rw [if_pos hj]
theorem qpo_119 (w : WF h) (hj : 5 ≤ j) (hk : j < 2147483648) : mX11_put [.ref 119, .int (N j), .int y] h = some (.inl none, h) := by
  have e := put_N w (i := 119) (k := j) (by rw [sh_119]) (by decide) (by rw [sh_119]; decide) hk y
  rw [sh_119] at e
  rw [e]
  dsimp only
  rw [if_neg (by omega)]
theorem qco_119 (w : WF h) (hj : 5 ≤ j) (hk : j < 2147483648) : mX11_cell [.ref 119, .int (N j)] h = some (.inl (some (.int (N 0))), h) := by
  have e := cell_N w (i := 119) (k := j) (by rw [sh_119]) (by decide) (by rw [sh_119]; decide) hk
  rw [sh_119] at e
  rw [e]
  dsimp only
  rw [if_neg (by omega)]
theorem qf_119 (w : WF h) : mJ7_fill_53178 [.ref 119, .int y] h = some (.inl none, stR h 119 5 (fun _ => y)) := by
  have e := fill_ok w (i := 119) (by rw [sh_119]) (by decide) (by rw [sh_119]; decide) y
  rw [sh_119] at e
  exact e
theorem qA_120 (w : WF h) (hj : j < 5) : i_iaload F L (.int (N j) :: .ref 120 :: S) h = F L (.int (gI h 120 j) :: S) h := by
  have e : ¬ N j < 0 := by rw [lit32, N_lt (by omega) (by omega)]; omega
  rw [r_iaload, N_nat (by omega), if_pos ⟨by rw [sh_120], by rw [w.n]; exact Nat.le_of_ble_eq_true rfl, e, by rw [sh_120]; exact hj⟩]
theorem qS_120 (w : WF h) (hj : j < 5) : i_iastore F L (.int y :: .int (N j) :: .ref 120 :: S) h = F L S (sI h 120 j y) := by
  have e : ¬ N j < 0 := by rw [lit32, N_lt (by omega) (by omega)]; omega
  rw [r_iastore, N_nat (by omega), if_pos ⟨by rw [sh_120], by rw [w.n]; exact Nat.le_of_ble_eq_true rfl, e, by rw [sh_120]; exact hj⟩]
theorem qc_120 (w : WF h) (hj : j < 5) : mX11_cell [.ref 120, .int (N j)] h = some (.inl (some (.int (gI h 120 j))), h) := by
  have e := cell_N w (i := 120) (k := j) (by rw [sh_120]) (by decide) (by rw [sh_120]; decide) (by omega)
  rw [sh_120] at e
  rw [e]
  dsimp only
  rw [if_pos hj]
theorem qp_120 (w : WF h) (hj : j < 5) : mX11_put [.ref 120, .int (N j), .int y] h = some (.inl none, sI h 120 j y) := by
  have e := put_N w (i := 120) (k := j) (by rw [sh_120]) (by decide) (by rw [sh_120]; decide) (by omega) y
  rw [sh_120] at e
  rw [e]
  dsimp only
  rw [if_pos hj]
theorem qpo_120 (w : WF h) (hj : 5 ≤ j) (hk : j < 2147483648) : mX11_put [.ref 120, .int (N j), .int y] h = some (.inl none, h) := by
  have e := put_N w (i := 120) (k := j) (by rw [sh_120]) (by decide) (by rw [sh_120]; decide) hk y
  rw [sh_120] at e
  rw [e]
  dsimp only
  rw [if_neg (by omega)]
theorem qco_120 (w : WF h) (hj : 5 ≤ j) (hk : j < 2147483648) : mX11_cell [.ref 120, .int (N j)] h = some (.inl (some (.int (N 0))), h) := by
  have e := cell_N w (i := 120) (k := j) (by rw [sh_120]) (by decide) (by rw [sh_120]; decide) hk
  rw [sh_120] at e
  rw [e]
  dsimp only
  rw [if_neg (by omega)]
theorem qf_120 (w : WF h) : mJ7_fill_53178 [.ref 120, .int y] h = some (.inl none, stR h 120 5 (fun _ => y)) := by
  have e := fill_ok w (i := 120) (by rw [sh_120]) (by decide) (by rw [sh_120]; decide) y
  rw [sh_120] at e
  exact e
theorem qA_121 (w : WF h) (hj : j < 5) : i_iaload F L (.int (N j) :: .ref 121 :: S) h = F L (.int (gI h 121 j) :: S) h := by
  have e : ¬ N j < 0 := by rw [lit32, N_lt (by omega) (by omega)]; omega
  rw [r_iaload, N_nat (by omega), if_pos ⟨by rw [sh_121], by rw [w.n]; exact Nat.le_of_ble_eq_true rfl, e, by rw [sh_121]; exact hj⟩]
theorem qS_121 (w : WF h) (hj : j < 5) : i_iastore F L (.int y :: .int (N j) :: .ref 121 :: S) h = F L S (sI h 121 j y) := by
  have e : ¬ N j < 0 := by rw [lit32, N_lt (by omega) (by omega)]; omega
  rw [r_iastore, N_nat (by omega), if_pos ⟨by rw [sh_121], by rw [w.n]; exact Nat.le_of_ble_eq_true rfl, e, by rw [sh_121]; exact hj⟩]
theorem qc_121 (w : WF h) (hj : j < 5) : mX11_cell [.ref 121, .int (N j)] h = some (.inl (some (.int (gI h 121 j))), h) := by
  have e := cell_N w (i := 121) (k := j) (by rw [sh_121]) (by decide) (by rw [sh_121]; decide) (by omega)
  rw [sh_121] at e
  rw [e]
  dsimp only
  rw [if_pos hj]
theorem qp_121 (w : WF h) (hj : j < 5) : mX11_put [.ref 121, .int (N j), .int y] h = some (.inl none, sI h 121 j y) := by
  have e := put_N w (i := 121) (k := j) (by rw [sh_121]) (by decide) (by rw [sh_121]; decide) (by omega) y
  rw [sh_121] at e
  rw [e]
  dsimp only
  rw [if_pos hj]
theorem qpo_121 (w : WF h) (hj : 5 ≤ j) (hk : j < 2147483648) : mX11_put [.ref 121, .int (N j), .int y] h = some (.inl none, h) := by
  have e := put_N w (i := 121) (k := j) (by rw [sh_121]) (by decide) (by rw [sh_121]; decide) hk y
  rw [sh_121] at e
  rw [e]
  dsimp only
  rw [if_neg (by omega)]
theorem qco_121 (w : WF h) (hj : 5 ≤ j) (hk : j < 2147483648) : mX11_cell [.ref 121, .int (N j)] h = some (.inl (some (.int (N 0))), h) := by
  have e := cell_N w (i := 121) (k := j) (by rw [sh_121]) (by decide) (by rw [sh_121]; decide) hk
  rw [sh_121] at e
  rw [e]
  dsimp only
  rw [if_neg (by omega)]
theorem qf_121 (w : WF h) : mJ7_fill_53178 [.ref 121, .int y] h = some (.inl none, stR h 121 5 (fun _ => y)) := by
  have e := fill_ok w (i := 121) (by rw [sh_121]) (by decide) (by rw [sh_121]; decide) y
  rw [sh_121] at e
  exact e
theorem qA_122 (w : WF h) (hj : j < 5) : i_iaload F L (.int (N j) :: .ref 122 :: S) h = F L (.int (gI h 122 j) :: S) h := by
  have e : ¬ N j < 0 := by rw [lit32, N_lt (by omega) (by omega)]; omega
  rw [r_iaload, N_nat (by omega), if_pos ⟨by rw [sh_122], by rw [w.n]; exact Nat.le_of_ble_eq_true rfl, e, by rw [sh_122]; exact hj⟩]
theorem qS_122 (w : WF h) (hj : j < 5) : i_iastore F L (.int y :: .int (N j) :: .ref 122 :: S) h = F L S (sI h 122 j y) := by
  have e : ¬ N j < 0 := by rw [lit32, N_lt (by omega) (by omega)]; omega
  rw [r_iastore, N_nat (by omega), if_pos ⟨by rw [sh_122], by rw [w.n]; exact Nat.le_of_ble_eq_true rfl, e, by rw [sh_122]; exact hj⟩]
theorem qc_122 (w : WF h) (hj : j < 5) : mX11_cell [.ref 122, .int (N j)] h = some (.inl (some (.int (gI h 122 j))), h) := by
  have e := cell_N w (i := 122) (k := j) (by rw [sh_122]) (by decide) (by rw [sh_122]; decide) (by omega)
  rw [sh_122] at e
  rw [e]
  dsimp only
  rw [if_pos hj]
theorem qp_122 (w : WF h) (hj : j < 5) : mX11_put [.ref 122, .int (N j), .int y] h = some (.inl none, sI h 122 j y) := by
  have e := put_N w (i := 122) (k := j) (by rw [sh_122]) (by decide) (by rw [sh_122]; decide) (by omega) y
  rw [sh_122] at e
  rw [e]
  dsimp only
  rw [if_pos hj]
theorem qpo_122 (w : WF h) (hj : 5 ≤ j) (hk : j < 2147483648) : mX11_put [.ref 122, .int (N j), .int y] h = some (.inl none, h) := by
  have e := put_N w (i := 122) (k := j) (by rw [sh_122]) (by decide) (by rw [sh_122]; decide) hk y
  rw [sh_122] at e
  rw [e]
  dsimp only
  rw [if_neg (by omega)]
theorem qco_122 (w : WF h) (hj : 5 ≤ j) (hk : j < 2147483648) : mX11_cell [.ref 122, .int (N j)] h = some (.inl (some (.int (N 0))), h) := by
  have e := cell_N w (i := 122) (k := j) (by rw [sh_122]) (by decide) (by rw [sh_122]; decide) hk
  rw [sh_122] at e
  rw [e]
  dsimp only
  rw [if_neg (by omega)]
theorem qf_122 (w : WF h) : mJ7_fill_53178 [.ref 122, .int y] h = some (.inl none, stR h 122 5 (fun _ => y)) := by
  have e := fill_ok w (i := 122) (by rw [sh_122]) (by decide) (by rw [sh_122]; decide) y
  rw [sh_122] at e
  exact e
theorem qA_123 (w : WF h) (hj : j < 10) : i_iaload F L (.int (N j) :: .ref 123 :: S) h = F L (.int (gI h 123 j) :: S) h := by
  have e : ¬ N j < 0 := by rw [lit32, N_lt (by omega) (by omega)]; omega
  rw [r_iaload, N_nat (by omega), if_pos ⟨by rw [sh_123], by rw [w.n]; exact Nat.le_of_ble_eq_true rfl, e, by rw [sh_123]; exact hj⟩]
theorem qS_123 (w : WF h) (hj : j < 10) : i_iastore F L (.int y :: .int (N j) :: .ref 123 :: S) h = F L S (sI h 123 j y) := by
  have e : ¬ N j < 0 := by rw [lit32, N_lt (by omega) (by omega)]; omega
  rw [r_iastore, N_nat (by omega), if_pos ⟨by rw [sh_123], by rw [w.n]; exact Nat.le_of_ble_eq_true rfl, e, by rw [sh_123]; exact hj⟩]
theorem qc_123 (w : WF h) (hj : j < 10) : mX11_cell [.ref 123, .int (N j)] h = some (.inl (some (.int (gI h 123 j))), h) := by
  have e := cell_N w (i := 123) (k := j) (by rw [sh_123]) (by decide) (by rw [sh_123]; decide) (by omega)
  rw [sh_123] at e
  rw [e]
  dsimp only
  rw [if_pos hj]
theorem qp_123 (w : WF h) (hj : j < 10) : mX11_put [.ref 123, .int (N j), .int y] h = some (.inl none, sI h 123 j y) := by
  have e := put_N w (i := 123) (k := j) (by rw [sh_123]) (by decide) (by rw [sh_123]; decide) (by omega) y
  rw [sh_123] at e
  rw [e]
  dsimp only
  rw [if_pos hj]
theorem qpo_123 (w : WF h) (hj : 10 ≤ j) (hk : j < 2147483648) : mX11_put [.ref 123, .int (N j), .int y] h = some (.inl none, h) := by
  have e := put_N w (i := 123) (k := j) (by rw [sh_123]) (by decide) (by rw [sh_123]; decide) hk y
  rw [sh_123] at e
  rw [e]
  dsimp only
  rw [if_neg (by omega)]
theorem qco_123 (w : WF h) (hj : 10 ≤ j) (hk : j < 2147483648) : mX11_cell [.ref 123, .int (N j)] h = some (.inl (some (.int (N 0))), h) := by
  have e := cell_N w (i := 123) (k := j) (by rw [sh_123]) (by decide) (by rw [sh_123]; decide) hk
  rw [sh_123] at e
  rw [e]
  dsimp only
  rw [if_neg (by omega)]
theorem qf_123 (w : WF h) : mJ7_fill_53178 [.ref 123, .int y] h = some (.inl none, stR h 123 10 (fun _ => y)) := by
  have e := fill_ok w (i := 123) (by rw [sh_123]) (by decide) (by rw [sh_123]; decide) y
  rw [sh_123] at e
  exact e
theorem qA_124 (w : WF h) (hj : j < 48) : i_iaload F L (.int (N j) :: .ref 124 :: S) h = F L (.int (gI h 124 j) :: S) h := by
  have e : ¬ N j < 0 := by rw [lit32, N_lt (by omega) (by omega)]; omega
  rw [r_iaload, N_nat (by omega), if_pos ⟨by rw [sh_124], by rw [w.n]; exact Nat.le_of_ble_eq_true rfl, e, by rw [sh_124]; exact hj⟩]
theorem qS_124 (w : WF h) (hj : j < 48) : i_iastore F L (.int y :: .int (N j) :: .ref 124 :: S) h = F L S (sI h 124 j y) := by
  have e : ¬ N j < 0 := by rw [lit32, N_lt (by omega) (by omega)]; omega
  rw [r_iastore, N_nat (by omega), if_pos ⟨by rw [sh_124], by rw [w.n]; exact Nat.le_of_ble_eq_true rfl, e, by rw [sh_124]; exact hj⟩]
theorem qc_124 (w : WF h) (hj : j < 48) : mX11_cell [.ref 124, .int (N j)] h = some (.inl (some (.int (gI h 124 j))), h) := by
  have e := cell_N w (i := 124) (k := j) (by rw [sh_124]) (by decide) (by rw [sh_124]; decide) (by omega)
  rw [sh_124] at e
  rw [e]
  dsimp only
  rw [if_pos hj]
theorem qp_124 (w : WF h) (hj : j < 48) : mX11_put [.ref 124, .int (N j), .int y] h = some (.inl none, sI h 124 j y) := by
  have e := put_N w (i := 124) (k := j) (by rw [sh_124]) (by decide) (by rw [sh_124]; decide) (by omega) y
  rw [sh_124] at e
  rw [e]
  dsimp only
  rw [if_pos hj]
theorem qpo_124 (w : WF h) (hj : 48 ≤ j) (hk : j < 2147483648) : mX11_put [.ref 124, .int (N j), .int y] h = some (.inl none, h) := by
  have e := put_N w (i := 124) (k := j) (by rw [sh_124]) (by decide) (by rw [sh_124]; decide) hk y
  rw [sh_124] at e
  rw [e]
  dsimp only
  rw [if_neg (by omega)]
theorem qco_124 (w : WF h) (hj : 48 ≤ j) (hk : j < 2147483648) : mX11_cell [.ref 124, .int (N j)] h = some (.inl (some (.int (N 0))), h) := by
  have e := cell_N w (i := 124) (k := j) (by rw [sh_124]) (by decide) (by rw [sh_124]; decide) hk
  rw [sh_124] at e
  rw [e]
  dsimp only
  rw [if_neg (by omega)]
theorem qf_124 (w : WF h) : mJ7_fill_53178 [.ref 124, .int y] h = some (.inl none, stR h 124 48 (fun _ => y)) := by
  have e := fill_ok w (i := 124) (by rw [sh_124]) (by decide) (by rw [sh_124]; decide) y
  rw [sh_124] at e
  exact e
theorem qA_125 (w : WF h) (hj : j < 48) : i_iaload F L (.int (N j) :: .ref 125 :: S) h = F L (.int (gI h 125 j) :: S) h := by
  have e : ¬ N j < 0 := by rw [lit32, N_lt (by omega) (by omega)]; omega
  rw [r_iaload, N_nat (by omega), if_pos ⟨by rw [sh_125], by rw [w.n]; exact Nat.le_of_ble_eq_true rfl, e, by rw [sh_125]; exact hj⟩]
theorem qS_125 (w : WF h) (hj : j < 48) : i_iastore F L (.int y :: .int (N j) :: .ref 125 :: S) h = F L S (sI h 125 j y) := by
  have e : ¬ N j < 0 := by rw [lit32, N_lt (by omega) (by omega)]; omega
  rw [r_iastore, N_nat (by omega), if_pos ⟨by rw [sh_125], by rw [w.n]; exact Nat.le_of_ble_eq_true rfl, e, by rw [sh_125]; exact hj⟩]
theorem qc_125 (w : WF h) (hj : j < 48) : mX11_cell [.ref 125, .int (N j)] h = some (.inl (some (.int (gI h 125 j))), h) := by
  have e := cell_N w (i := 125) (k := j) (by rw [sh_125]) (by decide) (by rw [sh_125]; decide) (by omega)
  rw [sh_125] at e
  rw [e]
  dsimp only
  rw [if_pos hj]
theorem qp_125 (w : WF h) (hj : j < 48) : mX11_put [.ref 125, .int (N j), .int y] h = some (.inl none, sI h 125 j y) := by
  have e := put_N w (i := 125) (k := j) (by rw [sh_125]) (by decide) (by rw [sh_125]; decide) (by omega) y
  rw [sh_125] at e
  rw [e]
  dsimp only
  rw [if_pos hj]
theorem qpo_125 (w : WF h) (hj : 48 ≤ j) (hk : j < 2147483648) : mX11_put [.ref 125, .int (N j), .int y] h = some (.inl none, h) := by
  have e := put_N w (i := 125) (k := j) (by rw [sh_125]) (by decide) (by rw [sh_125]; decide) hk y
  rw [sh_125] at e
  rw [e]
  dsimp only
  rw [if_neg (by omega)]
theorem qco_125 (w : WF h) (hj : 48 ≤ j) (hk : j < 2147483648) : mX11_cell [.ref 125, .int (N j)] h = some (.inl (some (.int (N 0))), h) := by
  have e := cell_N w (i := 125) (k := j) (by rw [sh_125]) (by decide) (by rw [sh_125]; decide) hk
  rw [sh_125] at e
  rw [e]
  dsimp only
  rw [if_neg (by omega)]
theorem qf_125 (w : WF h) : mJ7_fill_53178 [.ref 125, .int y] h = some (.inl none, stR h 125 48 (fun _ => y)) := by
  have e := fill_ok w (i := 125) (by rw [sh_125]) (by decide) (by rw [sh_125]; decide) y
  rw [sh_125] at e
  exact e
theorem qA_126 (w : WF h) (hj : j < 48) : i_iaload F L (.int (N j) :: .ref 126 :: S) h = F L (.int (gI h 126 j) :: S) h := by
  have e : ¬ N j < 0 := by rw [lit32, N_lt (by omega) (by omega)]; omega
  rw [r_iaload, N_nat (by omega), if_pos ⟨by rw [sh_126], by rw [w.n]; exact Nat.le_of_ble_eq_true rfl, e, by rw [sh_126]; exact hj⟩]
theorem qS_126 (w : WF h) (hj : j < 48) : i_iastore F L (.int y :: .int (N j) :: .ref 126 :: S) h = F L S (sI h 126 j y) := by
  have e : ¬ N j < 0 := by rw [lit32, N_lt (by omega) (by omega)]; omega
  rw [r_iastore, N_nat (by omega), if_pos ⟨by rw [sh_126], by rw [w.n]; exact Nat.le_of_ble_eq_true rfl, e, by rw [sh_126]; exact hj⟩]
theorem qc_126 (w : WF h) (hj : j < 48) : mX11_cell [.ref 126, .int (N j)] h = some (.inl (some (.int (gI h 126 j))), h) := by
  have e := cell_N w (i := 126) (k := j) (by rw [sh_126]) (by decide) (by rw [sh_126]; decide) (by omega)
  rw [sh_126] at e
  rw [e]
  dsimp only
  rw [if_pos hj]
theorem qp_126 (w : WF h) (hj : j < 48) : mX11_put [.ref 126, .int (N j), .int y] h = some (.inl none, sI h 126 j y) := by
  have e := put_N w (i := 126) (k := j) (by rw [sh_126]) (by decide) (by rw [sh_126]; decide) (by omega) y
  rw [sh_126] at e
  rw [e]
  dsimp only
  rw [if_pos hj]
theorem qpo_126 (w : WF h) (hj : 48 ≤ j) (hk : j < 2147483648) : mX11_put [.ref 126, .int (N j), .int y] h = some (.inl none, h) := by
  have e := put_N w (i := 126) (k := j) (by rw [sh_126]) (by decide) (by rw [sh_126]; decide) hk y
  rw [sh_126] at e
  rw [e]
  dsimp only
  rw [if_neg (by omega)]
theorem qco_126 (w : WF h) (hj : 48 ≤ j) (hk : j < 2147483648) : mX11_cell [.ref 126, .int (N j)] h = some (.inl (some (.int (N 0))), h) := by
  have e := cell_N w (i := 126) (k := j) (by rw [sh_126]) (by decide) (by rw [sh_126]; decide) hk
  rw [sh_126] at e
  rw [e]
  dsimp only
  rw [if_neg (by omega)]
theorem qf_126 (w : WF h) : mJ7_fill_53178 [.ref 126, .int y] h = some (.inl none, stR h 126 48 (fun _ => y)) := by
  have e := fill_ok w (i := 126) (by rw [sh_126]) (by decide) (by rw [sh_126]; decide) y
  rw [sh_126] at e
  exact e
theorem qA_127 (w : WF h) (hj : j < 48) : i_iaload F L (.int (N j) :: .ref 127 :: S) h = F L (.int (gI h 127 j) :: S) h := by
  have e : ¬ N j < 0 := by rw [lit32, N_lt (by omega) (by omega)]; omega
  rw [r_iaload, N_nat (by omega), if_pos ⟨by rw [sh_127], by rw [w.n]; exact Nat.le_of_ble_eq_true rfl, e, by rw [sh_127]; exact hj⟩]
theorem qS_127 (w : WF h) (hj : j < 48) : i_iastore F L (.int y :: .int (N j) :: .ref 127 :: S) h = F L S (sI h 127 j y) := by
  have e : ¬ N j < 0 := by rw [lit32, N_lt (by omega) (by omega)]; omega
  rw [r_iastore, N_nat (by omega), if_pos ⟨by rw [sh_127], by rw [w.n]; exact Nat.le_of_ble_eq_true rfl, e, by rw [sh_127]; exact hj⟩]
theorem qc_127 (w : WF h) (hj : j < 48) : mX11_cell [.ref 127, .int (N j)] h = some (.inl (some (.int (gI h 127 j))), h) := by
  have e := cell_N w (i := 127) (k := j) (by rw [sh_127]) (by decide) (by rw [sh_127]; decide) (by omega)
  rw [sh_127] at e
  rw [e]
  dsimp only
  rw [if_pos hj]
theorem qp_127 (w : WF h) (hj : j < 48) : mX11_put [.ref 127, .int (N j), .int y] h = some (.inl none, sI h 127 j y) := by
  have e := put_N w (i := 127) (k := j) (by rw [sh_127]) (by decide) (by rw [sh_127]; decide) (by omega) y
  rw [sh_127] at e
  rw [e]
  dsimp only
  rw [if_pos hj]
theorem qpo_127 (w : WF h) (hj : 48 ≤ j) (hk : j < 2147483648) : mX11_put [.ref 127, .int (N j), .int y] h = some (.inl none, h) := by
  have e := put_N w (i := 127) (k := j) (by rw [sh_127]) (by decide) (by rw [sh_127]; decide) hk y
  rw [sh_127] at e
  rw [e]
  dsimp only
  rw [if_neg (by omega)]
theorem qco_127 (w : WF h) (hj : 48 ≤ j) (hk : j < 2147483648) : mX11_cell [.ref 127, .int (N j)] h = some (.inl (some (.int (N 0))), h) := by
  have e := cell_N w (i := 127) (k := j) (by rw [sh_127]) (by decide) (by rw [sh_127]; decide) hk
  rw [sh_127] at e
  rw [e]
  dsimp only
  rw [if_neg (by omega)]
theorem qf_127 (w : WF h) : mJ7_fill_53178 [.ref 127, .int y] h = some (.inl none, stR h 127 48 (fun _ => y)) := by
  have e := fill_ok w (i := 127) (by rw [sh_127]) (by decide) (by rw [sh_127]; decide) y
  rw [sh_127] at e
  exact e
theorem qA_128 (w : WF h) (hj : j < 64) : i_iaload F L (.int (N j) :: .ref 128 :: S) h = F L (.int (gI h 128 j) :: S) h := by
  have e : ¬ N j < 0 := by rw [lit32, N_lt (by omega) (by omega)]; omega
  rw [r_iaload, N_nat (by omega), if_pos ⟨by rw [sh_128], by rw [w.n]; exact Nat.le_of_ble_eq_true rfl, e, by rw [sh_128]; exact hj⟩]
theorem qS_128 (w : WF h) (hj : j < 64) : i_iastore F L (.int y :: .int (N j) :: .ref 128 :: S) h = F L S (sI h 128 j y) := by
  have e : ¬ N j < 0 := by rw [lit32, N_lt (by omega) (by omega)]; omega
  rw [r_iastore, N_nat (by omega), if_pos ⟨by rw [sh_128], by rw [w.n]; exact Nat.le_of_ble_eq_true rfl, e, by rw [sh_128]; exact hj⟩]
theorem qc_128 (w : WF h) (hj : j < 64) : mX11_cell [.ref 128, .int (N j)] h = some (.inl (some (.int (gI h 128 j))), h) := by
  have e := cell_N w (i := 128) (k := j) (by rw [sh_128]) (by decide) (by rw [sh_128]; decide) (by omega)
  rw [sh_128] at e
  rw [e]
  dsimp only
  rw [if_pos hj]
theorem qp_128 (w : WF h) (hj : j < 64) : mX11_put [.ref 128, .int (N j), .int y] h = some (.inl none, sI h 128 j y) := by
  have e := put_N w (i := 128) (k := j) (by rw [sh_128]) (by decide) (by rw [sh_128]; decide) (by omega) y
  rw [sh_128] at e
  rw [e]
  dsimp only
  rw [if_pos hj]
theorem qpo_128 (w : WF h) (hj : 64 ≤ j) (hk : j < 2147483648) : mX11_put [.ref 128, .int (N j), .int y] h = some (.inl none, h) := by
  have e := put_N w (i := 128) (k := j) (by rw [sh_128]) (by decide) (by rw [sh_128]; decide) hk y
  rw [sh_128] at e
  rw [e]
  dsimp only
  rw [if_neg (by omega)]
theorem qco_128 (w : WF h) (hj : 64 ≤ j) (hk : j < 2147483648) : mX11_cell [.ref 128, .int (N j)] h = some (.inl (some (.int (N 0))), h) := by
  have e := cell_N w (i := 128) (k := j) (by rw [sh_128]) (by decide) (by rw [sh_128]; decide) hk
  rw [sh_128] at e
  rw [e]
  dsimp only
  rw [if_neg (by omega)]
theorem qf_128 (w : WF h) : mJ7_fill_53178 [.ref 128, .int y] h = some (.inl none, stR h 128 64 (fun _ => y)) := by
  have e := fill_ok w (i := 128) (by rw [sh_128]) (by decide) (by rw [sh_128]; decide) y
  rw [sh_128] at e
  exact e
theorem qA_129 (w : WF h) (hj : j < 40) : i_iaload F L (.int (N j) :: .ref 129 :: S) h = F L (.int (gI h 129 j) :: S) h := by
  have e : ¬ N j < 0 := by rw [lit32, N_lt (by omega) (by omega)]; omega
  rw [r_iaload, N_nat (by omega), if_pos ⟨by rw [sh_129], by rw [w.n]; exact Nat.le_of_ble_eq_true rfl, e, by rw [sh_129]; exact hj⟩]
theorem qS_129 (w : WF h) (hj : j < 40) : i_iastore F L (.int y :: .int (N j) :: .ref 129 :: S) h = F L S (sI h 129 j y) := by
  have e : ¬ N j < 0 := by rw [lit32, N_lt (by omega) (by omega)]; omega
  rw [r_iastore, N_nat (by omega), if_pos ⟨by rw [sh_129], by rw [w.n]; exact Nat.le_of_ble_eq_true rfl, e, by rw [sh_129]; exact hj⟩]
theorem qc_129 (w : WF h) (hj : j < 40) : mX11_cell [.ref 129, .int (N j)] h = some (.inl (some (.int (gI h 129 j))), h) := by
  have e := cell_N w (i := 129) (k := j) (by rw [sh_129]) (by decide) (by rw [sh_129]; decide) (by omega)
  rw [sh_129] at e
  rw [e]
  dsimp only
  rw [if_pos hj]
theorem qp_129 (w : WF h) (hj : j < 40) : mX11_put [.ref 129, .int (N j), .int y] h = some (.inl none, sI h 129 j y) := by
  have e := put_N w (i := 129) (k := j) (by rw [sh_129]) (by decide) (by rw [sh_129]; decide) (by omega) y
  rw [sh_129] at e
  rw [e]
  dsimp only
  rw [if_pos hj]
theorem qpo_129 (w : WF h) (hj : 40 ≤ j) (hk : j < 2147483648) : mX11_put [.ref 129, .int (N j), .int y] h = some (.inl none, h) := by
  have e := put_N w (i := 129) (k := j) (by rw [sh_129]) (by decide) (by rw [sh_129]; decide) hk y
  rw [sh_129] at e
  rw [e]
  dsimp only
  rw [if_neg (by omega)]
theorem qco_129 (w : WF h) (hj : 40 ≤ j) (hk : j < 2147483648) : mX11_cell [.ref 129, .int (N j)] h = some (.inl (some (.int (N 0))), h) := by
  have e := cell_N w (i := 129) (k := j) (by rw [sh_129]) (by decide) (by rw [sh_129]; decide) hk
  rw [sh_129] at e
  rw [e]
  dsimp only
  rw [if_neg (by omega)]
theorem qf_129 (w : WF h) : mJ7_fill_53178 [.ref 129, .int y] h = some (.inl none, stR h 129 40 (fun _ => y)) := by
  have e := fill_ok w (i := 129) (by rw [sh_129]) (by decide) (by rw [sh_129]; decide) y
  rw [sh_129] at e
  exact e
theorem qA_130 (w : WF h) (hj : j < 5) : i_iaload F L (.int (N j) :: .ref 130 :: S) h = F L (.int (gI h 130 j) :: S) h := by
  have e : ¬ N j < 0 := by rw [lit32, N_lt (by omega) (by omega)]; omega
  rw [r_iaload, N_nat (by omega), if_pos ⟨by rw [sh_130], by rw [w.n]; exact Nat.le_of_ble_eq_true rfl, e, by rw [sh_130]; exact hj⟩]
theorem qS_130 (w : WF h) (hj : j < 5) : i_iastore F L (.int y :: .int (N j) :: .ref 130 :: S) h = F L S (sI h 130 j y) := by
  have e : ¬ N j < 0 := by rw [lit32, N_lt (by omega) (by omega)]; omega
  rw [r_iastore, N_nat (by omega), if_pos ⟨by rw [sh_130], by rw [w.n]; exact Nat.le_of_ble_eq_true rfl, e, by rw [sh_130]; exact hj⟩]
theorem qc_130 (w : WF h) (hj : j < 5) : mX11_cell [.ref 130, .int (N j)] h = some (.inl (some (.int (gI h 130 j))), h) := by
  have e := cell_N w (i := 130) (k := j) (by rw [sh_130]) (by decide) (by rw [sh_130]; decide) (by omega)
  rw [sh_130] at e
  rw [e]
  dsimp only
  rw [if_pos hj]
theorem qp_130 (w : WF h) (hj : j < 5) : mX11_put [.ref 130, .int (N j), .int y] h = some (.inl none, sI h 130 j y) := by
  have e := put_N w (i := 130) (k := j) (by rw [sh_130]) (by decide) (by rw [sh_130]; decide) (by omega) y
  rw [sh_130] at e
  rw [e]
  dsimp only
  rw [if_pos hj]
theorem qpo_130 (w : WF h) (hj : 5 ≤ j) (hk : j < 2147483648) : mX11_put [.ref 130, .int (N j), .int y] h = some (.inl none, h) := by
  have e := put_N w (i := 130) (k := j) (by rw [sh_130]) (by decide) (by rw [sh_130]; decide) hk y
  rw [sh_130] at e
  rw [e]
  dsimp only
  rw [if_neg (by omega)]
theorem qco_130 (w : WF h) (hj : 5 ≤ j) (hk : j < 2147483648) : mX11_cell [.ref 130, .int (N j)] h = some (.inl (some (.int (N 0))), h) := by
  have e := cell_N w (i := 130) (k := j) (by rw [sh_130]) (by decide) (by rw [sh_130]; decide) hk
  rw [sh_130] at e
  rw [e]
  dsimp only
  rw [if_neg (by omega)]
theorem qf_130 (w : WF h) : mJ7_fill_53178 [.ref 130, .int y] h = some (.inl none, stR h 130 5 (fun _ => y)) := by
  have e := fill_ok w (i := 130) (by rw [sh_130]) (by decide) (by rw [sh_130]; decide) y
  rw [sh_130] at e
  exact e
theorem qA_131 (w : WF h) (hj : j < 5) : i_iaload F L (.int (N j) :: .ref 131 :: S) h = F L (.int (gI h 131 j) :: S) h := by
  have e : ¬ N j < 0 := by rw [lit32, N_lt (by omega) (by omega)]; omega
  rw [r_iaload, N_nat (by omega), if_pos ⟨by rw [sh_131], by rw [w.n]; exact Nat.le_of_ble_eq_true rfl, e, by rw [sh_131]; exact hj⟩]
theorem qS_131 (w : WF h) (hj : j < 5) : i_iastore F L (.int y :: .int (N j) :: .ref 131 :: S) h = F L S (sI h 131 j y) := by
  have e : ¬ N j < 0 := by rw [lit32, N_lt (by omega) (by omega)]; omega
  rw [r_iastore, N_nat (by omega), if_pos ⟨by rw [sh_131], by rw [w.n]; exact Nat.le_of_ble_eq_true rfl, e, by rw [sh_131]; exact hj⟩]
theorem qc_131 (w : WF h) (hj : j < 5) : mX11_cell [.ref 131, .int (N j)] h = some (.inl (some (.int (gI h 131 j))), h) := by
  have e := cell_N w (i := 131) (k := j) (by rw [sh_131]) (by decide) (by rw [sh_131]; decide) (by omega)
  rw [sh_131] at e
  rw [e]
  dsimp only
  rw [if_pos hj]
theorem qp_131 (w : WF h) (hj : j < 5) : mX11_put [.ref 131, .int (N j), .int y] h = some (.inl none, sI h 131 j y) := by
  have e := put_N w (i := 131) (k := j) (by rw [sh_131]) (by decide) (by rw [sh_131]; decide) (by omega) y
  rw [sh_131] at e
  rw [e]
  dsimp only
  rw [if_pos hj]
theorem qpo_131 (w : WF h) (hj : 5 ≤ j) (hk : j < 2147483648) : mX11_put [.ref 131, .int (N j), .int y] h = some (.inl none, h) := by
  have e := put_N w (i := 131) (k := j) (by rw [sh_131]) (by decide) (by rw [sh_131]; decide) hk y
  rw [sh_131] at e
  rw [e]
  dsimp only
  rw [if_neg (by omega)]
theorem qco_131 (w : WF h) (hj : 5 ≤ j) (hk : j < 2147483648) : mX11_cell [.ref 131, .int (N j)] h = some (.inl (some (.int (N 0))), h) := by
  have e := cell_N w (i := 131) (k := j) (by rw [sh_131]) (by decide) (by rw [sh_131]; decide) hk
  rw [sh_131] at e
  rw [e]
  dsimp only
  rw [if_neg (by omega)]
theorem qf_131 (w : WF h) : mJ7_fill_53178 [.ref 131, .int y] h = some (.inl none, stR h 131 5 (fun _ => y)) := by
  have e := fill_ok w (i := 131) (by rw [sh_131]) (by decide) (by rw [sh_131]; decide) y
  rw [sh_131] at e
  exact e
theorem qA_132 (w : WF h) (hj : j < 5) : i_iaload F L (.int (N j) :: .ref 132 :: S) h = F L (.int (gI h 132 j) :: S) h := by
  have e : ¬ N j < 0 := by rw [lit32, N_lt (by omega) (by omega)]; omega
  rw [r_iaload, N_nat (by omega), if_pos ⟨by rw [sh_132], by rw [w.n]; exact Nat.le_of_ble_eq_true rfl, e, by rw [sh_132]; exact hj⟩]
theorem qS_132 (w : WF h) (hj : j < 5) : i_iastore F L (.int y :: .int (N j) :: .ref 132 :: S) h = F L S (sI h 132 j y) := by
  have e : ¬ N j < 0 := by rw [lit32, N_lt (by omega) (by omega)]; omega
  rw [r_iastore, N_nat (by omega), if_pos ⟨by rw [sh_132], by rw [w.n]; exact Nat.le_of_ble_eq_true rfl, e, by rw [sh_132]; exact hj⟩]
theorem qc_132 (w : WF h) (hj : j < 5) : mX11_cell [.ref 132, .int (N j)] h = some (.inl (some (.int (gI h 132 j))), h) := by
  have e := cell_N w (i := 132) (k := j) (by rw [sh_132]) (by decide) (by rw [sh_132]; decide) (by omega)
  rw [sh_132] at e
  rw [e]
  dsimp only
  rw [if_pos hj]
theorem qp_132 (w : WF h) (hj : j < 5) : mX11_put [.ref 132, .int (N j), .int y] h = some (.inl none, sI h 132 j y) := by
  have e := put_N w (i := 132) (k := j) (by rw [sh_132]) (by decide) (by rw [sh_132]; decide) (by omega) y
  rw [sh_132] at e
  rw [e]
  dsimp only
  rw [if_pos hj]
theorem qpo_132 (w : WF h) (hj : 5 ≤ j) (hk : j < 2147483648) : mX11_put [.ref 132, .int (N j), .int y] h = some (.inl none, h) := by
  have e := put_N w (i := 132) (k := j) (by rw [sh_132]) (by decide) (by rw [sh_132]; decide) hk y
  rw [sh_132] at e
  rw [e]
  dsimp only
  rw [if_neg (by omega)]
theorem qco_132 (w : WF h) (hj : 5 ≤ j) (hk : j < 2147483648) : mX11_cell [.ref 132, .int (N j)] h = some (.inl (some (.int (N 0))), h) := by
  have e := cell_N w (i := 132) (k := j) (by rw [sh_132]) (by decide) (by rw [sh_132]; decide) hk
  rw [sh_132] at e
  rw [e]
  dsimp only
  rw [if_neg (by omega)]
theorem qf_132 (w : WF h) : mJ7_fill_53178 [.ref 132, .int y] h = some (.inl none, stR h 132 5 (fun _ => y)) := by
  have e := fill_ok w (i := 132) (by rw [sh_132]) (by decide) (by rw [sh_132]; decide) y
  rw [sh_132] at e
  exact e
theorem qI_B0 (w : WF h) {b : Nat} (hb : b = 8 ∨ b = 29) : i_getI 0 k F L (.ref b :: S) h = F L (.int (gI h b k) :: S) h := by rw [r_getI, if_pos ⟨(shB_0 hb), by rw [w.n]; omega⟩]
theorem qP_B0 (w : WF h) {b : Nat} (hb : b = 8 ∨ b = 29) : i_putI 0 k F L (.int x :: .ref b :: S) h = F L S (sI h b k x) := by rw [r_putI, if_pos ⟨(shB_0 hb), by rw [w.n]; omega⟩]
theorem qV0_B0 (w : WF h) {b : Nat} (hb : b = 8 ∨ b = 29) (hc : cs S ≤ 8) : i_callV 0 0 f F L (.ref b :: S) h = i_after (f [.ref b] h) S F L := by rw [r_callV_0, if_pos ⟨(shB_0 hb), by rw [w.n]; omega, hc⟩]
theorem qV1_B0 (w : WF h) {b : Nat} (hb : b = 8 ∨ b = 29) (hc : cs S ≤ 8) : i_callV 0 1 f F L (v1 :: .ref b :: S) h = i_after (f [.ref b, v1] h) S F L := by rw [r_callV_1, if_pos ⟨(shB_0 hb), by rw [w.n]; omega, hc⟩]
theorem qV2_B0 (w : WF h) {b : Nat} (hb : b = 8 ∨ b = 29) (hc : cs S ≤ 8) : i_callV 0 2 f F L (v2 :: v1 :: .ref b :: S) h = i_after (f [.ref b, v1, v2] h) S F L := by rw [r_callV_2, if_pos ⟨(shB_0 hb), by rw [w.n]; omega, hc⟩]
theorem qV3_B0 (w : WF h) {b : Nat} (hb : b = 8 ∨ b = 29) (hc : cs S ≤ 8) : i_callV 0 3 f F L (v3 :: v2 :: v1 :: .ref b :: S) h = i_after (f [.ref b, v1, v2, v3] h) S F L := by rw [r_callV_3, if_pos ⟨(shB_0 hb), by rw [w.n]; omega, hc⟩]
theorem qV4_B0 (w : WF h) {b : Nat} (hb : b = 8 ∨ b = 29) (hc : cs S ≤ 8) : i_callV 0 4 f F L (v4 :: v3 :: v2 :: v1 :: .ref b :: S) h = i_after (f [.ref b, v1, v2, v3, v4] h) S F L := by rw [r_callV_4, if_pos ⟨(shB_0 hb), by rw [w.n]; omega, hc⟩]
theorem q_B0_0 (w : WF h) {b : Nat} (hb : b = 8 ∨ b = 29) : i_getR 0 0 F L (.ref b :: S) h = F L (.ref (b + 1) :: S) h := by rw [r_getR, if_pos ⟨shB_0 hb, by rw [w.n]; omega⟩, rB_0_0 w hb]; rfl
theorem q_B0_1 (w : WF h) {b : Nat} (hb : b = 8 ∨ b = 29) : i_getR 0 1 F L (.ref b :: S) h = F L (.ref (b + 5) :: S) h := by rw [r_getR, if_pos ⟨shB_0 hb, by rw [w.n]; omega⟩, rB_0_1 w hb]; rfl
theorem q_B0_11 (w : WF h) {b : Nat} (hb : b = 8 ∨ b = 29) : i_getR 0 11 F L (.ref b :: S) h = F L (.ref (b + 15) :: S) h := by rw [r_getR, if_pos ⟨shB_0 hb, by rw [w.n]; omega⟩, rB_0_11 w hb]; rfl
theorem q_B0_12 (w : WF h) {b : Nat} (hb : b = 8 ∨ b = 29) : i_getR 0 12 F L (.ref b :: S) h = F L (.ref (b + 16) :: S) h := by rw [r_getR, if_pos ⟨shB_0 hb, by rw [w.n]; omega⟩, rB_0_12 w hb]; rfl
theorem q_B0_13 (w : WF h) {b : Nat} (hb : b = 8 ∨ b = 29) : i_getR 0 13 F L (.ref b :: S) h = F L (.ref (b + 17) :: S) h := by rw [r_getR, if_pos ⟨shB_0 hb, by rw [w.n]; omega⟩, rB_0_13 w hb]; rfl
theorem q_B0_14 (w : WF h) {b : Nat} (hb : b = 8 ∨ b = 29) : i_getR 0 14 F L (.ref b :: S) h = F L (.ref (b + 18) :: S) h := by rw [r_getR, if_pos ⟨shB_0 hb, by rw [w.n]; omega⟩, rB_0_14 w hb]; rfl
theorem q_B0_15 (w : WF h) {b : Nat} (hb : b = 8 ∨ b = 29) : i_getR 0 15 F L (.ref b :: S) h = F L (.ref (b + 19) :: S) h := by rw [r_getR, if_pos ⟨shB_0 hb, by rw [w.n]; omega⟩, rB_0_15 w hb]; rfl
theorem q_B0_16 (w : WF h) {b : Nat} (hb : b = 8 ∨ b = 29) : i_getR 0 16 F L (.ref b :: S) h = F L (.ref (b + 20) :: S) h := by rw [r_getR, if_pos ⟨shB_0 hb, by rw [w.n]; omega⟩, rB_0_16 w hb]; rfl
theorem qI_B1 (w : WF h) {b : Nat} (hb : b = 8 ∨ b = 29) : i_getI 7 k F L (.ref (b + 1) :: S) h = F L (.int (gI h (b + 1) k) :: S) h := by rw [r_getI, if_pos ⟨(shB_1 hb), by rw [w.n]; omega⟩]
theorem qP_B1 (w : WF h) {b : Nat} (hb : b = 8 ∨ b = 29) : i_putI 7 k F L (.int x :: .ref (b + 1) :: S) h = F L S (sI h (b + 1) k x) := by rw [r_putI, if_pos ⟨(shB_1 hb), by rw [w.n]; omega⟩]
theorem qV0_B1 (w : WF h) {b : Nat} (hb : b = 8 ∨ b = 29) (hc : cs S ≤ 8) : i_callV 7 0 f F L (.ref (b + 1) :: S) h = i_after (f [.ref (b + 1)] h) S F L := by rw [r_callV_0, if_pos ⟨(shB_1 hb), by rw [w.n]; omega, hc⟩]
theorem qV1_B1 (w : WF h) {b : Nat} (hb : b = 8 ∨ b = 29) (hc : cs S ≤ 8) : i_callV 7 1 f F L (v1 :: .ref (b + 1) :: S) h = i_after (f [.ref (b + 1), v1] h) S F L := by rw [r_callV_1, if_pos ⟨(shB_1 hb), by rw [w.n]; omega, hc⟩]
theorem qV2_B1 (w : WF h) {b : Nat} (hb : b = 8 ∨ b = 29) (hc : cs S ≤ 8) : i_callV 7 2 f F L (v2 :: v1 :: .ref (b + 1) :: S) h = i_after (f [.ref (b + 1), v1, v2] h) S F L := by rw [r_callV_2, if_pos ⟨(shB_1 hb), by rw [w.n]; omega, hc⟩]
theorem qV3_B1 (w : WF h) {b : Nat} (hb : b = 8 ∨ b = 29) (hc : cs S ≤ 8) : i_callV 7 3 f F L (v3 :: v2 :: v1 :: .ref (b + 1) :: S) h = i_after (f [.ref (b + 1), v1, v2, v3] h) S F L := by rw [r_callV_3, if_pos ⟨(shB_1 hb), by rw [w.n]; omega, hc⟩]
theorem qV4_B1 (w : WF h) {b : Nat} (hb : b = 8 ∨ b = 29) (hc : cs S ≤ 8) : i_callV 7 4 f F L (v4 :: v3 :: v2 :: v1 :: .ref (b + 1) :: S) h = i_after (f [.ref (b + 1), v1, v2, v3, v4] h) S F L := by rw [r_callV_4, if_pos ⟨(shB_1 hb), by rw [w.n]; omega, hc⟩]
theorem q_B1_1 (w : WF h) {b : Nat} (hb : b = 8 ∨ b = 29) : i_getR 7 1 F L (.ref (b + 1) :: S) h = F L (.ref (b + 2) :: S) h := by rw [r_getR, if_pos ⟨shB_1 hb, by rw [w.n]; omega⟩, rB_1_1 w hb]; rfl
theorem q_B1_2 (w : WF h) {b : Nat} (hb : b = 8 ∨ b = 29) : i_getR 7 2 F L (.ref (b + 1) :: S) h = F L (.ref (b + 3) :: S) h := by rw [r_getR, if_pos ⟨shB_1 hb, by rw [w.n]; omega⟩, rB_1_2 w hb]; rfl
theorem q_B1_3 (w : WF h) {b : Nat} (hb : b = 8 ∨ b = 29) : i_getR 7 3 F L (.ref (b + 1) :: S) h = F L (.ref (b + 4) :: S) h := by rw [r_getR, if_pos ⟨shB_1 hb, by rw [w.n]; omega⟩, rB_1_3 w hb]; rfl
theorem qA_B2 (w : WF h) {b : Nat} (hb : b = 8 ∨ b = 29) (hj : j < 12) : i_iaload F L (.int (N j) :: .ref (b + 2) :: S) h = F L (.int (gI h (b + 2) j) :: S) h := by
  have e : ¬ N j < 0 := by rw [lit32, N_lt (by omega) (by omega)]; omega
  rw [r_iaload, N_nat (by omega), if_pos ⟨by rw [(shB_2 hb)], by rw [w.n]; omega, e, by rw [(shB_2 hb)]; exact hj⟩]
theorem qS_B2 (w : WF h) {b : Nat} (hb : b = 8 ∨ b = 29) (hj : j < 12) : i_iastore F L (.int y :: .int (N j) :: .ref (b + 2) :: S) h = F L S (sI h (b + 2) j y) := by
  have e : ¬ N j < 0 := by rw [lit32, N_lt (by omega) (by omega)]; omega
  rw [r_iastore, N_nat (by omega), if_pos ⟨by rw [(shB_2 hb)], by rw [w.n]; omega, e, by rw [(shB_2 hb)]; exact hj⟩]
theorem qc_B2 (w : WF h) {b : Nat} (hb : b = 8 ∨ b = 29) (hj : j < 12) : mX11_cell [.ref (b + 2), .int (N j)] h = some (.inl (some (.int (gI h (b + 2) j))), h) := by
  have e := cell_N w (i := (b + 2)) (k := j) (by rw [(shB_2 hb)]) (by omega) (by rw [(shB_2 hb)]; decide) (by omega)
  rw [(shB_2 hb)] at e
  rw [e]
  dsimp only
  rw [if_pos hj]
theorem qp_B2 (w : WF h) {b : Nat} (hb : b = 8 ∨ b = 29) (hj : j < 12) : mX11_put [.ref (b + 2), .int (N j), .int y] h = some (.inl none, sI h (b + 2) j y) := by
  have e := put_N w (i := (b + 2)) (k := j) (by rw [(shB_2 hb)]) (by omega) (by rw [(shB_2 hb)]; decide) (by omega) y
  rw [(shB_2 hb)] at e
  rw [e]
  dsimp only
  rw [if_pos hj]
theorem qpo_B2 (w : WF h) {b : Nat} (hb : b = 8 ∨ b = 29) (hj : 12 ≤ j) (hk : j < 2147483648) : mX11_put [.ref (b + 2), .int (N j), .int y] h = some (.inl none, h) := by
  have e := put_N w (i := (b + 2)) (k := j) (by rw [(shB_2 hb)]) (by omega) (by rw [(shB_2 hb)]; decide) hk y
  rw [(shB_2 hb)] at e
  rw [e]
  dsimp only
  rw [if_neg (by omega)]
theorem qco_B2 (w : WF h) {b : Nat} (hb : b = 8 ∨ b = 29) (hj : 12 ≤ j) (hk : j < 2147483648) : mX11_cell [.ref (b + 2), .int (N j)] h = some (.inl (some (.int (N 0))), h) := by
  have e := cell_N w (i := (b + 2)) (k := j) (by rw [(shB_2 hb)]) (by omega) (by rw [(shB_2 hb)]; decide) hk
  rw [(shB_2 hb)] at e
  rw [e]
  dsimp only
  rw [if_neg (by omega)]
theorem qf_B2 (w : WF h) {b : Nat} (hb : b = 8 ∨ b = 29) : mJ7_fill_53178 [.ref (b + 2), .int y] h = some (.inl none, stR h (b + 2) 12 (fun _ => y)) := by
  have e := fill_ok w (i := (b + 2)) (by rw [(shB_2 hb)]) (by omega) (by rw [(shB_2 hb)]; decide) y
  rw [(shB_2 hb)] at e
  exact e
theorem qA_B3 (w : WF h) {b : Nat} (hb : b = 8 ∨ b = 29) (hj : j < 12) : i_iaload F L (.int (N j) :: .ref (b + 3) :: S) h = F L (.int (gI h (b + 3) j) :: S) h := by
  have e : ¬ N j < 0 := by rw [lit32, N_lt (by omega) (by omega)]; omega
  rw [r_iaload, N_nat (by omega), if_pos ⟨by rw [(shB_3 hb)], by rw [w.n]; omega, e, by rw [(shB_3 hb)]; exact hj⟩]
theorem qS_B3 (w : WF h) {b : Nat} (hb : b = 8 ∨ b = 29) (hj : j < 12) : i_iastore F L (.int y :: .int (N j) :: .ref (b + 3) :: S) h = F L S (sI h (b + 3) j y) := by
  have e : ¬ N j < 0 := by rw [lit32, N_lt (by omega) (by omega)]; omega
  rw [r_iastore, N_nat (by omega), if_pos ⟨by rw [(shB_3 hb)], by rw [w.n]; omega, e, by rw [(shB_3 hb)]; exact hj⟩]
theorem qc_B3 (w : WF h) {b : Nat} (hb : b = 8 ∨ b = 29) (hj : j < 12) : mX11_cell [.ref (b + 3), .int (N j)] h = some (.inl (some (.int (gI h (b + 3) j))), h) := by
  have e := cell_N w (i := (b + 3)) (k := j) (by rw [(shB_3 hb)]) (by omega) (by rw [(shB_3 hb)]; decide) (by omega)
  rw [(shB_3 hb)] at e
  rw [e]
  dsimp only
  rw [if_pos hj]
theorem qp_B3 (w : WF h) {b : Nat} (hb : b = 8 ∨ b = 29) (hj : j < 12) : mX11_put [.ref (b + 3), .int (N j), .int y] h = some (.inl none, sI h (b + 3) j y) := by
  have e := put_N w (i := (b + 3)) (k := j) (by rw [(shB_3 hb)]) (by omega) (by rw [(shB_3 hb)]; decide) (by omega) y
  rw [(shB_3 hb)] at e
  rw [e]
  dsimp only
  rw [if_pos hj]
theorem qpo_B3 (w : WF h) {b : Nat} (hb : b = 8 ∨ b = 29) (hj : 12 ≤ j) (hk : j < 2147483648) : mX11_put [.ref (b + 3), .int (N j), .int y] h = some (.inl none, h) := by
  have e := put_N w (i := (b + 3)) (k := j) (by rw [(shB_3 hb)]) (by omega) (by rw [(shB_3 hb)]; decide) hk y
  rw [(shB_3 hb)] at e
  rw [e]
  dsimp only
  rw [if_neg (by omega)]
theorem qco_B3 (w : WF h) {b : Nat} (hb : b = 8 ∨ b = 29) (hj : 12 ≤ j) (hk : j < 2147483648) : mX11_cell [.ref (b + 3), .int (N j)] h = some (.inl (some (.int (N 0))), h) := by
  have e := cell_N w (i := (b + 3)) (k := j) (by rw [(shB_3 hb)]) (by omega) (by rw [(shB_3 hb)]; decide) hk
  rw [(shB_3 hb)] at e
  rw [e]
  dsimp only
  rw [if_neg (by omega)]
theorem qf_B3 (w : WF h) {b : Nat} (hb : b = 8 ∨ b = 29) : mJ7_fill_53178 [.ref (b + 3), .int y] h = some (.inl none, stR h (b + 3) 12 (fun _ => y)) := by
  have e := fill_ok w (i := (b + 3)) (by rw [(shB_3 hb)]) (by omega) (by rw [(shB_3 hb)]; decide) y
  rw [(shB_3 hb)] at e
  exact e
theorem qA_B4 (w : WF h) {b : Nat} (hb : b = 8 ∨ b = 29) (hj : j < 12) : i_iaload F L (.int (N j) :: .ref (b + 4) :: S) h = F L (.int (gI h (b + 4) j) :: S) h := by
  have e : ¬ N j < 0 := by rw [lit32, N_lt (by omega) (by omega)]; omega
  rw [r_iaload, N_nat (by omega), if_pos ⟨by rw [(shB_4 hb)], by rw [w.n]; omega, e, by rw [(shB_4 hb)]; exact hj⟩]
theorem qS_B4 (w : WF h) {b : Nat} (hb : b = 8 ∨ b = 29) (hj : j < 12) : i_iastore F L (.int y :: .int (N j) :: .ref (b + 4) :: S) h = F L S (sI h (b + 4) j y) := by
  have e : ¬ N j < 0 := by rw [lit32, N_lt (by omega) (by omega)]; omega
  rw [r_iastore, N_nat (by omega), if_pos ⟨by rw [(shB_4 hb)], by rw [w.n]; omega, e, by rw [(shB_4 hb)]; exact hj⟩]
theorem qc_B4 (w : WF h) {b : Nat} (hb : b = 8 ∨ b = 29) (hj : j < 12) : mX11_cell [.ref (b + 4), .int (N j)] h = some (.inl (some (.int (gI h (b + 4) j))), h) := by
  have e := cell_N w (i := (b + 4)) (k := j) (by rw [(shB_4 hb)]) (by omega) (by rw [(shB_4 hb)]; decide) (by omega)
  rw [(shB_4 hb)] at e
  rw [e]
  dsimp only
  rw [if_pos hj]
theorem qp_B4 (w : WF h) {b : Nat} (hb : b = 8 ∨ b = 29) (hj : j < 12) : mX11_put [.ref (b + 4), .int (N j), .int y] h = some (.inl none, sI h (b + 4) j y) := by
  have e := put_N w (i := (b + 4)) (k := j) (by rw [(shB_4 hb)]) (by omega) (by rw [(shB_4 hb)]; decide) (by omega) y
  rw [(shB_4 hb)] at e
  rw [e]
  dsimp only
  rw [if_pos hj]
theorem qpo_B4 (w : WF h) {b : Nat} (hb : b = 8 ∨ b = 29) (hj : 12 ≤ j) (hk : j < 2147483648) : mX11_put [.ref (b + 4), .int (N j), .int y] h = some (.inl none, h) := by
  have e := put_N w (i := (b + 4)) (k := j) (by rw [(shB_4 hb)]) (by omega) (by rw [(shB_4 hb)]; decide) hk y
  rw [(shB_4 hb)] at e
  rw [e]
  dsimp only
  rw [if_neg (by omega)]
theorem qco_B4 (w : WF h) {b : Nat} (hb : b = 8 ∨ b = 29) (hj : 12 ≤ j) (hk : j < 2147483648) : mX11_cell [.ref (b + 4), .int (N j)] h = some (.inl (some (.int (N 0))), h) := by
  have e := cell_N w (i := (b + 4)) (k := j) (by rw [(shB_4 hb)]) (by omega) (by rw [(shB_4 hb)]; decide) hk
  rw [(shB_4 hb)] at e
  rw [e]
  dsimp only
  rw [if_neg (by omega)]
theorem qf_B4 (w : WF h) {b : Nat} (hb : b = 8 ∨ b = 29) : mJ7_fill_53178 [.ref (b + 4), .int y] h = some (.inl none, stR h (b + 4) 12 (fun _ => y)) := by
  have e := fill_ok w (i := (b + 4)) (by rw [(shB_4 hb)]) (by omega) (by rw [(shB_4 hb)]; decide) y
  rw [(shB_4 hb)] at e
  exact e
theorem qI_B5 (w : WF h) {b : Nat} (hb : b = 8 ∨ b = 29) : i_getI 3 k F L (.ref (b + 5) :: S) h = F L (.int (gI h (b + 5) k) :: S) h := by rw [r_getI, if_pos ⟨(shB_5 hb), by rw [w.n]; omega⟩]
theorem qP_B5 (w : WF h) {b : Nat} (hb : b = 8 ∨ b = 29) : i_putI 3 k F L (.int x :: .ref (b + 5) :: S) h = F L S (sI h (b + 5) k x) := by rw [r_putI, if_pos ⟨(shB_5 hb), by rw [w.n]; omega⟩]
theorem qV0_B5 (w : WF h) {b : Nat} (hb : b = 8 ∨ b = 29) (hc : cs S ≤ 8) : i_callV 3 0 f F L (.ref (b + 5) :: S) h = i_after (f [.ref (b + 5)] h) S F L := by rw [r_callV_0, if_pos ⟨(shB_5 hb), by rw [w.n]; omega, hc⟩]
theorem qV1_B5 (w : WF h) {b : Nat} (hb : b = 8 ∨ b = 29) (hc : cs S ≤ 8) : i_callV 3 1 f F L (v1 :: .ref (b + 5) :: S) h = i_after (f [.ref (b + 5), v1] h) S F L := by rw [r_callV_1, if_pos ⟨(shB_5 hb), by rw [w.n]; omega, hc⟩]
theorem qV2_B5 (w : WF h) {b : Nat} (hb : b = 8 ∨ b = 29) (hc : cs S ≤ 8) : i_callV 3 2 f F L (v2 :: v1 :: .ref (b + 5) :: S) h = i_after (f [.ref (b + 5), v1, v2] h) S F L := by rw [r_callV_2, if_pos ⟨(shB_5 hb), by rw [w.n]; omega, hc⟩]
theorem qV3_B5 (w : WF h) {b : Nat} (hb : b = 8 ∨ b = 29) (hc : cs S ≤ 8) : i_callV 3 3 f F L (v3 :: v2 :: v1 :: .ref (b + 5) :: S) h = i_after (f [.ref (b + 5), v1, v2, v3] h) S F L := by rw [r_callV_3, if_pos ⟨(shB_5 hb), by rw [w.n]; omega, hc⟩]
theorem qV4_B5 (w : WF h) {b : Nat} (hb : b = 8 ∨ b = 29) (hc : cs S ≤ 8) : i_callV 3 4 f F L (v4 :: v3 :: v2 :: v1 :: .ref (b + 5) :: S) h = i_after (f [.ref (b + 5), v1, v2, v3, v4] h) S F L := by rw [r_callV_4, if_pos ⟨(shB_5 hb), by rw [w.n]; omega, hc⟩]
theorem q_B5_1 (w : WF h) {b : Nat} (hb : b = 8 ∨ b = 29) : i_getR 3 1 F L (.ref (b + 5) :: S) h = F L (.ref (b + 6) :: S) h := by rw [r_getR, if_pos ⟨shB_5 hb, by rw [w.n]; omega⟩, rB_5_1 w hb]; rfl
theorem q_B5_2 (w : WF h) {b : Nat} (hb : b = 8 ∨ b = 29) : i_getR 3 2 F L (.ref (b + 5) :: S) h = F L (.ref (b + 7) :: S) h := by rw [r_getR, if_pos ⟨shB_5 hb, by rw [w.n]; omega⟩, rB_5_2 w hb]; rfl
theorem q_B5_3 (w : WF h) {b : Nat} (hb : b = 8 ∨ b = 29) : i_getR 3 3 F L (.ref (b + 5) :: S) h = F L (.ref (b + 8) :: S) h := by rw [r_getR, if_pos ⟨shB_5 hb, by rw [w.n]; omega⟩, rB_5_3 w hb]; rfl
theorem q_B5_4 (w : WF h) {b : Nat} (hb : b = 8 ∨ b = 29) : i_getR 3 4 F L (.ref (b + 5) :: S) h = F L (.ref (b + 9) :: S) h := by rw [r_getR, if_pos ⟨shB_5 hb, by rw [w.n]; omega⟩, rB_5_4 w hb]; rfl
theorem q_B5_5 (w : WF h) {b : Nat} (hb : b = 8 ∨ b = 29) : i_getR 3 5 F L (.ref (b + 5) :: S) h = F L (.ref (b + 10) :: S) h := by rw [r_getR, if_pos ⟨shB_5 hb, by rw [w.n]; omega⟩, rB_5_5 w hb]; rfl
theorem q_B5_6 (w : WF h) {b : Nat} (hb : b = 8 ∨ b = 29) : i_getR 3 6 F L (.ref (b + 5) :: S) h = F L (.ref (b + 11) :: S) h := by rw [r_getR, if_pos ⟨shB_5 hb, by rw [w.n]; omega⟩, rB_5_6 w hb]; rfl
theorem q_B5_7 (w : WF h) {b : Nat} (hb : b = 8 ∨ b = 29) : i_getR 3 7 F L (.ref (b + 5) :: S) h = F L (.ref (b + 12) :: S) h := by rw [r_getR, if_pos ⟨shB_5 hb, by rw [w.n]; omega⟩, rB_5_7 w hb]; rfl
theorem q_B5_8 (w : WF h) {b : Nat} (hb : b = 8 ∨ b = 29) : i_getR 3 8 F L (.ref (b + 5) :: S) h = F L (.ref (b + 13) :: S) h := by rw [r_getR, if_pos ⟨shB_5 hb, by rw [w.n]; omega⟩, rB_5_8 w hb]; rfl
theorem q_B5_9 (w : WF h) {b : Nat} (hb : b = 8 ∨ b = 29) : i_getR 3 9 F L (.ref (b + 5) :: S) h = F L (.ref (b + 14) :: S) h := by rw [r_getR, if_pos ⟨shB_5 hb, by rw [w.n]; omega⟩, rB_5_9 w hb]; rfl
theorem qA_B6 (w : WF h) {b : Nat} (hb : b = 8 ∨ b = 29) (hj : j < 5) : i_iaload F L (.int (N j) :: .ref (b + 6) :: S) h = F L (.int (gI h (b + 6) j) :: S) h := by
  have e : ¬ N j < 0 := by rw [lit32, N_lt (by omega) (by omega)]; omega
  rw [r_iaload, N_nat (by omega), if_pos ⟨by rw [(shB_6 hb)], by rw [w.n]; omega, e, by rw [(shB_6 hb)]; exact hj⟩]
theorem qS_B6 (w : WF h) {b : Nat} (hb : b = 8 ∨ b = 29) (hj : j < 5) : i_iastore F L (.int y :: .int (N j) :: .ref (b + 6) :: S) h = F L S (sI h (b + 6) j y) := by
  have e : ¬ N j < 0 := by rw [lit32, N_lt (by omega) (by omega)]; omega
  rw [r_iastore, N_nat (by omega), if_pos ⟨by rw [(shB_6 hb)], by rw [w.n]; omega, e, by rw [(shB_6 hb)]; exact hj⟩]
theorem qc_B6 (w : WF h) {b : Nat} (hb : b = 8 ∨ b = 29) (hj : j < 5) : mX11_cell [.ref (b + 6), .int (N j)] h = some (.inl (some (.int (gI h (b + 6) j))), h) := by
  have e := cell_N w (i := (b + 6)) (k := j) (by rw [(shB_6 hb)]) (by omega) (by rw [(shB_6 hb)]; decide) (by omega)
  rw [(shB_6 hb)] at e
  rw [e]
  dsimp only
  rw [if_pos hj]
theorem qp_B6 (w : WF h) {b : Nat} (hb : b = 8 ∨ b = 29) (hj : j < 5) : mX11_put [.ref (b + 6), .int (N j), .int y] h = some (.inl none, sI h (b + 6) j y) := by
  have e := put_N w (i := (b + 6)) (k := j) (by rw [(shB_6 hb)]) (by omega) (by rw [(shB_6 hb)]; decide) (by omega) y
  rw [(shB_6 hb)] at e
  rw [e]
  dsimp only
  rw [if_pos hj]
theorem qpo_B6 (w : WF h) {b : Nat} (hb : b = 8 ∨ b = 29) (hj : 5 ≤ j) (hk : j < 2147483648) : mX11_put [.ref (b + 6), .int (N j), .int y] h = some (.inl none, h) := by
  have e := put_N w (i := (b + 6)) (k := j) (by rw [(shB_6 hb)]) (by omega) (by rw [(shB_6 hb)]; decide) hk y
  rw [(shB_6 hb)] at e
  rw [e]
  dsimp only
  rw [if_neg (by omega)]
theorem qco_B6 (w : WF h) {b : Nat} (hb : b = 8 ∨ b = 29) (hj : 5 ≤ j) (hk : j < 2147483648) : mX11_cell [.ref (b + 6), .int (N j)] h = some (.inl (some (.int (N 0))), h) := by
  have e := cell_N w (i := (b + 6)) (k := j) (by rw [(shB_6 hb)]) (by omega) (by rw [(shB_6 hb)]; decide) hk
  rw [(shB_6 hb)] at e
  rw [e]
  dsimp only
  rw [if_neg (by omega)]
theorem qf_B6 (w : WF h) {b : Nat} (hb : b = 8 ∨ b = 29) : mJ7_fill_53178 [.ref (b + 6), .int y] h = some (.inl none, stR h (b + 6) 5 (fun _ => y)) := by
  have e := fill_ok w (i := (b + 6)) (by rw [(shB_6 hb)]) (by omega) (by rw [(shB_6 hb)]; decide) y
  rw [(shB_6 hb)] at e
  exact e
theorem qA_B7 (w : WF h) {b : Nat} (hb : b = 8 ∨ b = 29) (hj : j < 5) : i_iaload F L (.int (N j) :: .ref (b + 7) :: S) h = F L (.int (gI h (b + 7) j) :: S) h := by
  have e : ¬ N j < 0 := by rw [lit32, N_lt (by omega) (by omega)]; omega
  rw [r_iaload, N_nat (by omega), if_pos ⟨by rw [(shB_7 hb)], by rw [w.n]; omega, e, by rw [(shB_7 hb)]; exact hj⟩]
theorem qS_B7 (w : WF h) {b : Nat} (hb : b = 8 ∨ b = 29) (hj : j < 5) : i_iastore F L (.int y :: .int (N j) :: .ref (b + 7) :: S) h = F L S (sI h (b + 7) j y) := by
  have e : ¬ N j < 0 := by rw [lit32, N_lt (by omega) (by omega)]; omega
  rw [r_iastore, N_nat (by omega), if_pos ⟨by rw [(shB_7 hb)], by rw [w.n]; omega, e, by rw [(shB_7 hb)]; exact hj⟩]
theorem qc_B7 (w : WF h) {b : Nat} (hb : b = 8 ∨ b = 29) (hj : j < 5) : mX11_cell [.ref (b + 7), .int (N j)] h = some (.inl (some (.int (gI h (b + 7) j))), h) := by
  have e := cell_N w (i := (b + 7)) (k := j) (by rw [(shB_7 hb)]) (by omega) (by rw [(shB_7 hb)]; decide) (by omega)
  rw [(shB_7 hb)] at e
  rw [e]
  dsimp only
  rw [if_pos hj]
theorem qp_B7 (w : WF h) {b : Nat} (hb : b = 8 ∨ b = 29) (hj : j < 5) : mX11_put [.ref (b + 7), .int (N j), .int y] h = some (.inl none, sI h (b + 7) j y) := by
  have e := put_N w (i := (b + 7)) (k := j) (by rw [(shB_7 hb)]) (by omega) (by rw [(shB_7 hb)]; decide) (by omega) y
  rw [(shB_7 hb)] at e
  rw [e]
  dsimp only
  rw [if_pos hj]
theorem qpo_B7 (w : WF h) {b : Nat} (hb : b = 8 ∨ b = 29) (hj : 5 ≤ j) (hk : j < 2147483648) : mX11_put [.ref (b + 7), .int (N j), .int y] h = some (.inl none, h) := by
  have e := put_N w (i := (b + 7)) (k := j) (by rw [(shB_7 hb)]) (by omega) (by rw [(shB_7 hb)]; decide) hk y
  rw [(shB_7 hb)] at e
  rw [e]
  dsimp only
  rw [if_neg (by omega)]
theorem qco_B7 (w : WF h) {b : Nat} (hb : b = 8 ∨ b = 29) (hj : 5 ≤ j) (hk : j < 2147483648) : mX11_cell [.ref (b + 7), .int (N j)] h = some (.inl (some (.int (N 0))), h) := by
  have e := cell_N w (i := (b + 7)) (k := j) (by rw [(shB_7 hb)]) (by omega) (by rw [(shB_7 hb)]; decide) hk
  rw [(shB_7 hb)] at e
  rw [e]
  dsimp only
  rw [if_neg (by omega)]
theorem qf_B7 (w : WF h) {b : Nat} (hb : b = 8 ∨ b = 29) : mJ7_fill_53178 [.ref (b + 7), .int y] h = some (.inl none, stR h (b + 7) 5 (fun _ => y)) := by
  have e := fill_ok w (i := (b + 7)) (by rw [(shB_7 hb)]) (by omega) (by rw [(shB_7 hb)]; decide) y
  rw [(shB_7 hb)] at e
  exact e
theorem qA_B8 (w : WF h) {b : Nat} (hb : b = 8 ∨ b = 29) (hj : j < 5) : i_iaload F L (.int (N j) :: .ref (b + 8) :: S) h = F L (.int (gI h (b + 8) j) :: S) h := by
  have e : ¬ N j < 0 := by rw [lit32, N_lt (by omega) (by omega)]; omega
  rw [r_iaload, N_nat (by omega), if_pos ⟨by rw [(shB_8 hb)], by rw [w.n]; omega, e, by rw [(shB_8 hb)]; exact hj⟩]
theorem qS_B8 (w : WF h) {b : Nat} (hb : b = 8 ∨ b = 29) (hj : j < 5) : i_iastore F L (.int y :: .int (N j) :: .ref (b + 8) :: S) h = F L S (sI h (b + 8) j y) := by
  have e : ¬ N j < 0 := by rw [lit32, N_lt (by omega) (by omega)]; omega
  rw [r_iastore, N_nat (by omega), if_pos ⟨by rw [(shB_8 hb)], by rw [w.n]; omega, e, by rw [(shB_8 hb)]; exact hj⟩]
theorem qc_B8 (w : WF h) {b : Nat} (hb : b = 8 ∨ b = 29) (hj : j < 5) : mX11_cell [.ref (b + 8), .int (N j)] h = some (.inl (some (.int (gI h (b + 8) j))), h) := by
  have e := cell_N w (i := (b + 8)) (k := j) (by rw [(shB_8 hb)]) (by omega) (by rw [(shB_8 hb)]; decide) (by omega)
  rw [(shB_8 hb)] at e
  rw [e]
  dsimp only
  rw [if_pos hj]
theorem qp_B8 (w : WF h) {b : Nat} (hb : b = 8 ∨ b = 29) (hj : j < 5) : mX11_put [.ref (b + 8), .int (N j), .int y] h = some (.inl none, sI h (b + 8) j y) := by
  have e := put_N w (i := (b + 8)) (k := j) (by rw [(shB_8 hb)]) (by omega) (by rw [(shB_8 hb)]; decide) (by omega) y
  rw [(shB_8 hb)] at e
  rw [e]
  dsimp only
  rw [if_pos hj]
theorem qpo_B8 (w : WF h) {b : Nat} (hb : b = 8 ∨ b = 29) (hj : 5 ≤ j) (hk : j < 2147483648) : mX11_put [.ref (b + 8), .int (N j), .int y] h = some (.inl none, h) := by
  have e := put_N w (i := (b + 8)) (k := j) (by rw [(shB_8 hb)]) (by omega) (by rw [(shB_8 hb)]; decide) hk y
  rw [(shB_8 hb)] at e
  rw [e]
  dsimp only
  rw [if_neg (by omega)]
theorem qco_B8 (w : WF h) {b : Nat} (hb : b = 8 ∨ b = 29) (hj : 5 ≤ j) (hk : j < 2147483648) : mX11_cell [.ref (b + 8), .int (N j)] h = some (.inl (some (.int (N 0))), h) := by
  have e := cell_N w (i := (b + 8)) (k := j) (by rw [(shB_8 hb)]) (by omega) (by rw [(shB_8 hb)]; decide) hk
  rw [(shB_8 hb)] at e
  rw [e]
  dsimp only
  rw [if_neg (by omega)]
theorem qf_B8 (w : WF h) {b : Nat} (hb : b = 8 ∨ b = 29) : mJ7_fill_53178 [.ref (b + 8), .int y] h = some (.inl none, stR h (b + 8) 5 (fun _ => y)) := by
  have e := fill_ok w (i := (b + 8)) (by rw [(shB_8 hb)]) (by omega) (by rw [(shB_8 hb)]; decide) y
  rw [(shB_8 hb)] at e
  exact e
theorem qA_B9 (w : WF h) {b : Nat} (hb : b = 8 ∨ b = 29) (hj : j < 5) : i_iaload F L (.int (N j) :: .ref (b + 9) :: S) h = F L (.int (gI h (b + 9) j) :: S) h := by
  have e : ¬ N j < 0 := by rw [lit32, N_lt (by omega) (by omega)]; omega
  rw [r_iaload, N_nat (by omega), if_pos ⟨by rw [(shB_9 hb)], by rw [w.n]; omega, e, by rw [(shB_9 hb)]; exact hj⟩]
theorem qS_B9 (w : WF h) {b : Nat} (hb : b = 8 ∨ b = 29) (hj : j < 5) : i_iastore F L (.int y :: .int (N j) :: .ref (b + 9) :: S) h = F L S (sI h (b + 9) j y) := by
  have e : ¬ N j < 0 := by rw [lit32, N_lt (by omega) (by omega)]; omega
  rw [r_iastore, N_nat (by omega), if_pos ⟨by rw [(shB_9 hb)], by rw [w.n]; omega, e, by rw [(shB_9 hb)]; exact hj⟩]
theorem qc_B9 (w : WF h) {b : Nat} (hb : b = 8 ∨ b = 29) (hj : j < 5) : mX11_cell [.ref (b + 9), .int (N j)] h = some (.inl (some (.int (gI h (b + 9) j))), h) := by
  have e := cell_N w (i := (b + 9)) (k := j) (by rw [(shB_9 hb)]) (by omega) (by rw [(shB_9 hb)]; decide) (by omega)
  rw [(shB_9 hb)] at e
  rw [e]
  dsimp only
  rw [if_pos hj]
theorem qp_B9 (w : WF h) {b : Nat} (hb : b = 8 ∨ b = 29) (hj : j < 5) : mX11_put [.ref (b + 9), .int (N j), .int y] h = some (.inl none, sI h (b + 9) j y) := by
  have e := put_N w (i := (b + 9)) (k := j) (by rw [(shB_9 hb)]) (by omega) (by rw [(shB_9 hb)]; decide) (by omega) y
  rw [(shB_9 hb)] at e
  rw [e]
  dsimp only
  rw [if_pos hj]
theorem qpo_B9 (w : WF h) {b : Nat} (hb : b = 8 ∨ b = 29) (hj : 5 ≤ j) (hk : j < 2147483648) : mX11_put [.ref (b + 9), .int (N j), .int y] h = some (.inl none, h) := by
  have e := put_N w (i := (b + 9)) (k := j) (by rw [(shB_9 hb)]) (by omega) (by rw [(shB_9 hb)]; decide) hk y
  rw [(shB_9 hb)] at e
  rw [e]
  dsimp only
  rw [if_neg (by omega)]
theorem qco_B9 (w : WF h) {b : Nat} (hb : b = 8 ∨ b = 29) (hj : 5 ≤ j) (hk : j < 2147483648) : mX11_cell [.ref (b + 9), .int (N j)] h = some (.inl (some (.int (N 0))), h) := by
  have e := cell_N w (i := (b + 9)) (k := j) (by rw [(shB_9 hb)]) (by omega) (by rw [(shB_9 hb)]; decide) hk
  rw [(shB_9 hb)] at e
  rw [e]
  dsimp only
  rw [if_neg (by omega)]
theorem qf_B9 (w : WF h) {b : Nat} (hb : b = 8 ∨ b = 29) : mJ7_fill_53178 [.ref (b + 9), .int y] h = some (.inl none, stR h (b + 9) 5 (fun _ => y)) := by
  have e := fill_ok w (i := (b + 9)) (by rw [(shB_9 hb)]) (by omega) (by rw [(shB_9 hb)]; decide) y
  rw [(shB_9 hb)] at e
  exact e
theorem qA_B10 (w : WF h) {b : Nat} (hb : b = 8 ∨ b = 29) (hj : j < 5) : i_iaload F L (.int (N j) :: .ref (b + 10) :: S) h = F L (.int (gI h (b + 10) j) :: S) h := by
  have e : ¬ N j < 0 := by rw [lit32, N_lt (by omega) (by omega)]; omega
  rw [r_iaload, N_nat (by omega), if_pos ⟨by rw [(shB_10 hb)], by rw [w.n]; omega, e, by rw [(shB_10 hb)]; exact hj⟩]
theorem qS_B10 (w : WF h) {b : Nat} (hb : b = 8 ∨ b = 29) (hj : j < 5) : i_iastore F L (.int y :: .int (N j) :: .ref (b + 10) :: S) h = F L S (sI h (b + 10) j y) := by
  have e : ¬ N j < 0 := by rw [lit32, N_lt (by omega) (by omega)]; omega
  rw [r_iastore, N_nat (by omega), if_pos ⟨by rw [(shB_10 hb)], by rw [w.n]; omega, e, by rw [(shB_10 hb)]; exact hj⟩]
theorem qc_B10 (w : WF h) {b : Nat} (hb : b = 8 ∨ b = 29) (hj : j < 5) : mX11_cell [.ref (b + 10), .int (N j)] h = some (.inl (some (.int (gI h (b + 10) j))), h) := by
  have e := cell_N w (i := (b + 10)) (k := j) (by rw [(shB_10 hb)]) (by omega) (by rw [(shB_10 hb)]; decide) (by omega)
  rw [(shB_10 hb)] at e
  rw [e]
  dsimp only
  rw [if_pos hj]
theorem qp_B10 (w : WF h) {b : Nat} (hb : b = 8 ∨ b = 29) (hj : j < 5) : mX11_put [.ref (b + 10), .int (N j), .int y] h = some (.inl none, sI h (b + 10) j y) := by
  have e := put_N w (i := (b + 10)) (k := j) (by rw [(shB_10 hb)]) (by omega) (by rw [(shB_10 hb)]; decide) (by omega) y
  rw [(shB_10 hb)] at e
  rw [e]
  dsimp only
  rw [if_pos hj]
theorem qpo_B10 (w : WF h) {b : Nat} (hb : b = 8 ∨ b = 29) (hj : 5 ≤ j) (hk : j < 2147483648) : mX11_put [.ref (b + 10), .int (N j), .int y] h = some (.inl none, h) := by
  have e := put_N w (i := (b + 10)) (k := j) (by rw [(shB_10 hb)]) (by omega) (by rw [(shB_10 hb)]; decide) hk y
  rw [(shB_10 hb)] at e
  rw [e]
  dsimp only
  rw [if_neg (by omega)]
theorem qco_B10 (w : WF h) {b : Nat} (hb : b = 8 ∨ b = 29) (hj : 5 ≤ j) (hk : j < 2147483648) : mX11_cell [.ref (b + 10), .int (N j)] h = some (.inl (some (.int (N 0))), h) := by
  have e := cell_N w (i := (b + 10)) (k := j) (by rw [(shB_10 hb)]) (by omega) (by rw [(shB_10 hb)]; decide) hk
  rw [(shB_10 hb)] at e
  rw [e]
  dsimp only
  rw [if_neg (by omega)]
theorem qf_B10 (w : WF h) {b : Nat} (hb : b = 8 ∨ b = 29) : mJ7_fill_53178 [.ref (b + 10), .int y] h = some (.inl none, stR h (b + 10) 5 (fun _ => y)) := by
  have e := fill_ok w (i := (b + 10)) (by rw [(shB_10 hb)]) (by omega) (by rw [(shB_10 hb)]; decide) y
  rw [(shB_10 hb)] at e
  exact e
theorem qA_B11 (w : WF h) {b : Nat} (hb : b = 8 ∨ b = 29) (hj : j < 15) : i_iaload F L (.int (N j) :: .ref (b + 11) :: S) h = F L (.int (gI h (b + 11) j) :: S) h := by
  have e : ¬ N j < 0 := by rw [lit32, N_lt (by omega) (by omega)]; omega
  rw [r_iaload, N_nat (by omega), if_pos ⟨by rw [(shB_11 hb)], by rw [w.n]; omega, e, by rw [(shB_11 hb)]; exact hj⟩]
theorem qS_B11 (w : WF h) {b : Nat} (hb : b = 8 ∨ b = 29) (hj : j < 15) : i_iastore F L (.int y :: .int (N j) :: .ref (b + 11) :: S) h = F L S (sI h (b + 11) j y) := by
  have e : ¬ N j < 0 := by rw [lit32, N_lt (by omega) (by omega)]; omega
  rw [r_iastore, N_nat (by omega), if_pos ⟨by rw [(shB_11 hb)], by rw [w.n]; omega, e, by rw [(shB_11 hb)]; exact hj⟩]
theorem qc_B11 (w : WF h) {b : Nat} (hb : b = 8 ∨ b = 29) (hj : j < 15) : mX11_cell [.ref (b + 11), .int (N j)] h = some (.inl (some (.int (gI h (b + 11) j))), h) := by
  have e := cell_N w (i := (b + 11)) (k := j) (by rw [(shB_11 hb)]) (by omega) (by rw [(shB_11 hb)]; decide) (by omega)
  rw [(shB_11 hb)] at e
  rw [e]
  dsimp only
  rw [if_pos hj]
theorem qp_B11 (w : WF h) {b : Nat} (hb : b = 8 ∨ b = 29) (hj : j < 15) : mX11_put [.ref (b + 11), .int (N j), .int y] h = some (.inl none, sI h (b + 11) j y) := by
  have e := put_N w (i := (b + 11)) (k := j) (by rw [(shB_11 hb)]) (by omega) (by rw [(shB_11 hb)]; decide) (by omega) y
  rw [(shB_11 hb)] at e
  rw [e]
  dsimp only
  rw [if_pos hj]
theorem qpo_B11 (w : WF h) {b : Nat} (hb : b = 8 ∨ b = 29) (hj : 15 ≤ j) (hk : j < 2147483648) : mX11_put [.ref (b + 11), .int (N j), .int y] h = some (.inl none, h) := by
  have e := put_N w (i := (b + 11)) (k := j) (by rw [(shB_11 hb)]) (by omega) (by rw [(shB_11 hb)]; decide) hk y
  rw [(shB_11 hb)] at e
  rw [e]
  dsimp only
  rw [if_neg (by omega)]
theorem qco_B11 (w : WF h) {b : Nat} (hb : b = 8 ∨ b = 29) (hj : 15 ≤ j) (hk : j < 2147483648) : mX11_cell [.ref (b + 11), .int (N j)] h = some (.inl (some (.int (N 0))), h) := by
  have e := cell_N w (i := (b + 11)) (k := j) (by rw [(shB_11 hb)]) (by omega) (by rw [(shB_11 hb)]; decide) hk
  rw [(shB_11 hb)] at e
  rw [e]
  dsimp only
  rw [if_neg (by omega)]
theorem qf_B11 (w : WF h) {b : Nat} (hb : b = 8 ∨ b = 29) : mJ7_fill_53178 [.ref (b + 11), .int y] h = some (.inl none, stR h (b + 11) 15 (fun _ => y)) := by
  have e := fill_ok w (i := (b + 11)) (by rw [(shB_11 hb)]) (by omega) (by rw [(shB_11 hb)]; decide) y
  rw [(shB_11 hb)] at e
  exact e
theorem qA_B12 (w : WF h) {b : Nat} (hb : b = 8 ∨ b = 29) (hj : j < 50) : i_iaload F L (.int (N j) :: .ref (b + 12) :: S) h = F L (.int (gI h (b + 12) j) :: S) h := by
  have e : ¬ N j < 0 := by rw [lit32, N_lt (by omega) (by omega)]; omega
  rw [r_iaload, N_nat (by omega), if_pos ⟨by rw [(shB_12 hb)], by rw [w.n]; omega, e, by rw [(shB_12 hb)]; exact hj⟩]
theorem qS_B12 (w : WF h) {b : Nat} (hb : b = 8 ∨ b = 29) (hj : j < 50) : i_iastore F L (.int y :: .int (N j) :: .ref (b + 12) :: S) h = F L S (sI h (b + 12) j y) := by
  have e : ¬ N j < 0 := by rw [lit32, N_lt (by omega) (by omega)]; omega
  rw [r_iastore, N_nat (by omega), if_pos ⟨by rw [(shB_12 hb)], by rw [w.n]; omega, e, by rw [(shB_12 hb)]; exact hj⟩]
theorem qc_B12 (w : WF h) {b : Nat} (hb : b = 8 ∨ b = 29) (hj : j < 50) : mX11_cell [.ref (b + 12), .int (N j)] h = some (.inl (some (.int (gI h (b + 12) j))), h) := by
  have e := cell_N w (i := (b + 12)) (k := j) (by rw [(shB_12 hb)]) (by omega) (by rw [(shB_12 hb)]; decide) (by omega)
  rw [(shB_12 hb)] at e
  rw [e]
  dsimp only
  rw [if_pos hj]
theorem qp_B12 (w : WF h) {b : Nat} (hb : b = 8 ∨ b = 29) (hj : j < 50) : mX11_put [.ref (b + 12), .int (N j), .int y] h = some (.inl none, sI h (b + 12) j y) := by
  have e := put_N w (i := (b + 12)) (k := j) (by rw [(shB_12 hb)]) (by omega) (by rw [(shB_12 hb)]; decide) (by omega) y
  rw [(shB_12 hb)] at e
  rw [e]
  dsimp only
  rw [if_pos hj]
theorem qpo_B12 (w : WF h) {b : Nat} (hb : b = 8 ∨ b = 29) (hj : 50 ≤ j) (hk : j < 2147483648) : mX11_put [.ref (b + 12), .int (N j), .int y] h = some (.inl none, h) := by
  have e := put_N w (i := (b + 12)) (k := j) (by rw [(shB_12 hb)]) (by omega) (by rw [(shB_12 hb)]; decide) hk y
  rw [(shB_12 hb)] at e
  rw [e]
  dsimp only
  rw [if_neg (by omega)]
theorem qco_B12 (w : WF h) {b : Nat} (hb : b = 8 ∨ b = 29) (hj : 50 ≤ j) (hk : j < 2147483648) : mX11_cell [.ref (b + 12), .int (N j)] h = some (.inl (some (.int (N 0))), h) := by
  have e := cell_N w (i := (b + 12)) (k := j) (by rw [(shB_12 hb)]) (by omega) (by rw [(shB_12 hb)]; decide) hk
  rw [(shB_12 hb)] at e
  rw [e]
  dsimp only
  rw [if_neg (by omega)]
theorem qf_B12 (w : WF h) {b : Nat} (hb : b = 8 ∨ b = 29) : mJ7_fill_53178 [.ref (b + 12), .int y] h = some (.inl none, stR h (b + 12) 50 (fun _ => y)) := by
  have e := fill_ok w (i := (b + 12)) (by rw [(shB_12 hb)]) (by omega) (by rw [(shB_12 hb)]; decide) y
  rw [(shB_12 hb)] at e
  exact e
theorem qA_B13 (w : WF h) {b : Nat} (hb : b = 8 ∨ b = 29) (hj : j < 50) : i_iaload F L (.int (N j) :: .ref (b + 13) :: S) h = F L (.int (gI h (b + 13) j) :: S) h := by
  have e : ¬ N j < 0 := by rw [lit32, N_lt (by omega) (by omega)]; omega
  rw [r_iaload, N_nat (by omega), if_pos ⟨by rw [(shB_13 hb)], by rw [w.n]; omega, e, by rw [(shB_13 hb)]; exact hj⟩]
theorem qS_B13 (w : WF h) {b : Nat} (hb : b = 8 ∨ b = 29) (hj : j < 50) : i_iastore F L (.int y :: .int (N j) :: .ref (b + 13) :: S) h = F L S (sI h (b + 13) j y) := by
  have e : ¬ N j < 0 := by rw [lit32, N_lt (by omega) (by omega)]; omega
  rw [r_iastore, N_nat (by omega), if_pos ⟨by rw [(shB_13 hb)], by rw [w.n]; omega, e, by rw [(shB_13 hb)]; exact hj⟩]
theorem qc_B13 (w : WF h) {b : Nat} (hb : b = 8 ∨ b = 29) (hj : j < 50) : mX11_cell [.ref (b + 13), .int (N j)] h = some (.inl (some (.int (gI h (b + 13) j))), h) := by
  have e := cell_N w (i := (b + 13)) (k := j) (by rw [(shB_13 hb)]) (by omega) (by rw [(shB_13 hb)]; decide) (by omega)
  rw [(shB_13 hb)] at e
  rw [e]
  dsimp only
  rw [if_pos hj]
theorem qp_B13 (w : WF h) {b : Nat} (hb : b = 8 ∨ b = 29) (hj : j < 50) : mX11_put [.ref (b + 13), .int (N j), .int y] h = some (.inl none, sI h (b + 13) j y) := by
  have e := put_N w (i := (b + 13)) (k := j) (by rw [(shB_13 hb)]) (by omega) (by rw [(shB_13 hb)]; decide) (by omega) y
  rw [(shB_13 hb)] at e
  rw [e]
  dsimp only
  rw [if_pos hj]
theorem qpo_B13 (w : WF h) {b : Nat} (hb : b = 8 ∨ b = 29) (hj : 50 ≤ j) (hk : j < 2147483648) : mX11_put [.ref (b + 13), .int (N j), .int y] h = some (.inl none, h) := by
  have e := put_N w (i := (b + 13)) (k := j) (by rw [(shB_13 hb)]) (by omega) (by rw [(shB_13 hb)]; decide) hk y
  rw [(shB_13 hb)] at e
  rw [e]
  dsimp only
  rw [if_neg (by omega)]
theorem qco_B13 (w : WF h) {b : Nat} (hb : b = 8 ∨ b = 29) (hj : 50 ≤ j) (hk : j < 2147483648) : mX11_cell [.ref (b + 13), .int (N j)] h = some (.inl (some (.int (N 0))), h) := by
  have e := cell_N w (i := (b + 13)) (k := j) (by rw [(shB_13 hb)]) (by omega) (by rw [(shB_13 hb)]; decide) hk
  rw [(shB_13 hb)] at e
  rw [e]
  dsimp only
  rw [if_neg (by omega)]
theorem qf_B13 (w : WF h) {b : Nat} (hb : b = 8 ∨ b = 29) : mJ7_fill_53178 [.ref (b + 13), .int y] h = some (.inl none, stR h (b + 13) 50 (fun _ => y)) := by
  have e := fill_ok w (i := (b + 13)) (by rw [(shB_13 hb)]) (by omega) (by rw [(shB_13 hb)]; decide) y
  rw [(shB_13 hb)] at e
  exact e
theorem qA_B14 (w : WF h) {b : Nat} (hb : b = 8 ∨ b = 29) (hj : j < 5) : i_iaload F L (.int (N j) :: .ref (b + 14) :: S) h = F L (.int (gI h (b + 14) j) :: S) h := by
  have e : ¬ N j < 0 := by rw [lit32, N_lt (by omega) (by omega)]; omega
  rw [r_iaload, N_nat (by omega), if_pos ⟨by rw [(shB_14 hb)], by rw [w.n]; omega, e, by rw [(shB_14 hb)]; exact hj⟩]
theorem qS_B14 (w : WF h) {b : Nat} (hb : b = 8 ∨ b = 29) (hj : j < 5) : i_iastore F L (.int y :: .int (N j) :: .ref (b + 14) :: S) h = F L S (sI h (b + 14) j y) := by
  have e : ¬ N j < 0 := by rw [lit32, N_lt (by omega) (by omega)]; omega
  rw [r_iastore, N_nat (by omega), if_pos ⟨by rw [(shB_14 hb)], by rw [w.n]; omega, e, by rw [(shB_14 hb)]; exact hj⟩]
theorem qc_B14 (w : WF h) {b : Nat} (hb : b = 8 ∨ b = 29) (hj : j < 5) : mX11_cell [.ref (b + 14), .int (N j)] h = some (.inl (some (.int (gI h (b + 14) j))), h) := by
  have e := cell_N w (i := (b + 14)) (k := j) (by rw [(shB_14 hb)]) (by omega) (by rw [(shB_14 hb)]; decide) (by omega)
  rw [(shB_14 hb)] at e
  rw [e]
  dsimp only
  rw [if_pos hj]
theorem qp_B14 (w : WF h) {b : Nat} (hb : b = 8 ∨ b = 29) (hj : j < 5) : mX11_put [.ref (b + 14), .int (N j), .int y] h = some (.inl none, sI h (b + 14) j y) := by
  have e := put_N w (i := (b + 14)) (k := j) (by rw [(shB_14 hb)]) (by omega) (by rw [(shB_14 hb)]; decide) (by omega) y
  rw [(shB_14 hb)] at e
  rw [e]
  dsimp only
  rw [if_pos hj]
theorem qpo_B14 (w : WF h) {b : Nat} (hb : b = 8 ∨ b = 29) (hj : 5 ≤ j) (hk : j < 2147483648) : mX11_put [.ref (b + 14), .int (N j), .int y] h = some (.inl none, h) := by
  have e := put_N w (i := (b + 14)) (k := j) (by rw [(shB_14 hb)]) (by omega) (by rw [(shB_14 hb)]; decide) hk y
  rw [(shB_14 hb)] at e
  rw [e]
  dsimp only
  rw [if_neg (by omega)]
theorem qco_B14 (w : WF h) {b : Nat} (hb : b = 8 ∨ b = 29) (hj : 5 ≤ j) (hk : j < 2147483648) : mX11_cell [.ref (b + 14), .int (N j)] h = some (.inl (some (.int (N 0))), h) := by
  have e := cell_N w (i := (b + 14)) (k := j) (by rw [(shB_14 hb)]) (by omega) (by rw [(shB_14 hb)]; decide) hk
  rw [(shB_14 hb)] at e
  rw [e]
  dsimp only
  rw [if_neg (by omega)]
theorem qf_B14 (w : WF h) {b : Nat} (hb : b = 8 ∨ b = 29) : mJ7_fill_53178 [.ref (b + 14), .int y] h = some (.inl none, stR h (b + 14) 5 (fun _ => y)) := by
  have e := fill_ok w (i := (b + 14)) (by rw [(shB_14 hb)]) (by omega) (by rw [(shB_14 hb)]; decide) y
  rw [(shB_14 hb)] at e
  exact e
theorem qA_B15 (w : WF h) {b : Nat} (hb : b = 8 ∨ b = 29) (hj : j < 33) : i_iaload F L (.int (N j) :: .ref (b + 15) :: S) h = F L (.int (gI h (b + 15) j) :: S) h := by
  have e : ¬ N j < 0 := by rw [lit32, N_lt (by omega) (by omega)]; omega
  rw [r_iaload, N_nat (by omega), if_pos ⟨by rw [(shB_15 hb)], by rw [w.n]; omega, e, by rw [(shB_15 hb)]; exact hj⟩]
theorem qS_B15 (w : WF h) {b : Nat} (hb : b = 8 ∨ b = 29) (hj : j < 33) : i_iastore F L (.int y :: .int (N j) :: .ref (b + 15) :: S) h = F L S (sI h (b + 15) j y) := by
  have e : ¬ N j < 0 := by rw [lit32, N_lt (by omega) (by omega)]; omega
  rw [r_iastore, N_nat (by omega), if_pos ⟨by rw [(shB_15 hb)], by rw [w.n]; omega, e, by rw [(shB_15 hb)]; exact hj⟩]
theorem qc_B15 (w : WF h) {b : Nat} (hb : b = 8 ∨ b = 29) (hj : j < 33) : mX11_cell [.ref (b + 15), .int (N j)] h = some (.inl (some (.int (gI h (b + 15) j))), h) := by
  have e := cell_N w (i := (b + 15)) (k := j) (by rw [(shB_15 hb)]) (by omega) (by rw [(shB_15 hb)]; decide) (by omega)
  rw [(shB_15 hb)] at e
  rw [e]
  dsimp only
  rw [if_pos hj]
theorem qp_B15 (w : WF h) {b : Nat} (hb : b = 8 ∨ b = 29) (hj : j < 33) : mX11_put [.ref (b + 15), .int (N j), .int y] h = some (.inl none, sI h (b + 15) j y) := by
  have e := put_N w (i := (b + 15)) (k := j) (by rw [(shB_15 hb)]) (by omega) (by rw [(shB_15 hb)]; decide) (by omega) y
  rw [(shB_15 hb)] at e
  rw [e]
  dsimp only
  rw [if_pos hj]
theorem qpo_B15 (w : WF h) {b : Nat} (hb : b = 8 ∨ b = 29) (hj : 33 ≤ j) (hk : j < 2147483648) : mX11_put [.ref (b + 15), .int (N j), .int y] h = some (.inl none, h) := by
  have e := put_N w (i := (b + 15)) (k := j) (by rw [(shB_15 hb)]) (by omega) (by rw [(shB_15 hb)]; decide) hk y
  rw [(shB_15 hb)] at e
  rw [e]
  dsimp only
  rw [if_neg (by omega)]
theorem qco_B15 (w : WF h) {b : Nat} (hb : b = 8 ∨ b = 29) (hj : 33 ≤ j) (hk : j < 2147483648) : mX11_cell [.ref (b + 15), .int (N j)] h = some (.inl (some (.int (N 0))), h) := by
  have e := cell_N w (i := (b + 15)) (k := j) (by rw [(shB_15 hb)]) (by omega) (by rw [(shB_15 hb)]; decide) hk
  rw [(shB_15 hb)] at e
  rw [e]
  dsimp only
  rw [if_neg (by omega)]
theorem qf_B15 (w : WF h) {b : Nat} (hb : b = 8 ∨ b = 29) : mJ7_fill_53178 [.ref (b + 15), .int y] h = some (.inl none, stR h (b + 15) 33 (fun _ => y)) := by
  have e := fill_ok w (i := (b + 15)) (by rw [(shB_15 hb)]) (by omega) (by rw [(shB_15 hb)]; decide) y
  rw [(shB_15 hb)] at e
  exact e
theorem qA_B16 (w : WF h) {b : Nat} (hb : b = 8 ∨ b = 29) (hj : j < 33) : i_iaload F L (.int (N j) :: .ref (b + 16) :: S) h = F L (.int (gI h (b + 16) j) :: S) h := by
  have e : ¬ N j < 0 := by rw [lit32, N_lt (by omega) (by omega)]; omega
  rw [r_iaload, N_nat (by omega), if_pos ⟨by rw [(shB_16 hb)], by rw [w.n]; omega, e, by rw [(shB_16 hb)]; exact hj⟩]
theorem qS_B16 (w : WF h) {b : Nat} (hb : b = 8 ∨ b = 29) (hj : j < 33) : i_iastore F L (.int y :: .int (N j) :: .ref (b + 16) :: S) h = F L S (sI h (b + 16) j y) := by
  have e : ¬ N j < 0 := by rw [lit32, N_lt (by omega) (by omega)]; omega
  rw [r_iastore, N_nat (by omega), if_pos ⟨by rw [(shB_16 hb)], by rw [w.n]; omega, e, by rw [(shB_16 hb)]; exact hj⟩]
theorem qc_B16 (w : WF h) {b : Nat} (hb : b = 8 ∨ b = 29) (hj : j < 33) : mX11_cell [.ref (b + 16), .int (N j)] h = some (.inl (some (.int (gI h (b + 16) j))), h) := by
  have e := cell_N w (i := (b + 16)) (k := j) (by rw [(shB_16 hb)]) (by omega) (by rw [(shB_16 hb)]; decide) (by omega)
  rw [(shB_16 hb)] at e
  rw [e]
  dsimp only
  rw [if_pos hj]
theorem qp_B16 (w : WF h) {b : Nat} (hb : b = 8 ∨ b = 29) (hj : j < 33) : mX11_put [.ref (b + 16), .int (N j), .int y] h = some (.inl none, sI h (b + 16) j y) := by
  have e := put_N w (i := (b + 16)) (k := j) (by rw [(shB_16 hb)]) (by omega) (by rw [(shB_16 hb)]; decide) (by omega) y
  rw [(shB_16 hb)] at e
  rw [e]
  dsimp only
  rw [if_pos hj]
theorem qpo_B16 (w : WF h) {b : Nat} (hb : b = 8 ∨ b = 29) (hj : 33 ≤ j) (hk : j < 2147483648) : mX11_put [.ref (b + 16), .int (N j), .int y] h = some (.inl none, h) := by
  have e := put_N w (i := (b + 16)) (k := j) (by rw [(shB_16 hb)]) (by omega) (by rw [(shB_16 hb)]; decide) hk y
  rw [(shB_16 hb)] at e
  rw [e]
  dsimp only
  rw [if_neg (by omega)]
theorem qco_B16 (w : WF h) {b : Nat} (hb : b = 8 ∨ b = 29) (hj : 33 ≤ j) (hk : j < 2147483648) : mX11_cell [.ref (b + 16), .int (N j)] h = some (.inl (some (.int (N 0))), h) := by
  have e := cell_N w (i := (b + 16)) (k := j) (by rw [(shB_16 hb)]) (by omega) (by rw [(shB_16 hb)]; decide) hk
  rw [(shB_16 hb)] at e
  rw [e]
  dsimp only
  rw [if_neg (by omega)]
theorem qf_B16 (w : WF h) {b : Nat} (hb : b = 8 ∨ b = 29) : mJ7_fill_53178 [.ref (b + 16), .int y] h = some (.inl none, stR h (b + 16) 33 (fun _ => y)) := by
  have e := fill_ok w (i := (b + 16)) (by rw [(shB_16 hb)]) (by omega) (by rw [(shB_16 hb)]; decide) y
  rw [(shB_16 hb)] at e
  exact e
theorem qA_B17 (w : WF h) {b : Nat} (hb : b = 8 ∨ b = 29) (hj : j < 144) : i_iaload F L (.int (N j) :: .ref (b + 17) :: S) h = F L (.int (gI h (b + 17) j) :: S) h := by
  have e : ¬ N j < 0 := by rw [lit32, N_lt (by omega) (by omega)]; omega
  rw [r_iaload, N_nat (by omega), if_pos ⟨by rw [(shB_17 hb)], by rw [w.n]; omega, e, by rw [(shB_17 hb)]; exact hj⟩]
theorem qS_B17 (w : WF h) {b : Nat} (hb : b = 8 ∨ b = 29) (hj : j < 144) : i_iastore F L (.int y :: .int (N j) :: .ref (b + 17) :: S) h = F L S (sI h (b + 17) j y) := by
  have e : ¬ N j < 0 := by rw [lit32, N_lt (by omega) (by omega)]; omega
  rw [r_iastore, N_nat (by omega), if_pos ⟨by rw [(shB_17 hb)], by rw [w.n]; omega, e, by rw [(shB_17 hb)]; exact hj⟩]
theorem qc_B17 (w : WF h) {b : Nat} (hb : b = 8 ∨ b = 29) (hj : j < 144) : mX11_cell [.ref (b + 17), .int (N j)] h = some (.inl (some (.int (gI h (b + 17) j))), h) := by
  have e := cell_N w (i := (b + 17)) (k := j) (by rw [(shB_17 hb)]) (by omega) (by rw [(shB_17 hb)]; decide) (by omega)
  rw [(shB_17 hb)] at e
  rw [e]
  dsimp only
  rw [if_pos hj]
theorem qp_B17 (w : WF h) {b : Nat} (hb : b = 8 ∨ b = 29) (hj : j < 144) : mX11_put [.ref (b + 17), .int (N j), .int y] h = some (.inl none, sI h (b + 17) j y) := by
  have e := put_N w (i := (b + 17)) (k := j) (by rw [(shB_17 hb)]) (by omega) (by rw [(shB_17 hb)]; decide) (by omega) y
  rw [(shB_17 hb)] at e
  rw [e]
  dsimp only
  rw [if_pos hj]
theorem qpo_B17 (w : WF h) {b : Nat} (hb : b = 8 ∨ b = 29) (hj : 144 ≤ j) (hk : j < 2147483648) : mX11_put [.ref (b + 17), .int (N j), .int y] h = some (.inl none, h) := by
  have e := put_N w (i := (b + 17)) (k := j) (by rw [(shB_17 hb)]) (by omega) (by rw [(shB_17 hb)]; decide) hk y
  rw [(shB_17 hb)] at e
  rw [e]
  dsimp only
  rw [if_neg (by omega)]
theorem qco_B17 (w : WF h) {b : Nat} (hb : b = 8 ∨ b = 29) (hj : 144 ≤ j) (hk : j < 2147483648) : mX11_cell [.ref (b + 17), .int (N j)] h = some (.inl (some (.int (N 0))), h) := by
  have e := cell_N w (i := (b + 17)) (k := j) (by rw [(shB_17 hb)]) (by omega) (by rw [(shB_17 hb)]; decide) hk
  rw [(shB_17 hb)] at e
  rw [e]
  dsimp only
  rw [if_neg (by omega)]
theorem qf_B17 (w : WF h) {b : Nat} (hb : b = 8 ∨ b = 29) : mJ7_fill_53178 [.ref (b + 17), .int y] h = some (.inl none, stR h (b + 17) 144 (fun _ => y)) := by
  have e := fill_ok w (i := (b + 17)) (by rw [(shB_17 hb)]) (by omega) (by rw [(shB_17 hb)]; decide) y
  rw [(shB_17 hb)] at e
  exact e
theorem qA_B18 (w : WF h) {b : Nat} (hb : b = 8 ∨ b = 29) (hj : j < 6) : i_iaload F L (.int (N j) :: .ref (b + 18) :: S) h = F L (.int (gI h (b + 18) j) :: S) h := by
  have e : ¬ N j < 0 := by rw [lit32, N_lt (by omega) (by omega)]; omega
  rw [r_iaload, N_nat (by omega), if_pos ⟨by rw [(shB_18 hb)], by rw [w.n]; omega, e, by rw [(shB_18 hb)]; exact hj⟩]
theorem qS_B18 (w : WF h) {b : Nat} (hb : b = 8 ∨ b = 29) (hj : j < 6) : i_iastore F L (.int y :: .int (N j) :: .ref (b + 18) :: S) h = F L S (sI h (b + 18) j y) := by
  have e : ¬ N j < 0 := by rw [lit32, N_lt (by omega) (by omega)]; omega
  rw [r_iastore, N_nat (by omega), if_pos ⟨by rw [(shB_18 hb)], by rw [w.n]; omega, e, by rw [(shB_18 hb)]; exact hj⟩]
theorem qc_B18 (w : WF h) {b : Nat} (hb : b = 8 ∨ b = 29) (hj : j < 6) : mX11_cell [.ref (b + 18), .int (N j)] h = some (.inl (some (.int (gI h (b + 18) j))), h) := by
  have e := cell_N w (i := (b + 18)) (k := j) (by rw [(shB_18 hb)]) (by omega) (by rw [(shB_18 hb)]; decide) (by omega)
  rw [(shB_18 hb)] at e
  rw [e]
  dsimp only
  rw [if_pos hj]
theorem qp_B18 (w : WF h) {b : Nat} (hb : b = 8 ∨ b = 29) (hj : j < 6) : mX11_put [.ref (b + 18), .int (N j), .int y] h = some (.inl none, sI h (b + 18) j y) := by
  have e := put_N w (i := (b + 18)) (k := j) (by rw [(shB_18 hb)]) (by omega) (by rw [(shB_18 hb)]; decide) (by omega) y
  rw [(shB_18 hb)] at e
  rw [e]
  dsimp only
  rw [if_pos hj]
theorem qpo_B18 (w : WF h) {b : Nat} (hb : b = 8 ∨ b = 29) (hj : 6 ≤ j) (hk : j < 2147483648) : mX11_put [.ref (b + 18), .int (N j), .int y] h = some (.inl none, h) := by
  have e := put_N w (i := (b + 18)) (k := j) (by rw [(shB_18 hb)]) (by omega) (by rw [(shB_18 hb)]; decide) hk y
  rw [(shB_18 hb)] at e
  rw [e]
  dsimp only
  rw [if_neg (by omega)]
theorem qco_B18 (w : WF h) {b : Nat} (hb : b = 8 ∨ b = 29) (hj : 6 ≤ j) (hk : j < 2147483648) : mX11_cell [.ref (b + 18), .int (N j)] h = some (.inl (some (.int (N 0))), h) := by
  have e := cell_N w (i := (b + 18)) (k := j) (by rw [(shB_18 hb)]) (by omega) (by rw [(shB_18 hb)]; decide) hk
  rw [(shB_18 hb)] at e
  rw [e]
  dsimp only
  rw [if_neg (by omega)]
theorem qf_B18 (w : WF h) {b : Nat} (hb : b = 8 ∨ b = 29) : mJ7_fill_53178 [.ref (b + 18), .int y] h = some (.inl none, stR h (b + 18) 6 (fun _ => y)) := by
  have e := fill_ok w (i := (b + 18)) (by rw [(shB_18 hb)]) (by omega) (by rw [(shB_18 hb)]; decide) y
  rw [(shB_18 hb)] at e
  exact e
theorem qA_B19 (w : WF h) {b : Nat} (hb : b = 8 ∨ b = 29) (hj : j < 10) : i_iaload F L (.int (N j) :: .ref (b + 19) :: S) h = F L (.int (gI h (b + 19) j) :: S) h := by
  have e : ¬ N j < 0 := by rw [lit32, N_lt (by omega) (by omega)]; omega
  rw [r_iaload, N_nat (by omega), if_pos ⟨by rw [(shB_19 hb)], by rw [w.n]; omega, e, by rw [(shB_19 hb)]; exact hj⟩]
theorem qS_B19 (w : WF h) {b : Nat} (hb : b = 8 ∨ b = 29) (hj : j < 10) : i_iastore F L (.int y :: .int (N j) :: .ref (b + 19) :: S) h = F L S (sI h (b + 19) j y) := by
  have e : ¬ N j < 0 := by rw [lit32, N_lt (by omega) (by omega)]; omega
  rw [r_iastore, N_nat (by omega), if_pos ⟨by rw [(shB_19 hb)], by rw [w.n]; omega, e, by rw [(shB_19 hb)]; exact hj⟩]
theorem qc_B19 (w : WF h) {b : Nat} (hb : b = 8 ∨ b = 29) (hj : j < 10) : mX11_cell [.ref (b + 19), .int (N j)] h = some (.inl (some (.int (gI h (b + 19) j))), h) := by
  have e := cell_N w (i := (b + 19)) (k := j) (by rw [(shB_19 hb)]) (by omega) (by rw [(shB_19 hb)]; decide) (by omega)
  rw [(shB_19 hb)] at e
  rw [e]
  dsimp only
  rw [if_pos hj]
theorem qp_B19 (w : WF h) {b : Nat} (hb : b = 8 ∨ b = 29) (hj : j < 10) : mX11_put [.ref (b + 19), .int (N j), .int y] h = some (.inl none, sI h (b + 19) j y) := by
  have e := put_N w (i := (b + 19)) (k := j) (by rw [(shB_19 hb)]) (by omega) (by rw [(shB_19 hb)]; decide) (by omega) y
  rw [(shB_19 hb)] at e
  rw [e]
  dsimp only
  rw [if_pos hj]
theorem qpo_B19 (w : WF h) {b : Nat} (hb : b = 8 ∨ b = 29) (hj : 10 ≤ j) (hk : j < 2147483648) : mX11_put [.ref (b + 19), .int (N j), .int y] h = some (.inl none, h) := by
  have e := put_N w (i := (b + 19)) (k := j) (by rw [(shB_19 hb)]) (by omega) (by rw [(shB_19 hb)]; decide) hk y
  rw [(shB_19 hb)] at e
  rw [e]
  dsimp only
  rw [if_neg (by omega)]
theorem qco_B19 (w : WF h) {b : Nat} (hb : b = 8 ∨ b = 29) (hj : 10 ≤ j) (hk : j < 2147483648) : mX11_cell [.ref (b + 19), .int (N j)] h = some (.inl (some (.int (N 0))), h) := by
  have e := cell_N w (i := (b + 19)) (k := j) (by rw [(shB_19 hb)]) (by omega) (by rw [(shB_19 hb)]; decide) hk
  rw [(shB_19 hb)] at e
  rw [e]
  dsimp only
  rw [if_neg (by omega)]
theorem qf_B19 (w : WF h) {b : Nat} (hb : b = 8 ∨ b = 29) : mJ7_fill_53178 [.ref (b + 19), .int y] h = some (.inl none, stR h (b + 19) 10 (fun _ => y)) := by
  have e := fill_ok w (i := (b + 19)) (by rw [(shB_19 hb)]) (by omega) (by rw [(shB_19 hb)]; decide) y
  rw [(shB_19 hb)] at e
  exact e
theorem qA_B20 (w : WF h) {b : Nat} (hb : b = 8 ∨ b = 29) (hj : j < 10) : i_iaload F L (.int (N j) :: .ref (b + 20) :: S) h = F L (.int (gI h (b + 20) j) :: S) h := by
  have e : ¬ N j < 0 := by rw [lit32, N_lt (by omega) (by omega)]; omega
  rw [r_iaload, N_nat (by omega), if_pos ⟨by rw [(shB_20 hb)], by rw [w.n]; omega, e, by rw [(shB_20 hb)]; exact hj⟩]
theorem qS_B20 (w : WF h) {b : Nat} (hb : b = 8 ∨ b = 29) (hj : j < 10) : i_iastore F L (.int y :: .int (N j) :: .ref (b + 20) :: S) h = F L S (sI h (b + 20) j y) := by
  have e : ¬ N j < 0 := by rw [lit32, N_lt (by omega) (by omega)]; omega
  rw [r_iastore, N_nat (by omega), if_pos ⟨by rw [(shB_20 hb)], by rw [w.n]; omega, e, by rw [(shB_20 hb)]; exact hj⟩]
theorem qc_B20 (w : WF h) {b : Nat} (hb : b = 8 ∨ b = 29) (hj : j < 10) : mX11_cell [.ref (b + 20), .int (N j)] h = some (.inl (some (.int (gI h (b + 20) j))), h) := by
  have e := cell_N w (i := (b + 20)) (k := j) (by rw [(shB_20 hb)]) (by omega) (by rw [(shB_20 hb)]; decide) (by omega)
  rw [(shB_20 hb)] at e
  rw [e]
  dsimp only
  rw [if_pos hj]
theorem qp_B20 (w : WF h) {b : Nat} (hb : b = 8 ∨ b = 29) (hj : j < 10) : mX11_put [.ref (b + 20), .int (N j), .int y] h = some (.inl none, sI h (b + 20) j y) := by
  have e := put_N w (i := (b + 20)) (k := j) (by rw [(shB_20 hb)]) (by omega) (by rw [(shB_20 hb)]; decide) (by omega) y
  rw [(shB_20 hb)] at e
  rw [e]
  dsimp only
  rw [if_pos hj]
theorem qpo_B20 (w : WF h) {b : Nat} (hb : b = 8 ∨ b = 29) (hj : 10 ≤ j) (hk : j < 2147483648) : mX11_put [.ref (b + 20), .int (N j), .int y] h = some (.inl none, h) := by
  have e := put_N w (i := (b + 20)) (k := j) (by rw [(shB_20 hb)]) (by omega) (by rw [(shB_20 hb)]; decide) hk y
  rw [(shB_20 hb)] at e
  rw [e]
  dsimp only
  rw [if_neg (by omega)]
theorem qco_B20 (w : WF h) {b : Nat} (hb : b = 8 ∨ b = 29) (hj : 10 ≤ j) (hk : j < 2147483648) : mX11_cell [.ref (b + 20), .int (N j)] h = some (.inl (some (.int (N 0))), h) := by
  have e := cell_N w (i := (b + 20)) (k := j) (by rw [(shB_20 hb)]) (by omega) (by rw [(shB_20 hb)]; decide) hk
  rw [(shB_20 hb)] at e
  rw [e]
  dsimp only
  rw [if_neg (by omega)]
theorem qf_B20 (w : WF h) {b : Nat} (hb : b = 8 ∨ b = 29) : mJ7_fill_53178 [.ref (b + 20), .int y] h = some (.inl none, stR h (b + 20) 10 (fun _ => y)) := by
  have e := fill_ok w (i := (b + 20)) (by rw [(shB_20 hb)]) (by omega) (by rw [(shB_20 hb)]; decide) y
  rw [(shB_20 hb)] at e
  exact e
theorem qs_0 (hc : cs S ≤ 8) : i_callS 0 f F L (S) h = i_after (f [] h) S F L := by rw [r_callS_0, if_pos hc]
theorem qs_1 (hc : cs S ≤ 8) : i_callS 1 f F L (v1 :: S) h = i_after (f [v1] h) S F L := by rw [r_callS_1, if_pos hc]
theorem qs_2 (hc : cs S ≤ 8) : i_callS 2 f F L (v2 :: v1 :: S) h = i_after (f [v1, v2] h) S F L := by rw [r_callS_2, if_pos hc]
theorem qs_3 (hc : cs S ≤ 8) : i_callS 3 f F L (v3 :: v2 :: v1 :: S) h = i_after (f [v1, v2, v3] h) S F L := by rw [r_callS_3, if_pos hc]
theorem qs_4 (hc : cs S ≤ 8) : i_callS 4 f F L (v4 :: v3 :: v2 :: v1 :: S) h = i_after (f [v1, v2, v3, v4] h) S F L := by rw [r_callS_4, if_pos hc]
theorem qs_5 (hc : cs S ≤ 8) : i_callS 5 f F L (v5 :: v4 :: v3 :: v2 :: v1 :: S) h = i_after (f [v1, v2, v3, v4, v5] h) S F L := by rw [r_callS_5, if_pos hc]
theorem qs_6 (hc : cs S ≤ 8) : i_callS 6 f F L (v6 :: v5 :: v4 :: v3 :: v2 :: v1 :: S) h = i_after (f [v1, v2, v3, v4, v5, v6] h) S F L := by rw [r_callS_6, if_pos hc]
theorem q_max (hc : cs S ≤ 8) : i_max F L (.int y :: .int x :: S) h = F L (.int (if x < y then y else x) :: S) h := by rw [r_max, if_pos hc]
theorem q_min (hc : cs S ≤ 8) : i_min F L (.int y :: .int x :: S) h = F L (.int (if y < x then y else x) :: S) h := by rw [r_min, if_pos hc]
end OPS2
