theorem shB_0 {b : Nat} (hb : b = 8 ∨ b = 29) : sh b = (0, 0) := by rcases hb with rfl | rfl <;> rfl
theorem shB_1 {b : Nat} (hb : b = 8 ∨ b = 29) : sh (b + 1) = (0, 7) := by rcases hb with rfl | rfl <;> rfl
theorem shB_2 {b : Nat} (hb : b = 8 ∨ b = 29) : sh (b + 2) = (1, 12) := by rcases hb with rfl | rfl <;> rfl
theorem shB_3 {b : Nat} (hb : b = 8 ∨ b = 29) : sh (b + 3) = (1, 12) := by rcases hb with rfl | rfl <;> rfl
theorem shB_4 {b : Nat} (hb : b = 8 ∨ b = 29) : sh (b + 4) = (1, 12) := by rcases hb with rfl | rfl <;> rfl
theorem shB_5 {b : Nat} (hb : b = 8 ∨ b = 29) : sh (b + 5) = (0, 3) := by rcases hb with rfl | rfl <;> rfl
theorem shB_6 {b : Nat} (hb : b = 8 ∨ b = 29) : sh (b + 6) = (1, 5) := by rcases hb with rfl | rfl <;> rfl
theorem shB_7 {b : Nat} (hb : b = 8 ∨ b = 29) : sh (b + 7) = (1, 5) := by rcases hb with rfl | rfl <;> rfl
theorem shB_8 {b : Nat} (hb : b = 8 ∨ b = 29) : sh (b + 8) = (1, 5) := by rcases hb with rfl | rfl <;> rfl
theorem shB_9 {b : Nat} (hb : b = 8 ∨ b = 29) : sh (b + 9) = (1, 5) := by rcases hb with rfl | rfl <;> rfl
theorem shB_10 {b : Nat} (hb : b = 8 ∨ b = 29) : sh (b + 10) = (1, 5) := by rcases hb with rfl | rfl <;> rfl
theorem shB_11 {b : Nat} (hb : b = 8 ∨ b = 29) : sh (b + 11) = (1, 15) := by rcases hb with rfl | rfl <;> rfl
theorem shB_12 {b : Nat} (hb : b = 8 ∨ b = 29) : sh (b + 12) = (1, 50) := by rcases hb with rfl | rfl <;> rfl
theorem shB_13 {b : Nat} (hb : b = 8 ∨ b = 29) : sh (b + 13) = (1, 50) := by rcases hb with rfl | rfl <;> rfl
theorem shB_14 {b : Nat} (hb : b = 8 ∨ b = 29) : sh (b + 14) = (1, 5) := by rcases hb with rfl | rfl <;> rfl
theorem shB_15 {b : Nat} (hb : b = 8 ∨ b = 29) : sh (b + 15) = (1, 33) := by rcases hb with rfl | rfl <;> rfl
theorem shB_16 {b : Nat} (hb : b = 8 ∨ b = 29) : sh (b + 16) = (1, 33) := by rcases hb with rfl | rfl <;> rfl
theorem shB_17 {b : Nat} (hb : b = 8 ∨ b = 29) : sh (b + 17) = (1, 144) := by rcases hb with rfl | rfl <;> rfl
theorem shB_18 {b : Nat} (hb : b = 8 ∨ b = 29) : sh (b + 18) = (1, 6) := by rcases hb with rfl | rfl <;> rfl
theorem shB_19 {b : Nat} (hb : b = 8 ∨ b = 29) : sh (b + 19) = (1, 10) := by rcases hb with rfl | rfl <;> rfl
theorem shB_20 {b : Nat} (hb : b = 8 ∨ b = 29) : sh (b + 20) = (1, 10) := by rcases hb with rfl | rfl <;> rfl
theorem rB_0_0 {h : AH} (w : WF h) {b : Nat} (hb : b = 8 ∨ b = 29) : gR h b 0 = some (b + 1) := by
  rcases hb with rfl | rfl
  · exact rf_8_0 w
  · exact rf_29_0 w
theorem rB_0_1 {h : AH} (w : WF h) {b : Nat} (hb : b = 8 ∨ b = 29) : gR h b 1 = some (b + 5) := by
  rcases hb with rfl | rfl
  · exact rf_8_1 w
  · exact rf_29_1 w
theorem rB_0_11 {h : AH} (w : WF h) {b : Nat} (hb : b = 8 ∨ b = 29) : gR h b 11 = some (b + 15) := by
  rcases hb with rfl | rfl
  · exact rf_8_11 w
  · exact rf_29_11 w
theorem rB_0_12 {h : AH} (w : WF h) {b : Nat} (hb : b = 8 ∨ b = 29) : gR h b 12 = some (b + 16) := by
  rcases hb with rfl | rfl
  · exact rf_8_12 w
  · exact rf_29_12 w
theorem rB_0_13 {h : AH} (w : WF h) {b : Nat} (hb : b = 8 ∨ b = 29) : gR h b 13 = some (b + 17) := by
  rcases hb with rfl | rfl
  · exact rf_8_13 w
  · exact rf_29_13 w
theorem rB_0_14 {h : AH} (w : WF h) {b : Nat} (hb : b = 8 ∨ b = 29) : gR h b 14 = some (b + 18) := by
  rcases hb with rfl | rfl
  · exact rf_8_14 w
  · exact rf_29_14 w
theorem rB_0_15 {h : AH} (w : WF h) {b : Nat} (hb : b = 8 ∨ b = 29) : gR h b 15 = some (b + 19) := by
  rcases hb with rfl | rfl
  · exact rf_8_15 w
  · exact rf_29_15 w
theorem rB_0_16 {h : AH} (w : WF h) {b : Nat} (hb : b = 8 ∨ b = 29) : gR h b 16 = some (b + 20) := by
  rcases hb with rfl | rfl
  · exact rf_8_16 w
  · exact rf_29_16 w
theorem rB_1_1 {h : AH} (w : WF h) {b : Nat} (hb : b = 8 ∨ b = 29) : gR h (b + 1) 1 = some (b + 2) := by
  rcases hb with rfl | rfl
  · exact rf_9_1 w
  · exact rf_30_1 w
theorem rB_1_2 {h : AH} (w : WF h) {b : Nat} (hb : b = 8 ∨ b = 29) : gR h (b + 1) 2 = some (b + 3) := by
  rcases hb with rfl | rfl
  · exact rf_9_2 w
  · exact rf_30_2 w
theorem rB_1_3 {h : AH} (w : WF h) {b : Nat} (hb : b = 8 ∨ b = 29) : gR h (b + 1) 3 = some (b + 4) := by
  rcases hb with rfl | rfl
  · exact rf_9_3 w
  · exact rf_30_3 w
theorem rB_5_1 {h : AH} (w : WF h) {b : Nat} (hb : b = 8 ∨ b = 29) : gR h (b + 5) 1 = some (b + 6) := by
  rcases hb with rfl | rfl
  · exact rf_13_1 w
  · exact rf_34_1 w
theorem rB_5_2 {h : AH} (w : WF h) {b : Nat} (hb : b = 8 ∨ b = 29) : gR h (b + 5) 2 = some (b + 7) := by
  rcases hb with rfl | rfl
  · exact rf_13_2 w
  · exact rf_34_2 w
theorem rB_5_3 {h : AH} (w : WF h) {b : Nat} (hb : b = 8 ∨ b = 29) : gR h (b + 5) 3 = some (b + 8) := by
  rcases hb with rfl | rfl
  · exact rf_13_3 w
  · exact rf_34_3 w
theorem rB_5_4 {h : AH} (w : WF h) {b : Nat} (hb : b = 8 ∨ b = 29) : gR h (b + 5) 4 = some (b + 9) := by
  rcases hb with rfl | rfl
  · exact rf_13_4 w
  · exact rf_34_4 w
theorem rB_5_5 {h : AH} (w : WF h) {b : Nat} (hb : b = 8 ∨ b = 29) : gR h (b + 5) 5 = some (b + 10) := by
  rcases hb with rfl | rfl
  · exact rf_13_5 w
  · exact rf_34_5 w
theorem rB_5_6 {h : AH} (w : WF h) {b : Nat} (hb : b = 8 ∨ b = 29) : gR h (b + 5) 6 = some (b + 11) := by
  rcases hb with rfl | rfl
  · exact rf_13_6 w
  · exact rf_34_6 w
theorem rB_5_7 {h : AH} (w : WF h) {b : Nat} (hb : b = 8 ∨ b = 29) : gR h (b + 5) 7 = some (b + 12) := by
  rcases hb with rfl | rfl
  · exact rf_13_7 w
  · exact rf_34_7 w
theorem rB_5_8 {h : AH} (w : WF h) {b : Nat} (hb : b = 8 ∨ b = 29) : gR h (b + 5) 8 = some (b + 13) := by
  rcases hb with rfl | rfl
  · exact rf_13_8 w
  · exact rf_34_8 w
theorem rB_5_9 {h : AH} (w : WF h) {b : Nat} (hb : b = 8 ∨ b = 29) : gR h (b + 5) 9 = some (b + 14) := by
  rcases hb with rfl | rfl
  · exact rf_13_9 w
  · exact rf_34_9 w
theorem cB_2 {h : AH} (w : WF h) {b : Nat} (hb : b = 8 ∨ b = 29) {k : Nat} (hk : k < 2147483648) : mX11_cell [.ref (b + 2), .int (N k)] h = some (.inl (some (.int (if k < 12 then gI h (b + 2) k else N 0))), h) := by
  have e := cell_N w (i := b + 2) (by rw [shB_2 hb]) (by omega) (by rw [shB_2 hb]; decide) hk
  rw [shB_2 hb] at e
  exact e
theorem fB_2 {h : AH} (w : WF h) {b : Nat} (hb : b = 8 ∨ b = 29) (v : Int32) : mJ7_fill_53178 [.ref (b + 2), .int v] h = some (.inl none, stR h (b + 2) 12 (fun _ => v)) := by
  have e := fill_ok w (i := b + 2) (by rw [shB_2 hb]) (by omega) (by rw [shB_2 hb]; decide) v
  rw [shB_2 hb] at e
  exact e
theorem pB_2 {h : AH} (w : WF h) {b : Nat} (hb : b = 8 ∨ b = 29) {k : Nat} (hk : k < 2147483648) (v : Int32) : mX11_put [.ref (b + 2), .int (N k), .int v] h = some (.inl none, if k < 12 then sI h (b + 2) k v else h) := by
  have e := put_N w (i := b + 2) (by rw [shB_2 hb]) (by omega) (by rw [shB_2 hb]; decide) hk v
  rw [shB_2 hb] at e
  exact e
theorem cB_3 {h : AH} (w : WF h) {b : Nat} (hb : b = 8 ∨ b = 29) {k : Nat} (hk : k < 2147483648) : mX11_cell [.ref (b + 3), .int (N k)] h = some (.inl (some (.int (if k < 12 then gI h (b + 3) k else N 0))), h) := by
  have e := cell_N w (i := b + 3) (by rw [shB_3 hb]) (by omega) (by rw [shB_3 hb]; decide) hk
  rw [shB_3 hb] at e
  exact e
theorem fB_3 {h : AH} (w : WF h) {b : Nat} (hb : b = 8 ∨ b = 29) (v : Int32) : mJ7_fill_53178 [.ref (b + 3), .int v] h = some (.inl none, stR h (b + 3) 12 (fun _ => v)) := by
  have e := fill_ok w (i := b + 3) (by rw [shB_3 hb]) (by omega) (by rw [shB_3 hb]; decide) v
  rw [shB_3 hb] at e
  exact e
theorem pB_3 {h : AH} (w : WF h) {b : Nat} (hb : b = 8 ∨ b = 29) {k : Nat} (hk : k < 2147483648) (v : Int32) : mX11_put [.ref (b + 3), .int (N k), .int v] h = some (.inl none, if k < 12 then sI h (b + 3) k v else h) := by
  have e := put_N w (i := b + 3) (by rw [shB_3 hb]) (by omega) (by rw [shB_3 hb]; decide) hk v
  rw [shB_3 hb] at e
  exact e
theorem cB_4 {h : AH} (w : WF h) {b : Nat} (hb : b = 8 ∨ b = 29) {k : Nat} (hk : k < 2147483648) : mX11_cell [.ref (b + 4), .int (N k)] h = some (.inl (some (.int (if k < 12 then gI h (b + 4) k else N 0))), h) := by
  have e := cell_N w (i := b + 4) (by rw [shB_4 hb]) (by omega) (by rw [shB_4 hb]; decide) hk
  rw [shB_4 hb] at e
  exact e
theorem fB_4 {h : AH} (w : WF h) {b : Nat} (hb : b = 8 ∨ b = 29) (v : Int32) : mJ7_fill_53178 [.ref (b + 4), .int v] h = some (.inl none, stR h (b + 4) 12 (fun _ => v)) := by
  have e := fill_ok w (i := b + 4) (by rw [shB_4 hb]) (by omega) (by rw [shB_4 hb]; decide) v
  rw [shB_4 hb] at e
  exact e
theorem pB_4 {h : AH} (w : WF h) {b : Nat} (hb : b = 8 ∨ b = 29) {k : Nat} (hk : k < 2147483648) (v : Int32) : mX11_put [.ref (b + 4), .int (N k), .int v] h = some (.inl none, if k < 12 then sI h (b + 4) k v else h) := by
  have e := put_N w (i := b + 4) (by rw [shB_4 hb]) (by omega) (by rw [shB_4 hb]; decide) hk v
  rw [shB_4 hb] at e
  exact e
theorem cB_6 {h : AH} (w : WF h) {b : Nat} (hb : b = 8 ∨ b = 29) {k : Nat} (hk : k < 2147483648) : mX11_cell [.ref (b + 6), .int (N k)] h = some (.inl (some (.int (if k < 5 then gI h (b + 6) k else N 0))), h) := by
  have e := cell_N w (i := b + 6) (by rw [shB_6 hb]) (by omega) (by rw [shB_6 hb]; decide) hk
  rw [shB_6 hb] at e
  exact e
theorem fB_6 {h : AH} (w : WF h) {b : Nat} (hb : b = 8 ∨ b = 29) (v : Int32) : mJ7_fill_53178 [.ref (b + 6), .int v] h = some (.inl none, stR h (b + 6) 5 (fun _ => v)) := by
  have e := fill_ok w (i := b + 6) (by rw [shB_6 hb]) (by omega) (by rw [shB_6 hb]; decide) v
  rw [shB_6 hb] at e
  exact e
theorem pB_6 {h : AH} (w : WF h) {b : Nat} (hb : b = 8 ∨ b = 29) {k : Nat} (hk : k < 2147483648) (v : Int32) : mX11_put [.ref (b + 6), .int (N k), .int v] h = some (.inl none, if k < 5 then sI h (b + 6) k v else h) := by
  have e := put_N w (i := b + 6) (by rw [shB_6 hb]) (by omega) (by rw [shB_6 hb]; decide) hk v
  rw [shB_6 hb] at e
  exact e
theorem cB_7 {h : AH} (w : WF h) {b : Nat} (hb : b = 8 ∨ b = 29) {k : Nat} (hk : k < 2147483648) : mX11_cell [.ref (b + 7), .int (N k)] h = some (.inl (some (.int (if k < 5 then gI h (b + 7) k else N 0))), h) := by
  have e := cell_N w (i := b + 7) (by rw [shB_7 hb]) (by omega) (by rw [shB_7 hb]; decide) hk
  rw [shB_7 hb] at e
  exact e
theorem fB_7 {h : AH} (w : WF h) {b : Nat} (hb : b = 8 ∨ b = 29) (v : Int32) : mJ7_fill_53178 [.ref (b + 7), .int v] h = some (.inl none, stR h (b + 7) 5 (fun _ => v)) := by
  have e := fill_ok w (i := b + 7) (by rw [shB_7 hb]) (by omega) (by rw [shB_7 hb]; decide) v
  rw [shB_7 hb] at e
  exact e
theorem pB_7 {h : AH} (w : WF h) {b : Nat} (hb : b = 8 ∨ b = 29) {k : Nat} (hk : k < 2147483648) (v : Int32) : mX11_put [.ref (b + 7), .int (N k), .int v] h = some (.inl none, if k < 5 then sI h (b + 7) k v else h) := by
  have e := put_N w (i := b + 7) (by rw [shB_7 hb]) (by omega) (by rw [shB_7 hb]; decide) hk v
  rw [shB_7 hb] at e
  exact e
theorem cB_8 {h : AH} (w : WF h) {b : Nat} (hb : b = 8 ∨ b = 29) {k : Nat} (hk : k < 2147483648) : mX11_cell [.ref (b + 8), .int (N k)] h = some (.inl (some (.int (if k < 5 then gI h (b + 8) k else N 0))), h) := by
  have e := cell_N w (i := b + 8) (by rw [shB_8 hb]) (by omega) (by rw [shB_8 hb]; decide) hk
  rw [shB_8 hb] at e
  exact e
theorem fB_8 {h : AH} (w : WF h) {b : Nat} (hb : b = 8 ∨ b = 29) (v : Int32) : mJ7_fill_53178 [.ref (b + 8), .int v] h = some (.inl none, stR h (b + 8) 5 (fun _ => v)) := by
  have e := fill_ok w (i := b + 8) (by rw [shB_8 hb]) (by omega) (by rw [shB_8 hb]; decide) v
  rw [shB_8 hb] at e
  exact e
theorem pB_8 {h : AH} (w : WF h) {b : Nat} (hb : b = 8 ∨ b = 29) {k : Nat} (hk : k < 2147483648) (v : Int32) : mX11_put [.ref (b + 8), .int (N k), .int v] h = some (.inl none, if k < 5 then sI h (b + 8) k v else h) := by
  have e := put_N w (i := b + 8) (by rw [shB_8 hb]) (by omega) (by rw [shB_8 hb]; decide) hk v
  rw [shB_8 hb] at e
  exact e
theorem cB_9 {h : AH} (w : WF h) {b : Nat} (hb : b = 8 ∨ b = 29) {k : Nat} (hk : k < 2147483648) : mX11_cell [.ref (b + 9), .int (N k)] h = some (.inl (some (.int (if k < 5 then gI h (b + 9) k else N 0))), h) := by
  have e := cell_N w (i := b + 9) (by rw [shB_9 hb]) (by omega) (by rw [shB_9 hb]; decide) hk
  rw [shB_9 hb] at e
  exact e
theorem fB_9 {h : AH} (w : WF h) {b : Nat} (hb : b = 8 ∨ b = 29) (v : Int32) : mJ7_fill_53178 [.ref (b + 9), .int v] h = some (.inl none, stR h (b + 9) 5 (fun _ => v)) := by
  have e := fill_ok w (i := b + 9) (by rw [shB_9 hb]) (by omega) (by rw [shB_9 hb]; decide) v
  rw [shB_9 hb] at e
  exact e
theorem pB_9 {h : AH} (w : WF h) {b : Nat} (hb : b = 8 ∨ b = 29) {k : Nat} (hk : k < 2147483648) (v : Int32) : mX11_put [.ref (b + 9), .int (N k), .int v] h = some (.inl none, if k < 5 then sI h (b + 9) k v else h) := by
  have e := put_N w (i := b + 9) (by rw [shB_9 hb]) (by omega) (by rw [shB_9 hb]; decide) hk v
  rw [shB_9 hb] at e
  exact e
theorem cB_10 {h : AH} (w : WF h) {b : Nat} (hb : b = 8 ∨ b = 29) {k : Nat} (hk : k < 2147483648) : mX11_cell [.ref (b + 10), .int (N k)] h = some (.inl (some (.int (if k < 5 then gI h (b + 10) k else N 0))), h) := by
  have e := cell_N w (i := b + 10) (by rw [shB_10 hb]) (by omega) (by rw [shB_10 hb]; decide) hk
  rw [shB_10 hb] at e
  exact e
theorem fB_10 {h : AH} (w : WF h) {b : Nat} (hb : b = 8 ∨ b = 29) (v : Int32) : mJ7_fill_53178 [.ref (b + 10), .int v] h = some (.inl none, stR h (b + 10) 5 (fun _ => v)) := by
  have e := fill_ok w (i := b + 10) (by rw [shB_10 hb]) (by omega) (by rw [shB_10 hb]; decide) v
  rw [shB_10 hb] at e
  exact e
theorem pB_10 {h : AH} (w : WF h) {b : Nat} (hb : b = 8 ∨ b = 29) {k : Nat} (hk : k < 2147483648) (v : Int32) : mX11_put [.ref (b + 10), .int (N k), .int v] h = some (.inl none, if k < 5 then sI h (b + 10) k v else h) := by
  have e := put_N w (i := b + 10) (by rw [shB_10 hb]) (by omega) (by rw [shB_10 hb]; decide) hk v
  rw [shB_10 hb] at e
  exact e
theorem cB_11 {h : AH} (w : WF h) {b : Nat} (hb : b = 8 ∨ b = 29) {k : Nat} (hk : k < 2147483648) : mX11_cell [.ref (b + 11), .int (N k)] h = some (.inl (some (.int (if k < 15 then gI h (b + 11) k else N 0))), h) := by
  have e := cell_N w (i := b + 11) (by rw [shB_11 hb]) (by omega) (by rw [shB_11 hb]; decide) hk
  rw [shB_11 hb] at e
  exact e
theorem fB_11 {h : AH} (w : WF h) {b : Nat} (hb : b = 8 ∨ b = 29) (v : Int32) : mJ7_fill_53178 [.ref (b + 11), .int v] h = some (.inl none, stR h (b + 11) 15 (fun _ => v)) := by
  have e := fill_ok w (i := b + 11) (by rw [shB_11 hb]) (by omega) (by rw [shB_11 hb]; decide) v
  rw [shB_11 hb] at e
  exact e
theorem pB_11 {h : AH} (w : WF h) {b : Nat} (hb : b = 8 ∨ b = 29) {k : Nat} (hk : k < 2147483648) (v : Int32) : mX11_put [.ref (b + 11), .int (N k), .int v] h = some (.inl none, if k < 15 then sI h (b + 11) k v else h) := by
  have e := put_N w (i := b + 11) (by rw [shB_11 hb]) (by omega) (by rw [shB_11 hb]; decide) hk v
  rw [shB_11 hb] at e
  exact e
theorem cB_12 {h : AH} (w : WF h) {b : Nat} (hb : b = 8 ∨ b = 29) {k : Nat} (hk : k < 2147483648) : mX11_cell [.ref (b + 12), .int (N k)] h = some (.inl (some (.int (if k < 50 then gI h (b + 12) k else N 0))), h) := by
  have e := cell_N w (i := b + 12) (by rw [shB_12 hb]) (by omega) (by rw [shB_12 hb]; decide) hk
  rw [shB_12 hb] at e
  exact e
theorem fB_12 {h : AH} (w : WF h) {b : Nat} (hb : b = 8 ∨ b = 29) (v : Int32) : mJ7_fill_53178 [.ref (b + 12), .int v] h = some (.inl none, stR h (b + 12) 50 (fun _ => v)) := by
  have e := fill_ok w (i := b + 12) (by rw [shB_12 hb]) (by omega) (by rw [shB_12 hb]; decide) v
  rw [shB_12 hb] at e
  exact e
theorem pB_12 {h : AH} (w : WF h) {b : Nat} (hb : b = 8 ∨ b = 29) {k : Nat} (hk : k < 2147483648) (v : Int32) : mX11_put [.ref (b + 12), .int (N k), .int v] h = some (.inl none, if k < 50 then sI h (b + 12) k v else h) := by
  have e := put_N w (i := b + 12) (by rw [shB_12 hb]) (by omega) (by rw [shB_12 hb]; decide) hk v
  rw [shB_12 hb] at e
  exact e
theorem cB_13 {h : AH} (w : WF h) {b : Nat} (hb : b = 8 ∨ b = 29) {k : Nat} (hk : k < 2147483648) : mX11_cell [.ref (b + 13), .int (N k)] h = some (.inl (some (.int (if k < 50 then gI h (b + 13) k else N 0))), h) := by
  have e := cell_N w (i := b + 13) (by rw [shB_13 hb]) (by omega) (by rw [shB_13 hb]; decide) hk
  rw [shB_13 hb] at e
  exact e
theorem fB_13 {h : AH} (w : WF h) {b : Nat} (hb : b = 8 ∨ b = 29) (v : Int32) : mJ7_fill_53178 [.ref (b + 13), .int v] h = some (.inl none, stR h (b + 13) 50 (fun _ => v)) := by
  have e := fill_ok w (i := b + 13) (by rw [shB_13 hb]) (by omega) (by rw [shB_13 hb]; decide) v
  rw [shB_13 hb] at e
  exact e
theorem pB_13 {h : AH} (w : WF h) {b : Nat} (hb : b = 8 ∨ b = 29) {k : Nat} (hk : k < 2147483648) (v : Int32) : mX11_put [.ref (b + 13), .int (N k), .int v] h = some (.inl none, if k < 50 then sI h (b + 13) k v else h) := by
  have e := put_N w (i := b + 13) (by rw [shB_13 hb]) (by omega) (by rw [shB_13 hb]; decide) hk v
  rw [shB_13 hb] at e
  exact e
theorem cB_14 {h : AH} (w : WF h) {b : Nat} (hb : b = 8 ∨ b = 29) {k : Nat} (hk : k < 2147483648) : mX11_cell [.ref (b + 14), .int (N k)] h = some (.inl (some (.int (if k < 5 then gI h (b + 14) k else N 0))), h) := by
  have e := cell_N w (i := b + 14) (by rw [shB_14 hb]) (by omega) (by rw [shB_14 hb]; decide) hk
  rw [shB_14 hb] at e
  exact e
theorem fB_14 {h : AH} (w : WF h) {b : Nat} (hb : b = 8 ∨ b = 29) (v : Int32) : mJ7_fill_53178 [.ref (b + 14), .int v] h = some (.inl none, stR h (b + 14) 5 (fun _ => v)) := by
  have e := fill_ok w (i := b + 14) (by rw [shB_14 hb]) (by omega) (by rw [shB_14 hb]; decide) v
  rw [shB_14 hb] at e
  exact e
theorem pB_14 {h : AH} (w : WF h) {b : Nat} (hb : b = 8 ∨ b = 29) {k : Nat} (hk : k < 2147483648) (v : Int32) : mX11_put [.ref (b + 14), .int (N k), .int v] h = some (.inl none, if k < 5 then sI h (b + 14) k v else h) := by
  have e := put_N w (i := b + 14) (by rw [shB_14 hb]) (by omega) (by rw [shB_14 hb]; decide) hk v
  rw [shB_14 hb] at e
  exact e
theorem cB_15 {h : AH} (w : WF h) {b : Nat} (hb : b = 8 ∨ b = 29) {k : Nat} (hk : k < 2147483648) : mX11_cell [.ref (b + 15), .int (N k)] h = some (.inl (some (.int (if k < 33 then gI h (b + 15) k else N 0))), h) := by
  have e := cell_N w (i := b + 15) (by rw [shB_15 hb]) (by omega) (by rw [shB_15 hb]; decide) hk
  rw [shB_15 hb] at e
  exact e
theorem fB_15 {h : AH} (w : WF h) {b : Nat} (hb : b = 8 ∨ b = 29) (v : Int32) : mJ7_fill_53178 [.ref (b + 15), .int v] h = some (.inl none, stR h (b + 15) 33 (fun _ => v)) := by
  have e := fill_ok w (i := b + 15) (by rw [shB_15 hb]) (by omega) (by rw [shB_15 hb]; decide) v
  rw [shB_15 hb] at e
  exact e
theorem pB_15 {h : AH} (w : WF h) {b : Nat} (hb : b = 8 ∨ b = 29) {k : Nat} (hk : k < 2147483648) (v : Int32) : mX11_put [.ref (b + 15), .int (N k), .int v] h = some (.inl none, if k < 33 then sI h (b + 15) k v else h) := by
  have e := put_N w (i := b + 15) (by rw [shB_15 hb]) (by omega) (by rw [shB_15 hb]; decide) hk v
  rw [shB_15 hb] at e
  exact e
theorem cB_16 {h : AH} (w : WF h) {b : Nat} (hb : b = 8 ∨ b = 29) {k : Nat} (hk : k < 2147483648) : mX11_cell [.ref (b + 16), .int (N k)] h = some (.inl (some (.int (if k < 33 then gI h (b + 16) k else N 0))), h) := by
  have e := cell_N w (i := b + 16) (by rw [shB_16 hb]) (by omega) (by rw [shB_16 hb]; decide) hk
  rw [shB_16 hb] at e
  exact e
theorem fB_16 {h : AH} (w : WF h) {b : Nat} (hb : b = 8 ∨ b = 29) (v : Int32) : mJ7_fill_53178 [.ref (b + 16), .int v] h = some (.inl none, stR h (b + 16) 33 (fun _ => v)) := by
  have e := fill_ok w (i := b + 16) (by rw [shB_16 hb]) (by omega) (by rw [shB_16 hb]; decide) v
  rw [shB_16 hb] at e
  exact e
theorem pB_16 {h : AH} (w : WF h) {b : Nat} (hb : b = 8 ∨ b = 29) {k : Nat} (hk : k < 2147483648) (v : Int32) : mX11_put [.ref (b + 16), .int (N k), .int v] h = some (.inl none, if k < 33 then sI h (b + 16) k v else h) := by
  have e := put_N w (i := b + 16) (by rw [shB_16 hb]) (by omega) (by rw [shB_16 hb]; decide) hk v
  rw [shB_16 hb] at e
  exact e
theorem cB_17 {h : AH} (w : WF h) {b : Nat} (hb : b = 8 ∨ b = 29) {k : Nat} (hk : k < 2147483648) : mX11_cell [.ref (b + 17), .int (N k)] h = some (.inl (some (.int (if k < 144 then gI h (b + 17) k else N 0))), h) := by
  have e := cell_N w (i := b + 17) (by rw [shB_17 hb]) (by omega) (by rw [shB_17 hb]; decide) hk
  rw [shB_17 hb] at e
  exact e
theorem fB_17 {h : AH} (w : WF h) {b : Nat} (hb : b = 8 ∨ b = 29) (v : Int32) : mJ7_fill_53178 [.ref (b + 17), .int v] h = some (.inl none, stR h (b + 17) 144 (fun _ => v)) := by
  have e := fill_ok w (i := b + 17) (by rw [shB_17 hb]) (by omega) (by rw [shB_17 hb]; decide) v
  rw [shB_17 hb] at e
  exact e
theorem pB_17 {h : AH} (w : WF h) {b : Nat} (hb : b = 8 ∨ b = 29) {k : Nat} (hk : k < 2147483648) (v : Int32) : mX11_put [.ref (b + 17), .int (N k), .int v] h = some (.inl none, if k < 144 then sI h (b + 17) k v else h) := by
  have e := put_N w (i := b + 17) (by rw [shB_17 hb]) (by omega) (by rw [shB_17 hb]; decide) hk v
  rw [shB_17 hb] at e
  exact e
theorem cB_18 {h : AH} (w : WF h) {b : Nat} (hb : b = 8 ∨ b = 29) {k : Nat} (hk : k < 2147483648) : mX11_cell [.ref (b + 18), .int (N k)] h = some (.inl (some (.int (if k < 6 then gI h (b + 18) k else N 0))), h) := by
  have e := cell_N w (i := b + 18) (by rw [shB_18 hb]) (by omega) (by rw [shB_18 hb]; decide) hk
  rw [shB_18 hb] at e
  exact e
theorem fB_18 {h : AH} (w : WF h) {b : Nat} (hb : b = 8 ∨ b = 29) (v : Int32) : mJ7_fill_53178 [.ref (b + 18), .int v] h = some (.inl none, stR h (b + 18) 6 (fun _ => v)) := by
  have e := fill_ok w (i := b + 18) (by rw [shB_18 hb]) (by omega) (by rw [shB_18 hb]; decide) v
  rw [shB_18 hb] at e
  exact e
theorem pB_18 {h : AH} (w : WF h) {b : Nat} (hb : b = 8 ∨ b = 29) {k : Nat} (hk : k < 2147483648) (v : Int32) : mX11_put [.ref (b + 18), .int (N k), .int v] h = some (.inl none, if k < 6 then sI h (b + 18) k v else h) := by
  have e := put_N w (i := b + 18) (by rw [shB_18 hb]) (by omega) (by rw [shB_18 hb]; decide) hk v
  rw [shB_18 hb] at e
  exact e
theorem cB_19 {h : AH} (w : WF h) {b : Nat} (hb : b = 8 ∨ b = 29) {k : Nat} (hk : k < 2147483648) : mX11_cell [.ref (b + 19), .int (N k)] h = some (.inl (some (.int (if k < 10 then gI h (b + 19) k else N 0))), h) := by
  have e := cell_N w (i := b + 19) (by rw [shB_19 hb]) (by omega) (by rw [shB_19 hb]; decide) hk
  rw [shB_19 hb] at e
  exact e
theorem fB_19 {h : AH} (w : WF h) {b : Nat} (hb : b = 8 ∨ b = 29) (v : Int32) : mJ7_fill_53178 [.ref (b + 19), .int v] h = some (.inl none, stR h (b + 19) 10 (fun _ => v)) := by
  have e := fill_ok w (i := b + 19) (by rw [shB_19 hb]) (by omega) (by rw [shB_19 hb]; decide) v
  rw [shB_19 hb] at e
  exact e
theorem pB_19 {h : AH} (w : WF h) {b : Nat} (hb : b = 8 ∨ b = 29) {k : Nat} (hk : k < 2147483648) (v : Int32) : mX11_put [.ref (b + 19), .int (N k), .int v] h = some (.inl none, if k < 10 then sI h (b + 19) k v else h) := by
  have e := put_N w (i := b + 19) (by rw [shB_19 hb]) (by omega) (by rw [shB_19 hb]; decide) hk v
  rw [shB_19 hb] at e
  exact e
theorem cB_20 {h : AH} (w : WF h) {b : Nat} (hb : b = 8 ∨ b = 29) {k : Nat} (hk : k < 2147483648) : mX11_cell [.ref (b + 20), .int (N k)] h = some (.inl (some (.int (if k < 10 then gI h (b + 20) k else N 0))), h) := by
  have e := cell_N w (i := b + 20) (by rw [shB_20 hb]) (by omega) (by rw [shB_20 hb]; decide) hk
  rw [shB_20 hb] at e
  exact e
theorem fB_20 {h : AH} (w : WF h) {b : Nat} (hb : b = 8 ∨ b = 29) (v : Int32) : mJ7_fill_53178 [.ref (b + 20), .int v] h = some (.inl none, stR h (b + 20) 10 (fun _ => v)) := by
  have e := fill_ok w (i := b + 20) (by rw [shB_20 hb]) (by omega) (by rw [shB_20 hb]; decide) v
  rw [shB_20 hb] at e
  exact e
theorem pB_20 {h : AH} (w : WF h) {b : Nat} (hb : b = 8 ∨ b = 29) {k : Nat} (hk : k < 2147483648) (v : Int32) : mX11_put [.ref (b + 20), .int (N k), .int v] h = some (.inl none, if k < 10 then sI h (b + 20) k v else h) := by
  have e := put_N w (i := b + 20) (by rw [shB_20 hb]) (by omega) (by rw [shB_20 hb]; decide) hk v
  rw [shB_20 hb] at e
  exact e
