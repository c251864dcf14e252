/-! what the makers call, on a heap that is not yet full -/
set_option maxHeartbeats 2000000 in
theorem okL.ent {B : BT} : ∀ {av : List Value}, okS B av → okL B (entA av) := by
  intro av
  induction av with
  | nil => intro _ v hv; exact nomatch hv
  | cons x xs ih =>
    intro s v hv
    unfold entA at hv
    split at hv
    · rcases List.mem_cons.mp hv with e | hv
      · injection e with e; subst e; exact s.h
      · rcases List.mem_cons.mp hv with e | hv
        · cases e
        · exact ih s.t v hv
    · rcases List.mem_cons.mp hv with e | hv
      · injection e with e; subst e; exact s.h
      · exact ih s.t v hv
set_option maxHeartbeats 2000000 in
theorem PM.of {B : BT} {n : Nat} {F : Fn} (p : PF B F) : PM B (runF n F) := by
  intro av h k v k1 ha lo hf
  unfold runF at hf ⊢
  split at hf
  · next hc =>
    rw [if_pos hc]
    refine p _ _ h k v k1 (fun x hx => ?_) okS.n lo hf
    unfold entL at hx
    rcases List.mem_append.mp hx with hx | hx
    · exact okL.ent ha x hx
    · have := List.eq_of_mem_replicate hx
      cases this
  · cases hf
set_option maxHeartbeats 2000000 in
theorem p_fJ7_fill_53178_5 {B : BT} : ∀ n, PF B (fJ7_fill_53178_5 n) := by
  intro n
  induction n with
  | zero => exact P_no
  | succ n ih =>
    show PF B (i_iload 2 (i_iload 3 (i_icge i_return (i_aload 0 (i_iload 2 (i_iload 1 (i_iastore (i_iinc 2 (1) (fJ7_fill_53178_5 n)))))))))
    exact (P_iload (P_iload (P_icge P_return (P_aload (P_iload (P_iload (P_iastore (P_iinc ih))))))))
set_option maxHeartbeats 2000000 in
theorem p_fJ7_fill_53178_0 {B : BT} : PF B fJ7_fill_53178_0 := by
  show PF B (i_push (.int (0)) (i_istore 2 (i_aload 0 (i_alen (i_istore 3 (fJ7_fill_53178_5 fuelN))))))
  exact (P_push trivial (P_istore (P_aload (P_alen (P_istore (p_fJ7_fill_53178_5 fuelN))))))
set_option maxHeartbeats 2000000 in
theorem q_mJ7_fill_53178 {B : BT} : PM B mJ7_fill_53178 := PM.of p_fJ7_fill_53178_0
set_option maxHeartbeats 2000000 in
theorem p_fX11_cell_17 {B : BT} : PF B fX11_cell_17 := by
  show PF B (i_ireturn)
  exact P_ireturn
set_option maxHeartbeats 2000000 in
theorem p_fX11_cell_16 {B : BT} : PF B fX11_cell_16 := by
  show PF B (i_push (.int (0)) fX11_cell_17)
  exact (P_push trivial p_fX11_cell_17)
set_option maxHeartbeats 2000000 in
theorem p_fX11_cell_0 {B : BT} : PF B fX11_cell_0 := by
  show PF B (i_iload 1 (i_iflt fX11_cell_16 (i_iload 1 (i_aload 0 (i_alen (i_icge fX11_cell_16 (i_aload 0 (i_iload 1 (i_iaload fX11_cell_17)))))))))
  exact (P_iload (P_iflt p_fX11_cell_16 (P_iload (P_aload (P_alen (P_icge p_fX11_cell_16 (P_aload (P_iload (P_iaload p_fX11_cell_17)))))))))
set_option maxHeartbeats 2000000 in
theorem q_mX11_cell {B : BT} : PM B mX11_cell := PM.of p_fX11_cell_0
set_option maxHeartbeats 2000000 in
theorem p_fX7_nodeOf_0 {B : BT} : PF B fX7_nodeOf_0 := by
  show PF B (i_aload 0 (i_getR 7 1 (i_iload 1 (i_callS 2 mX11_cell i_ireturn))))
  exact (P_aload (P_getR (P_iload (P_callS q_mX11_cell P_ireturn))))
set_option maxHeartbeats 2000000 in
theorem q_mX7_nodeOf {B : BT} : PM B mX7_nodeOf := PM.of p_fX7_nodeOf_0
set_option maxHeartbeats 2000000 in
theorem p_fX0_minutesFromStation_18 {B : BT} : PF B fX0_minutesFromStation_18 := by
  show PF B (i_push (.int (1000000)) i_ireturn)
  exact (P_push trivial P_ireturn)
set_option maxHeartbeats 2000000 in
theorem p_fX0_minutesBetween_20 {B : BT} : PF B fX0_minutesBetween_20 := by
  show PF B (i_push (.int (1000000)) i_ireturn)
  exact (P_push trivial P_ireturn)
set_option maxHeartbeats 2000000 in
theorem p_fX0_minutesBetween_0 {B : BT} : PF B fX0_minutesBetween_0 := by
  show PF B (i_iload 1 (i_iflt fX0_minutesBetween_20 (i_iload 1 (i_push (.int (12)) (i_icge fX0_minutesBetween_20 (i_iload 2 (i_iflt fX0_minutesBetween_20 (i_iload 2 (i_push (.int (12)) (i_iclt (i_aload 0 (i_getR 0 13 (i_iload 1 (i_push (.int (12)) (i_bin (fun x y => x * y) (i_iload 2 (i_bin (fun x y => x + y) (i_iaload i_ireturn)))))))) fX0_minutesBetween_20))))))))))
  exact (P_iload (P_iflt p_fX0_minutesBetween_20 (P_iload (P_push trivial (P_icge p_fX0_minutesBetween_20 (P_iload (P_iflt p_fX0_minutesBetween_20 (P_iload (P_push trivial (P_iclt (P_aload (P_getR (P_iload (P_push trivial (P_bin (P_iload (P_bin (P_iaload P_ireturn)))))))) p_fX0_minutesBetween_20))))))))))
set_option maxHeartbeats 2000000 in
theorem q_mX0_minutesBetween {B : BT} : PM B mX0_minutesBetween := PM.of p_fX0_minutesBetween_0
set_option maxHeartbeats 2000000 in
theorem p_fX0_minutesFromStation_0 {B : BT} : PF B fX0_minutesFromStation_0 := by
  show PF B (i_iload 1 (i_iflt fX0_minutesFromStation_18 (i_iload 1 (i_aload 0 (i_getI 0 4 (i_icge fX0_minutesFromStation_18 (i_iload 1 (i_push (.int (6)) (i_iclt (i_aload 0 (i_aload 0 (i_getR 0 14 (i_iload 1 (i_iaload (i_iload 2 (i_callV 0 2 mX0_minutesBetween i_ireturn))))))) fX0_minutesFromStation_18)))))))))
  exact (P_iload (P_iflt p_fX0_minutesFromStation_18 (P_iload (P_aload (P_getI (P_icge p_fX0_minutesFromStation_18 (P_iload (P_push trivial (P_iclt (P_aload (P_aload (P_getR (P_iload (P_iaload (P_iload (P_callV q_mX0_minutesBetween P_ireturn))))))) p_fX0_minutesFromStation_18)))))))))
set_option maxHeartbeats 2000000 in
theorem q_mX0_minutesFromStation {B : BT} : PM B mX0_minutesFromStation := PM.of p_fX0_minutesFromStation_0
set_option maxHeartbeats 2000000 in
theorem p_fX7_admits_24 {B : BT} : PF B fX7_admits_24 := by
  show PF B (i_zreturn)
  exact P_zreturn
set_option maxHeartbeats 2000000 in
theorem p_fX7_admits_19 {B : BT} : PF B fX7_admits_19 := by
  show PF B (i_push (.int (1)) fX7_admits_24)
  exact (P_push trivial p_fX7_admits_24)
set_option maxHeartbeats 2000000 in
theorem p_fX7_admits_0 {B : BT} : PF B fX7_admits_0 := by
  show PF B (i_aload 0 (i_getR 7 3 (i_iload 1 (i_callS 2 mX11_cell (i_istore 3 (i_iload 3 (i_push (.int (-1)) (i_iceq fX7_admits_19 (i_iload 3 (i_iload 2 (i_icne (i_push (.int (0)) fX7_admits_24) fX7_admits_19)))))))))))
  exact (P_aload (P_getR (P_iload (P_callS q_mX11_cell (P_istore (P_iload (P_push trivial (P_iceq p_fX7_admits_19 (P_iload (P_iload (P_icne (P_push trivial p_fX7_admits_24) p_fX7_admits_19)))))))))))
set_option maxHeartbeats 2000000 in
theorem q_mX7_admits {B : BT} : PM B mX7_admits := PM.of p_fX7_admits_0
set_option maxHeartbeats 2000000 in
theorem p_fX2_streetsCoveredFrom_82 {B : BT} {k5 : Fn} (hk5 : PF B k5) : PF B (fX2_streetsCoveredFrom_82 k5) := by
  show PF B (i_iinc 4 (1) k5)
  exact (P_iinc hk5)
set_option maxHeartbeats 2000000 in
theorem p_fX7_limitOf_0 {B : BT} : PF B fX7_limitOf_0 := by
  show PF B (i_aload 0 (i_getR 7 2 (i_iload 1 (i_callS 2 mX11_cell i_ireturn))))
  exact (P_aload (P_getR (P_iload (P_callS q_mX11_cell P_ireturn))))
set_option maxHeartbeats 2000000 in
theorem q_mX7_limitOf {B : BT} : PM B mX7_limitOf := PM.of p_fX7_limitOf_0
set_option maxHeartbeats 2000000 in
theorem p_fX2_streetsCoveredFrom_60 {B : BT} {k5 : Fn} (hk5 : PF B k5) : PF B (fX2_streetsCoveredFrom_60 k5) := by
  show PF B (i_aload 0 (i_getR 2 0 (i_getR 0 0 (i_iload 4 (i_callV 7 1 mX7_limitOf (i_icgt (fX2_streetsCoveredFrom_82 k5) (i_iload 3 (i_push (.int (1)) (i_iload 4 (i_bin (fun x y => x <<< (y &&& 31)) (i_bin (fun x y => x ||| y) (i_istore 3 (fX2_streetsCoveredFrom_82 k5)))))))))))))
  exact (P_aload (P_getR (P_getR (P_iload (P_callV q_mX7_limitOf (P_icgt (p_fX2_streetsCoveredFrom_82 hk5) (P_iload (P_push trivial (P_iload (P_bin (P_bin (P_istore (p_fX2_streetsCoveredFrom_82 hk5)))))))))))))
set_option maxHeartbeats 2000000 in
theorem p_fX2_streetsCoveredFrom_5 {B : BT} : ∀ n, PF B (fX2_streetsCoveredFrom_5 n) := by
  intro n
  induction n with
  | zero => exact P_no
  | succ n ih =>
    show PF B (i_iload 4 (i_aload 0 (i_getR 2 0 (i_getR 0 0 (i_getI 7 0 (i_icge (i_iload 3 i_ireturn) (i_aload 0 (i_getR 2 0 (i_iload 1 (i_aload 0 (i_getR 2 0 (i_getR 0 0 (i_iload 4 (i_callV 7 1 mX7_nodeOf (i_callV 0 2 mX0_minutesFromStation (i_istore 5 (i_aload 0 (i_getR 2 0 (i_getR 0 0 (i_iload 4 (i_iload 2 (i_callV 7 2 mX7_admits (i_ifeq (fX2_streetsCoveredFrom_82 (fX2_streetsCoveredFrom_5 n)) (i_iload 5 (fX2_streetsCoveredFrom_60 (fX2_streetsCoveredFrom_5 n))))))))))))))))))))))))))
    exact (P_iload (P_aload (P_getR (P_getR (P_getI (P_icge (P_iload P_ireturn) (P_aload (P_getR (P_iload (P_aload (P_getR (P_getR (P_iload (P_callV q_mX7_nodeOf (P_callV q_mX0_minutesFromStation (P_istore (P_aload (P_getR (P_getR (P_iload (P_iload (P_callV q_mX7_admits (P_ifeq (p_fX2_streetsCoveredFrom_82 ih) (P_iload (p_fX2_streetsCoveredFrom_60 ih)))))))))))))))))))))))))
set_option maxHeartbeats 2000000 in
theorem p_fX2_streetsCoveredFrom_0 {B : BT} : PF B fX2_streetsCoveredFrom_0 := by
  show PF B (i_push (.int (0)) (i_istore 3 (i_push (.int (0)) (i_istore 4 (fX2_streetsCoveredFrom_5 fuelN)))))
  exact (P_push trivial (P_istore (P_push trivial (P_istore (p_fX2_streetsCoveredFrom_5 fuelN)))))
set_option maxHeartbeats 2000000 in
theorem q_mX2_streetsCoveredFrom {B : BT} : PM B mX2_streetsCoveredFrom := PM.of p_fX2_streetsCoveredFrom_0
set_option maxHeartbeats 2000000 in
theorem p_fX11_put_14 {B : BT} : PF B fX11_put_14 := by
  show PF B (i_return)
  exact P_return
set_option maxHeartbeats 2000000 in
theorem p_fX11_put_0 {B : BT} : PF B fX11_put_0 := by
  show PF B (i_iload 1 (i_iflt fX11_put_14 (i_iload 1 (i_aload 0 (i_alen (i_icge fX11_put_14 (i_aload 0 (i_iload 1 (i_iload 2 (i_iastore fX11_put_14))))))))))
  exact (P_iload (P_iflt p_fX11_put_14 (P_iload (P_aload (P_alen (P_icge p_fX11_put_14 (P_aload (P_iload (P_iload (P_iastore p_fX11_put_14))))))))))
set_option maxHeartbeats 2000000 in
theorem q_mX11_put {B : BT} : PM B mX11_put := PM.of p_fX11_put_0
set_option maxHeartbeats 2000000 in
theorem p_fX2_serve_25 {B : BT} {k15 : Fn} (hk15 : PF B k15) : ∀ n, PF B (fX2_serve_25 k15 n) := by
  intro n
  induction n with
  | zero => exact P_no
  | succ n ih =>
    show PF B (i_iload 3 (i_push (.int (3)) (i_icge (i_iinc 2 (1) k15) (i_aload 0 (i_getR 2 2 (i_iload 2 (i_push (.int (3)) (i_bin (fun x y => x * y) (i_iload 3 (i_bin (fun x y => x + y) (i_aload 0 (i_iload 2 (i_iload 3 (i_callV 2 2 mX2_streetsCoveredFrom (i_callS 3 mX11_put (i_iinc 3 (1) (fX2_serve_25 k15 n)))))))))))))))))
    exact (P_iload (P_push trivial (P_icge (P_iinc hk15) (P_aload (P_getR (P_iload (P_push trivial (P_bin (P_iload (P_bin (P_aload (P_iload (P_iload (P_callV q_mX2_streetsCoveredFrom (P_callS q_mX11_put (P_iinc ih))))))))))))))))
set_option maxHeartbeats 2000000 in
theorem p_fX2_serve_15 {B : BT} : ∀ n, PF B (fX2_serve_15 n) := by
  intro n
  induction n with
  | zero => exact P_no
  | succ n ih =>
    show PF B (i_iload 2 (i_aload 1 (i_getI 0 4 (i_icge i_return (i_push (.int (0)) (i_istore 3 (fX2_serve_25 (fX2_serve_15 n) fuelN)))))))
    exact (P_iload (P_aload (P_getI (P_icge P_return (P_push trivial (P_istore (p_fX2_serve_25 ih fuelN)))))))
set_option maxHeartbeats 2000000 in
theorem p_fX2_serve_0 {B : BT} : PF B fX2_serve_0 := by
  show PF B (i_aload 0 (i_aload 1 (i_putR 2 0 (i_aload 0 (i_getR 2 1 (i_push (.int (-1)) (i_callS 2 mJ7_fill_53178 (i_push (.int (0)) (i_istore 2 (fX2_serve_15 fuelN))))))))))
  exact (P_aload (P_aload (P_putR (P_aload (P_getR (P_push trivial (P_callS q_mJ7_fill_53178 (P_push trivial (P_istore (p_fX2_serve_15 fuelN))))))))))
set_option maxHeartbeats 2000000 in
theorem q_mX2_serve {B : BT} : PM B mX2_serve := PM.of p_fX2_serve_0
set_option maxHeartbeats 2000000 in
theorem p_fX0_allEngines_0 {B : BT} : PF B fX0_allEngines_0 := by
  show PF B (i_push (.int (1)) (i_aload 0 (i_getI 0 5 (i_bin (fun x y => x <<< (y &&& 31)) (i_push (.int (1)) (i_bin (fun x y => x - y) i_ireturn))))))
  exact (P_push trivial (P_aload (P_getI (P_bin (P_push trivial (P_bin P_ireturn))))))
set_option maxHeartbeats 2000000 in
theorem q_mX0_allEngines {B : BT} : PM B mX0_allEngines := PM.of p_fX0_allEngines_0
set_option maxHeartbeats 2000000 in
theorem p_fX8_equip_0 {B : BT} : PF B fX8_equip_0 := by
  show PF B (i_aload 0 (i_iload 1 (i_putI 8 13 (i_aload 0 (i_iload 2 (i_putI 8 14 (i_aload 0 (i_iload 3 (i_putI 8 15 i_return)))))))))
  exact (P_aload (P_iload (P_putI (P_aload (P_iload (P_putI (P_aload (P_iload (P_putI P_return)))))))))
set_option maxHeartbeats 2000000 in
theorem q_mX8_equip {B : BT} : PM B mX8_equip := PM.of p_fX8_equip_0
set_option maxHeartbeats 2000000 in
theorem p_fX8_equipAs_0 {B : BT} : PF B fX8_equipAs_0 := by
  show PF B (i_aload 0 (i_aload 1 (i_callV 0 0 mX0_allEngines (i_aload 1 (i_getI 0 7 (i_aload 1 (i_getI 0 9 (i_callV 8 3 mX8_equip i_return))))))))
  exact (P_aload (P_aload (P_callV q_mX0_allEngines (P_aload (P_getI (P_aload (P_getI (P_callV q_mX8_equip P_return))))))))
set_option maxHeartbeats 2000000 in
theorem q_mX8_equipAs {B : BT} : PM B mX8_equipAs := PM.of p_fX8_equipAs_0
set_option maxHeartbeats 2000000 in
theorem p_fX8_dropStarts_0 {B : BT} : PF B fX8_dropStarts_0 := by
  show PF B (i_aload 0 (i_getR 8 1 (i_push (.int (-1)) (i_callS 2 mJ7_fill_53178 i_return))))
  exact (P_aload (P_getR (P_push trivial (P_callS q_mJ7_fill_53178 P_return))))
set_option maxHeartbeats 2000000 in
theorem q_mX8_dropStarts {B : BT} : PM B mX8_dropStarts := PM.of p_fX8_dropStarts_0
set_option maxHeartbeats 2000000 in
theorem p_fX8_serve_0 {B : BT} : PF B fX8_serve_0 := by
  show PF B (i_aload 0 (i_aload 1 (i_putR 8 12 (i_aload 0 (i_aload 1 (i_callV 8 1 mX8_equipAs (i_aload 0 (i_callV 8 0 mX8_dropStarts i_return))))))))
  exact (P_aload (P_aload (P_putR (P_aload (P_aload (P_callV q_mX8_equipAs (P_aload (P_callV q_mX8_dropStarts P_return))))))))
set_option maxHeartbeats 2000000 in
theorem q_mX8_serve {B : BT} : PM B mX8_serve := PM.of p_fX8_serve_0
set_option maxHeartbeats 2000000 in
theorem p_fX5_refill_0 {B : BT} : PF B fX5_refill_0 := by
  show PF B (i_aload 0 (i_iload 1 (i_putI 5 3 (i_aload 0 (i_push (.int (0)) (i_putI 5 4 (i_aload 0 (i_push (.int (0)) (i_putI 5 5 (i_aload 0 (i_iload 2 (i_putI 5 6 (i_aload 0 (i_iload 3 (i_putI 5 7 (i_aload 0 (i_getR 5 8 (i_push (.int (0)) (i_callS 2 mJ7_fill_53178 (i_aload 0 (i_getR 5 9 (i_push (.int (0)) (i_callS 2 mJ7_fill_53178 i_return)))))))))))))))))))))))
  exact (P_aload (P_iload (P_putI (P_aload (P_push trivial (P_putI (P_aload (P_push trivial (P_putI (P_aload (P_iload (P_putI (P_aload (P_iload (P_putI (P_aload (P_getR (P_push trivial (P_callS q_mJ7_fill_53178 (P_aload (P_getR (P_push trivial (P_callS q_mJ7_fill_53178 P_return)))))))))))))))))))))))
set_option maxHeartbeats 2000000 in
theorem q_mX5_refill {B : BT} : PM B mX5_refill := PM.of p_fX5_refill_0
set_option maxHeartbeats 2000000 in
theorem p_fX8_reset_82 {B : BT} : ∀ n, PF B (fX8_reset_82 n) := by
  intro n
  induction n with
  | zero => exact P_no
  | succ n ih =>
    show PF B (i_iload 1 (i_push (.int (5)) (i_icge i_return (i_aload 0 (i_aload 0 (i_getI 8 17 (i_aload 0 (i_getR 8 1 (i_iload 1 (i_iaload (i_max (i_putI 8 17 (i_iinc 1 (1) (fX8_reset_82 n))))))))))))))
    exact (P_iload (P_push trivial (P_icge P_return (P_aload (P_aload (P_getI (P_aload (P_getR (P_iload (P_iaload (P_max (P_putI (P_iinc ih)))))))))))))
set_option maxHeartbeats 2000000 in
theorem p_fX8_reset_50 {B : BT} : PF B fX8_reset_50 := by
  show PF B (i_push (.int (-1)) (i_callS 2 mJ7_fill_53178 (i_aload 0 (i_getR 8 5 (i_push (.int (-1)) (i_callS 2 mJ7_fill_53178 (i_aload 0 (i_getR 8 6 (i_push (.int (-1)) (i_callS 2 mJ7_fill_53178 (i_aload 0 (i_push (.int (0)) (i_putI 8 16 (i_aload 0 (i_push (.int (-1)) (i_putI 8 17 (i_push (.int (0)) (i_istore 1 (fX8_reset_82 fuelN)))))))))))))))))))
  exact (P_push trivial (P_callS q_mJ7_fill_53178 (P_aload (P_getR (P_push trivial (P_callS q_mJ7_fill_53178 (P_aload (P_getR (P_push trivial (P_callS q_mJ7_fill_53178 (P_aload (P_push trivial (P_putI (P_aload (P_push trivial (P_putI (P_push trivial (P_istore (p_fX8_reset_82 fuelN)))))))))))))))))))
set_option maxHeartbeats 2000000 in
theorem p_fX8_reset_0 {B : BT} : PF B fX8_reset_0 := by
  show PF B (i_aload 0 (i_getR 8 0 (i_aload 0 (i_getI 8 14 (i_aload 0 (i_getI 8 15 (i_aload 0 (i_getR 8 12 (i_getI 0 8 (i_callV 5 3 mX5_refill (i_aload 0 (i_getR 8 11 (i_push (.int (0)) (i_callS 2 mJ7_fill_53178 (i_aload 0 (i_getR 8 2 (i_push (.int (0)) (i_callS 2 mJ7_fill_53178 (i_aload 0 (i_getR 8 3 (i_push (.int (0)) (i_callS 2 mJ7_fill_53178 (i_aload 0 (i_getR 8 4 fX8_reset_50))))))))))))))))))))))))
  exact (P_aload (P_getR (P_aload (P_getI (P_aload (P_getI (P_aload (P_getR (P_getI (P_callV q_mX5_refill (P_aload (P_getR (P_push trivial (P_callS q_mJ7_fill_53178 (P_aload (P_getR (P_push trivial (P_callS q_mJ7_fill_53178 (P_aload (P_getR (P_push trivial (P_callS q_mJ7_fill_53178 (P_aload (P_getR p_fX8_reset_50))))))))))))))))))))))))
set_option maxHeartbeats 2000000 in
theorem q_mX8_reset {B : BT} : PM B mX8_reset := PM.of p_fX8_reset_0
set_option maxHeartbeats 2000000 in
theorem p_fX5_advance_84 {B : BT} : PF B fX5_advance_84 := by
  show PF B (i_getR 5 8 (i_iload 1 (i_aload 0 (i_getI 5 7 (i_bin (fun x y => x + y) (i_iload 3 (i_callS 3 mX11_put i_return)))))))
  exact (P_getR (P_iload (P_aload (P_getI (P_bin (P_iload (P_callS q_mX11_put P_return)))))))
set_option maxHeartbeats 2000000 in
theorem p_fX5_advance_42 {B : BT} : PF B fX5_advance_42 := by
  show PF B (i_bin (fun x y => x + y) (i_putI 5 4 (i_aload 0 (i_getI 5 4 (i_aload 0 (i_getI 5 6 (i_aload 0 (i_getI 5 5 (i_bin (fun x y => x - y) (i_min (i_istore 3 (i_aload 0 (i_dup (i_getI 5 4 (i_iload 3 (i_bin (fun x y => x - y) (i_putI 5 4 (i_aload 0 (i_dup (i_getI 5 5 (i_iload 3 (i_bin (fun x y => x + y) (i_putI 5 5 (i_aload 0 fX5_advance_84))))))))))))))))))))))))
  exact (P_bin (P_putI (P_aload (P_getI (P_aload (P_getI (P_aload (P_getI (P_bin (P_min (P_istore (P_aload (P_dup (P_getI (P_iload (P_bin (P_putI (P_aload (P_dup (P_getI (P_iload (P_bin (P_putI (P_aload p_fX5_advance_84))))))))))))))))))))))))
set_option maxHeartbeats 2000000 in
theorem p_fX5_advance_0 {B : BT} : PF B fX5_advance_0 := by
  show PF B (i_aload 0 (i_getR 5 8 (i_iload 1 (i_callS 2 mX11_cell (i_istore 2 (i_aload 0 (i_dup (i_getI 5 3 (i_iload 2 (i_bin (fun x y => x + y) (i_putI 5 3 (i_aload 0 (i_dup (i_getI 5 5 (i_iload 2 (i_bin (fun x y => x - y) (i_putI 5 5 (i_aload 0 (i_dup (i_getI 5 4 (i_aload 0 (i_getR 5 9 (i_iload 1 (i_callS 2 mX11_cell fX5_advance_42))))))))))))))))))))))))
  exact (P_aload (P_getR (P_iload (P_callS q_mX11_cell (P_istore (P_aload (P_dup (P_getI (P_iload (P_bin (P_putI (P_aload (P_dup (P_getI (P_iload (P_bin (P_putI (P_aload (P_dup (P_getI (P_aload (P_getR (P_iload (P_callS q_mX11_cell p_fX5_advance_42))))))))))))))))))))))))
set_option maxHeartbeats 2000000 in
theorem q_mX5_advance {B : BT} : PM B mX5_advance := PM.of p_fX5_advance_0
set_option maxHeartbeats 2000000 in
theorem p_fX5_note_0 {B : BT} : PF B fX5_note_0 := by
  show PF B (i_aload 0 (i_getR 5 0 (i_iload 1 (i_aload 0 (i_getI 5 3 (i_callS 3 mX11_put (i_aload 0 (i_getR 5 1 (i_iload 1 (i_aload 0 (i_getI 5 4 (i_callS 3 mX11_put (i_aload 0 (i_getR 5 2 (i_iload 1 (i_aload 0 (i_getI 5 5 (i_callS 3 mX11_put i_return))))))))))))))))))
  exact (P_aload (P_getR (P_iload (P_aload (P_getI (P_callS q_mX11_put (P_aload (P_getR (P_iload (P_aload (P_getI (P_callS q_mX11_put (P_aload (P_getR (P_iload (P_aload (P_getI (P_callS q_mX11_put P_return))))))))))))))))))
set_option maxHeartbeats 2000000 in
theorem q_mX5_note {B : BT} : PM B mX5_note := PM.of p_fX5_note_0
set_option maxHeartbeats 2000000 in
theorem p_fX2_openStreets_13 {B : BT} : PF B fX2_openStreets_13 := by
  show PF B (i_push (.int (0)) i_ireturn)
  exact (P_push trivial P_ireturn)
set_option maxHeartbeats 2000000 in
theorem p_fX2_openStreets_40 {B : BT} : PF B fX2_openStreets_40 := by
  show PF B (i_aload 0 (i_getR 2 1 (i_iload 1 (i_iaload i_ireturn))))
  exact (P_aload (P_getR (P_iload (P_iaload P_ireturn))))
set_option maxHeartbeats 2000000 in
theorem p_fX2_standAtHome_68 {B : BT} {k10 : Fn} (hk10 : PF B k10) : PF B (fX2_standAtHome_68 k10) := by
  show PF B (i_iinc 2 (1) k10)
  exact (P_iinc hk10)
set_option maxHeartbeats 2000000 in
theorem p_fX2_standAtHome_48 {B : BT} {k10 : Fn} (hk10 : PF B k10) : PF B (fX2_standAtHome_48 k10) := by
  show PF B (i_icge (fX2_standAtHome_68 k10) (i_aload 0 (i_getR 2 3 (i_iload 2 (i_iload 3 (i_iastore (i_aload 0 (i_getR 2 4 (i_iload 3 (i_dup2 (i_iaload (i_push (.int (1)) (i_bin (fun x y => x + y) (i_iastore (fX2_standAtHome_68 k10)))))))))))))))
  exact (P_icge (p_fX2_standAtHome_68 hk10) (P_aload (P_getR (P_iload (P_iload (P_iastore (P_aload (P_getR (P_iload (P_dup2 (P_iaload (P_push trivial (P_bin (P_iastore (p_fX2_standAtHome_68 hk10)))))))))))))))
set_option maxHeartbeats 2000000 in
theorem p_fX2_standAtHome_10 {B : BT} : ∀ n, PF B (fX2_standAtHome_10 n) := by
  intro n
  induction n with
  | zero => exact P_no
  | succ n ih =>
    show PF B (i_iload 2 (i_push (.int (10)) (i_icge i_return (i_aload 0 (i_getR 2 0 (i_getR 0 16 (i_iload 2 (i_iaload (i_istore 3 (i_aload 0 (i_getR 2 3 (i_iload 2 (i_push (.int (-1)) (i_iastore (i_iload 1 (i_iload 2 (i_bin (fun x y => x >>> (y &&& 31)) (i_push (.int (1)) (i_bin (fun x y => x &&& y) (i_ifeq (fX2_standAtHome_68 (fX2_standAtHome_10 n)) (i_iload 3 (i_iflt (fX2_standAtHome_68 (fX2_standAtHome_10 n)) (i_iload 3 (i_push (.int (6)) (fX2_standAtHome_48 (fX2_standAtHome_10 n))))))))))))))))))))))))))
    exact (P_iload (P_push trivial (P_icge P_return (P_aload (P_getR (P_getR (P_iload (P_iaload (P_istore (P_aload (P_getR (P_iload (P_push trivial (P_iastore (P_iload (P_iload (P_bin (P_push trivial (P_bin (P_ifeq (p_fX2_standAtHome_68 ih) (P_iload (P_iflt (p_fX2_standAtHome_68 ih) (P_iload (P_push trivial (p_fX2_standAtHome_48 ih)))))))))))))))))))))))))
set_option maxHeartbeats 2000000 in
theorem p_fX2_standAtHome_0 {B : BT} : PF B fX2_standAtHome_0 := by
  show PF B (i_aload 0 (i_getR 2 4 (i_push (.int (0)) (i_callS 2 mJ7_fill_53178 (i_push (.int (0)) (i_istore 2 (fX2_standAtHome_10 fuelN)))))))
  exact (P_aload (P_getR (P_push trivial (P_callS q_mJ7_fill_53178 (P_push trivial (P_istore (p_fX2_standAtHome_10 fuelN)))))))
set_option maxHeartbeats 2000000 in
theorem q_mX2_standAtHome {B : BT} : PM B mX2_standAtHome := PM.of p_fX2_standAtHome_0
set_option maxHeartbeats 2000000 in
theorem p_fX2_moveUp_85 {B : BT} : PF B fX2_moveUp_85 := by
  show PF B (i_return)
  exact P_return
set_option maxHeartbeats 2000000 in
theorem p_fX2_moveUp_79 {B : BT} {k7 : Fn} (hk7 : PF B k7) : PF B (fX2_moveUp_79 k7) := by
  show PF B (i_iinc 2 (1) k7)
  exact (P_iinc hk7)
set_option maxHeartbeats 2000000 in
theorem p_fX2_sendLastEngine_3 {B : BT} : ∀ n, PF B (fX2_sendLastEngine_3 n) := by
  intro n
  induction n with
  | zero => exact P_no
  | succ n ih =>
    show PF B (i_iload 3 (i_iflt i_return (i_aload 0 (i_getR 2 3 (i_iload 3 (i_iaload (i_iload 1 (i_icne (i_iinc 3 (-1) (fX2_sendLastEngine_3 n)) (i_aload 0 (i_getR 2 3 (i_iload 3 (i_iload 2 (i_iastore i_return)))))))))))))
    exact (P_iload (P_iflt P_return (P_aload (P_getR (P_iload (P_iaload (P_iload (P_icne (P_iinc ih) (P_aload (P_getR (P_iload (P_iload (P_iastore P_return)))))))))))))
set_option maxHeartbeats 2000000 in
theorem p_fX2_sendLastEngine_0 {B : BT} : PF B fX2_sendLastEngine_0 := by
  show PF B (i_push (.int (9)) (i_istore 3 (fX2_sendLastEngine_3 fuelN)))
  exact (P_push trivial (P_istore (p_fX2_sendLastEngine_3 fuelN)))
set_option maxHeartbeats 2000000 in
theorem q_mX2_sendLastEngine {B : BT} : PM B mX2_sendLastEngine := PM.of p_fX2_sendLastEngine_0
set_option maxHeartbeats 2000000 in
theorem p_fX2_moveUp_77 {B : BT} {k7 : Fn} (hk7 : PF B k7) : PF B (fX2_moveUp_77 k7) := by
  show PF B (i_bin (fun x y => x + y) (i_iastore (fX2_moveUp_79 k7)))
  exact (P_bin (P_iastore (p_fX2_moveUp_79 hk7)))
set_option maxHeartbeats 2000000 in
theorem p_fX2_moveUp_42 {B : BT} {k7 : Fn} (hk7 : PF B k7) : PF B (fX2_moveUp_42 k7) := by
  show PF B (i_istore 3 (i_iload 3 (i_iflt (fX2_moveUp_79 k7) (i_iload 3 (i_push (.int (6)) (i_icge (fX2_moveUp_79 k7) (i_aload 0 (i_iload 3 (i_iload 2 (i_callV 2 2 mX2_sendLastEngine (i_aload 0 (i_getR 2 4 (i_iload 3 (i_dup2 (i_iaload (i_push (.int (1)) (i_bin (fun x y => x - y) (i_iastore (i_aload 0 (i_getR 2 4 (i_iload 2 (i_dup2 (i_iaload (i_push (.int (1)) (fX2_moveUp_77 k7)))))))))))))))))))))))))
  exact (P_istore (P_iload (P_iflt (p_fX2_moveUp_79 hk7) (P_iload (P_push trivial (P_icge (p_fX2_moveUp_79 hk7) (P_aload (P_iload (P_iload (P_callV q_mX2_sendLastEngine (P_aload (P_getR (P_iload (P_dup2 (P_iaload (P_push trivial (P_bin (P_iastore (P_aload (P_getR (P_iload (P_dup2 (P_iaload (P_push trivial (p_fX2_moveUp_77 hk7)))))))))))))))))))))))))
set_option maxHeartbeats 2000000 in
theorem p_fX2_donorFor_61 {B : BT} {k10 : Fn} (hk10 : PF B k10) : PF B (fX2_donorFor_61 k10) := by
  show PF B (i_iinc 3 (1) k10)
  exact (P_iinc hk10)
set_option maxHeartbeats 2000000 in
theorem p_fX2_donorFor_33 {B : BT} {k10 : Fn} (hk10 : PF B k10) : PF B (fX2_donorFor_33 k10) := by
  show PF B (i_istore 4 (i_iload 4 (i_iflt (fX2_donorFor_61 k10) (i_iload 4 (i_push (.int (6)) (i_icge (fX2_donorFor_61 k10) (i_aload 0 (i_getR 2 4 (i_iload 4 (i_iaload (i_push (.int (2)) (i_iclt (fX2_donorFor_61 k10) (i_iload 4 i_ireturn)))))))))))))
  exact (P_istore (P_iload (P_iflt (p_fX2_donorFor_61 hk10) (P_iload (P_push trivial (P_icge (p_fX2_donorFor_61 hk10) (P_aload (P_getR (P_iload (P_iaload (P_push trivial (P_iclt (p_fX2_donorFor_61 hk10) (P_iload P_ireturn)))))))))))))
set_option maxHeartbeats 2000000 in
theorem p_fX2_donorFor_10 {B : BT} : ∀ n, PF B (fX2_donorFor_10 n) := by
  intro n
  induction n with
  | zero => exact P_no
  | succ n ih =>
    show PF B (i_iload 3 (i_iload 2 (i_icge (i_push (.int (-1)) i_ireturn) (i_iload 1 (i_iload 3 (i_bin (fun x y => x + y) (i_iload 2 (i_icge (i_iload 1 (i_iload 3 (i_bin (fun x y => x + y) (i_iload 2 (i_bin (fun x y => x - y) (fX2_donorFor_33 (fX2_donorFor_10 n))))))) (i_iload 1 (i_iload 3 (i_bin (fun x y => x + y) (fX2_donorFor_33 (fX2_donorFor_10 n)))))))))))))
    exact (P_iload (P_iload (P_icge (P_push trivial P_ireturn) (P_iload (P_iload (P_bin (P_iload (P_icge (P_iload (P_iload (P_bin (P_iload (P_bin (p_fX2_donorFor_33 ih)))))) (P_iload (P_iload (P_bin (p_fX2_donorFor_33 ih))))))))))))
set_option maxHeartbeats 2000000 in
theorem p_fX2_donorFor_0 {B : BT} : PF B fX2_donorFor_0 := by
  show PF B (i_aload 0 (i_getR 2 0 (i_getI 0 4 (i_istore 2 (i_push (.int (1)) (i_istore 3 (fX2_donorFor_10 fuelN)))))))
  exact (P_aload (P_getR (P_getI (P_istore (P_push trivial (P_istore (p_fX2_donorFor_10 fuelN)))))))
set_option maxHeartbeats 2000000 in
theorem q_mX2_donorFor {B : BT} : PM B mX2_donorFor := PM.of p_fX2_donorFor_0
set_option maxHeartbeats 2000000 in
theorem p_fX2_moveUp_7 {B : BT} : ∀ n, PF B (fX2_moveUp_7 n) := by
  intro n
  induction n with
  | zero => exact P_no
  | succ n ih =>
    show PF B (i_iload 2 (i_aload 0 (i_getR 2 0 (i_getI 0 4 (i_icge fX2_moveUp_85 (i_iload 2 (i_push (.int (6)) (i_icge fX2_moveUp_85 (i_aload 0 (i_getR 2 4 (i_iload 2 (i_iaload (i_ifne (i_push (.int (-1)) (fX2_moveUp_42 (fX2_moveUp_7 n))) (i_aload 0 (i_iload 2 (i_callV 2 1 mX2_donorFor (fX2_moveUp_42 (fX2_moveUp_7 n))))))))))))))))))
    exact (P_iload (P_aload (P_getR (P_getI (P_icge p_fX2_moveUp_85 (P_iload (P_push trivial (P_icge p_fX2_moveUp_85 (P_aload (P_getR (P_iload (P_iaload (P_ifne (P_push trivial (p_fX2_moveUp_42 ih)) (P_aload (P_iload (P_callV q_mX2_donorFor (p_fX2_moveUp_42 ih)))))))))))))))))
set_option maxHeartbeats 2000000 in
theorem p_fX2_moveUp_0 {B : BT} : PF B fX2_moveUp_0 := by
  show PF B (i_aload 0 (i_iload 1 (i_callV 2 1 mX2_standAtHome (i_push (.int (0)) (i_istore 2 (fX2_moveUp_7 fuelN))))))
  exact (P_aload (P_iload (P_callV q_mX2_standAtHome (P_push trivial (P_istore (p_fX2_moveUp_7 fuelN))))))
set_option maxHeartbeats 2000000 in
theorem q_mX2_moveUp {B : BT} : PM B mX2_moveUp := PM.of p_fX2_moveUp_0
set_option maxHeartbeats 2000000 in
theorem p_fX2_streetsCoveredBy_20 {B : BT} : PF B fX2_streetsCoveredBy_20 := by
  show PF B (i_push (.int (0)) i_ireturn)
  exact (P_push trivial P_ireturn)
set_option maxHeartbeats 2000000 in
theorem p_fX2_streetsCoveredBy_64 {B : BT} : PF B fX2_streetsCoveredBy_64 := by
  show PF B (i_ireturn)
  exact P_ireturn
set_option maxHeartbeats 2000000 in
theorem p_fX2_streetsCoveredBy_63 {B : BT} : PF B fX2_streetsCoveredBy_63 := by
  show PF B (i_push (.int (0)) fX2_streetsCoveredBy_64)
  exact (P_push trivial p_fX2_streetsCoveredBy_64)
set_option maxHeartbeats 2000000 in
theorem p_fX2_streetsCoveredBy_41 {B : BT} : PF B fX2_streetsCoveredBy_41 := by
  show PF B (i_iload 2 (i_iflt fX2_streetsCoveredBy_63 (i_iload 2 (i_aload 0 (i_getR 2 2 (i_alen (i_icge fX2_streetsCoveredBy_63 (i_aload 0 (i_getR 2 2 (i_iload 2 (i_iaload fX2_streetsCoveredBy_64)))))))))))
  exact (P_iload (P_iflt p_fX2_streetsCoveredBy_63 (P_iload (P_aload (P_getR (P_alen (P_icge p_fX2_streetsCoveredBy_63 (P_aload (P_getR (P_iload (P_iaload p_fX2_streetsCoveredBy_64)))))))))))
set_option maxHeartbeats 2000000 in
theorem p_fX2_streetsCoveredBy_0 {B : BT} : PF B fX2_streetsCoveredBy_0 := by
  show PF B (i_iload 1 (i_iflt fX2_streetsCoveredBy_20 (i_iload 1 (i_push (.int (10)) (i_icge fX2_streetsCoveredBy_20 (i_aload 0 (i_getR 2 3 (i_iload 1 (i_iaload (i_push (.int (-1)) (i_icne (i_aload 0 (i_getR 2 3 (i_iload 1 (i_iaload (i_push (.int (3)) (i_bin (fun x y => x * y) (i_aload 0 (i_getR 2 0 (i_getR 0 15 (i_iload 1 (i_iaload (i_bin (fun x y => x + y) (i_istore 2 fX2_streetsCoveredBy_41))))))))))))) fX2_streetsCoveredBy_20)))))))))))
  exact (P_iload (P_iflt p_fX2_streetsCoveredBy_20 (P_iload (P_push trivial (P_icge p_fX2_streetsCoveredBy_20 (P_aload (P_getR (P_iload (P_iaload (P_push trivial (P_icne (P_aload (P_getR (P_iload (P_iaload (P_push trivial (P_bin (P_aload (P_getR (P_getR (P_iload (P_iaload (P_bin (P_istore p_fX2_streetsCoveredBy_41))))))))))))) p_fX2_streetsCoveredBy_20)))))))))))
set_option maxHeartbeats 2000000 in
theorem q_mX2_streetsCoveredBy {B : BT} : PM B mX2_streetsCoveredBy := PM.of p_fX2_streetsCoveredBy_0
set_option maxHeartbeats 2000000 in
theorem p_fX2_openStreetsNow_4 {B : BT} : ∀ n, PF B (fX2_openStreetsNow_4 n) := by
  intro n
  induction n with
  | zero => exact P_no
  | succ n ih =>
    show PF B (i_iload 2 (i_push (.int (10)) (i_icge (i_push (.int (1)) (i_aload 0 (i_getR 2 0 (i_getR 0 0 (i_getI 7 0 (i_bin (fun x y => x <<< (y &&& 31)) (i_push (.int (1)) (i_bin (fun x y => x - y) (i_iload 1 (i_push (.int (-1)) (i_bin (fun x y => x ^^^ y) (i_bin (fun x y => x &&& y) i_ireturn)))))))))))) (i_iload 1 (i_aload 0 (i_iload 2 (i_callV 2 1 mX2_streetsCoveredBy (i_bin (fun x y => x ||| y) (i_istore 1 (i_iinc 2 (1) (fX2_openStreetsNow_4 n)))))))))))
    exact (P_iload (P_push trivial (P_icge (P_push trivial (P_aload (P_getR (P_getR (P_getI (P_bin (P_push trivial (P_bin (P_iload (P_push trivial (P_bin (P_bin P_ireturn)))))))))))) (P_iload (P_aload (P_iload (P_callV q_mX2_streetsCoveredBy (P_bin (P_istore (P_iinc ih))))))))))
set_option maxHeartbeats 2000000 in
theorem p_fX2_openStreetsNow_0 {B : BT} : PF B fX2_openStreetsNow_0 := by
  show PF B (i_push (.int (0)) (i_istore 1 (i_push (.int (0)) (i_istore 2 (fX2_openStreetsNow_4 fuelN)))))
  exact (P_push trivial (P_istore (P_push trivial (P_istore (p_fX2_openStreetsNow_4 fuelN)))))
set_option maxHeartbeats 2000000 in
theorem q_mX2_openStreetsNow {B : BT} : PM B mX2_openStreetsNow := PM.of p_fX2_openStreetsNow_0
set_option maxHeartbeats 2000000 in
theorem p_fX2_openStreets_0 {B : BT} : PF B fX2_openStreets_0 := by
  show PF B (i_iload 1 (i_iflt fX2_openStreets_13 (i_iload 1 (i_aload 0 (i_getR 2 1 (i_alen (i_iclt (i_aload 0 (i_getR 2 1 (i_iload 1 (i_iaload (i_push (.int (-1)) (i_icne fX2_openStreets_40 (i_aload 0 (i_iload 1 (i_callV 2 1 mX2_moveUp (i_aload 0 (i_getR 2 1 (i_iload 1 (i_aload 0 (i_callV 2 0 mX2_openStreetsNow (i_iastore fX2_openStreets_40))))))))))))))) fX2_openStreets_13)))))))
  exact (P_iload (P_iflt p_fX2_openStreets_13 (P_iload (P_aload (P_getR (P_alen (P_iclt (P_aload (P_getR (P_iload (P_iaload (P_push trivial (P_icne p_fX2_openStreets_40 (P_aload (P_iload (P_callV q_mX2_moveUp (P_aload (P_getR (P_iload (P_aload (P_callV q_mX2_openStreetsNow (P_iastore p_fX2_openStreets_40))))))))))))))) p_fX2_openStreets_13)))))))
set_option maxHeartbeats 2000000 in
theorem q_mX2_openStreets {B : BT} : PM B mX2_openStreets := PM.of p_fX2_openStreets_0
set_option maxHeartbeats 2000000 in
theorem p_fX8_play_145 {B : BT} {k8 : Fn} (hk8 : PF B k8) : PF B (fX8_play_145 k8) := by
  show PF B (i_iinc 3 (1) k8)
  exact (P_iinc hk8)
set_option maxHeartbeats 2000000 in
theorem p_fX8_play_143 {B : BT} : PF B fX8_play_143 := by
  show PF B (i_iload 2 i_zreturn)
  exact (P_iload P_zreturn)
set_option maxHeartbeats 2000000 in
theorem p_fX8_play_120 {B : BT} {k8 : Fn} (hk8 : PF B k8) : PF B (fX8_play_120 k8) := by
  show PF B (i_iload 1 (i_ifeq (fX8_play_145 k8) (i_iload 2 (i_ifeq fX8_play_143 (i_iload 3 (i_aload 0 (i_getI 8 17 (i_iclt (fX8_play_145 k8) (i_aload 0 (i_getI 8 16 (i_ifne (fX8_play_145 k8) fX8_play_143)))))))))))
  exact (P_iload (P_ifeq (p_fX8_play_145 hk8) (P_iload (P_ifeq p_fX8_play_143 (P_iload (P_aload (P_getI (P_iclt (p_fX8_play_145 hk8) (P_aload (P_getI (P_ifne (p_fX8_play_145 hk8) p_fX8_play_143)))))))))))
set_option maxHeartbeats 2000000 in
theorem p_fX8_play_112 {B : BT} {k8 : Fn} (hk8 : PF B k8) : PF B (fX8_play_112 k8) := by
  show PF B (i_callV 2 1 mX2_openStreets (i_ifeq (fX8_play_120 k8) (i_push (.int (0)) (i_istore 2 (fX8_play_120 k8)))))
  exact (P_callV q_mX2_openStreets (P_ifeq (p_fX8_play_120 hk8) (P_push trivial (P_istore (p_fX8_play_120 hk8)))))
set_option maxHeartbeats 2000000 in
theorem p_fX8_play_71 {B : BT} {k8 : Fn} {k42 : Fn} (hk8 : PF B k8) (hk42 : PF B k42) : PF B (fX8_play_71 k8 k42) := by
  show PF B (i_iinc 4 (1) k42)
  exact (P_iinc hk42)
set_option maxHeartbeats 2000000 in
theorem p_fX8_followsOthers_57 {B : BT} {k18 : Fn} (hk18 : PF B k18) : PF B (fX8_followsOthers_57 k18) := by
  show PF B (i_iinc 4 (1) k18)
  exact (P_iinc hk18)
set_option maxHeartbeats 2000000 in
theorem p_fX8_followsOthers_55 {B : BT} : PF B fX8_followsOthers_55 := by
  show PF B (i_push (.int (0)) i_zreturn)
  exact (P_push trivial P_zreturn)
set_option maxHeartbeats 2000000 in
theorem p_fX8_followsOthers_18 {B : BT} : ∀ n, PF B (fX8_followsOthers_18 n) := by
  intro n
  induction n with
  | zero => exact P_no
  | succ n ih =>
    show PF B (i_iload 4 (i_push (.int (5)) (i_icge (i_push (.int (1)) i_zreturn) (i_iload 3 (i_iload 4 (i_bin (fun x y => x >>> (y &&& 31)) (i_push (.int (1)) (i_bin (fun x y => x &&& y) (i_ifeq (fX8_followsOthers_57 (fX8_followsOthers_18 n)) (i_aload 0 (i_getR 8 2 (i_iload 4 (i_iaload (i_push (.int (1)) (i_icne fX8_followsOthers_55 (i_aload 0 (i_getR 8 5 (i_iload 4 (i_iaload (i_iload 2 (i_icle (fX8_followsOthers_57 (fX8_followsOthers_18 n)) fX8_followsOthers_55)))))))))))))))))))))
    exact (P_iload (P_push trivial (P_icge (P_push trivial P_zreturn) (P_iload (P_iload (P_bin (P_push trivial (P_bin (P_ifeq (p_fX8_followsOthers_57 ih) (P_aload (P_getR (P_iload (P_iaload (P_push trivial (P_icne p_fX8_followsOthers_55 (P_aload (P_getR (P_iload (P_iaload (P_iload (P_icle (p_fX8_followsOthers_57 ih) p_fX8_followsOthers_55)))))))))))))))))))))
set_option maxHeartbeats 2000000 in
theorem p_fX8_followsOthers_0 {B : BT} : PF B fX8_followsOthers_0 := by
  show PF B (i_aload 0 (i_getR 8 12 (i_getR 0 1 (i_getR 3 4 (i_iload 1 (i_callS 2 mX11_cell (i_istore 3 (i_push (.int (0)) (i_istore 4 (fX8_followsOthers_18 fuelN))))))))))
  exact (P_aload (P_getR (P_getR (P_getR (P_iload (P_callS q_mX11_cell (P_istore (P_push trivial (P_istore (p_fX8_followsOthers_18 fuelN))))))))))
set_option maxHeartbeats 2000000 in
theorem q_mX8_followsOthers {B : BT} : PM B mX8_followsOthers := PM.of p_fX8_followsOthers_0
set_option maxHeartbeats 2000000 in
theorem p_fX8_chooseEngines_135 {B : BT} {k17 : Fn} (hk17 : PF B k17) : PF B (fX8_chooseEngines_135 k17) := by
  show PF B (i_iload 5 (i_ifle (i_iinc 4 (1) k17) (i_push (.int (0)) i_ireturn)))
  exact (P_iload (P_ifle (P_iinc hk17) (P_push trivial P_ireturn)))
set_option maxHeartbeats 2000000 in
theorem p_fX8_chooseEngines_129 {B : BT} {k17 : Fn} {k47 : Fn} (hk17 : PF B k17) (hk47 : PF B k47) : PF B (fX8_chooseEngines_129 k17 k47) := by
  show PF B (i_iinc 6 (1) k47)
  exact (P_iinc hk47)
set_option maxHeartbeats 2000000 in
theorem p_fX8_chooseEngines_97 {B : BT} {k17 : Fn} {k47 : Fn} (hk17 : PF B k17) (hk47 : PF B k47) : PF B (fX8_chooseEngines_97 k17 k47) := by
  show PF B (i_push (.int (1)) (i_bin (fun x y => x &&& y) (i_ifeq (fX8_chooseEngines_129 k17 k47) (i_aload 0 (i_getR 8 12 (i_getR 0 15 (i_iload 7 (i_callS 2 mX11_cell (i_iload 4 (i_icne (fX8_chooseEngines_129 k17 k47) (i_iload 3 (i_push (.int (1)) (i_iload 7 (i_bin (fun x y => x <<< (y &&& 31)) (i_bin (fun x y => x ||| y) (i_istore 3 (i_iinc 5 (-1) (fX8_chooseEngines_129 k17 k47))))))))))))))))))
  exact (P_push trivial (P_bin (P_ifeq (p_fX8_chooseEngines_129 hk17 hk47) (P_aload (P_getR (P_getR (P_iload (P_callS q_mX11_cell (P_iload (P_icne (p_fX8_chooseEngines_129 hk17 hk47) (P_iload (P_push trivial (P_iload (P_bin (P_bin (P_istore (P_iinc (p_fX8_chooseEngines_129 hk17 hk47))))))))))))))))))
set_option maxHeartbeats 2000000 in
theorem p_fX8_chooseEngines_47 {B : BT} {k17 : Fn} (hk17 : PF B k17) : ∀ n, PF B (fX8_chooseEngines_47 k17 n) := by
  intro n
  induction n with
  | zero => exact P_no
  | succ n ih =>
    show PF B (i_iload 6 (i_aload 0 (i_getR 8 12 (i_getR 0 1 (i_getR 3 9 (i_iload 1 (i_callS 2 mX11_cell (i_icge (fX8_chooseEngines_135 k17) (i_iload 5 (i_ifle (fX8_chooseEngines_135 k17) (i_aload 0 (i_getR 8 12 (i_getR 0 1 (i_getR 3 8 (i_iload 1 (i_push (.int (10)) (i_bin (fun x y => x * y) (i_iload 6 (i_bin (fun x y => x + y) (i_callS 2 mX11_cell (i_istore 7 (i_iload 2 (i_iload 7 (i_bin (fun x y => x >>> (y &&& 31)) (fX8_chooseEngines_97 k17 (fX8_chooseEngines_47 k17 n))))))))))))))))))))))))))
    exact (P_iload (P_aload (P_getR (P_getR (P_getR (P_iload (P_callS q_mX11_cell (P_icge (p_fX8_chooseEngines_135 hk17) (P_iload (P_ifle (p_fX8_chooseEngines_135 hk17) (P_aload (P_getR (P_getR (P_getR (P_iload (P_push trivial (P_bin (P_iload (P_bin (P_callS q_mX11_cell (P_istore (P_iload (P_iload (P_bin (p_fX8_chooseEngines_97 hk17 ih)))))))))))))))))))))))))
set_option maxHeartbeats 2000000 in
theorem p_fX8_chooseEngines_17 {B : BT} : ∀ n, PF B (fX8_chooseEngines_17 n) := by
  intro n
  induction n with
  | zero => exact P_no
  | succ n ih =>
    show PF B (i_iload 4 (i_push (.int (3)) (i_icge (i_iload 3 i_ireturn) (i_aload 0 (i_getR 8 12 (i_getR 0 1 (i_getR 3 6 (i_iload 1 (i_push (.int (3)) (i_bin (fun x y => x * y) (i_iload 4 (i_bin (fun x y => x + y) (i_callS 2 mX11_cell (i_istore 5 (i_push (.int (0)) (i_istore 6 (fX8_chooseEngines_47 (fX8_chooseEngines_17 n) fuelN)))))))))))))))))
    exact (P_iload (P_push trivial (P_icge (P_iload P_ireturn) (P_aload (P_getR (P_getR (P_getR (P_iload (P_push trivial (P_bin (P_iload (P_bin (P_callS q_mX11_cell (P_istore (P_push trivial (P_istore (p_fX8_chooseEngines_47 ih fuelN)))))))))))))))))
set_option maxHeartbeats 2000000 in
theorem p_fX8_chooseEngines_0 {B : BT} : PF B fX8_chooseEngines_0 := by
  show PF B (i_aload 0 (i_getI 8 13 (i_aload 0 (i_getI 8 16 (i_push (.int (-1)) (i_bin (fun x y => x ^^^ y) (i_bin (fun x y => x &&& y) (i_istore 2 (i_push (.int (0)) (i_istore 3 (i_push (.int (0)) (i_istore 4 (fX8_chooseEngines_17 fuelN)))))))))))))
  exact (P_aload (P_getI (P_aload (P_getI (P_push trivial (P_bin (P_bin (P_istore (P_push trivial (P_istore (P_push trivial (P_istore (p_fX8_chooseEngines_17 fuelN)))))))))))))
set_option maxHeartbeats 2000000 in
theorem q_mX8_chooseEngines {B : BT} : PM B mX8_chooseEngines := PM.of p_fX8_chooseEngines_0
set_option maxHeartbeats 2000000 in
theorem p_fX8_sendOut_185 {B : BT} : PF B fX8_sendOut_185 := by
  show PF B (i_iload 5 (i_callS 3 mX11_put (i_aload 0 (i_getR 8 6 (i_iload 1 (i_iload 5 (i_iload 4 (i_bin (fun x y => x + y) (i_callS 3 mX11_put i_return)))))))))
  exact (P_iload (P_callS q_mX11_put (P_aload (P_getR (P_iload (P_iload (P_iload (P_bin (P_callS q_mX11_put P_return)))))))))
set_option maxHeartbeats 2000000 in
theorem p_fX8_sendOut_143 {B : BT} {k79 : Fn} (hk79 : PF B k79) : PF B (fX8_sendOut_143 k79) := by
  show PF B (i_iinc 6 (1) k79)
  exact (P_iinc hk79)
set_option maxHeartbeats 2000000 in
theorem p_fX8_sendOut_124 {B : BT} {k79 : Fn} (hk79 : PF B k79) : PF B (fX8_sendOut_124 k79) := by
  show PF B (i_iload 7 (i_aload 0 (i_getR 8 11 (i_iload 7 (i_callS 2 mX11_cell (i_push (.int (1)) (i_iload 6 (i_bin (fun x y => x <<< (y &&& 31)) (i_bin (fun x y => x ||| y) (i_callS 3 mX11_put (fX8_sendOut_143 k79)))))))))))
  exact (P_iload (P_aload (P_getR (P_iload (P_callS q_mX11_cell (P_push trivial (P_iload (P_bin (P_bin (P_callS q_mX11_put (p_fX8_sendOut_143 hk79)))))))))))
set_option maxHeartbeats 2000000 in
theorem p_fX8_sendOut_79 {B : BT} : ∀ n, PF B (fX8_sendOut_79 n) := by
  intro n
  induction n with
  | zero => exact P_no
  | succ n ih =>
    show PF B (i_iload 6 (i_push (.int (10)) (i_icge (i_aload 0 (i_dup (i_getI 8 16 (i_iload 3 (i_bin (fun x y => x ||| y) (i_putI 8 16 (i_aload 0 (i_getR 8 3 (i_iload 1 (i_iload 3 (i_callS 3 mX11_put (i_aload 0 (i_getR 8 4 (i_iload 1 (i_iload 2 (i_iload 4 (i_bin (fun x y => x + y) (i_callS 3 mX11_put (i_aload 0 (i_getR 8 5 (i_iload 1 fX8_sendOut_185))))))))))))))))))))) (i_iload 3 (i_iload 6 (i_bin (fun x y => x >>> (y &&& 31)) (i_push (.int (1)) (i_bin (fun x y => x &&& y) (i_ifeq (fX8_sendOut_143 (fX8_sendOut_79 n)) (i_iload 5 (i_aload 0 (i_getR 8 12 (i_getR 0 1 (i_getR 3 7 (i_iload 1 (i_push (.int (10)) (i_bin (fun x y => x * y) (i_iload 6 (i_bin (fun x y => x + y) (i_callS 2 mX11_cell (i_bin (fun x y => x + y) (i_istore 7 (i_aload 0 (i_getR 8 11 (fX8_sendOut_124 (fX8_sendOut_79 n))))))))))))))))))))))))))
    exact (P_iload (P_push trivial (P_icge (P_aload (P_dup (P_getI (P_iload (P_bin (P_putI (P_aload (P_getR (P_iload (P_iload (P_callS q_mX11_put (P_aload (P_getR (P_iload (P_iload (P_iload (P_bin (P_callS q_mX11_put (P_aload (P_getR (P_iload p_fX8_sendOut_185))))))))))))))))))))) (P_iload (P_iload (P_bin (P_push trivial (P_bin (P_ifeq (p_fX8_sendOut_143 ih) (P_iload (P_aload (P_getR (P_getR (P_getR (P_iload (P_push trivial (P_bin (P_iload (P_bin (P_callS q_mX11_cell (P_bin (P_istore (P_aload (P_getR (p_fX8_sendOut_124 ih)))))))))))))))))))))))))
set_option maxHeartbeats 2000000 in
theorem p_fX8_sendOut_49 {B : BT} {k6 : Fn} (hk6 : PF B k6) : PF B (fX8_sendOut_49 k6) := by
  show PF B (i_iinc 5 (1) k6)
  exact (P_iinc hk6)
set_option maxHeartbeats 2000000 in
theorem p_fX8_sendOut_6 {B : BT} : ∀ n, PF B (fX8_sendOut_6 n) := by
  intro n
  induction n with
  | zero => exact P_no
  | succ n ih =>
    show PF B (i_iload 5 (i_push (.int (10)) (i_icge (i_iload 2 (i_iload 4 (i_bin (fun x y => x + y) (i_aload 0 (i_getR 8 12 (i_getR 0 1 (i_getR 3 2 (i_iload 1 (i_callS 2 mX11_cell (i_bin (fun x y => x + y) (i_istore 5 (i_push (.int (0)) (i_istore 6 (fX8_sendOut_79 fuelN)))))))))))))) (i_iload 3 (i_iload 5 (i_bin (fun x y => x >>> (y &&& 31)) (i_push (.int (1)) (i_bin (fun x y => x &&& y) (i_ifeq (fX8_sendOut_49 (fX8_sendOut_6 n)) (i_iload 4 (i_aload 0 (i_getR 8 12 (i_getR 0 1 (i_getR 3 7 (i_iload 1 (i_push (.int (10)) (i_bin (fun x y => x * y) (i_iload 5 (i_bin (fun x y => x + y) (i_callS 2 mX11_cell (i_max (i_istore 4 (fX8_sendOut_49 (fX8_sendOut_6 n))))))))))))))))))))))))
    exact (P_iload (P_push trivial (P_icge (P_iload (P_iload (P_bin (P_aload (P_getR (P_getR (P_getR (P_iload (P_callS q_mX11_cell (P_bin (P_istore (P_push trivial (P_istore (p_fX8_sendOut_79 fuelN)))))))))))))) (P_iload (P_iload (P_bin (P_push trivial (P_bin (P_ifeq (p_fX8_sendOut_49 ih) (P_iload (P_aload (P_getR (P_getR (P_getR (P_iload (P_push trivial (P_bin (P_iload (P_bin (P_callS q_mX11_cell (P_max (P_istore (p_fX8_sendOut_49 ih)))))))))))))))))))))))
set_option maxHeartbeats 2000000 in
theorem p_fX8_sendOut_0 {B : BT} : PF B fX8_sendOut_0 := by
  show PF B (i_push (.int (0)) (i_istore 4 (i_push (.int (0)) (i_istore 5 (fX8_sendOut_6 fuelN)))))
  exact (P_push trivial (P_istore (P_push trivial (P_istore (p_fX8_sendOut_6 fuelN)))))
set_option maxHeartbeats 2000000 in
theorem q_mX8_sendOut {B : BT} : PM B mX8_sendOut := PM.of p_fX8_sendOut_0
set_option maxHeartbeats 2000000 in
theorem p_fX5_lend_0 {B : BT} : PF B fX5_lend_0 := by
  show PF B (i_aload 0 (i_dup (i_getI 5 3 (i_iload 1 (i_bin (fun x y => x - y) (i_putI 5 3 (i_aload 0 (i_getR 5 9 (i_iload 2 (i_aload 0 (i_getR 5 9 (i_iload 2 (i_callS 2 mX11_cell (i_iload 1 (i_bin (fun x y => x + y) (i_callS 3 mX11_put i_return))))))))))))))))
  exact (P_aload (P_dup (P_getI (P_iload (P_bin (P_putI (P_aload (P_getR (P_iload (P_aload (P_getR (P_iload (P_callS q_mX11_cell (P_iload (P_bin (P_callS q_mX11_put P_return))))))))))))))))
set_option maxHeartbeats 2000000 in
theorem q_mX5_lend {B : BT} : PM B mX5_lend := PM.of p_fX5_lend_0
set_option maxHeartbeats 2000000 in
theorem p_fX8_launch_147 {B : BT} : PF B fX8_launch_147 := by
  show PF B (i_callV 5 2 mX5_lend (i_push (.int (1)) i_zreturn))
  exact (P_callV q_mX5_lend (P_push trivial P_zreturn))
set_option maxHeartbeats 2000000 in
theorem p_fX8_launch_87 {B : BT} : PF B fX8_launch_87 := by
  show PF B (i_iload 4 (i_ifeq (i_aload 0 (i_getR 8 2 (i_iload 1 (i_push (.int (1)) (i_callS 3 mX11_put (i_aload 0 (i_iload 1 (i_iload 2 (i_iload 3 (i_callV 8 3 mX8_sendOut (i_aload 0 (i_getR 8 0 (i_aload 0 (i_getR 8 12 (i_getR 0 1 (i_getR 3 3 (i_iload 1 (i_callS 2 mX11_cell (i_aload 0 (i_getR 8 5 (i_iload 1 (i_callS 2 mX11_cell fX8_launch_147)))))))))))))))))))))) (i_aload 0 (i_getR 8 2 (i_iload 1 (i_iload 4 (i_ineg (i_callS 3 mX11_put (i_push (.int (0)) i_zreturn)))))))))
  exact (P_iload (P_ifeq (P_aload (P_getR (P_iload (P_push trivial (P_callS q_mX11_put (P_aload (P_iload (P_iload (P_iload (P_callV q_mX8_sendOut (P_aload (P_getR (P_aload (P_getR (P_getR (P_getR (P_iload (P_callS q_mX11_cell (P_aload (P_getR (P_iload (P_callS q_mX11_cell p_fX8_launch_147)))))))))))))))))))))) (P_aload (P_getR (P_iload (P_iload (P_ineg (P_callS q_mX11_put (P_push trivial P_zreturn)))))))))
set_option maxHeartbeats 2000000 in
theorem p_fX8_launch_61 {B : BT} : PF B fX8_launch_61 := by
  show PF B (i_getR 8 0 (i_getI 5 3 (i_aload 0 (i_getR 8 12 (i_getR 0 1 (i_getR 3 3 (i_iload 1 (i_callS 2 mX11_cell (i_icge fX8_launch_87 (i_push (.int (4)) (i_istore 4 fX8_launch_87)))))))))))
  exact (P_getR (P_getI (P_aload (P_getR (P_getR (P_getR (P_iload (P_callS q_mX11_cell (P_icge p_fX8_launch_87 (P_push trivial (P_istore p_fX8_launch_87)))))))))))
set_option maxHeartbeats 2000000 in
theorem p_fX8_launch_55 {B : BT} : PF B fX8_launch_55 := by
  show PF B (i_istore 4 fX8_launch_87)
  exact (P_istore p_fX8_launch_87)
set_option maxHeartbeats 2000000 in
theorem p_fX8_launch_0 {B : BT} : PF B fX8_launch_0 := by
  show PF B (i_push (.int (0)) (i_istore 3 (i_push (.int (0)) (i_istore 4 (i_iload 2 (i_aload 0 (i_getR 8 12 (i_getR 0 1 (i_getR 3 5 (i_iload 1 (i_callS 2 mX11_cell (i_icge (i_aload 0 (i_iload 1 (i_iload 2 (i_callV 8 2 mX8_followsOthers (i_ifne (i_aload 0 (i_iload 1 (i_callV 8 1 mX8_chooseEngines (i_istore 3 (i_iload 3 (i_ifne (i_aload 0 fX8_launch_61) (i_push (.int (3)) fX8_launch_55))))))) (i_push (.int (2)) (i_istore 4 fX8_launch_87))))))) (i_push (.int (1)) (i_istore 4 fX8_launch_87))))))))))))))
  exact (P_push trivial (P_istore (P_push trivial (P_istore (P_iload (P_aload (P_getR (P_getR (P_getR (P_iload (P_callS q_mX11_cell (P_icge (P_aload (P_iload (P_iload (P_callV q_mX8_followsOthers (P_ifne (P_aload (P_iload (P_callV q_mX8_chooseEngines (P_istore (P_iload (P_ifne (P_aload p_fX8_launch_61) (P_push trivial p_fX8_launch_55))))))) (P_push trivial (P_istore p_fX8_launch_87))))))) (P_push trivial (P_istore p_fX8_launch_87))))))))))))))
set_option maxHeartbeats 2000000 in
theorem q_mX8_launch {B : BT} : PM B mX8_launch := PM.of p_fX8_launch_0
set_option maxHeartbeats 2000000 in
theorem p_fX8_play_42 {B : BT} {k8 : Fn} (hk8 : PF B k8) : ∀ n, PF B (fX8_play_42 k8 n) := by
  intro n
  induction n with
  | zero => exact P_no
  | succ n ih =>
    show PF B (i_iload 4 (i_push (.int (5)) (i_icge (i_aload 0 (i_getR 8 0 (i_iload 3 (i_callV 5 1 mX5_note (i_aload 0 (i_getR 8 7 (i_iload 3 (i_aload 0 (i_getI 8 13 (i_aload 0 (i_getI 8 16 (i_push (.int (-1)) (i_bin (fun x y => x ^^^ y) (i_bin (fun x y => x &&& y) (i_iastore (i_aload 0 (i_getR 8 9 (i_aload 0 (i_getR 8 7 (i_iload 3 (i_iaload (fX8_play_112 k8)))))))))))))))))))))) (i_aload 0 (i_getR 8 1 (i_iload 4 (i_iaload (i_iload 3 (i_icne (fX8_play_71 k8 (fX8_play_42 k8 n)) (i_aload 0 (i_iload 4 (i_iload 3 (i_callV 8 2 mX8_launch (i_ifne (fX8_play_71 k8 (fX8_play_42 k8 n)) (i_push (.int (0)) (i_istore 2 (fX8_play_71 k8 (fX8_play_42 k8 n))))))))))))))))))
    exact (P_iload (P_push trivial (P_icge (P_aload (P_getR (P_iload (P_callV q_mX5_note (P_aload (P_getR (P_iload (P_aload (P_getI (P_aload (P_getI (P_push trivial (P_bin (P_bin (P_iastore (P_aload (P_getR (P_aload (P_getR (P_iload (P_iaload (p_fX8_play_112 hk8)))))))))))))))))))))) (P_aload (P_getR (P_iload (P_iaload (P_iload (P_icne (p_fX8_play_71 hk8 ih) (P_aload (P_iload (P_iload (P_callV q_mX8_launch (P_ifne (p_fX8_play_71 hk8 ih) (P_push trivial (P_istore (p_fX8_play_71 hk8 ih)))))))))))))))))
set_option maxHeartbeats 2000000 in
theorem p_fX8_play_8 {B : BT} : ∀ n, PF B (fX8_play_8 n) := by
  intro n
  induction n with
  | zero => exact P_no
  | succ n ih =>
    show PF B (i_iload 3 (i_push (.int (48)) (i_icge (i_iload 2 i_zreturn) (i_aload 0 (i_getR 8 0 (i_iload 3 (i_callV 5 1 mX5_advance (i_aload 0 (i_dup (i_getI 8 16 (i_aload 0 (i_getR 8 11 (i_iload 3 (i_iaload (i_push (.int (-1)) (i_bin (fun x y => x ^^^ y) (i_bin (fun x y => x &&& y) (i_putI 8 16 (i_push (.int (0)) (i_istore 4 (fX8_play_42 (fX8_play_8 n) fuelN)))))))))))))))))))))
    exact (P_iload (P_push trivial (P_icge (P_iload P_zreturn) (P_aload (P_getR (P_iload (P_callV q_mX5_advance (P_aload (P_dup (P_getI (P_aload (P_getR (P_iload (P_iaload (P_push trivial (P_bin (P_bin (P_putI (P_push trivial (P_istore (p_fX8_play_42 ih fuelN)))))))))))))))))))))
set_option maxHeartbeats 2000000 in
theorem p_fX8_play_0 {B : BT} : PF B fX8_play_0 := by
  show PF B (i_aload 0 (i_callV 8 0 mX8_reset (i_push (.int (1)) (i_istore 2 (i_push (.int (0)) (i_istore 3 (fX8_play_8 fuelN)))))))
  exact (P_aload (P_callV q_mX8_reset (P_push trivial (P_istore (P_push trivial (P_istore (p_fX8_play_8 fuelN)))))))
set_option maxHeartbeats 2000000 in
theorem q_mX8_play {B : BT} : PM B mX8_play := PM.of p_fX8_play_0
set_option maxHeartbeats 2000000 in
theorem p_fX8_listViolations_60 {B : BT} {k7 : Fn} (hk7 : PF B k7) : PF B (fX8_listViolations_60 k7) := by
  show PF B (i_iinc 1 (1) k7)
  exact (P_iinc hk7)
set_option maxHeartbeats 2000000 in
theorem p_fX8_firstOf_22 {B : BT} : PF B fX8_firstOf_22 := by
  show PF B (i_iload 1 i_ireturn)
  exact (P_iload P_ireturn)
set_option maxHeartbeats 2000000 in
theorem p_fX8_firstOf_2 {B : BT} : ∀ n, PF B (fX8_firstOf_2 n) := by
  intro n
  induction n with
  | zero => exact P_no
  | succ n ih =>
    show PF B (i_iload 1 (i_push (.int (12)) (i_icge fX8_firstOf_22 (i_iload 0 (i_iload 1 (i_bin (fun x y => x >>> (y &&& 31)) (i_push (.int (1)) (i_bin (fun x y => x &&& y) (i_ifne fX8_firstOf_22 (i_iinc 1 (1) (fX8_firstOf_2 n)))))))))))
    exact (P_iload (P_push trivial (P_icge p_fX8_firstOf_22 (P_iload (P_iload (P_bin (P_push trivial (P_bin (P_ifne p_fX8_firstOf_22 (P_iinc ih))))))))))
set_option maxHeartbeats 2000000 in
theorem p_fX8_firstOf_0 {B : BT} : PF B fX8_firstOf_0 := by
  show PF B (i_push (.int (0)) (i_istore 1 (fX8_firstOf_2 fuelN)))
  exact (P_push trivial (P_istore (p_fX8_firstOf_2 fuelN)))
set_option maxHeartbeats 2000000 in
theorem q_mX8_firstOf {B : BT} : PM B mX8_firstOf := PM.of p_fX8_firstOf_0
set_option maxHeartbeats 2000000 in
theorem p_fX8_addViolation_0 {B : BT} : PF B fX8_addViolation_0 := by
  show PF B (i_aload 0 (i_getR 8 10 (i_aload 0 (i_getI 8 8 (i_iload 1 (i_push (.int (8)) (i_bin (fun x y => x <<< (y &&& 31)) (i_iload 2 (i_push (.int (4)) (i_bin (fun x y => x <<< (y &&& 31)) (i_bin (fun x y => x ||| y) (i_iload 3 (i_bin (fun x y => x ||| y) (i_callS 3 mX11_put (i_aload 0 (i_dup (i_getI 8 8 (i_push (.int (1)) (i_bin (fun x y => x + y) (i_putI 8 8 i_return))))))))))))))))))))
  exact (P_aload (P_getR (P_aload (P_getI (P_iload (P_push trivial (P_bin (P_iload (P_push trivial (P_bin (P_bin (P_iload (P_bin (P_callS q_mX11_put (P_aload (P_dup (P_getI (P_push trivial (P_bin (P_putI P_return))))))))))))))))))))
set_option maxHeartbeats 2000000 in
theorem q_mX8_addViolation {B : BT} : PM B mX8_addViolation := PM.of p_fX8_addViolation_0
set_option maxHeartbeats 2000000 in
theorem p_fX8_listCancelled_35 {B : BT} {k2 : Fn} (hk2 : PF B k2) : PF B (fX8_listCancelled_35 k2) := by
  show PF B (i_iinc 3 (1) k2)
  exact (P_iinc hk2)
set_option maxHeartbeats 2000000 in
theorem p_fX8_listCancelled_2 {B : BT} : ∀ n, PF B (fX8_listCancelled_2 n) := by
  intro n
  induction n with
  | zero => exact P_no
  | succ n ih =>
    show PF B (i_iload 3 (i_push (.int (5)) (i_icge i_return (i_aload 0 (i_getR 8 1 (i_iload 3 (i_iaload (i_iload 1 (i_icne (fX8_listCancelled_35 (fX8_listCancelled_2 n)) (i_aload 0 (i_getR 8 2 (i_iload 3 (i_iaload (i_iload 2 (i_ineg (i_icne (fX8_listCancelled_35 (fX8_listCancelled_2 n)) (i_aload 0 (i_iload 1 (i_iload 2 (i_iload 3 (i_callV 8 3 mX8_addViolation (fX8_listCancelled_35 (fX8_listCancelled_2 n)))))))))))))))))))))))
    exact (P_iload (P_push trivial (P_icge P_return (P_aload (P_getR (P_iload (P_iaload (P_iload (P_icne (p_fX8_listCancelled_35 ih) (P_aload (P_getR (P_iload (P_iaload (P_iload (P_ineg (P_icne (p_fX8_listCancelled_35 ih) (P_aload (P_iload (P_iload (P_iload (P_callV q_mX8_addViolation (p_fX8_listCancelled_35 ih))))))))))))))))))))))
set_option maxHeartbeats 2000000 in
theorem p_fX8_listCancelled_0 {B : BT} : PF B fX8_listCancelled_0 := by
  show PF B (i_push (.int (0)) (i_istore 3 (fX8_listCancelled_2 fuelN)))
  exact (P_push trivial (P_istore (p_fX8_listCancelled_2 fuelN)))
set_option maxHeartbeats 2000000 in
theorem q_mX8_listCancelled {B : BT} : PM B mX8_listCancelled := PM.of p_fX8_listCancelled_0
set_option maxHeartbeats 2000000 in
theorem p_fX8_listViolations_15 {B : BT} {k7 : Fn} (hk7 : PF B k7) : ∀ n, PF B (fX8_listViolations_15 k7 n) := by
  intro n
  induction n with
  | zero => exact P_no
  | succ n ih =>
    show PF B (i_iload 2 (i_push (.int (4)) (i_icgt (i_aload 0 (i_getR 8 9 (i_aload 0 (i_getR 8 7 (i_iload 1 (i_iaload (i_callV 2 1 mX2_openStreets (i_istore 2 (i_iload 2 (i_ifeq (fX8_listViolations_60 k7) (i_aload 0 (i_iload 1 (i_push (.int (5)) (i_iload 2 (i_callS 1 mX8_firstOf (i_callV 8 3 mX8_addViolation (fX8_listViolations_60 k7))))))))))))))))) (i_aload 0 (i_iload 1 (i_iload 2 (i_callV 8 2 mX8_listCancelled (i_iinc 2 (1) (fX8_listViolations_15 k7 n)))))))))
    exact (P_iload (P_push trivial (P_icgt (P_aload (P_getR (P_aload (P_getR (P_iload (P_iaload (P_callV q_mX2_openStreets (P_istore (P_iload (P_ifeq (p_fX8_listViolations_60 hk7) (P_aload (P_iload (P_push trivial (P_iload (P_callS q_mX8_firstOf (P_callV q_mX8_addViolation (p_fX8_listViolations_60 hk7))))))))))))))))) (P_aload (P_iload (P_iload (P_callV q_mX8_listCancelled (P_iinc ih))))))))
set_option maxHeartbeats 2000000 in
theorem p_fX8_listViolations_7 {B : BT} : ∀ n, PF B (fX8_listViolations_7 n) := by
  intro n
  induction n with
  | zero => exact P_no
  | succ n ih =>
    show PF B (i_iload 1 (i_push (.int (48)) (i_icge i_return (i_push (.int (1)) (i_istore 2 (fX8_listViolations_15 (fX8_listViolations_7 n) fuelN))))))
    exact (P_iload (P_push trivial (P_icge P_return (P_push trivial (P_istore (p_fX8_listViolations_15 ih fuelN))))))
set_option maxHeartbeats 2000000 in
theorem p_fX8_listViolations_0 {B : BT} : PF B fX8_listViolations_0 := by
  show PF B (i_aload 0 (i_push (.int (0)) (i_putI 8 8 (i_push (.int (0)) (i_istore 1 (fX8_listViolations_7 fuelN))))))
  exact (P_aload (P_push trivial (P_putI (P_push trivial (P_istore (p_fX8_listViolations_7 fuelN))))))
set_option maxHeartbeats 2000000 in
theorem q_mX8_listViolations {B : BT} : PM B mX8_listViolations := PM.of p_fX8_listViolations_0
set_option maxHeartbeats 2000000 in
theorem p_fX8_review_0 {B : BT} : PF B fX8_review_0 := by
  show PF B (i_aload 0 (i_push (.int (0)) (i_callV 8 1 mX8_play (i_pop (i_aload 0 (i_callV 8 0 mX8_listViolations i_return))))))
  exact (P_aload (P_push trivial (P_callV q_mX8_play (P_pop (P_aload (P_callV q_mX8_listViolations P_return))))))
set_option maxHeartbeats 2000000 in
theorem q_mX8_review {B : BT} : PM B mX8_review := PM.of p_fX8_review_0
set_option maxHeartbeats 2000000 in
theorem p_fX11_serveLoadedBrigade_0 {B : BT} : PF B fX11_serveLoadedBrigade_0 := by
  show PF B (i_aload 0 (i_getR 10 4 (i_aload 0 (i_getR 10 8 (i_callV 2 1 mX2_serve (i_aload 0 (i_getR 10 6 (i_aload 0 (i_getR 10 8 (i_callV 8 1 mX8_serve (i_aload 0 (i_getR 10 5 (i_aload 0 (i_getR 10 8 (i_callV 8 1 mX8_serve (i_aload 0 (i_getR 10 5 (i_callV 8 0 mX8_review (i_aload 0 (i_getR 10 2 (i_push (.int (0)) (i_putI 4 0 i_return))))))))))))))))))))))
  exact (P_aload (P_getR (P_aload (P_getR (P_callV q_mX2_serve (P_aload (P_getR (P_aload (P_getR (P_callV q_mX8_serve (P_aload (P_getR (P_aload (P_getR (P_callV q_mX8_serve (P_aload (P_getR (P_callV q_mX8_review (P_aload (P_getR (P_push trivial (P_putI P_return))))))))))))))))))))))
set_option maxHeartbeats 2000000 in
theorem q_mX11_serveLoadedBrigade {B : BT} : PM B mX11_serveLoadedBrigade := PM.of p_fX11_serveLoadedBrigade_0
set_option maxHeartbeats 2000000 in
theorem p_fX0_clear_73 {B : BT} : ∀ n, PF B (fX0_clear_73 n) := by
  intro n
  induction n with
  | zero => exact P_no
  | succ n ih =>
    show PF B (i_iload 1 (i_push (.int (12)) (i_icge i_return (i_aload 0 (i_getR 0 13 (i_iload 1 (i_push (.int (12)) (i_bin (fun x y => x * y) (i_iload 1 (i_bin (fun x y => x + y) (i_push (.int (0)) (i_callS 3 mX11_put (i_iinc 1 (1) (fX0_clear_73 n))))))))))))))
    exact (P_iload (P_push trivial (P_icge P_return (P_aload (P_getR (P_iload (P_push trivial (P_bin (P_iload (P_bin (P_push trivial (P_callS q_mX11_put (P_iinc ih)))))))))))))
set_option maxHeartbeats 2000000 in
theorem p_fX0_clear_42 {B : BT} : PF B fX0_clear_42 := by
  show PF B (i_push (.int (30)) (i_putI 0 6 (i_aload 0 (i_push (.int (0)) (i_putI 0 7 (i_aload 0 (i_push (.int (1)) (i_putI 0 8 (i_aload 0 (i_push (.int (1)) (i_putI 0 9 (i_aload 0 (i_getR 0 13 (i_push (.int (1000000)) (i_callS 2 mJ7_fill_53178 (i_push (.int (0)) (i_istore 1 (fX0_clear_73 fuelN))))))))))))))))))
  exact (P_push trivial (P_putI (P_aload (P_push trivial (P_putI (P_aload (P_push trivial (P_putI (P_aload (P_push trivial (P_putI (P_aload (P_getR (P_push trivial (P_callS q_mJ7_fill_53178 (P_push trivial (P_istore (p_fX0_clear_73 fuelN))))))))))))))))))
set_option maxHeartbeats 2000000 in
theorem p_fX0_clear_0 {B : BT} : PF B fX0_clear_0 := by
  show PF B (i_aload 0 (i_getR 0 0 (i_push (.int (0)) (i_putI 7 0 (i_aload 0 (i_getR 0 1 (i_push (.int (0)) (i_putI 3 0 (i_aload 0 (i_push (.int (0)) (i_putI 0 2 (i_aload 0 (i_push (.int (0)) (i_putI 0 3 (i_aload 0 (i_push (.int (0)) (i_putI 0 4 (i_aload 0 (i_push (.int (0)) (i_putI 0 5 (i_aload 0 (i_push (.int (0)) (i_putI 0 10 (i_aload 0 fX0_clear_42))))))))))))))))))))))))
  exact (P_aload (P_getR (P_push trivial (P_putI (P_aload (P_getR (P_push trivial (P_putI (P_aload (P_push trivial (P_putI (P_aload (P_push trivial (P_putI (P_aload (P_push trivial (P_putI (P_aload (P_push trivial (P_putI (P_aload (P_push trivial (P_putI (P_aload p_fX0_clear_42))))))))))))))))))))))))
set_option maxHeartbeats 2000000 in
theorem q_mX0_clear {B : BT} : PM B mX0_clear := PM.of p_fX0_clear_0
set_option maxHeartbeats 2000000 in
theorem p_fX12_clear_41 {B : BT} : PF B fX12_clear_41 := by
  show PF B (i_aload 0 (i_push (.int (1)) (i_putI 11 9 (i_aload 0 (i_push (.int (1)) (i_putI 11 10 i_return))))))
  exact (P_aload (P_push trivial (P_putI (P_aload (P_push trivial (P_putI P_return))))))
set_option maxHeartbeats 2000000 in
theorem p_fX12_clear_0 {B : BT} : PF B fX12_clear_0 := by
  show PF B (i_aload 0 (i_push (.int (30)) (i_putI 11 1 (i_aload 0 (i_push (.int (0)) (i_putI 11 2 (i_aload 0 (i_push (.int (0)) (i_putI 11 3 (i_aload 0 (i_push (.int (0)) (i_putI 11 4 (i_aload 0 (i_push (.int (0)) (i_putI 11 5 (i_aload 0 (i_push (.int (0)) (i_putI 11 6 (i_aload 0 (i_push (.int (0)) (i_putI 11 7 (i_aload 0 (i_push (.int (0)) (i_putI 11 8 fX12_clear_41))))))))))))))))))))))))
  exact (P_aload (P_push trivial (P_putI (P_aload (P_push trivial (P_putI (P_aload (P_push trivial (P_putI (P_aload (P_push trivial (P_putI (P_aload (P_push trivial (P_putI (P_aload (P_push trivial (P_putI (P_aload (P_push trivial (P_putI (P_aload (P_push trivial (P_putI p_fX12_clear_41))))))))))))))))))))))))
set_option maxHeartbeats 2000000 in
theorem q_mX12_clear {B : BT} : PM B mX12_clear := PM.of p_fX12_clear_0
set_option maxHeartbeats 2000000 in
theorem p_fX12_settle_250 {B : BT} : ∀ n, PF B (fX12_settle_250 n) := by
  intro n
  induction n with
  | zero => exact P_no
  | succ n ih =>
    show PF B (i_iload 1 (i_push (.int (5)) (i_icge (i_aload 0 (i_push (.int (0)) (i_putI 11 75 (i_aload 0 (i_push (.int (0)) (i_putI 11 58 (i_aload 0 (i_aload 0 (i_getI 11 8 (i_putI 11 59 (i_aload 0 (i_aload 0 (i_getI 11 10 (i_putI 11 60 i_return)))))))))))))) (i_aload 0 (i_getR 11 30 (i_iload 1 (i_push (.int (-1)) (i_iastore (i_iinc 1 (1) (fX12_settle_250 n))))))))))
    exact (P_iload (P_push trivial (P_icge (P_aload (P_push trivial (P_putI (P_aload (P_push trivial (P_putI (P_aload (P_aload (P_getI (P_putI (P_aload (P_aload (P_getI (P_putI P_return)))))))))))))) (P_aload (P_getR (P_iload (P_push trivial (P_iastore (P_iinc ih)))))))))
set_option maxHeartbeats 2000000 in
theorem p_fX12_settle_228 {B : BT} : ∀ n, PF B (fX12_settle_228 n) := by
  intro n
  induction n with
  | zero => exact P_no
  | succ n ih =>
    show PF B (i_iload 1 (i_push (.int (1024)) (i_icge (i_push (.int (0)) (i_istore 1 (fX12_settle_250 fuelN))) (i_aload 0 (i_getR 11 54 (i_iload 1 (i_push (.int (-1)) (i_iastore (i_iinc 1 (1) (fX12_settle_228 n))))))))))
    exact (P_iload (P_push trivial (P_icge (P_push trivial (P_istore (p_fX12_settle_250 fuelN))) (P_aload (P_getR (P_iload (P_push trivial (P_iastore (P_iinc ih)))))))))
set_option maxHeartbeats 2000000 in
theorem p_fX12_settle_177 {B : BT} {k120 : Fn} {k130 : Fn} {k140 : Fn} (hk120 : PF B k120) (hk130 : PF B k130) (hk140 : PF B k140) : PF B (fX12_settle_177 k120 k130 k140) := by
  show PF B (i_iload 1 (i_bin (fun x y => x + y) (i_iaload (i_aload 0 (i_getR 11 53 (i_push (.int (12)) (i_iload 1 (i_bin (fun x y => x * y) (i_iload 3 (i_bin (fun x y => x + y) (i_iaload (i_bin (fun x y => x + y) (i_min (i_iastore (i_iinc 3 (1) k140)))))))))))))))
  exact (P_iload (P_bin (P_iaload (P_aload (P_getR (P_push trivial (P_iload (P_bin (P_iload (P_bin (P_iaload (P_bin (P_min (P_iastore (P_iinc hk140)))))))))))))))
set_option maxHeartbeats 2000000 in
theorem p_fX12_settle_140 {B : BT} {k120 : Fn} {k130 : Fn} (hk120 : PF B k120) (hk130 : PF B k130) : ∀ n, PF B (fX12_settle_140 k120 k130 n) := by
  intro n
  induction n with
  | zero => exact P_no
  | succ n ih =>
    show PF B (i_iload 3 (i_aload 0 (i_getI 11 2 (i_icge (i_iinc 2 (1) k130) (i_aload 0 (i_getR 11 53 (i_push (.int (12)) (i_iload 2 (i_bin (fun x y => x * y) (i_iload 3 (i_bin (fun x y => x + y) (i_aload 0 (i_getR 11 53 (i_push (.int (12)) (i_iload 2 (i_bin (fun x y => x * y) (i_iload 3 (i_bin (fun x y => x + y) (i_iaload (i_aload 0 (i_getR 11 53 (i_push (.int (12)) (i_iload 2 (i_bin (fun x y => x * y) (fX12_settle_177 k120 k130 (fX12_settle_140 k120 k130 n))))))))))))))))))))))))))
    exact (P_iload (P_aload (P_getI (P_icge (P_iinc hk130) (P_aload (P_getR (P_push trivial (P_iload (P_bin (P_iload (P_bin (P_aload (P_getR (P_push trivial (P_iload (P_bin (P_iload (P_bin (P_iaload (P_aload (P_getR (P_push trivial (P_iload (P_bin (p_fX12_settle_177 hk120 hk130 ih)))))))))))))))))))))))))
set_option maxHeartbeats 2000000 in
theorem p_fX12_settle_130 {B : BT} {k120 : Fn} (hk120 : PF B k120) : ∀ n, PF B (fX12_settle_130 k120 n) := by
  intro n
  induction n with
  | zero => exact P_no
  | succ n ih =>
    show PF B (i_iload 2 (i_aload 0 (i_getI 11 2 (i_icge (i_iinc 1 (1) k120) (i_push (.int (0)) (i_istore 3 (fX12_settle_140 k120 (fX12_settle_130 k120 n) fuelN)))))))
    exact (P_iload (P_aload (P_getI (P_icge (P_iinc hk120) (P_push trivial (P_istore (p_fX12_settle_140 hk120 ih fuelN)))))))
set_option maxHeartbeats 2000000 in
theorem p_fX12_settle_120 {B : BT} : ∀ n, PF B (fX12_settle_120 n) := by
  intro n
  induction n with
  | zero => exact P_no
  | succ n ih =>
    show PF B (i_iload 1 (i_aload 0 (i_getI 11 2 (i_icge (i_aload 0 (i_push (.int (1)) (i_aload 0 (i_getI 11 5 (i_bin (fun x y => x <<< (y &&& 31)) (i_push (.int (1)) (i_bin (fun x y => x - y) (i_putI 11 55 (i_push (.int (0)) (i_istore 1 (fX12_settle_228 fuelN))))))))))) (i_push (.int (0)) (i_istore 2 (fX12_settle_130 (fX12_settle_120 n) fuelN)))))))
    exact (P_iload (P_aload (P_getI (P_icge (P_aload (P_push trivial (P_aload (P_getI (P_bin (P_push trivial (P_bin (P_putI (P_push trivial (P_istore (p_fX12_settle_228 fuelN))))))))))) (P_push trivial (P_istore (p_fX12_settle_130 ih fuelN)))))))
set_option maxHeartbeats 2000000 in
theorem p_fX12_settle_111 {B : BT} {k37 : Fn} (hk37 : PF B k37) : PF B (fX12_settle_111 k37) := by
  show PF B (i_iastore (i_iinc 1 (1) k37))
  exact (P_iastore (P_iinc hk37))
set_option maxHeartbeats 2000000 in
theorem p_fX12_settle_75 {B : BT} {k37 : Fn} (hk37 : PF B k37) : PF B (fX12_settle_75 k37) := by
  show PF B (i_iload 1 (i_iaload (i_bin (fun x y => x + y) (i_istore 3 (i_aload 0 (i_getR 11 53 (i_iload 2 (i_aload 0 (i_getR 11 53 (i_iload 2 (i_iaload (i_aload 0 (i_getR 11 14 (i_iload 1 (i_iaload (i_min (i_iastore (i_aload 0 (i_getR 11 53 (i_iload 3 (i_aload 0 (i_getR 11 53 (i_iload 2 (i_iaload (fX12_settle_111 k37)))))))))))))))))))))))))
  exact (P_iload (P_iaload (P_bin (P_istore (P_aload (P_getR (P_iload (P_aload (P_getR (P_iload (P_iaload (P_aload (P_getR (P_iload (P_iaload (P_min (P_iastore (P_aload (P_getR (P_iload (P_aload (P_getR (P_iload (P_iaload (p_fX12_settle_111 hk37)))))))))))))))))))))))))
set_option maxHeartbeats 2000000 in
theorem p_fX12_settle_37 {B : BT} : ∀ n, PF B (fX12_settle_37 n) := by
  intro n
  induction n with
  | zero => exact P_no
  | succ n ih =>
    show PF B (i_iload 1 (i_aload 0 (i_getI 11 3 (i_icge (i_push (.int (0)) (i_istore 1 (fX12_settle_120 fuelN))) (i_push (.int (12)) (i_aload 0 (i_getR 11 12 (i_iload 1 (i_iaload (i_bin (fun x y => x * y) (i_aload 0 (i_getR 11 13 (i_iload 1 (i_iaload (i_bin (fun x y => x + y) (i_istore 2 (i_push (.int (12)) (i_aload 0 (i_getR 11 13 (i_iload 1 (i_iaload (i_bin (fun x y => x * y) (i_aload 0 (i_getR 11 12 (fX12_settle_75 (fX12_settle_37 n))))))))))))))))))))))))))
    exact (P_iload (P_aload (P_getI (P_icge (P_push trivial (P_istore (p_fX12_settle_120 fuelN))) (P_push trivial (P_aload (P_getR (P_iload (P_iaload (P_bin (P_aload (P_getR (P_iload (P_iaload (P_bin (P_istore (P_push trivial (P_aload (P_getR (P_iload (P_iaload (P_bin (P_aload (P_getR (p_fX12_settle_75 ih)))))))))))))))))))))))))
set_option maxHeartbeats 2000000 in
theorem p_fX12_settle_28 {B : BT} {k2 : Fn} (hk2 : PF B k2) : PF B (fX12_settle_28 k2) := by
  show PF B (i_iastore (i_iinc 1 (1) k2))
  exact (P_iastore (P_iinc hk2))
set_option maxHeartbeats 2000000 in
theorem p_fX12_settle_2 {B : BT} : ∀ n, PF B (fX12_settle_2 n) := by
  intro n
  induction n with
  | zero => exact P_no
  | succ n ih =>
    show PF B (i_iload 1 (i_push (.int (144)) (i_icge (i_push (.int (0)) (i_istore 1 (fX12_settle_37 fuelN))) (i_aload 0 (i_getR 11 53 (i_iload 1 (i_iload 1 (i_push (.int (13)) (i_div (fun x y => x - x / y * y) (i_ifne (i_push (.int (1000000)) (fX12_settle_28 (fX12_settle_2 n))) (i_push (.int (0)) (fX12_settle_28 (fX12_settle_2 n)))))))))))))
    exact (P_iload (P_push trivial (P_icge (P_push trivial (P_istore (p_fX12_settle_37 fuelN))) (P_aload (P_getR (P_iload (P_iload (P_push trivial (P_div (P_ifne (P_push trivial (p_fX12_settle_28 ih)) (P_push trivial (p_fX12_settle_28 ih))))))))))))
set_option maxHeartbeats 2000000 in
theorem p_fX12_settle_0 {B : BT} : PF B fX12_settle_0 := by
  show PF B (i_push (.int (0)) (i_istore 1 (fX12_settle_2 fuelN)))
  exact (P_push trivial (P_istore (p_fX12_settle_2 fuelN)))
set_option maxHeartbeats 2000000 in
theorem q_mX12_settle {B : BT} : PM B mX12_settle := PM.of p_fX12_settle_0
