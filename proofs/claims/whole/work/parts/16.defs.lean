def fX0_objectNamed_39 : Fn := (i_push (.int (-1)) i_ireturn)
def fX0_objectNamed_2 : Nat → Fn
  | 0 => fun _ _ _ => none
  | n + 1 => let k2 := fX0_objectNamed_2 n; (i_iload 2 (i_aload 0 (i_getI 0 10 (i_icge fX0_objectNamed_39 (i_iload 2 (i_push (.int (33)) (i_icge fX0_objectNamed_39 (i_aload 0 (i_getR 0 11 (i_iload 2 (i_iaload (i_iload 1 (i_icne (i_iinc 2 (1) k2) (i_aload 0 (i_getR 0 12 (i_iload 2 (i_iaload i_ireturn)))))))))))))))))
def fX0_objectNamed_0 : Fn := (i_push (.int (0)) (i_istore 2 (fX0_objectNamed_2 fuelN)))
def mX0_objectNamed : List Value → AH → Option Ou := runF 3 fX0_objectNamed_0
def fX0_minutesBetween_20 : Fn := (i_push (.int (1000000)) i_ireturn)
def fX0_minutesBetween_0 : Fn := (i_iload 1 (i_iflt fX0_minutesBetween_20 (i_iload 1 (i_push (.int (12)) (i_icge fX0_minutesBetween_20 (i_iload 2 (i_iflt fX0_minutesBetween_20 (i_iload 2 (i_push (.int (12)) (i_iclt (i_aload 0 (i_getR 0 13 (i_iload 1 (i_push (.int (12)) (i_bin (fun x y => x * y) (i_iload 2 (i_bin (fun x y => x + y) (i_iaload i_ireturn)))))))) fX0_minutesBetween_20))))))))))
def mX0_minutesBetween : List Value → AH → Option Ou := runF 3 fX0_minutesBetween_0
def fX0_minutesFromStation_18 : Fn := (i_push (.int (1000000)) i_ireturn)
def fX0_minutesFromStation_0 : Fn := (i_iload 1 (i_iflt fX0_minutesFromStation_18 (i_iload 1 (i_aload 0 (i_getI 0 4 (i_icge fX0_minutesFromStation_18 (i_iload 1 (i_push (.int (6)) (i_iclt (i_aload 0 (i_aload 0 (i_getR 0 14 (i_iload 1 (i_iaload (i_iload 2 (i_callV 0 2 mX0_minutesBetween i_ireturn))))))) fX0_minutesFromStation_18)))))))))
def mX0_minutesFromStation : List Value → AH → Option Ou := runF 3 fX0_minutesFromStation_0
def fX0_allEngines_0 : Fn := (i_push (.int (1)) (i_aload 0 (i_getI 0 5 (i_bin (fun x y => x <<< (y &&& 31)) (i_push (.int (1)) (i_bin (fun x y => x - y) i_ireturn))))))
def mX0_allEngines : List Value → AH → Option Ou := runF 1 fX0_allEngines_0
def fX0_slotsFor_13 : Fn := (i_push (.int (1000000)) i_ireturn)
def fX0_slotsFor_0 : Fn := (i_iload 1 (i_push (.int (1000000)) (i_icge fX0_slotsFor_13 (i_aload 0 (i_getI 0 6 (i_ifgt (i_iload 1 (i_aload 0 (i_getI 0 6 (i_bin (fun x y => x + y) (i_push (.int (1)) (i_bin (fun x y => x - y) (i_aload 0 (i_getI 0 6 (i_div (fun x y => x / y) i_ireturn))))))))) fX0_slotsFor_13))))))
def mX0_slotsFor : List Value → AH → Option Ou := runF 2 fX0_slotsFor_0
def fX0_putWay_32 : Fn := i_return
def fX0_putWay_0 : Fn := (i_iload 1 (i_iflt fX0_putWay_32 (i_iload 1 (i_push (.int (12)) (i_icge fX0_putWay_32 (i_iload 2 (i_iflt fX0_putWay_32 (i_iload 2 (i_push (.int (12)) (i_icge fX0_putWay_32 (i_aload 0 (i_getR 0 13 (i_iload 1 (i_push (.int (12)) (i_bin (fun x y => x * y) (i_iload 2 (i_bin (fun x y => x + y) (i_iload 3 (i_iastore fX0_putWay_32)))))))))))))))))))
def mX0_putWay : List Value → AH → Option Ou := runF 4 fX0_putWay_0
def fX0_shortenWaysOver_61 (k2 : Fn) (k20 : Fn) : Fn := (i_iinc 4 (1) k20)
def fX0_shortenWaysOver_20 (k2 : Fn) : Nat → Fn
  | 0 => fun _ _ _ => none
  | n + 1 => let k20 := fX0_shortenWaysOver_20 k2 n; (i_iload 4 (i_aload 0 (i_getI 0 2 (i_icge (i_iinc 2 (1) k2) (i_iload 3 (i_aload 0 (i_iload 1 (i_iload 4 (i_callV 0 2 mX0_minutesBetween (i_bin (fun x y => x + y) (i_istore 5 (i_iload 5 (i_aload 0 (i_iload 2 (i_iload 4 (i_callV 0 2 mX0_minutesBetween (i_icge (fX0_shortenWaysOver_61 k2 k20) (i_aload 0 (i_iload 2 (i_iload 4 (i_iload 5 (i_callV 0 3 mX0_putWay (fX0_shortenWaysOver_61 k2 k20)))))))))))))))))))))))
def fX0_shortenWaysOver_2 : Nat → Fn
  | 0 => fun _ _ _ => none
  | n + 1 => let k2 := fX0_shortenWaysOver_2 n; (i_iload 2 (i_aload 0 (i_getI 0 2 (i_icge i_return (i_aload 0 (i_iload 2 (i_iload 1 (i_callV 0 2 mX0_minutesBetween (i_istore 3 (i_push (.int (0)) (i_istore 4 (fX0_shortenWaysOver_20 k2 fuelN))))))))))))
def fX0_shortenWaysOver_0 : Fn := (i_push (.int (0)) (i_istore 2 (fX0_shortenWaysOver_2 fuelN)))
def mX0_shortenWaysOver : List Value → AH → Option Ou := runF 6 fX0_shortenWaysOver_0
def fX1_init_0 : Fn := (i_aload 0 (i_objInit (i_aload 0 (i_aload 1 (i_putR 1 2 (i_aload 0 (i_aload 2 (i_putR 1 3 i_return))))))))
def mX1_init : List Value → AH → Option Ou := runF 3 fX1_init_0
def fX1_statementsOf_125 : Fn := i_ireturn
def fX1_statementsOf_124 : Fn := (i_push (.int (0)) fX1_statementsOf_125)
def fX1_statementsOf_120 : Fn := (i_push (.int (1)) fX1_statementsOf_125)
def fX1_statementsOf_110 : Fn := fX1_statementsOf_120
def fX1_statementsOf_0 : Fn := (i_aload 1 (i_push (.ref 1001) (i_acne (i_aload 1 (i_push (.ref 1002) (i_acne (i_aload 1 (i_push (.ref 1003) (i_acne (i_aload 1 (i_push (.ref 1004) (i_acne (i_aload 1 (i_push (.ref 1005) (i_acne (i_aload 1 (i_push (.ref 1007) (i_acne (i_aload 1 (i_push (.ref 1000) (i_acne (i_aload 0 (i_getI 1 6 (i_ifeq fX1_statementsOf_124 fX1_statementsOf_120))) (i_aload 0 (i_getI 1 5 (i_ifeq fX1_statementsOf_124 fX1_statementsOf_110)))))) (i_aload 0 (i_getR 1 3 (i_getR 0 1 (i_getI 3 0 i_ireturn))))))) (i_aload 0 (i_getR 1 3 (i_getR 0 0 (i_getI 7 0 i_ireturn))))))) (i_aload 0 (i_getR 1 3 (i_getI 0 5 i_ireturn)))))) (i_aload 0 (i_getR 1 3 (i_getI 0 4 i_ireturn)))))) (i_aload 0 (i_getR 1 3 (i_getI 0 3 i_ireturn)))))) (i_aload 0 (i_getR 1 3 (i_getI 0 2 i_ireturn))))))
def mX1_statementsOf : List Value → AH → Option Ou := runF 2 fX1_statementsOf_0
def fX1_kindOfWord_30 : Fn := i_ireturn
def fX1_kindOfWord_0 : Fn := (i_aload 0 (i_push (.ref 1017) (i_acne (i_aload 0 (i_push (.ref 1018) (i_acne (i_aload 0 (i_push (.ref 1019) (i_acne (i_push (.int (-1)) fX1_kindOfWord_30) (i_push (.int (2)) fX1_kindOfWord_30)))) (i_push (.int (1)) i_ireturn)))) (i_push (.int (0)) i_ireturn))))
def mX1_kindOfWord : List Value → AH → Option Ou := runF 1 fX1_kindOfWord_0
def fX1_fail_0 : Fn := (i_aload 0 (i_iload 1 (i_putI 1 0 (i_aload 0 (i_iload 2 (i_putI 1 1 (i_push (.int (0)) i_zreturn)))))))
def mX1_fail : List Value → AH → Option Ou := runF 3 fX1_fail_0
def fX2_init_0 : Fn := (i_aload 0 (i_objInit (i_aload 0 (i_push (.int (1024)) (i_newarr 1 1024 (i_putR 2 1 (i_aload 0 (i_push (.int (18)) (i_newarr 1 18 (i_putR 2 2 (i_aload 0 (i_push (.int (10)) (i_newarr 1 10 (i_putR 2 3 (i_aload 0 (i_push (.int (6)) (i_newarr 1 6 (i_putR 2 4 (i_aload 0 (i_aload 1 (i_putR 2 0 i_return)))))))))))))))))))))
def mX2_init : List Value → AH → Option Ou := runF 2 fX2_init_0
def fX2_streetsCoveredBy_20 : Fn := (i_push (.int (0)) i_ireturn)
def fX2_streetsCoveredBy_64 : Fn := i_ireturn
def fX2_streetsCoveredBy_63 : Fn := (i_push (.int (0)) fX2_streetsCoveredBy_64)
def fX2_streetsCoveredBy_41 : Fn := (i_iload 2 (i_iflt fX2_streetsCoveredBy_63 (i_iload 2 (i_aload 0 (i_getR 2 2 (i_alen (i_icge fX2_streetsCoveredBy_63 (i_aload 0 (i_getR 2 2 (i_iload 2 (i_iaload fX2_streetsCoveredBy_64)))))))))))
def fX2_streetsCoveredBy_0 : Fn := (i_iload 1 (i_iflt fX2_streetsCoveredBy_20 (i_iload 1 (i_push (.int (10)) (i_icge fX2_streetsCoveredBy_20 (i_aload 0 (i_getR 2 3 (i_iload 1 (i_iaload (i_push (.int (-1)) (i_icne (i_aload 0 (i_getR 2 3 (i_iload 1 (i_iaload (i_push (.int (3)) (i_bin (fun x y => x * y) (i_aload 0 (i_getR 2 0 (i_getR 0 15 (i_iload 1 (i_iaload (i_bin (fun x y => x + y) (i_istore 2 fX2_streetsCoveredBy_41))))))))))))) fX2_streetsCoveredBy_20)))))))))))
def mX2_streetsCoveredBy : List Value → AH → Option Ou := runF 3 fX2_streetsCoveredBy_0
def fX2_donorFor_61 (k10 : Fn) : Fn := (i_iinc 3 (1) k10)
def fX2_donorFor_33 (k10 : Fn) : Fn := (i_istore 4 (i_iload 4 (i_iflt (fX2_donorFor_61 k10) (i_iload 4 (i_push (.int (6)) (i_icge (fX2_donorFor_61 k10) (i_aload 0 (i_getR 2 4 (i_iload 4 (i_iaload (i_push (.int (2)) (i_iclt (fX2_donorFor_61 k10) (i_iload 4 i_ireturn)))))))))))))
def fX2_donorFor_10 : Nat → Fn
  | 0 => fun _ _ _ => none
  | n + 1 => let k10 := fX2_donorFor_10 n; (i_iload 3 (i_iload 2 (i_icge (i_push (.int (-1)) i_ireturn) (i_iload 1 (i_iload 3 (i_bin (fun x y => x + y) (i_iload 2 (i_icge (i_iload 1 (i_iload 3 (i_bin (fun x y => x + y) (i_iload 2 (i_bin (fun x y => x - y) (fX2_donorFor_33 k10)))))) (i_iload 1 (i_iload 3 (i_bin (fun x y => x + y) (fX2_donorFor_33 k10))))))))))))
def fX2_donorFor_0 : Fn := (i_aload 0 (i_getR 2 0 (i_getI 0 4 (i_istore 2 (i_push (.int (1)) (i_istore 3 (fX2_donorFor_10 fuelN)))))))
def mX2_donorFor : List Value → AH → Option Ou := runF 5 fX2_donorFor_0
def fX2_sendLastEngine_3 : Nat → Fn
  | 0 => fun _ _ _ => none
  | n + 1 => let k3 := fX2_sendLastEngine_3 n; (i_iload 3 (i_iflt i_return (i_aload 0 (i_getR 2 3 (i_iload 3 (i_iaload (i_iload 1 (i_icne (i_iinc 3 (-1) k3) (i_aload 0 (i_getR 2 3 (i_iload 3 (i_iload 2 (i_iastore i_return)))))))))))))
def fX2_sendLastEngine_0 : Fn := (i_push (.int (9)) (i_istore 3 (fX2_sendLastEngine_3 fuelN)))
def mX2_sendLastEngine : List Value → AH → Option Ou := runF 4 fX2_sendLastEngine_0
def fX3_init_42 : Fn := (i_newarr 1 15 (i_putR 3 6 (i_aload 0 (i_push (.int (50)) (i_newarr 1 50 (i_putR 3 7 (i_aload 0 (i_push (.int (50)) (i_newarr 1 50 (i_putR 3 8 (i_aload 0 (i_push (.int (5)) (i_newarr 1 5 (i_putR 3 9 i_return))))))))))))))
def fX3_init_0 : Fn := (i_aload 0 (i_objInit (i_aload 0 (i_push (.int (5)) (i_newarr 1 5 (i_putR 3 1 (i_aload 0 (i_push (.int (5)) (i_newarr 1 5 (i_putR 3 2 (i_aload 0 (i_push (.int (5)) (i_newarr 1 5 (i_putR 3 3 (i_aload 0 (i_push (.int (5)) (i_newarr 1 5 (i_putR 3 4 (i_aload 0 (i_push (.int (5)) (i_newarr 1 5 (i_putR 3 5 (i_aload 0 (i_push (.int (15)) fX3_init_42))))))))))))))))))))))))
def mX3_init : List Value → AH → Option Ou := runF 1 fX3_init_0
def fX4_init_0 : Fn := (i_aload 0 (i_objInit (i_aload 0 (i_push (.int (40)) (i_newarr 1 40 (i_putR 4 1 i_return))))))
def mX4_init : List Value → AH → Option Ou := runF 1 fX4_init_0
def fX5_init_0 : Fn := (i_aload 0 (i_objInit (i_aload 0 (i_push (.int (48)) (i_newarr 1 48 (i_putR 5 0 (i_aload 0 (i_push (.int (48)) (i_newarr 1 48 (i_putR 5 1 (i_aload 0 (i_push (.int (48)) (i_newarr 1 48 (i_putR 5 2 (i_aload 0 (i_push (.int (48)) (i_newarr 1 48 (i_putR 5 8 (i_aload 0 (i_push (.int (48)) (i_newarr 1 48 (i_putR 5 9 i_return))))))))))))))))))))))
def mX5_init : List Value → AH → Option Ou := runF 1 fX5_init_0
def fX6_init_0 : Fn := (i_aload 0 (i_objInit (i_aload 0 (i_aload 1 (i_putR 6 2 i_return)))))
def mX6_init : List Value → AH → Option Ou := runF 2 fX6_init_0
def fX7_init_0 : Fn := (i_aload 0 (i_objInit (i_aload 0 (i_push (.int (12)) (i_newarr 1 12 (i_putR 7 1 (i_aload 0 (i_push (.int (12)) (i_newarr 1 12 (i_putR 7 2 (i_aload 0 (i_push (.int (12)) (i_newarr 1 12 (i_putR 7 3 i_return))))))))))))))
def mX7_init : List Value → AH → Option Ou := runF 1 fX7_init_0
def fX8_init_88 : Fn := (i_putR 8 9 i_return)
def fX8_init_44 : Fn := (i_push (.int (5)) (i_newarr 1 5 (i_putR 8 5 (i_aload 0 (i_push (.int (5)) (i_newarr 1 5 (i_putR 8 6 (i_aload 0 (i_push (.int (48)) (i_newarr 1 48 (i_putR 8 7 (i_aload 0 (i_push (.int (53)) (i_newarr 1 53 (i_putR 8 10 (i_aload 0 (i_push (.int (48)) (i_newarr 1 48 (i_putR 8 11 (i_aload 0 (i_aload 1 (i_putR 8 12 (i_aload 0 (i_aload 2 fX8_init_88))))))))))))))))))))))))
def fX8_init_0 : Fn := (i_aload 0 (i_objInit (i_aload 0 (i_new 5 (i_dup (i_callI 0 mX5_init (i_putR 8 0 (i_aload 0 (i_push (.int (5)) (i_newarr 1 5 (i_putR 8 1 (i_aload 0 (i_push (.int (5)) (i_newarr 1 5 (i_putR 8 2 (i_aload 0 (i_push (.int (5)) (i_newarr 1 5 (i_putR 8 3 (i_aload 0 (i_push (.int (5)) (i_newarr 1 5 (i_putR 8 4 (i_aload 0 fX8_init_44))))))))))))))))))))))))
def mX8_init : List Value → AH → Option Ou := runF 3 fX8_init_0
def fX8_equip_0 : Fn := (i_aload 0 (i_iload 1 (i_putI 8 13 (i_aload 0 (i_iload 2 (i_putI 8 14 (i_aload 0 (i_iload 3 (i_putI 8 15 i_return)))))))))
def mX8_equip : List Value → AH → Option Ou := runF 4 fX8_equip_0
def fX8_copyStarts_0 : Fn := (i_aload 1 (i_getR 8 1 (i_push (.int (0)) (i_aload 0 (i_getR 8 1 (i_push (.int (0)) (i_push (.int (5)) (i_acopy i_return))))))))
def mX8_copyStarts : List Value → AH → Option Ou := runF 2 fX8_copyStarts_0
def fX8_greatestEnd_4 : Nat → Fn
  | 0 => fun _ _ _ => none
  | n + 1 => let k4 := fX8_greatestEnd_4 n; (i_iload 2 (i_push (.int (5)) (i_icge (i_iload 1 i_ireturn) (i_iload 1 (i_aload 0 (i_getR 8 5 (i_iload 2 (i_iaload (i_max (i_istore 1 (i_iinc 2 (1) k4)))))))))))
def fX8_greatestEnd_0 : Fn := (i_push (.int (0)) (i_istore 1 (i_push (.int (0)) (i_istore 2 (fX8_greatestEnd_4 fuelN)))))
def mX8_greatestEnd : List Value → AH → Option Ou := runF 3 fX8_greatestEnd_0
def fX8_firstOf_22 : Fn := (i_iload 1 i_ireturn)
def fX8_firstOf_2 : Nat → Fn
  | 0 => fun _ _ _ => none
  | n + 1 => let k2 := fX8_firstOf_2 n; (i_iload 1 (i_push (.int (12)) (i_icge fX8_firstOf_22 (i_iload 0 (i_iload 1 (i_bin (fun x y => x >>> (y &&& 31)) (i_push (.int (1)) (i_bin (fun x y => x &&& y) (i_ifne fX8_firstOf_22 (i_iinc 1 (1) k2))))))))))
def fX8_firstOf_0 : Fn := (i_push (.int (0)) (i_istore 1 (fX8_firstOf_2 fuelN)))
def mX8_firstOf : List Value → AH → Option Ou := runF 2 fX8_firstOf_0
def fX10_init_0 : Fn := (i_aload 0 (i_objInit (i_aload 0 (i_push (.int (1001)) (i_newarr 4 1001 (i_putR 9 0 (i_aload 0 (i_push (.int (1001)) (i_newarr 1 1001 (i_putR 9 1 (i_aload 0 (i_push (.int (1001)) (i_newarr 1 1001 (i_putR 9 2 i_return))))))))))))))
def mX10_init : List Value → AH → Option Ou := runF 1 fX10_init_0
def fX10_sortAt_30 : Fn := (i_push (.ref 1024) i_areturn)
def fX10_sortAt_0 : Fn := (i_iload 1 (i_iflt fX10_sortAt_30 (i_iload 1 (i_aload 0 (i_getI 9 3 (i_icge fX10_sortAt_30 (i_iload 1 (i_aload 0 (i_getR 9 0 (i_alen (i_icge fX10_sortAt_30 (i_aload 0 (i_getR 9 0 (i_iload 1 (i_aaload (i_ifnn (i_aload 0 (i_getR 9 0 (i_iload 1 (i_aaload i_areturn)))) fX10_sortAt_30))))))))))))))))
def mX10_sortAt : List Value → AH → Option Ou := runF 2 fX10_sortAt_0
def fX10_add_57 : Fn := i_return
def fX10_add_46 : Fn := (i_iastore (i_aload 0 (i_dup (i_getI 9 3 (i_push (.int (1)) (i_bin (fun x y => x + y) (i_putI 9 3 fX10_add_57)))))))
def fX10_add_0 : Fn := (i_aload 0 (i_getI 9 3 (i_iflt fX10_add_57 (i_aload 0 (i_getI 9 3 (i_push (.int (1001)) (i_icge fX10_add_57 (i_aload 0 (i_getR 9 0 (i_aload 0 (i_getI 9 3 (i_aload 1 (i_aastore (i_aload 0 (i_getR 9 1 (i_aload 0 (i_getI 9 3 (i_iload 2 (i_iastore (i_aload 0 (i_getR 9 2 (i_aload 0 (i_getI 9 3 (i_iload 3 fX10_add_46))))))))))))))))))))))))
def mX10_add : List Value → AH → Option Ou := runF 4 fX10_add_0
def fX10_isLetter_17 : Fn := i_zreturn
def fX10_isLetter_16 : Fn := (i_push (.int (0)) fX10_isLetter_17)
def fX10_isLetter_0 : Fn := (i_iload 0 (i_push (.int (97)) (i_iclt fX10_isLetter_16 (i_iload 0 (i_push (.int (122)) (i_icgt fX10_isLetter_16 (i_push (.int (1)) fX10_isLetter_17)))))))
def mX10_isLetter : List Value → AH → Option Ou := runF 1 fX10_isLetter_0
def fX10_isDigit_17 : Fn := i_zreturn
def fX10_isDigit_16 : Fn := (i_push (.int (0)) fX10_isDigit_17)
def fX10_isDigit_0 : Fn := (i_iload 0 (i_push (.int (48)) (i_iclt fX10_isDigit_16 (i_iload 0 (i_push (.int (57)) (i_icgt fX10_isDigit_16 (i_push (.int (1)) fX10_isDigit_17)))))))
def mX10_isDigit : List Value → AH → Option Ou := runF 1 fX10_isDigit_0
def fX10_isSameRun_33 : Fn := i_zreturn
def fX10_isSameRun_32 : Fn := (i_push (.int (0)) fX10_isSameRun_33)
def fX10_isSameRun_28 : Fn := (i_push (.int (1)) fX10_isSameRun_33)
def fX10_isSameRun_14 : Fn := (i_iload 0 (i_callS 1 mX10_isDigit (i_ifeq fX10_isSameRun_32 (i_iload 1 (i_callS 1 mX10_isDigit (i_ifeq fX10_isSameRun_32 fX10_isSameRun_28))))))
def fX10_isSameRun_0 : Fn := (i_iload 0 (i_callS 1 mX10_isLetter (i_ifeq fX10_isSameRun_14 (i_iload 1 (i_callS 1 mX10_isLetter (i_ifne fX10_isSameRun_28 fX10_isSameRun_14))))))
def mX10_isSameRun : List Value → AH → Option Ou := runF 2 fX10_isSameRun_0
def fX10_valueOf_77 : Fn := (i_iload 3 i_ireturn)
def fX10_valueOf_70 (k9 : Fn) : Fn := (i_istore 3 (i_iinc 4 (1) k9))
def fX10_valueOf_65 (k9 : Fn) : Fn := (i_push (.int (97)) (i_bin (fun x y => x - y) (i_push (.int (1)) (i_bin (fun x y => x + y) (fX10_valueOf_70 k9)))))
def fX10_valueOf_50 (k9 : Fn) : Fn := (i_push (.int (48)) (i_bin (fun x y => x - y) (fX10_valueOf_70 k9)))
def fX10_valueOf_9 : Nat → Fn
  | 0 => fun _ _ _ => none
  | n + 1 => let k9 := fX10_valueOf_9 n; (i_iload 4 (i_iload 2 (i_icge fX10_valueOf_77 (i_iload 4 (i_aload 0 (i_alen (i_icge fX10_valueOf_77 (i_iload 4 (i_iload 1 (i_push (.int (6)) (i_bin (fun x y => x + y) (i_icge fX10_valueOf_77 (i_aload 0 (i_iload 4 (i_baload (i_callS 1 mX10_isDigit (i_ifeq (i_iload 3 (i_push (.int (27)) (i_bin (fun x y => x * y) (i_aload 0 (i_iload 4 (i_baload (i_bin (fun x y => x + y) (fX10_valueOf_65 k9)))))))) (i_iload 3 (i_push (.int (10)) (i_bin (fun x y => x * y) (i_aload 0 (i_iload 4 (i_baload (i_bin (fun x y => x + y) (fX10_valueOf_50 k9)))))))))))))))))))))))))
def fX10_valueOf_0 : Fn := (i_push (.int (0)) (i_istore 3 (i_iload 1 (i_push (.int (0)) (i_max (i_istore 4 (fX10_valueOf_9 fuelN)))))))
def mX10_valueOf : List Value → AH → Option Ou := runF 5 fX10_valueOf_0
def fX11_truncateInput_12 : Fn := (i_push (.int (0)) i_zreturn)
def fX11_truncateInput_0 : Fn := (i_iload 1 (i_iflt fX11_truncateInput_12 (i_iload 1 (i_aload 0 (i_getI 10 10 (i_icle (i_aload 0 (i_iload 1 (i_putI 10 10 (i_push (.int (1)) i_zreturn)))) fX11_truncateInput_12))))))
def mX11_truncateInput : List Value → AH → Option Ou := runF 2 fX11_truncateInput_0
def fX11_errorCode_0 : Fn := (i_aload 0 (i_getI 10 11 i_ireturn))
def mX11_errorCode : List Value → AH → Option Ou := runF 1 fX11_errorCode_0
def fX11_errorOffset_0 : Fn := (i_aload 0 (i_getI 10 12 i_ireturn))
def mX11_errorOffset : List Value → AH → Option Ou := runF 1 fX11_errorOffset_0
def fX11_nodes_0 : Fn := (i_aload 0 (i_getR 10 8 (i_getI 0 2 i_ireturn)))
def mX11_nodes : List Value → AH → Option Ou := runF 1 fX11_nodes_0
def fX11_stations_0 : Fn := (i_aload 0 (i_getR 10 8 (i_getI 0 4 i_ireturn)))
def mX11_stations : List Value → AH → Option Ou := runF 1 fX11_stations_0
def fX11_engines_0 : Fn := (i_aload 0 (i_getR 10 8 (i_getI 0 5 i_ireturn)))
def mX11_engines : List Value → AH → Option Ou := runF 1 fX11_engines_0
def fX11_streets_0 : Fn := (i_aload 0 (i_getR 10 8 (i_getR 0 0 (i_getI 7 0 i_ireturn))))
def mX11_streets : List Value → AH → Option Ou := runF 1 fX11_streets_0
def fX11_drills_0 : Fn := (i_aload 0 (i_getR 10 8 (i_getR 0 1 (i_getI 3 0 i_ireturn))))
def mX11_drills : List Value → AH → Option Ou := runF 1 fX11_drills_0
def fX11_violations_0 : Fn := (i_aload 0 (i_getR 10 5 (i_getI 8 8 i_ireturn)))
def mX11_violations : List Value → AH → Option Ou := runF 1 fX11_violations_0
def fX11_finish_0 : Fn := (i_aload 0 (i_getR 10 5 (i_callV 8 0 mX8_greatestEnd i_ireturn)))
def mX11_finish : List Value → AH → Option Ou := runF 1 fX11_finish_0
def fX11_appendFourBytes_49 (k3 : Fn) : Fn := (i_iinc 2 (-8) k3)
def fX11_appendFourBytes_45 (k3 : Fn) : Fn := (i_bin (fun x y => x + y) (i_putI 10 10 (fX11_appendFourBytes_49 k3)))
def fX11_appendFourBytes_3 : Nat → Fn
  | 0 => fun _ _ _ => none
  | n + 1 => let k3 := fX11_appendFourBytes_3 n; (i_iload 2 (i_iflt i_return (i_aload 0 (i_getI 10 10 (i_iflt (fX11_appendFourBytes_49 k3) (i_aload 0 (i_getI 10 10 (i_aload 0 (i_getR 10 0 (i_alen (i_icge (fX11_appendFourBytes_49 k3) (i_aload 0 (i_getR 10 0 (i_aload 0 (i_getI 10 10 (i_iload 1 (i_iload 2 (i_bin (fun x y => x >>> (y &&& 31)) (i_i2b (i_bastore (i_aload 0 (i_dup (i_getI 10 10 (i_push (.int (1)) (fX11_appendFourBytes_45 k3)))))))))))))))))))))))))
def fX11_appendFourBytes_0 : Fn := (i_push (.int (24)) (i_istore 2 (fX11_appendFourBytes_3 fuelN)))
def mX11_appendFourBytes : List Value → AH → Option Ou := runF 3 fX11_appendFourBytes_0
def fX11_checkOrder_51 : Fn := (i_throw 1)
def fX11_checkOrder_84 (k19 : Fn) : Fn := (i_iload 4 (i_bin (fun x y => x <<< (y &&& 31)) (i_bin (fun x y => x ||| y) (i_istore 2 (i_iload 3 (i_push (.int (10)) (i_div (fun x y => x / y) (i_istore 3 k19))))))))
def fX11_checkOrder_19 : Nat → Fn
  | 0 => fun _ _ _ => none
  | n + 1 => let k19 := fX11_checkOrder_19 n; (i_iload 3 (i_ifle i_return (i_iload 3 (i_push (.int (10)) (i_div (fun x y => x - x / y * y) (i_push (.int (1)) (i_bin (fun x y => x - y) (i_istore 4 (i_iload 4 (i_iflt fX11_checkOrder_51 (i_iload 4 (i_aload 0 (i_getR 10 8 (i_getR 0 1 (i_getI 3 0 (i_iclt (i_iload 2 (i_iload 4 (i_bin (fun x y => x >>> (y &&& 31)) (i_push (.int (1)) (i_bin (fun x y => x &&& y) (i_ifeq (i_iload 2 (i_push (.int (1)) (fX11_checkOrder_84 k19))) (i_throw 1))))))) fX11_checkOrder_51))))))))))))))))
def fX11_checkOrder_0 : Fn := (i_iload 1 (i_ifge (i_push (.int (0)) (i_istore 2 (i_iload 1 (i_istore 3 (fX11_checkOrder_19 fuelN))))) (i_throw 1)))
def mX11_checkOrder : List Value → AH → Option Ou := runF 5 fX11_checkOrder_0
def fX11_checkEngineSet_0 : Fn := (i_iload 1 (i_aload 0 (i_getR 10 8 (i_callV 0 0 mX0_allEngines (i_push (.int (-1)) (i_bin (fun x y => x ^^^ y) (i_bin (fun x y => x &&& y) (i_ifeq i_return (i_throw 1)))))))))
def mX11_checkEngineSet : List Value → AH → Option Ou := runF 2 fX11_checkEngineSet_0
def fX11_checkRange_10 : Fn := (i_throw 1)
def fX11_checkRange_0 : Fn := (i_iload 0 (i_iload 1 (i_iclt fX11_checkRange_10 (i_iload 0 (i_iload 2 (i_icle i_return fX11_checkRange_10))))))
def mX11_checkRange : List Value → AH → Option Ou := runF 3 fX11_checkRange_0
def fX11_checkIndex_9 : Fn := (i_throw 0)
def fX11_checkIndex_0 : Fn := (i_iload 0 (i_iflt fX11_checkIndex_9 (i_iload 0 (i_iload 1 (i_iclt i_return fX11_checkIndex_9)))))
def mX11_checkIndex : List Value → AH → Option Ou := runF 2 fX11_checkIndex_0
def fX11_minusOneIfNoWay_11 : Fn := i_ireturn
def fX11_minusOneIfNoWay_0 : Fn := (i_iload 0 (i_push (.int (1000000)) (i_iclt (i_iload 0 fX11_minusOneIfNoWay_11) (i_push (.int (-1)) fX11_minusOneIfNoWay_11))))
def mX11_minusOneIfNoWay : List Value → AH → Option Ou := runF 1 fX11_minusOneIfNoWay_0
def fX11_cell_17 : Fn := i_ireturn
def fX11_cell_16 : Fn := (i_push (.int (0)) fX11_cell_17)
def fX11_cell_0 : Fn := (i_iload 1 (i_iflt fX11_cell_16 (i_iload 1 (i_aload 0 (i_alen (i_icge fX11_cell_16 (i_aload 0 (i_iload 1 (i_iaload fX11_cell_17)))))))))
def mX11_cell : List Value → AH → Option Ou := runF 2 fX11_cell_0
def fX11_put_14 : Fn := i_return
def fX11_put_0 : Fn := (i_iload 1 (i_iflt fX11_put_14 (i_iload 1 (i_aload 0 (i_alen (i_icge fX11_put_14 (i_aload 0 (i_iload 1 (i_iload 2 (i_iastore fX11_put_14))))))))))
def mX11_put : List Value → AH → Option Ou := runF 3 fX11_put_0
def fX12_thrown_0 : Fn := (i_aload 0 (i_getI 11 0 i_ireturn))
def mX12_thrown : List Value → AH → Option Ou := runF 1 fX12_thrown_0
def fX12_inRange_15 : Fn := i_zreturn
def fX12_inRange_14 : Fn := (i_push (.int (0)) fX12_inRange_15)
def fX12_inRange_0 : Fn := (i_iload 0 (i_iload 1 (i_iclt fX12_inRange_14 (i_iload 0 (i_iload 2 (i_icgt fX12_inRange_14 (i_push (.int (1)) fX12_inRange_15)))))))
def mX12_inRange : List Value → AH → Option Ou := runF 3 fX12_inRange_0
def fX12_has_14 : Fn := i_zreturn
def fX12_has_0 : Fn := (i_iload 0 (i_iload 1 (i_bin (fun x y => x >>> (y &&& 31)) (i_push (.int (1)) (i_bin (fun x y => x &&& y) (i_push (.int (1)) (i_icne (i_push (.int (0)) fX12_has_14) (i_push (.int (1)) fX12_has_14))))))))
def mX12_has : List Value → AH → Option Ou := runF 2 fX12_has_0
def fX12_oneIf_9 : Fn := i_ireturn
def fX12_oneIf_0 : Fn := (i_iload 0 (i_ifeq (i_push (.int (0)) fX12_oneIf_9) (i_push (.int (1)) fX12_oneIf_9)))
def mX12_oneIf : List Value → AH → Option Ou := runF 1 fX12_oneIf_0
def fX12_sizeOf_4 : Nat → Fn
  | 0 => fun _ _ _ => none
  | n + 1 => let k4 := fX12_sizeOf_4 n; (i_iload 2 (i_push (.int (12)) (i_icge (i_iload 1 i_ireturn) (i_iload 1 (i_iload 0 (i_iload 2 (i_bin (fun x y => x >>> (y &&& 31)) (i_push (.int (1)) (i_bin (fun x y => x &&& y) (i_bin (fun x y => x + y) (i_istore 1 (i_iinc 2 (1) k4))))))))))))
def fX12_sizeOf_0 : Fn := (i_push (.int (0)) (i_istore 1 (i_push (.int (0)) (i_istore 2 (fX12_sizeOf_4 fuelN)))))
def mX12_sizeOf : List Value → AH → Option Ou := runF 3 fX12_sizeOf_0
def fX12_fails_9 : Fn := (i_iload 1 i_zreturn)
def fX12_fails_0 : Fn := (i_iload 1 (i_ifeq fX12_fails_9 (i_aload 0 (i_iload 2 (i_putI 11 0 fX12_fails_9)))))
def mX12_fails : List Value → AH → Option Ou := runF 3 fX12_fails_0
def fX12_clear_41 : Fn := (i_aload 0 (i_push (.int (1)) (i_putI 11 9 (i_aload 0 (i_push (.int (1)) (i_putI 11 10 i_return))))))
def fX12_clear_0 : Fn := (i_aload 0 (i_push (.int (30)) (i_putI 11 1 (i_aload 0 (i_push (.int (0)) (i_putI 11 2 (i_aload 0 (i_push (.int (0)) (i_putI 11 3 (i_aload 0 (i_push (.int (0)) (i_putI 11 4 (i_aload 0 (i_push (.int (0)) (i_putI 11 5 (i_aload 0 (i_push (.int (0)) (i_putI 11 6 (i_aload 0 (i_push (.int (0)) (i_putI 11 7 (i_aload 0 (i_push (.int (0)) (i_putI 11 8 fX12_clear_41))))))))))))))))))))))))
def mX12_clear : List Value → AH → Option Ou := runF 1 fX12_clear_0
def fX12_keepRow_42 (k3 : Fn) : Fn := (i_aload 0 (i_dup (i_getI 11 33 (i_push (.int (1)) (i_bin (fun x y => x + y) (i_putI 11 33 (i_iinc 4 (1) k3)))))))
def fX12_keepRow_3 : Nat → Fn
  | 0 => fun _ _ _ => none
  | n + 1 => let k3 := fX12_keepRow_3 n; (i_iload 4 (i_iload 2 (i_icge i_return (i_iload 3 (i_ifeq (i_aload 0 (i_getR 11 31 (i_aload 0 (i_getI 11 33 (i_aload 1 (i_iload 4 (i_iaload (i_iastore (fX12_keepRow_42 k3))))))))) (i_aload 1 (i_iload 4 (i_aload 0 (i_getR 11 31 (i_aload 0 (i_getI 11 33 (i_iaload (i_iastore (fX12_keepRow_42 k3))))))))))))))
def fX12_keepRow_0 : Fn := (i_push (.int (0)) (i_istore 4 (fX12_keepRow_3 fuelN)))
def mX12_keepRow : List Value → AH → Option Ou := runF 5 fX12_keepRow_0
def fX12_keepNames_42 (k3 : Fn) : Fn := (i_aload 0 (i_dup (i_getI 11 34 (i_push (.int (1)) (i_bin (fun x y => x + y) (i_putI 11 34 (i_iinc 4 (1) k3)))))))
def fX12_keepNames_3 : Nat → Fn
  | 0 => fun _ _ _ => none
  | n + 1 => let k3 := fX12_keepNames_3 n; (i_iload 4 (i_iload 2 (i_icge i_return (i_iload 3 (i_ifeq (i_aload 0 (i_getR 11 32 (i_aload 0 (i_getI 11 34 (i_aload 1 (i_iload 4 (i_laload (i_lastore (fX12_keepNames_42 k3))))))))) (i_aload 1 (i_iload 4 (i_aload 0 (i_getR 11 32 (i_aload 0 (i_getI 11 34 (i_laload (i_lastore (fX12_keepNames_42 k3))))))))))))))
def fX12_keepNames_0 : Fn := (i_push (.int (0)) (i_istore 4 (fX12_keepNames_3 fuelN)))
def mX12_keepNames : List Value → AH → Option Ou := runF 5 fX12_keepNames_0
def fX12_layHead_82 : Fn := (i_aload 0 (i_getR 11 35 (i_push (.int (8)) (i_aload 0 (i_getI 11 9 (i_iastore (i_aload 0 (i_getR 11 35 (i_push (.int (9)) (i_aload 0 (i_getI 11 10 (i_iastore i_return))))))))))))
def fX12_layHead_40 : Fn := (i_aload 0 (i_getR 11 35 (i_push (.int (4)) (i_aload 0 (i_getI 11 5 (i_iastore (i_aload 0 (i_getR 11 35 (i_push (.int (5)) (i_aload 0 (i_getI 11 6 (i_iastore (i_aload 0 (i_getR 11 35 (i_push (.int (6)) (i_aload 0 (i_getI 11 7 (i_iastore (i_aload 0 (i_getR 11 35 (i_push (.int (7)) (i_aload 0 (i_getI 11 8 (i_iastore fX12_layHead_82))))))))))))))))))))))))
def fX12_layHead_0 : Fn := (i_aload 0 (i_getR 11 35 (i_push (.int (0)) (i_aload 0 (i_getI 11 1 (i_iastore (i_aload 0 (i_getR 11 35 (i_push (.int (1)) (i_aload 0 (i_getI 11 2 (i_iastore (i_aload 0 (i_getR 11 35 (i_push (.int (2)) (i_aload 0 (i_getI 11 3 (i_iastore (i_aload 0 (i_getR 11 35 (i_push (.int (3)) (i_aload 0 (i_getI 11 4 (i_iastore fX12_layHead_40))))))))))))))))))))))))
def mX12_layHead : List Value → AH → Option Ou := runF 1 fX12_layHead_0
def fX12_takeHead_82 : Fn := (i_aload 0 (i_aload 0 (i_getR 11 35 (i_push (.int (8)) (i_iaload (i_putI 11 9 (i_aload 0 (i_aload 0 (i_getR 11 35 (i_push (.int (9)) (i_iaload (i_putI 11 10 i_return))))))))))))
def fX12_takeHead_40 : Fn := (i_aload 0 (i_aload 0 (i_getR 11 35 (i_push (.int (4)) (i_iaload (i_putI 11 5 (i_aload 0 (i_aload 0 (i_getR 11 35 (i_push (.int (5)) (i_iaload (i_putI 11 6 (i_aload 0 (i_aload 0 (i_getR 11 35 (i_push (.int (6)) (i_iaload (i_putI 11 7 (i_aload 0 (i_aload 0 (i_getR 11 35 (i_push (.int (7)) (i_iaload (i_putI 11 8 fX12_takeHead_82))))))))))))))))))))))))
def fX12_takeHead_0 : Fn := (i_aload 0 (i_aload 0 (i_getR 11 35 (i_push (.int (0)) (i_iaload (i_putI 11 1 (i_aload 0 (i_aload 0 (i_getR 11 35 (i_push (.int (1)) (i_iaload (i_putI 11 2 (i_aload 0 (i_aload 0 (i_getR 11 35 (i_push (.int (2)) (i_iaload (i_putI 11 3 (i_aload 0 (i_aload 0 (i_getR 11 35 (i_push (.int (3)) (i_iaload (i_putI 11 4 fX12_takeHead_40))))))))))))))))))))))))
def mX12_takeHead : List Value → AH → Option Ou := runF 1 fX12_takeHead_0
def fX12_appendWord_3 : Nat → Fn
  | 0 => fun _ _ _ => none
  | n + 1 => let k3 := fX12_appendWord_3 n; (i_iload 2 (i_iflt i_return (i_aload 0 (i_getR 11 36 (i_aload 0 (i_getI 11 37 (i_iload 1 (i_iload 2 (i_bin (fun x y => x >>> (y &&& 31)) (i_push (.int (255)) (i_bin (fun x y => x &&& y) (i_iastore (i_aload 0 (i_dup (i_getI 11 37 (i_push (.int (1)) (i_bin (fun x y => x + y) (i_putI 11 37 (i_iinc 2 (-8) k3)))))))))))))))))))
def fX12_appendWord_0 : Fn := (i_push (.int (24)) (i_istore 2 (fX12_appendWord_3 fuelN)))
def mX12_appendWord : List Value → AH → Option Ou := runF 3 fX12_appendWord_0
def fX12_appendInput_47 : Fn := (i_aload 0 (i_getI 11 37 i_ireturn))
def fX12_appendInput_0 : Fn := (i_aload 0 (i_push (.int (0)) (i_putI 11 0 (i_aload 0 (i_getI 11 37 (i_push (.int (20)) (i_bin (fun x y => x + y) (i_push (.int (1000)) (i_icle (i_aload 0 (i_iload 1 (i_callV 11 1 mX12_appendWord (i_aload 0 (i_iload 2 (i_callV 11 1 mX12_appendWord (i_aload 0 (i_iload 3 (i_callV 11 1 mX12_appendWord (i_aload 0 (i_iload 4 (i_callV 11 1 mX12_appendWord (i_aload 0 (i_iload 5 (i_callV 11 1 mX12_appendWord fX12_appendInput_47))))))))))))))) (i_push (.int (-1)) i_ireturn))))))))))
def mX12_appendInput : List Value → AH → Option Ou := runF 6 fX12_appendInput_0
def fX12_truncateInput_0 : Fn := (i_aload 0 (i_push (.int (0)) (i_putI 11 0 (i_iload 1 (i_push (.int (0)) (i_aload 0 (i_getI 11 37 (i_callS 3 mX12_inRange (i_ifne (i_aload 0 (i_iload 1 (i_putI 11 37 (i_push (.int (1)) i_zreturn)))) (i_push (.int (0)) i_zreturn))))))))))
def mX12_truncateInput : List Value → AH → Option Ou := runF 2 fX12_truncateInput_0
def fX12_byteAt_18 : Fn := i_ireturn
def fX12_byteAt_0 : Fn := (i_iload 1 (i_aload 0 (i_getI 11 37 (i_icge (i_push (.int (-1)) fX12_byteAt_18) (i_aload 0 (i_getR 11 36 (i_iload 1 (i_iaload fX12_byteAt_18))))))))
def mX12_byteAt : List Value → AH → Option Ou := runF 2 fX12_byteAt_0
def fX12_advance_26 (k0 : Fn) : Fn := (i_aload 0 (i_dup (i_getI 11 42 (i_push (.int (1)) (i_bin (fun x y => x + y) (i_putI 11 42 k0))))))
def fX12_advance_269 : Fn := i_return
def fX12_advance_261 : Fn := (i_getI 11 42 (i_push (.int (1)) (i_bin (fun x y => x + y) (i_putI 11 42 fX12_advance_269))))
def fX12_advance_236 (k182 : Fn) : Fn := (i_aload 0 (i_dup (i_getI 11 42 (i_push (.int (1)) (i_bin (fun x y => x + y) (i_putI 11 42 k182))))))
def fX12_advance_229 (k182 : Fn) : Fn := (i_bin (fun x y => x + y) (i_push (.int (48)) (i_bin (fun x y => x - y) (i_putI 11 44 (fX12_advance_236 k182)))))
def fX12_advance_182 : Nat → Fn
  | 0 => fun _ _ _ => none
  | n + 1 => let k182 := fX12_advance_182 n; (i_aload 0 (i_aload 0 (i_getI 11 42 (i_callV 11 1 mX12_byteAt (i_push (.int (48)) (i_push (.int (57)) (i_callS 3 mX12_inRange (i_ifeq fX12_advance_269 (i_aload 0 (i_getI 11 42 (i_aload 0 (i_getI 11 43 (i_bin (fun x y => x - y) (i_push (.int (4)) (i_icge (fX12_advance_236 k182) (i_aload 0 (i_push (.int (10)) (i_aload 0 (i_getI 11 44 (i_bin (fun x y => x * y) (i_aload 0 (i_aload 0 (i_getI 11 42 (i_callV 11 1 mX12_byteAt (fX12_advance_229 k182)))))))))))))))))))))))))
def fX12_advance_153 (k95 : Fn) : Fn := (i_aload 0 (i_dup (i_getI 11 42 (i_push (.int (1)) (i_bin (fun x y => x + y) (i_putI 11 42 k95))))))
def fX12_advance_144 (k95 : Fn) : Fn := (i_i2l (i_lbin (fun x y => x + y) (i_push (.long 96) (i_lbin (fun x y => x - y) (i_putL 11 45 (fX12_advance_153 k95))))))
def fX12_advance_95 : Nat → Fn
  | 0 => fun _ _ _ => none
  | n + 1 => let k95 := fX12_advance_95 n; (i_aload 0 (i_aload 0 (i_getI 11 42 (i_callV 11 1 mX12_byteAt (i_push (.int (97)) (i_push (.int (122)) (i_callS 3 mX12_inRange (i_ifeq fX12_advance_269 (i_aload 0 (i_getI 11 42 (i_aload 0 (i_getI 11 43 (i_bin (fun x y => x - y) (i_push (.int (12)) (i_icge (fX12_advance_153 k95) (i_aload 0 (i_push (.long 27) (i_aload 0 (i_getL 11 45 (i_lbin (fun x y => x * y) (i_aload 0 (i_aload 0 (i_getI 11 42 (i_callV 11 1 mX12_byteAt (fX12_advance_144 k95)))))))))))))))))))))))))
def fX12_advance_61 : Fn := (i_aload 0 (i_push (.int (0)) (i_putI 11 44 (i_iload 1 (i_push (.int (-1)) (i_icne (i_iload 1 (i_push (.int (97)) (i_push (.int (122)) (i_callS 3 mX12_inRange (i_ifeq (i_iload 1 (i_push (.int (48)) (i_push (.int (57)) (i_callS 3 mX12_inRange (i_ifeq (i_aload 0 (i_push (.int (3)) (i_putI 11 46 (i_aload 0 (i_iload 1 (i_putI 11 44 (i_aload 0 (i_dup fX12_advance_261)))))))) (i_aload 0 (i_push (.int (2)) (i_putI 11 46 (fX12_advance_182 fuelN))))))))) (i_aload 0 (i_push (.int (1)) (i_putI 11 46 (fX12_advance_95 fuelN))))))))) (i_aload 0 (i_push (.int (0)) (i_putI 11 46 fX12_advance_269)))))))))
def fX12_advance_0 : Nat → Fn
  | 0 => fun _ _ _ => none
  | n + 1 => let k0 := fX12_advance_0 n; (i_aload 0 (i_aload 0 (i_getI 11 42 (i_callV 11 1 mX12_byteAt (i_push (.int (32)) (i_iceq (fX12_advance_26 k0) (i_aload 0 (i_aload 0 (i_getI 11 42 (i_callV 11 1 mX12_byteAt (i_push (.int (10)) (i_icne (i_aload 0 (i_aload 0 (i_getI 11 42 (i_putI 11 43 (i_aload 0 (i_aload 0 (i_getI 11 42 (i_callV 11 1 mX12_byteAt (i_istore 1 (i_aload 0 (i_push (.long 0) (i_putL 11 45 fX12_advance_61)))))))))))) (fX12_advance_26 k0)))))))))))))
def mX12_advance : List Value → AH → Option Ou := runF 2 (fX12_advance_0 fuelN)
def fX12_failsAt_17 : Fn := (i_push (.int (0)) i_zreturn)
def fX12_failsAt_0 : Fn := (i_aload 0 (i_getI 11 40 (i_ifne fX12_failsAt_17 (i_aload 0 (i_iload 1 (i_putI 11 40 (i_aload 0 (i_iload 2 (i_putI 11 41 fX12_failsAt_17)))))))))
def mX12_failsAt : List Value → AH → Option Ou := runF 3 fX12_failsAt_0
def fX12_takesComma_17 : Fn := (i_push (.int (0)) i_zreturn)
def fX12_takesComma_0 : Fn := (i_aload 0 (i_getI 11 46 (i_push (.int (3)) (i_icne fX12_takesComma_17 (i_aload 0 (i_getI 11 44 (i_push (.int (44)) (i_iceq (i_aload 0 (i_callV 11 0 mX12_advance (i_push (.int (1)) i_zreturn))) fX12_takesComma_17))))))))
def mX12_takesComma : List Value → AH → Option Ou := runF 1 fX12_takesComma_0
def fX12_needsNumber_21 : Fn := (i_aload 0 (i_push (.int (1)) (i_aload 0 (i_getI 11 43 (i_callV 11 2 mX12_failsAt i_zreturn)))))
def fX12_needsNumber_66 : Fn := i_zreturn
def fX12_needsNumber_0 : Fn := (i_aload 0 (i_getI 11 46 (i_push (.int (2)) (i_icne fX12_needsNumber_21 (i_aload 0 (i_getI 11 42 (i_aload 0 (i_getI 11 43 (i_bin (fun x y => x - y) (i_push (.int (4)) (i_icle (i_aload 0 (i_getI 11 44 (i_iload 1 (i_iload 2 (i_callS 3 mX12_inRange (i_ifne (i_aload 0 (i_aload 0 (i_getI 11 44 (i_putI 11 49 (i_aload 0 (i_callV 11 0 mX12_advance (i_push (.int (1)) fX12_needsNumber_66))))))) (i_aload 0 (i_push (.int (2)) (i_aload 0 (i_getI 11 43 (i_callV 11 2 mX12_failsAt i_zreturn))))))))))) fX12_needsNumber_21)))))))))))
def mX12_needsNumber : List Value → AH → Option Ou := runF 3 fX12_needsNumber_0
def fX12_named_3 : Nat → Fn
  | 0 => fun _ _ _ => none
  | n + 1 => let k3 := fX12_named_3 n; (i_iload 4 (i_iload 1 (i_icge (i_push (.int (-1)) i_ireturn) (i_aload 0 (i_iload 4 (i_laload (i_lload 2 (i_lcmp (i_ifne (i_iinc 4 (1) k3) (i_iload 4 i_ireturn))))))))))
def fX12_named_0 : Fn := (i_push (.int (0)) (i_istore 4 (fX12_named_3 fuelN)))
def mX12_named : List Value → AH → Option Ou := runF 5 fX12_named_0
def fX12_isGiven_69 : Fn := i_zreturn
def fX12_isGiven_64 : Fn := (i_push (.int (1)) fX12_isGiven_69)
def fX12_isGiven_48 : Fn := (i_aload 0 (i_getR 11 23 (i_aload 0 (i_getI 11 7 (i_lload 1 (i_callS 3 mX12_named (i_push (.int (-1)) (i_iceq (i_push (.int (0)) fX12_isGiven_69) fX12_isGiven_64))))))))
def fX12_isGiven_0 : Fn := (i_aload 0 (i_getR 11 11 (i_aload 0 (i_getI 11 2 (i_lload 1 (i_callS 3 mX12_named (i_push (.int (-1)) (i_icne fX12_isGiven_64 (i_aload 0 (i_getR 11 15 (i_aload 0 (i_getI 11 4 (i_lload 1 (i_callS 3 mX12_named (i_push (.int (-1)) (i_icne fX12_isGiven_64 (i_aload 0 (i_getR 11 17 (i_aload 0 (i_getI 11 5 (i_lload 1 (i_callS 3 mX12_named (i_push (.int (-1)) (i_icne fX12_isGiven_64 fX12_isGiven_48))))))))))))))))))))))))
def mX12_isGiven : List Value → AH → Option Ou := runF 3 fX12_isGiven_0
def fX12_mayAdd_18 : Fn := i_zreturn
def fX12_mayAdd_13 : Fn := (i_push (.int (1)) fX12_mayAdd_18)
def fX12_mayAdd_0 : Fn := (i_iload 1 (i_ifne fX12_mayAdd_13 (i_aload 0 (i_push (.int (4)) (i_iload 2 (i_callV 11 2 mX12_failsAt (i_ifeq (i_push (.int (0)) fX12_mayAdd_18) fX12_mayAdd_13)))))))
def mX12_mayAdd : List Value → AH → Option Ou := runF 3 fX12_mayAdd_0
def fX12_readSlot_31 : Fn := (i_push (.int (0)) i_zreturn)
def fX12_readSlot_13 : Fn := (i_iload 1 (i_callV 11 2 mX12_mayAdd (i_ifeq fX12_readSlot_31 (i_aload 0 (i_push (.int (10)) (i_push (.int (60)) (i_callV 11 2 mX12_needsNumber (i_ifne (i_aload 0 (i_push (.int (1)) (i_putZ 11 47 (i_aload 0 (i_aload 0 (i_getI 11 49 (i_putI 11 1 (i_push (.int (1)) i_zreturn)))))))) fX12_readSlot_31))))))))
def fX12_readSlot_0 : Fn := (i_aload 0 (i_aload 0 (i_getI 11 47 (i_ifne (i_push (.int (0)) fX12_readSlot_13) (i_push (.int (1)) fX12_readSlot_13)))))
def mX12_readSlot : List Value → AH → Option Ou := runF 2 fX12_readSlot_0
def fX12_errorCode_0 : Fn := (i_aload 0 (i_push (.int (0)) (i_putI 11 0 (i_aload 0 (i_getI 11 38 i_ireturn)))))
def mX12_errorCode : List Value → AH → Option Ou := runF 1 fX12_errorCode_0
def fX12_errorOffset_0 : Fn := (i_aload 0 (i_push (.int (0)) (i_putI 11 0 (i_aload 0 (i_getI 11 39 i_ireturn)))))
def mX12_errorOffset : List Value → AH → Option Ou := runF 1 fX12_errorOffset_0
def fX12_settle_250 : Nat → Fn
  | 0 => fun _ _ _ => none
  | n + 1 => let k250 := fX12_settle_250 n; (i_iload 1 (i_push (.int (5)) (i_icge (i_aload 0 (i_push (.int (0)) (i_putI 11 75 (i_aload 0 (i_push (.int (0)) (i_putI 11 58 (i_aload 0 (i_aload 0 (i_getI 11 8 (i_putI 11 59 (i_aload 0 (i_aload 0 (i_getI 11 10 (i_putI 11 60 i_return)))))))))))))) (i_aload 0 (i_getR 11 30 (i_iload 1 (i_push (.int (-1)) (i_iastore (i_iinc 1 (1) k250)))))))))
def fX12_settle_228 : Nat → Fn
  | 0 => fun _ _ _ => none
  | n + 1 => let k228 := fX12_settle_228 n; (i_iload 1 (i_push (.int (1024)) (i_icge (i_push (.int (0)) (i_istore 1 (fX12_settle_250 fuelN))) (i_aload 0 (i_getR 11 54 (i_iload 1 (i_push (.int (-1)) (i_iastore (i_iinc 1 (1) k228)))))))))
def fX12_settle_177 (k120 : Fn) (k130 : Fn) (k140 : Fn) : Fn := (i_iload 1 (i_bin (fun x y => x + y) (i_iaload (i_aload 0 (i_getR 11 53 (i_push (.int (12)) (i_iload 1 (i_bin (fun x y => x * y) (i_iload 3 (i_bin (fun x y => x + y) (i_iaload (i_bin (fun x y => x + y) (i_min (i_iastore (i_iinc 3 (1) k140)))))))))))))))
def fX12_settle_140 (k120 : Fn) (k130 : Fn) : Nat → Fn
  | 0 => fun _ _ _ => none
  | n + 1 => let k140 := fX12_settle_140 k120 k130 n; (i_iload 3 (i_aload 0 (i_getI 11 2 (i_icge (i_iinc 2 (1) k130) (i_aload 0 (i_getR 11 53 (i_push (.int (12)) (i_iload 2 (i_bin (fun x y => x * y) (i_iload 3 (i_bin (fun x y => x + y) (i_aload 0 (i_getR 11 53 (i_push (.int (12)) (i_iload 2 (i_bin (fun x y => x * y) (i_iload 3 (i_bin (fun x y => x + y) (i_iaload (i_aload 0 (i_getR 11 53 (i_push (.int (12)) (i_iload 2 (i_bin (fun x y => x * y) (fX12_settle_177 k120 k130 k140)))))))))))))))))))))))))
def fX12_settle_130 (k120 : Fn) : Nat → Fn
  | 0 => fun _ _ _ => none
  | n + 1 => let k130 := fX12_settle_130 k120 n; (i_iload 2 (i_aload 0 (i_getI 11 2 (i_icge (i_iinc 1 (1) k120) (i_push (.int (0)) (i_istore 3 (fX12_settle_140 k120 k130 fuelN)))))))
def fX12_settle_120 : Nat → Fn
  | 0 => fun _ _ _ => none
  | n + 1 => let k120 := fX12_settle_120 n; (i_iload 1 (i_aload 0 (i_getI 11 2 (i_icge (i_aload 0 (i_push (.int (1)) (i_aload 0 (i_getI 11 5 (i_bin (fun x y => x <<< (y &&& 31)) (i_push (.int (1)) (i_bin (fun x y => x - y) (i_putI 11 55 (i_push (.int (0)) (i_istore 1 (fX12_settle_228 fuelN))))))))))) (i_push (.int (0)) (i_istore 2 (fX12_settle_130 k120 fuelN)))))))
def fX12_settle_111 (k37 : Fn) : Fn := (i_iastore (i_iinc 1 (1) k37))
def fX12_settle_75 (k37 : Fn) : Fn := (i_iload 1 (i_iaload (i_bin (fun x y => x + y) (i_istore 3 (i_aload 0 (i_getR 11 53 (i_iload 2 (i_aload 0 (i_getR 11 53 (i_iload 2 (i_iaload (i_aload 0 (i_getR 11 14 (i_iload 1 (i_iaload (i_min (i_iastore (i_aload 0 (i_getR 11 53 (i_iload 3 (i_aload 0 (i_getR 11 53 (i_iload 2 (i_iaload (fX12_settle_111 k37)))))))))))))))))))))))))
def fX12_settle_37 : Nat → Fn
  | 0 => fun _ _ _ => none
  | n + 1 => let k37 := fX12_settle_37 n; (i_iload 1 (i_aload 0 (i_getI 11 3 (i_icge (i_push (.int (0)) (i_istore 1 (fX12_settle_120 fuelN))) (i_push (.int (12)) (i_aload 0 (i_getR 11 12 (i_iload 1 (i_iaload (i_bin (fun x y => x * y) (i_aload 0 (i_getR 11 13 (i_iload 1 (i_iaload (i_bin (fun x y => x + y) (i_istore 2 (i_push (.int (12)) (i_aload 0 (i_getR 11 13 (i_iload 1 (i_iaload (i_bin (fun x y => x * y) (i_aload 0 (i_getR 11 12 (fX12_settle_75 k37)))))))))))))))))))))))))
def fX12_settle_28 (k2 : Fn) : Fn := (i_iastore (i_iinc 1 (1) k2))
def fX12_settle_2 : Nat → Fn
  | 0 => fun _ _ _ => none
  | n + 1 => let k2 := fX12_settle_2 n; (i_iload 1 (i_push (.int (144)) (i_icge (i_push (.int (0)) (i_istore 1 (fX12_settle_37 fuelN))) (i_aload 0 (i_getR 11 53 (i_iload 1 (i_iload 1 (i_push (.int (13)) (i_div (fun x y => x - x / y * y) (i_ifne (i_push (.int (1000000)) (fX12_settle_28 k2)) (i_push (.int (0)) (fX12_settle_28 k2))))))))))))
def fX12_settle_0 : Fn := (i_push (.int (0)) (i_istore 1 (fX12_settle_2 fuelN)))
def mX12_settle : List Value → AH → Option Ou := runF 4 fX12_settle_0
def fX12_between_0 : Fn := (i_aload 0 (i_getR 11 53 (i_push (.int (12)) (i_iload 1 (i_bin (fun x y => x * y) (i_iload 2 (i_bin (fun x y => x + y) (i_iaload i_ireturn))))))))
def mX12_between : List Value → AH → Option Ou := runF 3 fX12_between_0
def fX12_minutesTo_0 : Fn := (i_aload 0 (i_aload 0 (i_getR 11 16 (i_aload 0 (i_getR 11 19 (i_iload 1 (i_iaload (i_iaload (i_aload 0 (i_getR 11 24 (i_iload 2 (i_iaload (i_callV 11 2 mX12_between i_ireturn)))))))))))))
def mX12_minutesTo : List Value → AH → Option Ou := runF 3 fX12_minutesTo_0
def fX12_slotsTo_33 : Fn := i_ireturn
def fX12_slotsTo_0 : Fn := (i_aload 0 (i_iload 1 (i_iload 2 (i_callV 11 2 mX12_minutesTo (i_istore 3 (i_iload 3 (i_push (.int (1000000)) (i_iclt (i_iload 3 (i_aload 0 (i_getI 11 1 (i_bin (fun x y => x + y) (i_push (.int (1)) (i_bin (fun x y => x - y) (i_aload 0 (i_getI 11 1 (i_div (fun x y => x / y) fX12_slotsTo_33))))))))) (i_push (.int (1000000)) fX12_slotsTo_33)))))))))
def mX12_slotsTo : List Value → AH → Option Ou := runF 4 fX12_slotsTo_0
def fX12_nodes_0 : Fn := (i_aload 0 (i_push (.int (0)) (i_putI 11 0 (i_aload 0 (i_getI 11 2 i_ireturn)))))
def mX12_nodes : List Value → AH → Option Ou := runF 1 fX12_nodes_0
def fX12_stations_0 : Fn := (i_aload 0 (i_push (.int (0)) (i_putI 11 0 (i_aload 0 (i_getI 11 4 i_ireturn)))))
def mX12_stations : List Value → AH → Option Ou := runF 1 fX12_stations_0
def fX12_engines_0 : Fn := (i_aload 0 (i_push (.int (0)) (i_putI 11 0 (i_aload 0 (i_getI 11 5 i_ireturn)))))
def mX12_engines : List Value → AH → Option Ou := runF 1 fX12_engines_0
def fX12_streets_0 : Fn := (i_aload 0 (i_push (.int (0)) (i_putI 11 0 (i_aload 0 (i_getI 11 6 i_ireturn)))))
def mX12_streets : List Value → AH → Option Ou := runF 1 fX12_streets_0
def fX12_drills_0 : Fn := (i_aload 0 (i_push (.int (0)) (i_putI 11 0 (i_aload 0 (i_getI 11 7 i_ireturn)))))
def mX12_drills : List Value → AH → Option Ou := runF 1 fX12_drills_0
def fX12_noNode_20 : Fn := (i_push (.int (1)) (i_callV 11 2 mX12_fails i_zreturn))
def fX12_noNode_0 : Fn := (i_aload 0 (i_iload 1 (i_push (.int (0)) (i_aload 0 (i_getI 11 2 (i_push (.int (1)) (i_bin (fun x y => x - y) (i_callS 3 mX12_inRange (i_ifne (i_push (.int (0)) fX12_noNode_20) (i_push (.int (1)) fX12_noNode_20))))))))))
def mX12_noNode : List Value → AH → Option Ou := runF 2 fX12_noNode_0
def fX12_noEngine_20 : Fn := (i_push (.int (1)) (i_callV 11 2 mX12_fails i_zreturn))
def fX12_noEngine_0 : Fn := (i_aload 0 (i_iload 1 (i_push (.int (0)) (i_aload 0 (i_getI 11 5 (i_push (.int (1)) (i_bin (fun x y => x - y) (i_callS 3 mX12_inRange (i_ifne (i_push (.int (0)) fX12_noEngine_20) (i_push (.int (1)) fX12_noEngine_20))))))))))
def mX12_noEngine : List Value → AH → Option Ou := runF 2 fX12_noEngine_0
def fX12_noStreet_20 : Fn := (i_push (.int (1)) (i_callV 11 2 mX12_fails i_zreturn))
def fX12_noStreet_0 : Fn := (i_aload 0 (i_iload 1 (i_push (.int (0)) (i_aload 0 (i_getI 11 6 (i_push (.int (1)) (i_bin (fun x y => x - y) (i_callS 3 mX12_inRange (i_ifne (i_push (.int (0)) fX12_noStreet_20) (i_push (.int (1)) fX12_noStreet_20))))))))))
def mX12_noStreet : List Value → AH → Option Ou := runF 2 fX12_noStreet_0
def fX12_noDrill_20 : Fn := (i_push (.int (1)) (i_callV 11 2 mX12_fails i_zreturn))
def fX12_noDrill_0 : Fn := (i_aload 0 (i_iload 1 (i_push (.int (0)) (i_aload 0 (i_getI 11 7 (i_push (.int (1)) (i_bin (fun x y => x - y) (i_callS 3 mX12_inRange (i_ifne (i_push (.int (0)) fX12_noDrill_20) (i_push (.int (1)) fX12_noDrill_20))))))))))
def mX12_noDrill : List Value → AH → Option Ou := runF 2 fX12_noDrill_0
def fX12_noSlot_16 : Fn := (i_push (.int (1)) (i_callV 11 2 mX12_fails i_zreturn))
def fX12_noSlot_0 : Fn := (i_aload 0 (i_iload 1 (i_push (.int (0)) (i_push (.int (47)) (i_callS 3 mX12_inRange (i_ifne (i_push (.int (0)) fX12_noSlot_16) (i_push (.int (1)) fX12_noSlot_16)))))))
def mX12_noSlot : List Value → AH → Option Ou := runF 2 fX12_noSlot_0
def fX12_noSet_17 : Fn := (i_iload 2 (i_callV 11 2 mX12_fails i_zreturn))
def fX12_noSet_0 : Fn := (i_aload 0 (i_iload 1 (i_aload 0 (i_getI 11 55 (i_push (.int (-1)) (i_bin (fun x y => x ^^^ y) (i_bin (fun x y => x &&& y) (i_ifeq (i_push (.int (0)) fX12_noSet_17) (i_push (.int (1)) fX12_noSet_17)))))))))
def mX12_noSet : List Value → AH → Option Ou := runF 3 fX12_noSet_0
def fX12_travelMinutes_21 : Fn := (i_push (.int (0)) i_ireturn)
def fX12_travelMinutes_45 : Fn := i_ireturn
def fX12_travelMinutes_0 : Fn := (i_aload 0 (i_push (.int (0)) (i_putI 11 0 (i_aload 0 (i_iload 1 (i_callV 11 1 mX12_noNode (i_ifne fX12_travelMinutes_21 (i_aload 0 (i_iload 2 (i_callV 11 1 mX12_noNode (i_ifeq (i_aload 0 (i_iload 1 (i_iload 2 (i_callV 11 2 mX12_between (i_push (.int (1000000)) (i_iclt (i_aload 0 (i_iload 1 (i_iload 2 (i_callV 11 2 mX12_between fX12_travelMinutes_45)))) (i_push (.int (-1)) fX12_travelMinutes_45))))))) fX12_travelMinutes_21)))))))))))
def mX12_travelMinutes : List Value → AH → Option Ou := runF 3 fX12_travelMinutes_0
def fX12_travelSlots_21 : Fn := (i_push (.int (0)) i_ireturn)
def fX12_travelSlots_45 : Fn := i_ireturn
def fX12_travelSlots_0 : Fn := (i_aload 0 (i_push (.int (0)) (i_putI 11 0 (i_aload 0 (i_iload 1 (i_callV 11 1 mX12_noEngine (i_ifne fX12_travelSlots_21 (i_aload 0 (i_iload 2 (i_callV 11 1 mX12_noDrill (i_ifeq (i_aload 0 (i_iload 1 (i_iload 2 (i_callV 11 2 mX12_slotsTo (i_push (.int (1000000)) (i_iclt (i_aload 0 (i_iload 1 (i_iload 2 (i_callV 11 2 mX12_slotsTo fX12_travelSlots_45)))) (i_push (.int (-1)) fX12_travelSlots_45))))))) fX12_travelSlots_21)))))))))))
def mX12_travelSlots : List Value → AH → Option Ou := runF 3 fX12_travelSlots_0
def fX12_homeStation_23 : Fn := i_ireturn
def fX12_homeStation_0 : Fn := (i_aload 0 (i_push (.int (0)) (i_putI 11 0 (i_aload 0 (i_iload 1 (i_callV 11 1 mX12_noEngine (i_ifeq (i_aload 0 (i_getR 11 19 (i_iload 1 (i_iaload fX12_homeStation_23)))) (i_push (.int (0)) fX12_homeStation_23))))))))
def mX12_homeStation : List Value → AH → Option Ou := runF 2 fX12_homeStation_0
def fX12_engineKind_23 : Fn := i_ireturn
def fX12_engineKind_0 : Fn := (i_aload 0 (i_push (.int (0)) (i_putI 11 0 (i_aload 0 (i_iload 1 (i_callV 11 1 mX12_noEngine (i_ifeq (i_aload 0 (i_getR 11 18 (i_iload 1 (i_iaload fX12_engineKind_23)))) (i_push (.int (0)) fX12_engineKind_23))))))))
def mX12_engineKind : List Value → AH → Option Ou := runF 2 fX12_engineKind_0
def fX12_layHome_65 (k25 : Fn) : Fn := (i_bin (fun x y => x + y) (i_iastore (i_iinc 2 (1) k25)))
def fX12_layHome_25 : Nat → Fn
  | 0 => fun _ _ _ => none
  | n + 1 => let k25 := fX12_layHome_25 n; (i_iload 2 (i_aload 0 (i_getI 11 5 (i_icge i_return (i_aload 0 (i_getR 11 56 (i_iload 2 (i_aload 0 (i_getR 11 19 (i_iload 2 (i_iaload (i_iastore (i_aload 0 (i_getR 11 57 (i_aload 0 (i_getR 11 19 (i_iload 2 (i_iaload (i_dup2 (i_iaload (i_iload 1 (i_iload 2 (i_callS 2 mX12_has (i_callS 1 mX12_oneIf (fX12_layHome_65 k25)))))))))))))))))))))))))
def fX12_layHome_2 : Nat → Fn
  | 0 => fun _ _ _ => none
  | n + 1 => let k2 := fX12_layHome_2 n; (i_iload 2 (i_aload 0 (i_getI 11 4 (i_icge (i_push (.int (0)) (i_istore 2 (fX12_layHome_25 fuelN))) (i_aload 0 (i_getR 11 57 (i_iload 2 (i_push (.int (0)) (i_iastore (i_iinc 2 (1) k2))))))))))
def fX12_layHome_0 : Fn := (i_push (.int (0)) (i_istore 2 (fX12_layHome_2 fuelN)))
def mX12_layHome : List Value → AH → Option Ou := runF 3 fX12_layHome_0
def fX12_layMoved_161 (k7 : Fn) : Fn := (i_iinc 2 (1) k7)
def fX12_layMoved_160 (k7 : Fn) : Fn := (i_iastore (fX12_layMoved_161 k7))
def fX12_layMoved_127 (k7 : Fn) (k94 : Fn) : Fn := (i_iinc 5 (1) k94)
def fX12_layMoved_94 (k7 : Fn) : Nat → Fn
  | 0 => fun _ _ _ => none
  | n + 1 => let k94 := fX12_layMoved_94 k7 n; (i_iload 5 (i_aload 0 (i_getI 11 5 (i_icge (i_aload 0 (i_getR 11 56 (i_iload 4 (i_iload 2 (i_iastore (i_aload 0 (i_getR 11 57 (i_iload 3 (i_dup2 (i_iaload (i_push (.int (1)) (i_bin (fun x y => x - y) (i_iastore (i_aload 0 (i_getR 11 57 (i_iload 2 (i_dup2 (i_iaload (i_push (.int (1)) (i_bin (fun x y => x + y) (fX12_layMoved_160 k7))))))))))))))))))))) (i_iload 1 (i_iload 5 (i_callS 2 mX12_has (i_ifeq (fX12_layMoved_127 k7 k94) (i_aload 0 (i_getR 11 56 (i_iload 5 (i_iaload (i_iload 3 (i_icne (fX12_layMoved_127 k7 k94) (i_iload 5 (i_istore 4 (fX12_layMoved_127 k7 k94)))))))))))))))))
def fX12_layMoved_80 (k7 : Fn) : Fn := (i_iload 3 (i_push (.int (-1)) (i_icne (i_push (.int (-1)) (i_istore 4 (i_push (.int (0)) (i_istore 5 (fX12_layMoved_94 k7 fuelN))))) (fX12_layMoved_161 k7))))
def fX12_layMoved_74 (k7 : Fn) (k32 : Fn) : Fn := (i_iinc 4 (1) k32)
def fX12_layMoved_73 (k7 : Fn) (k32 : Fn) : Fn := (i_istore 3 (fX12_layMoved_74 k7 k32))
def fX12_layMoved_32 (k7 : Fn) : Nat → Fn
  | 0 => fun _ _ _ => none
  | n + 1 => let k32 := fX12_layMoved_32 k7 n; (i_iload 4 (i_aload 0 (i_getI 11 4 (i_icge (fX12_layMoved_80 k7) (i_iload 3 (i_push (.int (-1)) (i_icne (fX12_layMoved_80 k7) (i_aload 0 (i_getR 11 57 (i_iload 2 (i_iload 4 (i_bin (fun x y => x + y) (i_aload 0 (i_getI 11 4 (i_div (fun x y => x - x / y * y) (i_iaload (i_push (.int (1)) (i_icle (fX12_layMoved_74 k7 k32) (i_iload 2 (i_iload 4 (i_bin (fun x y => x + y) (i_aload 0 (i_getI 11 4 (i_div (fun x y => x - x / y * y) (fX12_layMoved_73 k7 k32)))))))))))))))))))))))))
def fX12_layMoved_7 : Nat → Fn
  | 0 => fun _ _ _ => none
  | n + 1 => let k7 := fX12_layMoved_7 n; (i_iload 2 (i_aload 0 (i_getI 11 4 (i_icge i_return (i_aload 0 (i_getR 11 57 (i_iload 2 (i_iaload (i_ifle (i_push (.int (-1)) (i_istore 3 (i_push (.int (1)) (i_istore 4 (fX12_layMoved_32 k7 fuelN))))) (fX12_layMoved_161 k7))))))))))
def fX12_layMoved_0 : Fn := (i_aload 0 (i_iload 1 (i_callV 11 1 mX12_layHome (i_push (.int (0)) (i_istore 2 (fX12_layMoved_7 fuelN))))))
def mX12_layMoved : List Value → AH → Option Ou := runF 6 fX12_layMoved_0
def fX12_serves_38 : Fn := i_zreturn
def fX12_serves_37 : Fn := (i_push (.int (0)) fX12_serves_38)
def fX12_serves_33 : Fn := (i_push (.int (1)) fX12_serves_38)
def fX12_serves_0 : Fn := (i_iload 1 (i_iload 2 (i_callS 2 mX12_has (i_ifeq fX12_serves_37 (i_aload 0 (i_getR 11 22 (i_iload 3 (i_iaload (i_push (.int (-1)) (i_iceq fX12_serves_33 (i_aload 0 (i_getR 11 18 (i_iload 2 (i_iaload (i_aload 0 (i_getR 11 22 (i_iload 3 (i_iaload (i_icne fX12_serves_37 fX12_serves_33)))))))))))))))))))
def mX12_serves : List Value → AH → Option Ou := runF 4 fX12_serves_0
def fX12_nearest_54 (k7 : Fn) : Fn := (i_iinc 4 (1) k7)
def fX12_nearest_50 (k7 : Fn) : Fn := (i_min (i_istore 3 (fX12_nearest_54 k7)))
def fX12_nearest_7 : Nat → Fn
  | 0 => fun _ _ _ => none
  | n + 1 => let k7 := fX12_nearest_7 n; (i_iload 4 (i_aload 0 (i_getI 11 5 (i_icge (i_iload 3 i_ireturn) (i_aload 0 (i_iload 1 (i_iload 4 (i_iload 2 (i_callV 11 3 mX12_serves (i_ifeq (fX12_nearest_54 k7) (i_iload 3 (i_aload 0 (i_aload 0 (i_getR 11 16 (i_aload 0 (i_getR 11 56 (i_iload 4 (i_iaload (i_iaload (i_aload 0 (i_getR 11 20 (i_iload 2 (i_iaload (i_callV 11 2 mX12_between (fX12_nearest_50 k7)))))))))))))))))))))))))
def fX12_nearest_0 : Fn := (i_push (.int (1000000)) (i_istore 3 (i_push (.int (0)) (i_istore 4 (fX12_nearest_7 fuelN)))))
def mX12_nearest : List Value → AH → Option Ou := runF 5 fX12_nearest_0
def fX12_open_33 (k4 : Fn) : Fn := (i_iinc 3 (1) k4)
def fX12_open_4 : Nat → Fn
  | 0 => fun _ _ _ => none
  | n + 1 => let k4 := fX12_open_4 n; (i_iload 3 (i_aload 0 (i_getI 11 6 (i_icge (i_iload 2 i_ireturn) (i_aload 0 (i_iload 1 (i_iload 3 (i_callV 11 2 mX12_nearest (i_aload 0 (i_getR 11 21 (i_iload 3 (i_iaload (i_icle (fX12_open_33 k4) (i_iload 2 (i_push (.int (1)) (i_iload 3 (i_bin (fun x y => x <<< (y &&& 31)) (i_bin (fun x y => x ||| y) (i_istore 2 (fX12_open_33 k4))))))))))))))))))))
def fX12_open_0 : Fn := (i_push (.int (0)) (i_istore 2 (i_push (.int (0)) (i_istore 3 (fX12_open_4 fuelN)))))
def mX12_open : List Value → AH → Option Ou := runF 4 fX12_open_0
def fX12_gapsOf_26 : Fn := (i_aload 0 (i_getR 11 54 (i_iload 1 (i_iaload i_ireturn))))
def fX12_gapsOf_0 : Fn := (i_aload 0 (i_getR 11 54 (i_iload 1 (i_iaload (i_push (.int (-1)) (i_icne fX12_gapsOf_26 (i_aload 0 (i_iload 1 (i_callV 11 1 mX12_layMoved (i_aload 0 (i_getR 11 54 (i_iload 1 (i_aload 0 (i_iload 1 (i_callV 11 1 mX12_open (i_iastore fX12_gapsOf_26))))))))))))))))
def mX12_gapsOf : List Value → AH → Option Ou := runF 2 fX12_gapsOf_0
def fX12_coverStation_22 : Fn := (i_push (.int (0)) i_ireturn)
def fX12_coverStation_47 : Fn := i_ireturn
def fX12_coverStation_0 : Fn := (i_aload 0 (i_push (.int (0)) (i_putI 11 0 (i_aload 0 (i_iload 2 (i_callV 11 1 mX12_noEngine (i_ifne fX12_coverStation_22 (i_aload 0 (i_iload 1 (i_push (.int (2)) (i_callV 11 2 mX12_noSet (i_ifeq (i_aload 0 (i_iload 1 (i_callV 11 1 mX12_layMoved (i_iload 1 (i_iload 2 (i_callS 2 mX12_has (i_ifeq (i_push (.int (-1)) fX12_coverStation_47) (i_aload 0 (i_getR 11 56 (i_iload 2 (i_iaload fX12_coverStation_47))))))))))) fX12_coverStation_22))))))))))))
def mX12_coverStation : List Value → AH → Option Ou := runF 3 fX12_coverStation_0
def fX12_uncovered_23 : Fn := i_ireturn
def fX12_uncovered_0 : Fn := (i_aload 0 (i_push (.int (0)) (i_putI 11 0 (i_aload 0 (i_iload 1 (i_push (.int (1)) (i_callV 11 2 mX12_noSet (i_ifeq (i_aload 0 (i_iload 1 (i_callV 11 1 mX12_gapsOf fX12_uncovered_23))) (i_push (.int (0)) fX12_uncovered_23)))))))))
def mX12_uncovered : List Value → AH → Option Ou := runF 2 fX12_uncovered_0
def fX12_uncoveredWithoutMoves_0 : Fn := (i_aload 0 (i_push (.int (0)) (i_putI 11 0 (i_aload 0 (i_iload 1 (i_push (.int (1)) (i_callV 11 2 mX12_noSet (i_ifeq (i_aload 0 (i_iload 1 (i_callV 11 1 mX12_layHome (i_aload 0 (i_iload 1 (i_callV 11 1 mX12_open i_ireturn)))))) (i_push (.int (0)) i_ireturn)))))))))
def mX12_uncoveredWithoutMoves : List Value → AH → Option Ou := runF 2 fX12_uncoveredWithoutMoves_0
def fX12_nearestMinutes_22 : Fn := (i_push (.int (0)) i_ireturn)
def fX12_nearestMinutes_48 : Fn := i_ireturn
def fX12_nearestMinutes_44 : Fn := fX12_nearestMinutes_48
def fX12_nearestMinutes_0 : Fn := (i_aload 0 (i_push (.int (0)) (i_putI 11 0 (i_aload 0 (i_iload 2 (i_callV 11 1 mX12_noStreet (i_ifne fX12_nearestMinutes_22 (i_aload 0 (i_iload 1 (i_push (.int (2)) (i_callV 11 2 mX12_noSet (i_ifeq (i_aload 0 (i_iload 1 (i_callV 11 1 mX12_layMoved (i_aload 0 (i_iload 1 (i_iload 2 (i_callV 11 2 mX12_nearest (i_istore 3 (i_iload 3 (i_push (.int (1000000)) (i_iclt (i_iload 3 fX12_nearestMinutes_48) (i_push (.int (-1)) fX12_nearestMinutes_44)))))))))))) fX12_nearestMinutes_22))))))))))))
def mX12_nearestMinutes : List Value → AH → Option Ou := runF 4 fX12_nearestMinutes_0
def fX12_coveringEngines_22 : Fn := (i_push (.int (0)) i_ireturn)
def fX12_coveringEngines_92 (k34 : Fn) : Fn := (i_iinc 4 (1) k34)
def fX12_coveringEngines_77 (k34 : Fn) : Fn := (i_getR 11 21 (i_iload 2 (i_iaload (i_icgt (fX12_coveringEngines_92 k34) (i_iload 3 (i_push (.int (1)) (i_iload 4 (i_bin (fun x y => x <<< (y &&& 31)) (i_bin (fun x y => x ||| y) (i_istore 3 (fX12_coveringEngines_92 k34)))))))))))
def fX12_coveringEngines_34 : Nat → Fn
  | 0 => fun _ _ _ => none
  | n + 1 => let k34 := fX12_coveringEngines_34 n; (i_iload 4 (i_aload 0 (i_getI 11 5 (i_icge (i_iload 3 i_ireturn) (i_aload 0 (i_iload 1 (i_iload 4 (i_iload 2 (i_callV 11 3 mX12_serves (i_ifeq (fX12_coveringEngines_92 k34) (i_aload 0 (i_aload 0 (i_getR 11 16 (i_aload 0 (i_getR 11 56 (i_iload 4 (i_iaload (i_iaload (i_aload 0 (i_getR 11 20 (i_iload 2 (i_iaload (i_callV 11 2 mX12_between (i_aload 0 (fX12_coveringEngines_77 k34)))))))))))))))))))))))))
def fX12_coveringEngines_0 : Fn := (i_aload 0 (i_push (.int (0)) (i_putI 11 0 (i_aload 0 (i_iload 2 (i_callV 11 1 mX12_noStreet (i_ifne fX12_coveringEngines_22 (i_aload 0 (i_iload 1 (i_push (.int (2)) (i_callV 11 2 mX12_noSet (i_ifeq (i_aload 0 (i_iload 1 (i_callV 11 1 mX12_layMoved (i_push (.int (0)) (i_istore 3 (i_push (.int (0)) (i_istore 4 (fX12_coveringEngines_34 fuelN)))))))) fX12_coveringEngines_22))))))))))))
def mX12_coveringEngines : List Value → AH → Option Ou := runF 5 fX12_coveringEngines_0
def fX12_weakestStreet_92 (k28 : Fn) : Fn := (i_iinc 4 (1) k28)
def fX12_weakestStreet_86 (k28 : Fn) : Fn := (i_iload 4 (i_istore 2 (i_iload 6 (i_istore 3 (fX12_weakestStreet_92 k28)))))
def fX12_weakestStreet_70 (k28 : Fn) : Fn := (i_istore 6 (i_iload 2 (i_push (.int (-1)) (i_iceq (fX12_weakestStreet_86 k28) (i_iload 6 (i_iload 3 (i_iclt (fX12_weakestStreet_86 k28) (fX12_weakestStreet_92 k28))))))))
def fX12_weakestStreet_28 : Nat → Fn
  | 0 => fun _ _ _ => none
  | n + 1 => let k28 := fX12_weakestStreet_28 n; (i_iload 4 (i_aload 0 (i_getI 11 6 (i_icge (i_iload 2 i_ireturn) (i_aload 0 (i_iload 1 (i_iload 4 (i_callV 11 2 mX12_nearest (i_istore 5 (i_iload 5 (i_push (.int (1000000)) (i_iclt (i_aload 0 (i_getR 11 21 (i_iload 4 (i_iaload (i_iload 5 (i_bin (fun x y => x - y) (fX12_weakestStreet_70 k28))))))) (i_push (.int (-1000000)) (fX12_weakestStreet_70 k28))))))))))))))
def fX12_weakestStreet_0 : Fn := (i_aload 0 (i_push (.int (0)) (i_putI 11 0 (i_aload 0 (i_iload 1 (i_push (.int (1)) (i_callV 11 2 mX12_noSet (i_ifeq (i_aload 0 (i_iload 1 (i_callV 11 1 mX12_layMoved (i_push (.int (-1)) (i_istore 2 (i_push (.int (0)) (i_istore 3 (i_push (.int (0)) (i_istore 4 (fX12_weakestStreet_28 fuelN)))))))))) (i_push (.int (0)) i_ireturn)))))))))
def mX12_weakestStreet : List Value → AH → Option Ou := runF 7 fX12_weakestStreet_0
def fX12_criticalEngine_57 (k11 : Fn) : Fn := (i_iinc 3 (1) k11)
def fX12_criticalEngine_52 (k11 : Fn) : Fn := (i_iload 3 (i_istore 1 (i_iload 4 (i_istore 2 (fX12_criticalEngine_57 k11)))))
def fX12_criticalEngine_11 : Nat → Fn
  | 0 => fun _ _ _ => none
  | n + 1 => let k11 := fX12_criticalEngine_11 n; (i_iload 3 (i_aload 0 (i_getI 11 5 (i_icge (i_iload 1 i_ireturn) (i_aload 0 (i_aload 0 (i_getI 11 55 (i_push (.int (1)) (i_iload 3 (i_bin (fun x y => x <<< (y &&& 31)) (i_push (.int (-1)) (i_bin (fun x y => x ^^^ y) (i_bin (fun x y => x &&& y) (i_callV 11 1 mX12_gapsOf (i_callS 1 mX12_sizeOf (i_istore 4 (i_iload 1 (i_push (.int (-1)) (i_iceq (fX12_criticalEngine_52 k11) (i_iload 4 (i_iload 2 (i_icgt (fX12_criticalEngine_52 k11) (fX12_criticalEngine_57 k11)))))))))))))))))))))))
def fX12_criticalEngine_0 : Fn := (i_aload 0 (i_push (.int (0)) (i_putI 11 0 (i_push (.int (-1)) (i_istore 1 (i_push (.int (0)) (i_istore 2 (i_push (.int (0)) (i_istore 3 (fX12_criticalEngine_11 fuelN))))))))))
def mX12_criticalEngine : List Value → AH → Option Ou := runF 5 fX12_criticalEngine_0
def fX12_safeAbsences_44 (k14 : Fn) : Fn := (i_iinc 2 (1) k14)
def fX12_safeAbsences_14 : Nat → Fn
  | 0 => fun _ _ _ => none
  | n + 1 => let k14 := fX12_safeAbsences_14 n; (i_iload 2 (i_aload 0 (i_getI 11 55 (i_icgt (i_iload 1 (i_push (.int (1)) (i_bin (fun x y => x - y) i_ireturn))) (i_aload 0 (i_iload 2 (i_callV 11 1 mX12_gapsOf (i_ifeq (fX12_safeAbsences_44 k14) (i_iload 1 (i_aload 0 (i_getI 11 5 (i_iload 2 (i_callS 1 mX12_sizeOf (i_bin (fun x y => x - y) (i_min (i_istore 1 (fX12_safeAbsences_44 k14)))))))))))))))))
def fX12_safeAbsences_0 : Fn := (i_aload 0 (i_push (.int (0)) (i_putI 11 0 (i_aload 0 (i_getI 11 5 (i_push (.int (1)) (i_bin (fun x y => x + y) (i_istore 1 (i_push (.int (0)) (i_istore 2 (fX12_safeAbsences_14 fuelN)))))))))))
def mX12_safeAbsences : List Value → AH → Option Ou := runF 3 fX12_safeAbsences_0
def fX12_hang_105 : Fn := (i_putI 11 74 (i_aload 0 (i_getR 11 71 (i_iload 1 (i_aload 0 (i_getI 11 9 (i_bin (fun x y => x + y) (i_dup2 (i_iaload (i_iload 2 (i_bin (fun x y => x + y) (i_iastore i_return))))))))))))
def fX12_hang_65 (k32 : Fn) : Fn := (i_iinc 2 (1) k32)
def fX12_hang_32 : Nat → Fn
  | 0 => fun _ _ _ => none
  | n + 1 => let k32 := fX12_hang_32 n; (i_iload 2 (i_aload 0 (i_getI 11 7 (i_icge (i_aload 0 (i_getI 11 73 (i_aload 0 (i_getI 11 60 (i_aload 0 (i_getI 11 74 (i_bin (fun x y => x - y) (i_min (i_istore 2 (i_aload 0 (i_dup (i_getI 11 73 (i_iload 2 (i_bin (fun x y => x - y) (i_putI 11 73 (i_aload 0 (i_dup (i_getI 11 74 (i_iload 2 (i_bin (fun x y => x + y) fX12_hang_105)))))))))))))))))))) (i_aload 0 (i_getR 11 64 (i_iload 2 (i_iaload (i_iload 1 (i_icne (fX12_hang_65 k32) (i_aload 0 (i_dup (i_getI 11 73 (i_aload 0 (i_getR 11 27 (i_iload 2 (i_iaload (i_bin (fun x y => x + y) (i_putI 11 73 (fX12_hang_65 k32))))))))))))))))))))
def fX12_hang_0 : Fn := (i_aload 0 (i_dup (i_getI 11 72 (i_aload 0 (i_getR 11 71 (i_iload 1 (i_iaload (i_bin (fun x y => x + y) (i_putI 11 72 (i_aload 0 (i_dup (i_getI 11 74 (i_aload 0 (i_getR 11 71 (i_iload 1 (i_iaload (i_bin (fun x y => x - y) (i_putI 11 74 (i_push (.int (0)) (i_istore 2 (fX12_hang_32 fuelN)))))))))))))))))))))
def mX12_hang : List Value → AH → Option Ou := runF 3 fX12_hang_0
def fX12_chosen_123 (k7 : Fn) (k28 : Fn) : Fn := (i_iinc 8 (1) k28)
def fX12_chosen_119 (k7 : Fn) (k28 : Fn) : Fn := (i_iload 8 (i_istore 7 (fX12_chosen_123 k7 k28)))
def fX12_chosen_78 (k7 : Fn) (k28 : Fn) : Fn := (i_icgt (fX12_chosen_123 k7 k28) (i_aload 0 (i_iload 8 (i_iload 1 (i_callV 11 2 mX12_slotsTo (i_push (.int (6)) (i_icle (i_iload 7 (i_push (.int (-1)) (i_iceq (fX12_chosen_119 k7 k28) (i_aload 0 (i_iload 8 (i_iload 1 (i_callV 11 2 mX12_minutesTo (i_aload 0 (i_iload 7 (i_iload 1 (i_callV 11 2 mX12_minutesTo (i_icge (fX12_chosen_123 k7 k28) (fX12_chosen_119 k7 k28))))))))))))) (fX12_chosen_123 k7 k28))))))))
def fX12_chosen_28 (k7 : Fn) : Nat → Fn
  | 0 => fun _ _ _ => none
  | n + 1 => let k28 := fX12_chosen_28 k7 n; (i_iload 8 (i_aload 0 (i_getI 11 5 (i_icge (i_iload 7 (i_push (.int (-1)) (i_icne (i_iload 5 (i_push (.int (1)) (i_iload 7 (i_bin (fun x y => x <<< (y &&& 31)) (i_bin (fun x y => x ||| y) (i_istore 5 (i_iinc 6 (1) k7))))))) (i_push (.int (-1)) i_ireturn)))) (i_aload 0 (i_getR 11 18 (i_iload 8 (i_iaload (i_iload 3 (i_icne (fX12_chosen_123 k7 k28) (i_iload 5 (i_iload 8 (i_callS 2 mX12_has (i_ifne (fX12_chosen_123 k7 k28) (i_aload 0 (i_getI 11 58 (i_iload 8 (i_callS 2 mX12_has (i_ifne (fX12_chosen_123 k7 k28) (i_aload 0 (i_getR 11 66 (i_iload 8 (i_iaload (i_iload 2 (fX12_chosen_78 k7 k28)))))))))))))))))))))))))
def fX12_chosen_7 : Nat → Fn
  | 0 => fun _ _ _ => none
  | n + 1 => let k7 := fX12_chosen_7 n; (i_iload 6 (i_aload 0 (i_getR 11 26 (i_push (.int (3)) (i_iload 1 (i_bin (fun x y => x * y) (i_iload 3 (i_bin (fun x y => x + y) (i_iaload (i_icge (i_iload 5 i_ireturn) (i_push (.int (-1)) (i_istore 7 (i_push (.int (0)) (i_istore 8 (fX12_chosen_28 k7 fuelN)))))))))))))))
def fX12_chosen_0 : Fn := (i_iload 4 (i_istore 5 (i_push (.int (0)) (i_istore 6 (fX12_chosen_7 fuelN)))))
def mX12_chosen : List Value → AH → Option Ou := runF 9 fX12_chosen_0
def fX12_setsOff_154 (k90 : Fn) : Fn := (i_iinc 5 (1) k90)
def fX12_setsOff_137 (k90 : Fn) : Fn := (i_aload 0 (i_getR 11 65 (i_iload 1 (i_iaload (i_aload 0 (i_getR 11 66 (i_iload 5 (i_iaload (i_max (i_iastore (fX12_setsOff_154 k90)))))))))))
def fX12_setsOff_90 : Nat → Fn
  | 0 => fun _ _ _ => none
  | n + 1 => let k90 := fX12_setsOff_90 n; (i_iload 5 (i_aload 0 (i_getI 11 5 (i_icge (i_aload 0 (i_dup (i_getI 11 72 (i_aload 0 (i_getR 11 27 (i_iload 1 (i_iaload (i_bin (fun x y => x - y) (i_putI 11 72 i_return))))))))) (i_iload 3 (i_iload 5 (i_callS 2 mX12_has (i_ifne (i_aload 0 (i_getR 11 66 (i_iload 5 (i_aload 0 (i_getR 11 64 (i_iload 1 (i_iaload (i_aload 0 (i_iload 5 (i_iload 1 (i_callV 11 2 mX12_slotsTo (i_bin (fun x y => x + y) (i_iastore (i_aload 0 (i_getR 11 65 (i_iload 1 (fX12_setsOff_137 k90))))))))))))))))) (fX12_setsOff_154 k90)))))))))
def fX12_setsOff_73 : Fn := (i_aload 0 (i_getR 11 63 (i_iload 1 (i_iaload (i_aload 0 (i_getR 11 25 (i_iload 1 (i_iaload (i_bin (fun x y => x + y) (i_iastore (i_push (.int (0)) (i_istore 5 (fX12_setsOff_90 fuelN)))))))))))))
def fX12_setsOff_38 (k6 : Fn) : Fn := (i_iinc 5 (1) k6)
def fX12_setsOff_6 : Nat → Fn
  | 0 => fun _ _ _ => none
  | n + 1 => let k6 := fX12_setsOff_6 n; (i_iload 5 (i_aload 0 (i_getI 11 5 (i_icge (i_aload 0 (i_getR 11 61 (i_iload 1 (i_push (.int (1)) (i_iastore (i_aload 0 (i_getR 11 62 (i_iload 1 (i_iload 3 (i_iastore (i_aload 0 (i_getR 11 63 (i_iload 1 (i_iload 2 (i_iload 4 (i_bin (fun x y => x + y) (i_iastore (i_aload 0 (i_getR 11 64 (i_iload 1 fX12_setsOff_73)))))))))))))))))))) (i_iload 3 (i_iload 5 (i_callS 2 mX12_has (i_ifeq (fX12_setsOff_38 k6) (i_iload 4 (i_aload 0 (i_iload 5 (i_iload 1 (i_callV 11 2 mX12_slotsTo (i_max (i_istore 4 (fX12_setsOff_38 k6))))))))))))))))
def fX12_setsOff_0 : Fn := (i_push (.int (0)) (i_istore 4 (i_push (.int (0)) (i_istore 5 (fX12_setsOff_6 fuelN)))))
def mX12_setsOff : List Value → AH → Option Ou := runF 6 fX12_setsOff_0
def fX12_finished_4 : Nat → Fn
  | 0 => fun _ _ _ => none
  | n + 1 => let k4 := fX12_finished_4 n; (i_iload 2 (i_aload 0 (i_getI 11 7 (i_icge (i_iload 1 i_ireturn) (i_iload 1 (i_aload 0 (i_getR 11 64 (i_iload 2 (i_iaload (i_max (i_istore 1 (i_iinc 2 (1) k4))))))))))))
def fX12_finished_0 : Fn := (i_push (.int (0)) (i_istore 1 (i_push (.int (0)) (i_istore 2 (fX12_finished_4 fuelN)))))
def mX12_finished : List Value → AH → Option Ou := runF 3 fX12_finished_0
def fX12_remember_49 : Nat → Fn
  | 0 => fun _ _ _ => none
  | n + 1 => let k49 := fX12_remember_49 n; (i_iload 1 (i_push (.int (5)) (i_icge (i_aload 0 (i_dup (i_getI 11 75 (i_push (.int (1)) (i_bin (fun x y => x + y) (i_putI 11 75 i_return)))))) (i_aload 0 (i_getR 11 76 (i_push (.int (5)) (i_aload 0 (i_getI 11 75 (i_bin (fun x y => x * y) (i_iload 1 (i_bin (fun x y => x + y) (i_aload 0 (i_getR 11 30 (i_iload 1 (i_iaload (i_iastore (i_iinc 1 (1) k49)))))))))))))))))
def fX12_remember_47 : Fn := (i_push (.int (0)) (i_istore 1 (fX12_remember_49 fuelN)))
def fX12_remember_11 : Nat → Fn
  | 0 => fun _ _ _ => none
  | n + 1 => let k11 := fX12_remember_11 n; (i_iload 1 (i_push (.int (35)) (i_icge (i_aload 0 (i_dup (i_getI 11 75 (i_push (.int (1)) (i_bin (fun x y => x - y) (i_putI 11 75 fX12_remember_47)))))) (i_aload 0 (i_getR 11 76 (i_iload 1 (i_aload 0 (i_getR 11 76 (i_iload 1 (i_push (.int (5)) (i_bin (fun x y => x + y) (i_iaload (i_iastore (i_iinc 1 (1) k11))))))))))))))
def fX12_remember_0 : Fn := (i_aload 0 (i_getI 11 75 (i_push (.int (8)) (i_icne fX12_remember_47 (i_push (.int (0)) (i_istore 1 (fX12_remember_11 fuelN)))))))
def mX12_remember : List Value → AH → Option Ou := runF 2 fX12_remember_0
def fX12_setStart_36 : Fn := (i_push (.int (0)) i_ireturn)
def fX12_setStart_29 : Fn := (i_push (.int (2)) (i_callV 11 2 mX12_fails (i_ifeq (i_aload 0 (i_callV 11 0 mX12_remember (i_aload 0 (i_getR 11 30 (i_iload 1 (i_iaload (i_istore 3 (i_aload 0 (i_getR 11 30 (i_iload 1 (i_iload 2 (i_iastore (i_iload 3 i_ireturn))))))))))))) fX12_setStart_36)))
def fX12_setStart_0 : Fn := (i_aload 0 (i_push (.int (0)) (i_putI 11 0 (i_aload 0 (i_iload 1 (i_callV 11 1 mX12_noDrill (i_ifne fX12_setStart_36 (i_aload 0 (i_iload 2 (i_push (.int (-1)) (i_push (.int (23)) (i_callS 3 mX12_inRange (i_ifne (i_push (.int (0)) fX12_setStart_29) (i_push (.int (1)) fX12_setStart_29))))))))))))))
def mX12_setStart : List Value → AH → Option Ou := runF 4 fX12_setStart_0
def fX12_start_23 : Fn := i_ireturn
def fX12_start_0 : Fn := (i_aload 0 (i_push (.int (0)) (i_putI 11 0 (i_aload 0 (i_iload 1 (i_callV 11 1 mX12_noDrill (i_ifeq (i_aload 0 (i_getR 11 30 (i_iload 1 (i_iaload fX12_start_23)))) (i_push (.int (0)) fX12_start_23))))))))
def mX12_start : List Value → AH → Option Ou := runF 2 fX12_start_0
def fX12_clearStarts_34 (k13 : Fn) : Fn := (i_callS 1 mX12_oneIf (i_bin (fun x y => x + y) (i_istore 1 (i_aload 0 (i_getR 11 30 (i_iload 2 (i_push (.int (-1)) (i_iastore (i_iinc 2 (1) k13)))))))))
def fX12_clearStarts_13 : Nat → Fn
  | 0 => fun _ _ _ => none
  | n + 1 => let k13 := fX12_clearStarts_13 n; (i_iload 2 (i_push (.int (5)) (i_icge (i_iload 1 i_ireturn) (i_iload 1 (i_aload 0 (i_getR 11 30 (i_iload 2 (i_iaload (i_push (.int (-1)) (i_iceq (i_push (.int (0)) (fX12_clearStarts_34 k13)) (i_push (.int (1)) (fX12_clearStarts_34 k13))))))))))))
def fX12_clearStarts_0 : Fn := (i_aload 0 (i_push (.int (0)) (i_putI 11 0 (i_aload 0 (i_callV 11 0 mX12_remember (i_push (.int (0)) (i_istore 1 (i_push (.int (0)) (i_istore 2 (fX12_clearStarts_13 fuelN))))))))))
def mX12_clearStarts : List Value → AH → Option Ou := runF 3 fX12_clearStarts_0
def fX12_undo_26 : Nat → Fn
  | 0 => fun _ _ _ => none
  | n + 1 => let k26 := fX12_undo_26 n; (i_iload 1 (i_push (.int (5)) (i_icge (i_aload 0 (i_getI 11 75 i_ireturn)) (i_aload 0 (i_getR 11 30 (i_iload 1 (i_aload 0 (i_getR 11 76 (i_push (.int (5)) (i_aload 0 (i_getI 11 75 (i_bin (fun x y => x * y) (i_iload 1 (i_bin (fun x y => x + y) (i_iaload (i_iastore (i_iinc 1 (1) k26)))))))))))))))))
def fX12_undo_0 : Fn := (i_aload 0 (i_push (.int (0)) (i_putI 11 0 (i_aload 0 (i_getI 11 75 (i_ifne (i_aload 0 (i_dup (i_getI 11 75 (i_push (.int (1)) (i_bin (fun x y => x - y) (i_putI 11 75 (i_push (.int (0)) (i_istore 1 (fX12_undo_26 fuelN))))))))) (i_push (.int (-1)) i_ireturn)))))))
def mX12_undo : List Value → AH → Option Ou := runF 2 fX12_undo_0
def fX12_violation_24 : Fn := (i_aload 0 (i_dup (i_getI 11 77 (i_push (.int (1)) (i_bin (fun x y => x + y) (i_putI 11 77 i_return))))))
def fX12_violation_0 : Fn := (i_aload 0 (i_getI 11 77 (i_iload 1 (i_icne fX12_violation_24 (i_aload 0 (i_iload 2 (i_putI 11 78 (i_aload 0 (i_iload 3 (i_putI 11 79 (i_aload 0 (i_iload 4 (i_putI 11 80 fX12_violation_24)))))))))))))
def mX12_violation : List Value → AH → Option Ou := runF 5 fX12_violation_0
def fX12_lowest_2 : Nat → Fn
  | 0 => fun _ _ _ => none
  | n + 1 => let k2 := fX12_lowest_2 n; (i_iload 0 (i_iload 1 (i_callS 2 mX12_has (i_ifne (i_iload 1 i_ireturn) (i_iinc 1 (1) k2)))))
def fX12_lowest_0 : Fn := (i_push (.int (0)) (i_istore 1 (fX12_lowest_2 fuelN)))
def mX12_lowest : List Value → AH → Option Ou := runF 2 fX12_lowest_0
def fX12_keepStarts_2 : Nat → Fn
  | 0 => fun _ _ _ => none
  | n + 1 => let k2 := fX12_keepStarts_2 n; (i_iload 1 (i_push (.int (5)) (i_icge i_return (i_aload 0 (i_getR 11 82 (i_iload 1 (i_aload 0 (i_getR 11 30 (i_iload 1 (i_iaload (i_iastore (i_aload 0 (i_getR 11 30 (i_iload 1 (i_push (.int (-1)) (i_iastore (i_iinc 1 (1) k2)))))))))))))))))
def fX12_keepStarts_0 : Fn := (i_push (.int (0)) (i_istore 1 (fX12_keepStarts_2 fuelN)))
def mX12_keepStarts : List Value → AH → Option Ou := runF 2 fX12_keepStarts_0
def fX12_putBack_2 : Nat → Fn
  | 0 => fun _ _ _ => none
  | n + 1 => let k2 := fX12_putBack_2 n; (i_iload 1 (i_push (.int (5)) (i_icge i_return (i_aload 0 (i_getR 11 30 (i_iload 1 (i_aload 0 (i_getR 11 82 (i_iload 1 (i_iaload (i_iastore (i_iinc 1 (1) k2))))))))))))
def fX12_putBack_0 : Fn := (i_push (.int (0)) (i_istore 1 (fX12_putBack_2 fuelN)))
def mX12_putBack : List Value → AH → Option Ou := runF 2 fX12_putBack_0
def fX12_readOrder_45 : Fn := (i_push (.int (-1)) i_ireturn)
def fX12_readOrder_52 (k7 : Fn) : Fn := (i_bin (fun x y => x ||| y) (i_istore 3 (i_aload 0 (i_getR 11 81 (i_iload 2 (i_iload 5 (i_iastore (i_iinc 2 (1) (i_iload 4 (i_push (.int (10)) (i_div (fun x y => x / y) (i_istore 4 k7))))))))))))
def fX12_readOrder_7 : Nat → Fn
  | 0 => fun _ _ _ => none
  | n + 1 => let k7 := fX12_readOrder_7 n; (i_iload 4 (i_ifle (i_iload 2 i_ireturn) (i_iload 4 (i_push (.int (10)) (i_div (fun x y => x - x / y * y) (i_push (.int (1)) (i_bin (fun x y => x - y) (i_istore 5 (i_iload 5 (i_push (.int (0)) (i_aload 0 (i_getI 11 7 (i_push (.int (1)) (i_bin (fun x y => x - y) (i_callS 3 mX12_inRange (i_ifeq fX12_readOrder_45 (i_iload 3 (i_iload 5 (i_callS 2 mX12_has (i_ifeq (i_iload 3 (i_push (.int (1)) (i_iload 5 (i_bin (fun x y => x <<< (y &&& 31)) (fX12_readOrder_52 k7))))) fX12_readOrder_45))))))))))))))))))))
def fX12_readOrder_0 : Fn := (i_push (.int (0)) (i_istore 2 (i_push (.int (0)) (i_istore 3 (i_iload 1 (i_istore 4 (fX12_readOrder_7 fuelN)))))))
def mX12_readOrder : List Value → AH → Option Ou := runF 6 fX12_readOrder_0
def fJ6_bitCount_0f7a4_32 : Fn := (i_bin (fun x y => x &&& y) (i_istore 0 (i_iload 0 (i_iload 0 (i_push (.int (8)) (i_bin (fun x y => (x.toUInt32 >>> (y.toUInt32 &&& Int32.toUInt32 31)).toInt32) (i_bin (fun x y => x + y) (i_istore 0 (i_iload 0 (i_iload 0 (i_push (.int (16)) (i_bin (fun x y => (x.toUInt32 >>> (y.toUInt32 &&& Int32.toUInt32 31)).toInt32) (i_bin (fun x y => x + y) (i_istore 0 (i_iload 0 (i_push (.int (63)) (i_bin (fun x y => x &&& y) i_ireturn)))))))))))))))))
def fJ6_bitCount_0f7a4_0 : Fn := (i_iload 0 (i_iload 0 (i_push (.int (1)) (i_bin (fun x y => (x.toUInt32 >>> (y.toUInt32 &&& Int32.toUInt32 31)).toInt32) (i_push (.int (1431655765)) (i_bin (fun x y => x &&& y) (i_bin (fun x y => x - y) (i_istore 0 (i_iload 0 (i_push (.int (858993459)) (i_bin (fun x y => x &&& y) (i_iload 0 (i_push (.int (2)) (i_bin (fun x y => (x.toUInt32 >>> (y.toUInt32 &&& Int32.toUInt32 31)).toInt32) (i_push (.int (858993459)) (i_bin (fun x y => x &&& y) (i_bin (fun x y => x + y) (i_istore 0 (i_iload 0 (i_iload 0 (i_push (.int (4)) (i_bin (fun x y => (x.toUInt32 >>> (y.toUInt32 &&& Int32.toUInt32 31)).toInt32) (i_bin (fun x y => x + y) (i_push (.int (252645135)) fJ6_bitCount_0f7a4_32))))))))))))))))))))))))
def mJ6_bitCount_0f7a4 : List Value → AH → Option Ou := runF 1 fJ6_bitCount_0f7a4_0
def fJ0_coder_7d493_14 : Fn := i_breturn
def fJ0_coder_7d493_0 : Fn := (i_push (.int 1) (i_ifeq (i_push (.int (1)) fJ0_coder_7d493_14) (i_aload 0 (i_strCod fJ0_coder_7d493_14))))
def mJ0_coder_7d493 : List Value → AH → Option Ou := runF 1 fJ0_coder_7d493_0
def fJ0_isLatin1_aae02_18 : Fn := i_zreturn
def fJ0_isLatin1_aae02_17 : Fn := (i_push (.int (0)) fJ0_isLatin1_aae02_18)
def fJ0_isLatin1_aae02_0 : Fn := (i_push (.int 1) (i_ifeq fJ0_isLatin1_aae02_17 (i_aload 0 (i_strCod (i_ifne fJ0_isLatin1_aae02_17 (i_push (.int (1)) fJ0_isLatin1_aae02_18))))))
def mJ0_isLatin1_aae02 : List Value → AH → Option Ou := runF 1 fJ0_isLatin1_aae02_0
def fJ1_charAt_3b067_0 : Fn := (i_iload 1 (i_aload 0 (i_strLen (i_callS 2 mJ0_checkIndex_df160 (i_aload 0 (i_iload 1 (i_strAt (i_push (.int (255)) (i_bin (fun x y => x &&& y) (i_i2c i_creturn))))))))))
def mJ1_charAt_3b067 : List Value → AH → Option Ou := runF 2 fJ1_charAt_3b067_0
def fJ7_fill_53178_5 : Nat → Fn
  | 0 => fun _ _ _ => none
  | n + 1 => let k5 := fJ7_fill_53178_5 n; (i_iload 2 (i_iload 3 (i_icge i_return (i_aload 0 (i_iload 2 (i_iload 1 (i_iastore (i_iinc 2 (1) k5))))))))
def fJ7_fill_53178_0 : Fn := (i_push (.int (0)) (i_istore 2 (i_aload 0 (i_alen (i_istore 3 (fJ7_fill_53178_5 fuelN))))))
def mJ7_fill_53178 : List Value → AH → Option Ou := runF 4 fJ7_fill_53178_0
def fX0_clear_73 : Nat → Fn
  | 0 => fun _ _ _ => none
  | n + 1 => let k73 := fX0_clear_73 n; (i_iload 1 (i_push (.int (12)) (i_icge i_return (i_aload 0 (i_getR 0 13 (i_iload 1 (i_push (.int (12)) (i_bin (fun x y => x * y) (i_iload 1 (i_bin (fun x y => x + y) (i_push (.int (0)) (i_callS 3 mX11_put (i_iinc 1 (1) k73)))))))))))))
def fX0_clear_42 : Fn := (i_push (.int (30)) (i_putI 0 6 (i_aload 0 (i_push (.int (0)) (i_putI 0 7 (i_aload 0 (i_push (.int (1)) (i_putI 0 8 (i_aload 0 (i_push (.int (1)) (i_putI 0 9 (i_aload 0 (i_getR 0 13 (i_push (.int (1000000)) (i_callS 2 mJ7_fill_53178 (i_push (.int (0)) (i_istore 1 (fX0_clear_73 fuelN))))))))))))))))))
def fX0_clear_0 : Fn := (i_aload 0 (i_getR 0 0 (i_push (.int (0)) (i_putI 7 0 (i_aload 0 (i_getR 0 1 (i_push (.int (0)) (i_putI 3 0 (i_aload 0 (i_push (.int (0)) (i_putI 0 2 (i_aload 0 (i_push (.int (0)) (i_putI 0 3 (i_aload 0 (i_push (.int (0)) (i_putI 0 4 (i_aload 0 (i_push (.int (0)) (i_putI 0 5 (i_aload 0 (i_push (.int (0)) (i_putI 0 10 (i_aload 0 fX0_clear_42))))))))))))))))))))))))
def mX0_clear : List Value → AH → Option Ou := runF 2 fX0_clear_0
def fX0_addRoad_34 : Fn := i_return
def fX0_addRoad_0 : Fn := (i_aload 0 (i_dup (i_getI 0 3 (i_push (.int (1)) (i_bin (fun x y => x + y) (i_putI 0 3 (i_iload 3 (i_aload 0 (i_iload 1 (i_iload 2 (i_callV 0 2 mX0_minutesBetween (i_icge fX0_addRoad_34 (i_aload 0 (i_iload 1 (i_iload 2 (i_iload 3 (i_callV 0 3 mX0_putWay (i_aload 0 (i_iload 2 (i_iload 1 (i_iload 3 (i_callV 0 3 mX0_putWay fX0_addRoad_34))))))))))))))))))))))
def mX0_addRoad : List Value → AH → Option Ou := runF 4 fX0_addRoad_0
def fX0_homeOf_0 : Fn := (i_aload 0 (i_getR 0 16 (i_iload 1 (i_callS 2 mX11_cell i_ireturn))))
def mX0_homeOf : List Value → AH → Option Ou := runF 2 fX0_homeOf_0
def fX0_kindOf_0 : Fn := (i_aload 0 (i_getR 0 15 (i_iload 1 (i_callS 2 mX11_cell i_ireturn))))
def mX0_kindOf : List Value → AH → Option Ou := runF 2 fX0_kindOf_0
def fX0_addName_0 : Fn := (i_aload 0 (i_getR 0 11 (i_aload 0 (i_getI 0 10 (i_iload 1 (i_callS 3 mX11_put (i_aload 0 (i_getR 0 12 (i_aload 0 (i_getI 0 10 (i_push (.int (100)) (i_iload 2 (i_bin (fun x y => x * y) (i_iload 3 (i_bin (fun x y => x + y) (i_callS 3 mX11_put (i_aload 0 (i_dup (i_getI 0 10 (i_push (.int (1)) (i_bin (fun x y => x + y) (i_putI 0 10 i_return))))))))))))))))))))))
def mX0_addName : List Value → AH → Option Ou := runF 4 fX0_addName_0
def fX1_takeFirstWord_0 : Fn := (i_aload 1 (i_tokLim (i_ifne (i_aload 0 (i_aload 1 (i_callV 1 1 mX1_statementsOf (i_aload 1 (i_tokLim (i_iclt (i_aload 0 (i_dup (i_getI 1 4 (i_push (.int (1)) (i_bin (fun x y => x + y) (i_putI 1 4 (i_push (.int (1)) i_zreturn))))))) (i_aload 0 (i_push (.int (4)) (i_aload 0 (i_getI 1 4 (i_callV 1 2 mX1_fail i_zreturn))))))))))) (i_aload 0 (i_push (.int (1)) (i_aload 0 (i_getI 1 4 (i_callV 1 2 mX1_fail i_zreturn))))))))
def mX1_takeFirstWord : List Value → AH → Option Ou := runF 2 fX1_takeFirstWord_0
def fX1_take_0 : Fn := (i_aload 0 (i_getR 1 2 (i_aload 0 (i_getI 1 4 (i_callV 9 1 mX10_sortAt (i_aload 1 (i_aceq (i_aload 0 (i_dup (i_getI 1 4 (i_push (.int (1)) (i_bin (fun x y => x + y) (i_putI 1 4 (i_push (.int (1)) i_zreturn))))))) (i_aload 0 (i_push (.int (1)) (i_aload 0 (i_getI 1 4 (i_callV 1 2 mX1_fail i_zreturn))))))))))))
def mX1_take : List Value → AH → Option Ou := runF 2 fX1_take_0
def fX1_takeIfThere_0 : Fn := (i_aload 0 (i_getR 1 2 (i_aload 0 (i_getI 1 4 (i_callV 9 1 mX10_sortAt (i_aload 1 (i_aceq (i_aload 0 (i_dup (i_getI 1 4 (i_push (.int (1)) (i_bin (fun x y => x + y) (i_putI 1 4 (i_push (.int (1)) i_zreturn))))))) (i_push (.int (0)) i_zreturn))))))))
def mX1_takeIfThere : List Value → AH → Option Ou := runF 2 fX1_takeIfThere_0
def fX1_takeKind_0 : Fn := (i_aload 0 (i_aload 0 (i_getR 1 2 (i_aload 0 (i_getI 1 4 (i_callV 9 1 mX10_sortAt (i_callS 1 mX1_kindOfWord (i_putI 1 10 (i_aload 0 (i_getI 1 10 (i_push (.int (-1)) (i_icne (i_aload 0 (i_dup (i_getI 1 4 (i_push (.int (1)) (i_bin (fun x y => x + y) (i_putI 1 4 (i_push (.int (1)) i_zreturn))))))) (i_aload 0 (i_push (.int (1)) (i_aload 0 (i_getI 1 4 (i_callV 1 2 mX1_fail i_zreturn)))))))))))))))))
def mX1_takeKind : List Value → AH → Option Ou := runF 1 fX1_takeKind_0
def fX2_standAtHome_68 (k10 : Fn) : Fn := (i_iinc 2 (1) k10)
def fX2_standAtHome_48 (k10 : Fn) : Fn := (i_icge (fX2_standAtHome_68 k10) (i_aload 0 (i_getR 2 3 (i_iload 2 (i_iload 3 (i_iastore (i_aload 0 (i_getR 2 4 (i_iload 3 (i_dup2 (i_iaload (i_push (.int (1)) (i_bin (fun x y => x + y) (i_iastore (fX2_standAtHome_68 k10)))))))))))))))
def fX2_standAtHome_10 : Nat → Fn
  | 0 => fun _ _ _ => none
  | n + 1 => let k10 := fX2_standAtHome_10 n; (i_iload 2 (i_push (.int (10)) (i_icge i_return (i_aload 0 (i_getR 2 0 (i_getR 0 16 (i_iload 2 (i_iaload (i_istore 3 (i_aload 0 (i_getR 2 3 (i_iload 2 (i_push (.int (-1)) (i_iastore (i_iload 1 (i_iload 2 (i_bin (fun x y => x >>> (y &&& 31)) (i_push (.int (1)) (i_bin (fun x y => x &&& y) (i_ifeq (fX2_standAtHome_68 k10) (i_iload 3 (i_iflt (fX2_standAtHome_68 k10) (i_iload 3 (i_push (.int (6)) (fX2_standAtHome_48 k10)))))))))))))))))))))))))
def fX2_standAtHome_0 : Fn := (i_aload 0 (i_getR 2 4 (i_push (.int (0)) (i_callS 2 mJ7_fill_53178 (i_push (.int (0)) (i_istore 2 (fX2_standAtHome_10 fuelN)))))))
def mX2_standAtHome : List Value → AH → Option Ou := runF 4 fX2_standAtHome_0
def fX2_moveUp_85 : Fn := i_return
def fX2_moveUp_79 (k7 : Fn) : Fn := (i_iinc 2 (1) k7)
def fX2_moveUp_77 (k7 : Fn) : Fn := (i_bin (fun x y => x + y) (i_iastore (fX2_moveUp_79 k7)))
def fX2_moveUp_42 (k7 : Fn) : Fn := (i_istore 3 (i_iload 3 (i_iflt (fX2_moveUp_79 k7) (i_iload 3 (i_push (.int (6)) (i_icge (fX2_moveUp_79 k7) (i_aload 0 (i_iload 3 (i_iload 2 (i_callV 2 2 mX2_sendLastEngine (i_aload 0 (i_getR 2 4 (i_iload 3 (i_dup2 (i_iaload (i_push (.int (1)) (i_bin (fun x y => x - y) (i_iastore (i_aload 0 (i_getR 2 4 (i_iload 2 (i_dup2 (i_iaload (i_push (.int (1)) (fX2_moveUp_77 k7)))))))))))))))))))))))))
def fX2_moveUp_7 : Nat → Fn
  | 0 => fun _ _ _ => none
  | n + 1 => let k7 := fX2_moveUp_7 n; (i_iload 2 (i_aload 0 (i_getR 2 0 (i_getI 0 4 (i_icge fX2_moveUp_85 (i_iload 2 (i_push (.int (6)) (i_icge fX2_moveUp_85 (i_aload 0 (i_getR 2 4 (i_iload 2 (i_iaload (i_ifne (i_push (.int (-1)) (fX2_moveUp_42 k7)) (i_aload 0 (i_iload 2 (i_callV 2 1 mX2_donorFor (fX2_moveUp_42 k7)))))))))))))))))
def fX2_moveUp_0 : Fn := (i_aload 0 (i_iload 1 (i_callV 2 1 mX2_standAtHome (i_push (.int (0)) (i_istore 2 (fX2_moveUp_7 fuelN))))))
def mX2_moveUp : List Value → AH → Option Ou := runF 4 fX2_moveUp_0
def fX2_postOf_0 : Fn := (i_aload 0 (i_getR 2 3 (i_iload 1 (i_callS 2 mX11_cell i_ireturn))))
def mX2_postOf : List Value → AH → Option Ou := runF 2 fX2_postOf_0
def fX2_openStreetsNow_4 : Nat → Fn
  | 0 => fun _ _ _ => none
  | n + 1 => let k4 := fX2_openStreetsNow_4 n; (i_iload 2 (i_push (.int (10)) (i_icge (i_push (.int (1)) (i_aload 0 (i_getR 2 0 (i_getR 0 0 (i_getI 7 0 (i_bin (fun x y => x <<< (y &&& 31)) (i_push (.int (1)) (i_bin (fun x y => x - y) (i_iload 1 (i_push (.int (-1)) (i_bin (fun x y => x ^^^ y) (i_bin (fun x y => x &&& y) i_ireturn)))))))))))) (i_iload 1 (i_aload 0 (i_iload 2 (i_callV 2 1 mX2_streetsCoveredBy (i_bin (fun x y => x ||| y) (i_istore 1 (i_iinc 2 (1) k4))))))))))
def fX2_openStreetsNow_0 : Fn := (i_push (.int (0)) (i_istore 1 (i_push (.int (0)) (i_istore 2 (fX2_openStreetsNow_4 fuelN)))))
def mX2_openStreetsNow : List Value → AH → Option Ou := runF 3 fX2_openStreetsNow_0
def fX2_enginesCovering_28 (k4 : Fn) : Fn := (i_iinc 3 (1) k4)
def fX2_enginesCovering_4 : Nat → Fn
  | 0 => fun _ _ _ => none
  | n + 1 => let k4 := fX2_enginesCovering_4 n; (i_iload 3 (i_push (.int (10)) (i_icge (i_iload 2 i_ireturn) (i_aload 0 (i_iload 3 (i_callV 2 1 mX2_streetsCoveredBy (i_iload 1 (i_bin (fun x y => x >>> (y &&& 31)) (i_push (.int (1)) (i_bin (fun x y => x &&& y) (i_ifeq (fX2_enginesCovering_28 k4) (i_iload 2 (i_push (.int (1)) (i_iload 3 (i_bin (fun x y => x <<< (y &&& 31)) (i_bin (fun x y => x ||| y) (i_istore 2 (fX2_enginesCovering_28 k4))))))))))))))))))
def fX2_enginesCovering_0 : Fn := (i_push (.int (0)) (i_istore 2 (i_push (.int (0)) (i_istore 3 (fX2_enginesCovering_4 fuelN)))))
def mX2_enginesCovering : List Value → AH → Option Ou := runF 4 fX2_enginesCovering_0
def fX3_open_62 : Nat → Fn
  | 0 => fun _ _ _ => none
  | n + 1 => let k62 := fX3_open_62 n; (i_iload 3 (i_push (.int (3)) (i_icge i_return (i_aload 0 (i_getR 3 6 (i_aload 0 (i_getI 3 0 (i_push (.int (3)) (i_bin (fun x y => x * y) (i_iload 3 (i_bin (fun x y => x + y) (i_push (.int (0)) (i_callS 3 mX11_put (i_iinc 3 (1) k62))))))))))))))
def fX3_open_48 : Fn := (i_aload 0 (i_getR 3 5 (i_aload 0 (i_getI 3 0 (i_push (.int (0)) (i_callS 3 mX11_put (i_push (.int (0)) (i_istore 3 (fX3_open_62 fuelN)))))))))
def fX3_open_0 : Fn := (i_aload 0 (i_getR 3 1 (i_aload 0 (i_getI 3 0 (i_iload 1 (i_callS 3 mX11_put (i_aload 0 (i_getR 3 2 (i_aload 0 (i_getI 3 0 (i_iload 2 (i_callS 3 mX11_put (i_aload 0 (i_getR 3 3 (i_aload 0 (i_getI 3 0 (i_push (.int (0)) (i_callS 3 mX11_put (i_aload 0 (i_getR 3 4 (i_aload 0 (i_getI 3 0 (i_push (.int (0)) (i_callS 3 mX11_put fX3_open_48))))))))))))))))))))))))
def mX3_open : List Value → AH → Option Ou := runF 4 fX3_open_0
def fX3_addNeed_0 : Fn := (i_aload 0 (i_getR 3 6 (i_aload 0 (i_getI 3 0 (i_push (.int (3)) (i_bin (fun x y => x * y) (i_iload 1 (i_bin (fun x y => x + y) (i_callS 2 mX11_cell (i_ifle (i_aload 0 (i_getR 3 6 (i_aload 0 (i_getI 3 0 (i_push (.int (3)) (i_bin (fun x y => x * y) (i_iload 1 (i_bin (fun x y => x + y) (i_iload 2 (i_callS 3 mX11_put (i_push (.int (1)) i_zreturn))))))))))) (i_push (.int (0)) i_zreturn)))))))))))
def mX3_addNeed : List Value → AH → Option Ou := runF 3 fX3_addNeed_0
def fX3_addAfter_0 : Fn := (i_aload 0 (i_getR 3 4 (i_aload 0 (i_getI 3 0 (i_callS 2 mX11_cell (i_istore 2 (i_iload 2 (i_iload 1 (i_bin (fun x y => x >>> (y &&& 31)) (i_push (.int (1)) (i_bin (fun x y => x &&& y) (i_ifeq (i_aload 0 (i_getR 3 4 (i_aload 0 (i_getI 3 0 (i_iload 2 (i_push (.int (1)) (i_iload 1 (i_bin (fun x y => x <<< (y &&& 31)) (i_bin (fun x y => x ||| y) (i_callS 3 mX11_put (i_push (.int (1)) i_zreturn))))))))))) (i_push (.int (0)) i_zreturn)))))))))))))
def mX3_addAfter : List Value → AH → Option Ou := runF 3 fX3_addAfter_0
def fX3_setHoses_0 : Fn := (i_aload 0 (i_getR 3 3 (i_aload 0 (i_getI 3 0 (i_iload 1 (i_callS 3 mX11_put i_return))))))
def mX3_setHoses : List Value → AH → Option Ou := runF 2 fX3_setHoses_0
def fX3_setFirstSlot_0 : Fn := (i_aload 0 (i_getR 3 5 (i_aload 0 (i_getI 3 0 (i_iload 1 (i_callS 3 mX11_put i_return))))))
def mX3_setFirstSlot : List Value → AH → Option Ou := runF 2 fX3_setFirstSlot_0
def fX3_rankAmong_59 (k16 : Fn) : Fn := (i_iinc 7 (1) k16)
def fX3_rankAmong_16 : Nat → Fn
  | 0 => fun _ _ _ => none
  | n + 1 => let k16 := fX3_rankAmong_16 n; (i_iload 7 (i_iload 2 (i_icge (i_iload 6 i_ireturn) (i_aload 0 (i_getR 3 8 (i_iload 1 (i_push (.int (10)) (i_bin (fun x y => x * y) (i_iload 7 (i_bin (fun x y => x + y) (i_callS 2 mX11_cell (i_istore 8 (i_aload 4 (i_aload 4 (i_iload 8 (i_callV 0 1 mX0_homeOf (i_iload 5 (i_callV 0 2 mX0_minutesFromStation (i_iload 3 (i_icgt (fX3_rankAmong_59 k16) (i_iinc 6 (1) (fX3_rankAmong_59 k16))))))))))))))))))))))
def fX3_rankAmong_0 : Fn := (i_aload 0 (i_getR 3 1 (i_iload 1 (i_callS 2 mX11_cell (i_istore 5 (i_push (.int (0)) (i_istore 6 (i_push (.int (0)) (i_istore 7 (fX3_rankAmong_16 fuelN))))))))))
def mX3_rankAmong : List Value → AH → Option Ou := runF 9 fX3_rankAmong_0
def fX3_insertCall_3 : Nat → Fn
  | 0 => fun _ _ _ => none
  | n + 1 => let k3 := fX3_insertCall_3 n; (i_iload 4 (i_iload 1 (i_icle (i_aload 0 (i_getR 3 8 (i_iload 1 (i_iload 3 (i_callS 3 mX11_put i_return))))) (i_aload 0 (i_getR 3 8 (i_iload 4 (i_aload 0 (i_getR 3 8 (i_iload 4 (i_push (.int (1)) (i_bin (fun x y => x - y) (i_callS 2 mX11_cell (i_callS 3 mX11_put (i_iinc 4 (-1) k3))))))))))))))
def fX3_insertCall_0 : Fn := (i_iload 2 (i_istore 4 (fX3_insertCall_3 fuelN)))
def mX3_insertCall : List Value → AH → Option Ou := runF 5 fX3_insertCall_0
def fX4_remember_32 : Nat → Fn
  | 0 => fun _ _ _ => none
  | n + 1 => let k32 := fX4_remember_32 n; (i_iload 2 (i_push (.int (5)) (i_icge (i_aload 0 (i_dup (i_getI 4 0 (i_push (.int (1)) (i_bin (fun x y => x + y) (i_putI 4 0 i_return)))))) (i_aload 0 (i_getR 4 1 (i_aload 0 (i_getI 4 0 (i_push (.int (5)) (i_bin (fun x y => x * y) (i_iload 2 (i_bin (fun x y => x + y) (i_aload 1 (i_iload 2 (i_callS 2 mX11_cell (i_callS 3 mX11_put (i_iinc 2 (1) k32))))))))))))))))
def fX4_remember_30 : Fn := (i_push (.int (0)) (i_istore 2 (fX4_remember_32 fuelN)))
def fX4_remember_0 : Fn := (i_aload 0 (i_getI 4 0 (i_push (.int (8)) (i_iclt fX4_remember_30 (i_aload 0 (i_getR 4 1 (i_push (.int (5)) (i_aload 0 (i_getR 4 1 (i_push (.int (0)) (i_push (.int (35)) (i_acopy (i_aload 0 (i_push (.int (7)) (i_putI 4 0 fX4_remember_30)))))))))))))))
def mX4_remember : List Value → AH → Option Ou := runF 3 fX4_remember_0
def fX4_restore_20 : Nat → Fn
  | 0 => fun _ _ _ => none
  | n + 1 => let k20 := fX4_restore_20 n; (i_iload 2 (i_push (.int (5)) (i_icge i_return (i_aload 1 (i_iload 2 (i_aload 0 (i_getR 4 1 (i_aload 0 (i_getI 4 0 (i_push (.int (5)) (i_bin (fun x y => x * y) (i_iload 2 (i_bin (fun x y => x + y) (i_callS 2 mX11_cell (i_callS 3 mX11_put (i_iinc 2 (1) k20))))))))))))))))
def fX4_restore_0 : Fn := (i_aload 0 (i_getI 4 0 (i_ifgt (i_aload 0 (i_dup (i_getI 4 0 (i_push (.int (1)) (i_bin (fun x y => x - y) (i_putI 4 0 (i_push (.int (0)) (i_istore 2 (fX4_restore_20 fuelN))))))))) i_return)))
def mX4_restore : List Value → AH → Option Ou := runF 3 fX4_restore_0
def fX5_refill_0 : Fn := (i_aload 0 (i_iload 1 (i_putI 5 3 (i_aload 0 (i_push (.int (0)) (i_putI 5 4 (i_aload 0 (i_push (.int (0)) (i_putI 5 5 (i_aload 0 (i_iload 2 (i_putI 5 6 (i_aload 0 (i_iload 3 (i_putI 5 7 (i_aload 0 (i_getR 5 8 (i_push (.int (0)) (i_callS 2 mJ7_fill_53178 (i_aload 0 (i_getR 5 9 (i_push (.int (0)) (i_callS 2 mJ7_fill_53178 i_return)))))))))))))))))))))))
def mX5_refill : List Value → AH → Option Ou := runF 4 fX5_refill_0
def fX5_advance_84 : Fn := (i_getR 5 8 (i_iload 1 (i_aload 0 (i_getI 5 7 (i_bin (fun x y => x + y) (i_iload 3 (i_callS 3 mX11_put i_return)))))))
def fX5_advance_42 : Fn := (i_bin (fun x y => x + y) (i_putI 5 4 (i_aload 0 (i_getI 5 4 (i_aload 0 (i_getI 5 6 (i_aload 0 (i_getI 5 5 (i_bin (fun x y => x - y) (i_min (i_istore 3 (i_aload 0 (i_dup (i_getI 5 4 (i_iload 3 (i_bin (fun x y => x - y) (i_putI 5 4 (i_aload 0 (i_dup (i_getI 5 5 (i_iload 3 (i_bin (fun x y => x + y) (i_putI 5 5 (i_aload 0 fX5_advance_84))))))))))))))))))))))))
def fX5_advance_0 : Fn := (i_aload 0 (i_getR 5 8 (i_iload 1 (i_callS 2 mX11_cell (i_istore 2 (i_aload 0 (i_dup (i_getI 5 3 (i_iload 2 (i_bin (fun x y => x + y) (i_putI 5 3 (i_aload 0 (i_dup (i_getI 5 5 (i_iload 2 (i_bin (fun x y => x - y) (i_putI 5 5 (i_aload 0 (i_dup (i_getI 5 4 (i_aload 0 (i_getR 5 9 (i_iload 1 (i_callS 2 mX11_cell fX5_advance_42))))))))))))))))))))))))
def mX5_advance : List Value → AH → Option Ou := runF 4 fX5_advance_0
def fX5_lend_0 : Fn := (i_aload 0 (i_dup (i_getI 5 3 (i_iload 1 (i_bin (fun x y => x - y) (i_putI 5 3 (i_aload 0 (i_getR 5 9 (i_iload 2 (i_aload 0 (i_getR 5 9 (i_iload 2 (i_callS 2 mX11_cell (i_iload 1 (i_bin (fun x y => x + y) (i_callS 3 mX11_put i_return))))))))))))))))
def mX5_lend : List Value → AH → Option Ou := runF 3 fX5_lend_0
def fX5_note_0 : Fn := (i_aload 0 (i_getR 5 0 (i_iload 1 (i_aload 0 (i_getI 5 3 (i_callS 3 mX11_put (i_aload 0 (i_getR 5 1 (i_iload 1 (i_aload 0 (i_getI 5 4 (i_callS 3 mX11_put (i_aload 0 (i_getR 5 2 (i_iload 1 (i_aload 0 (i_getI 5 5 (i_callS 3 mX11_put i_return))))))))))))))))))
def mX5_note : List Value → AH → Option Ou := runF 2 fX5_note_0
def fX7_add_46 : Fn := i_return
def fX7_add_0 : Fn := (i_aload 0 (i_getR 7 1 (i_aload 0 (i_getI 7 0 (i_iload 1 (i_callS 3 mX11_put (i_aload 0 (i_getR 7 2 (i_aload 0 (i_getI 7 0 (i_iload 2 (i_callS 3 mX11_put (i_aload 0 (i_getR 7 3 (i_aload 0 (i_getI 7 0 (i_iload 3 (i_callS 3 mX11_put (i_aload 0 (i_dup (i_getI 7 0 (i_push (.int (1)) (i_bin (fun x y => x + y) (i_putI 7 0 fX7_add_46))))))))))))))))))))))))
def mX7_add : List Value → AH → Option Ou := runF 4 fX7_add_0
def fX7_nodeOf_0 : Fn := (i_aload 0 (i_getR 7 1 (i_iload 1 (i_callS 2 mX11_cell i_ireturn))))
def mX7_nodeOf : List Value → AH → Option Ou := runF 2 fX7_nodeOf_0
def fX7_limitOf_0 : Fn := (i_aload 0 (i_getR 7 2 (i_iload 1 (i_callS 2 mX11_cell i_ireturn))))
def mX7_limitOf : List Value → AH → Option Ou := runF 2 fX7_limitOf_0
def fX7_admits_24 : Fn := i_zreturn
def fX7_admits_19 : Fn := (i_push (.int (1)) fX7_admits_24)
def fX7_admits_0 : Fn := (i_aload 0 (i_getR 7 3 (i_iload 1 (i_callS 2 mX11_cell (i_istore 3 (i_iload 3 (i_push (.int (-1)) (i_iceq fX7_admits_19 (i_iload 3 (i_iload 2 (i_icne (i_push (.int (0)) fX7_admits_24) fX7_admits_19)))))))))))
def mX7_admits : List Value → AH → Option Ou := runF 4 fX7_admits_0
def fX8_equipAs_0 : Fn := (i_aload 0 (i_aload 1 (i_callV 0 0 mX0_allEngines (i_aload 1 (i_getI 0 7 (i_aload 1 (i_getI 0 9 (i_callV 8 3 mX8_equip i_return))))))))
def mX8_equipAs : List Value → AH → Option Ou := runF 2 fX8_equipAs_0
def fX8_dropStarts_0 : Fn := (i_aload 0 (i_getR 8 1 (i_push (.int (-1)) (i_callS 2 mJ7_fill_53178 i_return))))
def mX8_dropStarts : List Value → AH → Option Ou := runF 1 fX8_dropStarts_0
def fX8_startOf_0 : Fn := (i_aload 0 (i_getR 8 1 (i_iload 1 (i_callS 2 mX11_cell i_ireturn))))
def mX8_startOf : List Value → AH → Option Ou := runF 2 fX8_startOf_0
def fX8_putStart_0 : Fn := (i_aload 0 (i_getR 8 1 (i_iload 1 (i_iload 2 (i_callS 3 mX11_put i_return)))))
def mX8_putStart : List Value → AH → Option Ou := runF 3 fX8_putStart_0
def fX8_slotOfViolation_0 : Fn := (i_aload 0 (i_getR 8 10 (i_iload 1 (i_callS 2 mX11_cell (i_push (.int (8)) (i_bin (fun x y => x >>> (y &&& 31)) i_ireturn))))))
def mX8_slotOfViolation : List Value → AH → Option Ou := runF 2 fX8_slotOfViolation_0
def fX8_codeOfViolation_0 : Fn := (i_aload 0 (i_getR 8 10 (i_iload 1 (i_callS 2 mX11_cell (i_push (.int (4)) (i_bin (fun x y => x >>> (y &&& 31)) (i_push (.int (15)) (i_bin (fun x y => x &&& y) i_ireturn))))))))
def mX8_codeOfViolation : List Value → AH → Option Ou := runF 2 fX8_codeOfViolation_0
def fX8_subjectOfViolation_0 : Fn := (i_aload 0 (i_getR 8 10 (i_iload 1 (i_callS 2 mX11_cell (i_push (.int (15)) (i_bin (fun x y => x &&& y) i_ireturn))))))
def mX8_subjectOfViolation : List Value → AH → Option Ou := runF 2 fX8_subjectOfViolation_0
def fX8_reset_82 : Nat → Fn
  | 0 => fun _ _ _ => none
  | n + 1 => let k82 := fX8_reset_82 n; (i_iload 1 (i_push (.int (5)) (i_icge i_return (i_aload 0 (i_aload 0 (i_getI 8 17 (i_aload 0 (i_getR 8 1 (i_iload 1 (i_iaload (i_max (i_putI 8 17 (i_iinc 1 (1) k82)))))))))))))
def fX8_reset_50 : Fn := (i_push (.int (-1)) (i_callS 2 mJ7_fill_53178 (i_aload 0 (i_getR 8 5 (i_push (.int (-1)) (i_callS 2 mJ7_fill_53178 (i_aload 0 (i_getR 8 6 (i_push (.int (-1)) (i_callS 2 mJ7_fill_53178 (i_aload 0 (i_push (.int (0)) (i_putI 8 16 (i_aload 0 (i_push (.int (-1)) (i_putI 8 17 (i_push (.int (0)) (i_istore 1 (fX8_reset_82 fuelN)))))))))))))))))))
def fX8_reset_0 : Fn := (i_aload 0 (i_getR 8 0 (i_aload 0 (i_getI 8 14 (i_aload 0 (i_getI 8 15 (i_aload 0 (i_getR 8 12 (i_getI 0 8 (i_callV 5 3 mX5_refill (i_aload 0 (i_getR 8 11 (i_push (.int (0)) (i_callS 2 mJ7_fill_53178 (i_aload 0 (i_getR 8 2 (i_push (.int (0)) (i_callS 2 mJ7_fill_53178 (i_aload 0 (i_getR 8 3 (i_push (.int (0)) (i_callS 2 mJ7_fill_53178 (i_aload 0 (i_getR 8 4 fX8_reset_50))))))))))))))))))))))))
def mX8_reset : List Value → AH → Option Ou := runF 2 fX8_reset_0
def fX8_followsOthers_57 (k18 : Fn) : Fn := (i_iinc 4 (1) k18)
def fX8_followsOthers_55 : Fn := (i_push (.int (0)) i_zreturn)
def fX8_followsOthers_18 : Nat → Fn
  | 0 => fun _ _ _ => none
  | n + 1 => let k18 := fX8_followsOthers_18 n; (i_iload 4 (i_push (.int (5)) (i_icge (i_push (.int (1)) i_zreturn) (i_iload 3 (i_iload 4 (i_bin (fun x y => x >>> (y &&& 31)) (i_push (.int (1)) (i_bin (fun x y => x &&& y) (i_ifeq (fX8_followsOthers_57 k18) (i_aload 0 (i_getR 8 2 (i_iload 4 (i_iaload (i_push (.int (1)) (i_icne fX8_followsOthers_55 (i_aload 0 (i_getR 8 5 (i_iload 4 (i_iaload (i_iload 2 (i_icle (fX8_followsOthers_57 k18) fX8_followsOthers_55)))))))))))))))))))))
def fX8_followsOthers_0 : Fn := (i_aload 0 (i_getR 8 12 (i_getR 0 1 (i_getR 3 4 (i_iload 1 (i_callS 2 mX11_cell (i_istore 3 (i_push (.int (0)) (i_istore 4 (fX8_followsOthers_18 fuelN))))))))))
def mX8_followsOthers : List Value → AH → Option Ou := runF 5 fX8_followsOthers_0
def fX8_chooseEngines_135 (k17 : Fn) : Fn := (i_iload 5 (i_ifle (i_iinc 4 (1) k17) (i_push (.int (0)) i_ireturn)))
def fX8_chooseEngines_129 (k17 : Fn) (k47 : Fn) : Fn := (i_iinc 6 (1) k47)
def fX8_chooseEngines_97 (k17 : Fn) (k47 : Fn) : Fn := (i_push (.int (1)) (i_bin (fun x y => x &&& y) (i_ifeq (fX8_chooseEngines_129 k17 k47) (i_aload 0 (i_getR 8 12 (i_getR 0 15 (i_iload 7 (i_callS 2 mX11_cell (i_iload 4 (i_icne (fX8_chooseEngines_129 k17 k47) (i_iload 3 (i_push (.int (1)) (i_iload 7 (i_bin (fun x y => x <<< (y &&& 31)) (i_bin (fun x y => x ||| y) (i_istore 3 (i_iinc 5 (-1) (fX8_chooseEngines_129 k17 k47))))))))))))))))))
def fX8_chooseEngines_47 (k17 : Fn) : Nat → Fn
  | 0 => fun _ _ _ => none
  | n + 1 => let k47 := fX8_chooseEngines_47 k17 n; (i_iload 6 (i_aload 0 (i_getR 8 12 (i_getR 0 1 (i_getR 3 9 (i_iload 1 (i_callS 2 mX11_cell (i_icge (fX8_chooseEngines_135 k17) (i_iload 5 (i_ifle (fX8_chooseEngines_135 k17) (i_aload 0 (i_getR 8 12 (i_getR 0 1 (i_getR 3 8 (i_iload 1 (i_push (.int (10)) (i_bin (fun x y => x * y) (i_iload 6 (i_bin (fun x y => x + y) (i_callS 2 mX11_cell (i_istore 7 (i_iload 2 (i_iload 7 (i_bin (fun x y => x >>> (y &&& 31)) (fX8_chooseEngines_97 k17 k47)))))))))))))))))))))))))
def fX8_chooseEngines_17 : Nat → Fn
  | 0 => fun _ _ _ => none
  | n + 1 => let k17 := fX8_chooseEngines_17 n; (i_iload 4 (i_push (.int (3)) (i_icge (i_iload 3 i_ireturn) (i_aload 0 (i_getR 8 12 (i_getR 0 1 (i_getR 3 6 (i_iload 1 (i_push (.int (3)) (i_bin (fun x y => x * y) (i_iload 4 (i_bin (fun x y => x + y) (i_callS 2 mX11_cell (i_istore 5 (i_push (.int (0)) (i_istore 6 (fX8_chooseEngines_47 k17 fuelN)))))))))))))))))
def fX8_chooseEngines_0 : Fn := (i_aload 0 (i_getI 8 13 (i_aload 0 (i_getI 8 16 (i_push (.int (-1)) (i_bin (fun x y => x ^^^ y) (i_bin (fun x y => x &&& y) (i_istore 2 (i_push (.int (0)) (i_istore 3 (i_push (.int (0)) (i_istore 4 (fX8_chooseEngines_17 fuelN)))))))))))))
def mX8_chooseEngines : List Value → AH → Option Ou := runF 8 fX8_chooseEngines_0
def fX8_sendOut_185 : Fn := (i_iload 5 (i_callS 3 mX11_put (i_aload 0 (i_getR 8 6 (i_iload 1 (i_iload 5 (i_iload 4 (i_bin (fun x y => x + y) (i_callS 3 mX11_put i_return)))))))))
def fX8_sendOut_143 (k79 : Fn) : Fn := (i_iinc 6 (1) k79)
def fX8_sendOut_124 (k79 : Fn) : Fn := (i_iload 7 (i_aload 0 (i_getR 8 11 (i_iload 7 (i_callS 2 mX11_cell (i_push (.int (1)) (i_iload 6 (i_bin (fun x y => x <<< (y &&& 31)) (i_bin (fun x y => x ||| y) (i_callS 3 mX11_put (fX8_sendOut_143 k79)))))))))))
def fX8_sendOut_79 : Nat → Fn
  | 0 => fun _ _ _ => none
  | n + 1 => let k79 := fX8_sendOut_79 n; (i_iload 6 (i_push (.int (10)) (i_icge (i_aload 0 (i_dup (i_getI 8 16 (i_iload 3 (i_bin (fun x y => x ||| y) (i_putI 8 16 (i_aload 0 (i_getR 8 3 (i_iload 1 (i_iload 3 (i_callS 3 mX11_put (i_aload 0 (i_getR 8 4 (i_iload 1 (i_iload 2 (i_iload 4 (i_bin (fun x y => x + y) (i_callS 3 mX11_put (i_aload 0 (i_getR 8 5 (i_iload 1 fX8_sendOut_185))))))))))))))))))))) (i_iload 3 (i_iload 6 (i_bin (fun x y => x >>> (y &&& 31)) (i_push (.int (1)) (i_bin (fun x y => x &&& y) (i_ifeq (fX8_sendOut_143 k79) (i_iload 5 (i_aload 0 (i_getR 8 12 (i_getR 0 1 (i_getR 3 7 (i_iload 1 (i_push (.int (10)) (i_bin (fun x y => x * y) (i_iload 6 (i_bin (fun x y => x + y) (i_callS 2 mX11_cell (i_bin (fun x y => x + y) (i_istore 7 (i_aload 0 (i_getR 8 11 (fX8_sendOut_124 k79)))))))))))))))))))))))))
def fX8_sendOut_49 (k6 : Fn) : Fn := (i_iinc 5 (1) k6)
def fX8_sendOut_6 : Nat → Fn
  | 0 => fun _ _ _ => none
  | n + 1 => let k6 := fX8_sendOut_6 n; (i_iload 5 (i_push (.int (10)) (i_icge (i_iload 2 (i_iload 4 (i_bin (fun x y => x + y) (i_aload 0 (i_getR 8 12 (i_getR 0 1 (i_getR 3 2 (i_iload 1 (i_callS 2 mX11_cell (i_bin (fun x y => x + y) (i_istore 5 (i_push (.int (0)) (i_istore 6 (fX8_sendOut_79 fuelN)))))))))))))) (i_iload 3 (i_iload 5 (i_bin (fun x y => x >>> (y &&& 31)) (i_push (.int (1)) (i_bin (fun x y => x &&& y) (i_ifeq (fX8_sendOut_49 k6) (i_iload 4 (i_aload 0 (i_getR 8 12 (i_getR 0 1 (i_getR 3 7 (i_iload 1 (i_push (.int (10)) (i_bin (fun x y => x * y) (i_iload 5 (i_bin (fun x y => x + y) (i_callS 2 mX11_cell (i_max (i_istore 4 (fX8_sendOut_49 k6)))))))))))))))))))))))
def fX8_sendOut_0 : Fn := (i_push (.int (0)) (i_istore 4 (i_push (.int (0)) (i_istore 5 (fX8_sendOut_6 fuelN)))))
def mX8_sendOut : List Value → AH → Option Ou := runF 8 fX8_sendOut_0
def fX8_addViolation_0 : Fn := (i_aload 0 (i_getR 8 10 (i_aload 0 (i_getI 8 8 (i_iload 1 (i_push (.int (8)) (i_bin (fun x y => x <<< (y &&& 31)) (i_iload 2 (i_push (.int (4)) (i_bin (fun x y => x <<< (y &&& 31)) (i_bin (fun x y => x ||| y) (i_iload 3 (i_bin (fun x y => x ||| y) (i_callS 3 mX11_put (i_aload 0 (i_dup (i_getI 8 8 (i_push (.int (1)) (i_bin (fun x y => x + y) (i_putI 8 8 i_return))))))))))))))))))))
def mX8_addViolation : List Value → AH → Option Ou := runF 4 fX8_addViolation_0
def fX10_offsetAt_0 : Fn := (i_aload 0 (i_getR 9 1 (i_iload 1 (i_callS 2 mX11_cell i_ireturn))))
def mX10_offsetAt : List Value → AH → Option Ou := runF 2 fX10_offsetAt_0
def fX10_valueAt_0 : Fn := (i_aload 0 (i_getR 9 2 (i_iload 1 (i_callS 2 mX11_cell i_ireturn))))
def mX10_valueAt : List Value → AH → Option Ou := runF 2 fX10_valueAt_0
def fX11_appendInput_0 : Fn := (i_aload 0 (i_getI 10 10 (i_push (.int (20)) (i_bin (fun x y => x + y) (i_push (.int (1000)) (i_icle (i_aload 0 (i_iload 1 (i_callV 10 1 mX11_appendFourBytes (i_aload 0 (i_iload 2 (i_callV 10 1 mX11_appendFourBytes (i_aload 0 (i_iload 3 (i_callV 10 1 mX11_appendFourBytes (i_aload 0 (i_iload 4 (i_callV 10 1 mX11_appendFourBytes (i_aload 0 (i_iload 5 (i_callV 10 1 mX11_appendFourBytes (i_aload 0 (i_getI 10 10 i_ireturn))))))))))))))))) (i_push (.int (-1)) i_ireturn)))))))
def mX11_appendInput : List Value → AH → Option Ou := runF 6 fX11_appendInput_0
def fX11_travelMinutes_0 : Fn := (i_iload 1 (i_aload 0 (i_getR 10 8 (i_getI 0 2 (i_callS 2 mX11_checkIndex (i_iload 2 (i_aload 0 (i_getR 10 8 (i_getI 0 2 (i_callS 2 mX11_checkIndex (i_aload 0 (i_getR 10 8 (i_iload 1 (i_iload 2 (i_callV 0 2 mX0_minutesBetween (i_callS 1 mX11_minusOneIfNoWay i_ireturn))))))))))))))))
def mX11_travelMinutes : List Value → AH → Option Ou := runF 3 fX11_travelMinutes_0
def fX11_travelSlots_0 : Fn := (i_iload 1 (i_aload 0 (i_getR 10 8 (i_getI 0 5 (i_callS 2 mX11_checkIndex (i_iload 2 (i_aload 0 (i_getR 10 8 (i_getR 0 1 (i_getI 3 0 (i_callS 2 mX11_checkIndex (i_aload 0 (i_getR 10 8 (i_getR 0 1 (i_getR 3 7 (i_iload 2 (i_push (.int (10)) (i_bin (fun x y => x * y) (i_iload 1 (i_bin (fun x y => x + y) (i_callS 2 mX11_cell (i_callS 1 mX11_minusOneIfNoWay i_ireturn))))))))))))))))))))))
def mX11_travelSlots : List Value → AH → Option Ou := runF 3 fX11_travelSlots_0
def fX11_homeStation_0 : Fn := (i_iload 1 (i_aload 0 (i_getR 10 8 (i_getI 0 5 (i_callS 2 mX11_checkIndex (i_aload 0 (i_getR 10 8 (i_iload 1 (i_callV 0 1 mX0_homeOf i_ireturn)))))))))
def mX11_homeStation : List Value → AH → Option Ou := runF 2 fX11_homeStation_0
def fX11_engineKind_0 : Fn := (i_iload 1 (i_aload 0 (i_getR 10 8 (i_getI 0 5 (i_callS 2 mX11_checkIndex (i_aload 0 (i_getR 10 8 (i_iload 1 (i_callV 0 1 mX0_kindOf i_ireturn)))))))))
def mX11_engineKind : List Value → AH → Option Ou := runF 2 fX11_engineKind_0
def fX11_coverStation_0 : Fn := (i_iload 2 (i_aload 0 (i_getR 10 8 (i_getI 0 5 (i_callS 2 mX11_checkIndex (i_aload 0 (i_iload 1 (i_callV 10 1 mX11_checkEngineSet (i_aload 0 (i_getR 10 4 (i_iload 1 (i_callV 2 1 mX2_moveUp (i_aload 0 (i_getR 10 4 (i_iload 2 (i_callV 2 1 mX2_postOf i_ireturn))))))))))))))))
def mX11_coverStation : List Value → AH → Option Ou := runF 3 fX11_coverStation_0
def fX11_uncoveredWithoutMoves_0 : Fn := (i_aload 0 (i_iload 1 (i_callV 10 1 mX11_checkEngineSet (i_aload 0 (i_getR 10 4 (i_iload 1 (i_callV 2 1 mX2_standAtHome (i_aload 0 (i_getR 10 4 (i_callV 2 0 mX2_openStreetsNow i_ireturn))))))))))
def mX11_uncoveredWithoutMoves : List Value → AH → Option Ou := runF 2 fX11_uncoveredWithoutMoves_0
def fX11_coveringEngines_0 : Fn := (i_iload 2 (i_aload 0 (i_getR 10 8 (i_getR 0 0 (i_getI 7 0 (i_callS 2 mX11_checkIndex (i_aload 0 (i_iload 1 (i_callV 10 1 mX11_checkEngineSet (i_aload 0 (i_getR 10 4 (i_iload 1 (i_callV 2 1 mX2_moveUp (i_aload 0 (i_getR 10 4 (i_iload 2 (i_callV 2 1 mX2_enginesCovering i_ireturn)))))))))))))))))
def mX11_coveringEngines : List Value → AH → Option Ou := runF 3 fX11_coveringEngines_0
def fX11_start_0 : Fn := (i_iload 1 (i_aload 0 (i_getR 10 8 (i_getR 0 1 (i_getI 3 0 (i_callS 2 mX11_checkIndex (i_aload 0 (i_getR 10 5 (i_iload 1 (i_callV 8 1 mX8_startOf i_ireturn))))))))))
def mX11_start : List Value → AH → Option Ou := runF 2 fX11_start_0
def fX11_drillState_0 : Fn := (i_iload 1 (i_aload 0 (i_getR 10 8 (i_getR 0 1 (i_getI 3 0 (i_callS 2 mX11_checkIndex (i_aload 0 (i_getR 10 5 (i_getR 8 2 (i_iload 1 (i_callS 2 mX11_cell i_ireturn)))))))))))
def mX11_drillState : List Value → AH → Option Ou := runF 2 fX11_drillState_0
def fX11_drillEngines_0 : Fn := (i_iload 1 (i_aload 0 (i_getR 10 8 (i_getR 0 1 (i_getI 3 0 (i_callS 2 mX11_checkIndex (i_aload 0 (i_getR 10 5 (i_getR 8 3 (i_iload 1 (i_callS 2 mX11_cell i_ireturn)))))))))))
def mX11_drillEngines : List Value → AH → Option Ou := runF 2 fX11_drillEngines_0
def fX11_drillBegin_0 : Fn := (i_iload 1 (i_aload 0 (i_getR 10 8 (i_getR 0 1 (i_getI 3 0 (i_callS 2 mX11_checkIndex (i_aload 0 (i_getR 10 5 (i_getR 8 4 (i_iload 1 (i_callS 2 mX11_cell i_ireturn)))))))))))
def mX11_drillBegin : List Value → AH → Option Ou := runF 2 fX11_drillBegin_0
def fX11_drillEnd_0 : Fn := (i_iload 1 (i_aload 0 (i_getR 10 8 (i_getR 0 1 (i_getI 3 0 (i_callS 2 mX11_checkIndex (i_aload 0 (i_getR 10 5 (i_getR 8 5 (i_iload 1 (i_callS 2 mX11_cell i_ireturn)))))))))))
def mX11_drillEnd : List Value → AH → Option Ou := runF 2 fX11_drillEnd_0
def fX11_drillBack_0 : Fn := (i_iload 1 (i_aload 0 (i_getR 10 8 (i_getR 0 1 (i_getI 3 0 (i_callS 2 mX11_checkIndex (i_aload 0 (i_getR 10 5 (i_getR 8 6 (i_iload 1 (i_callS 2 mX11_cell i_ireturn)))))))))))
def mX11_drillBack : List Value → AH → Option Ou := runF 2 fX11_drillBack_0
def fX11_violationCode_0 : Fn := (i_iload 1 (i_aload 0 (i_getR 10 5 (i_getI 8 8 (i_callS 2 mX11_checkIndex (i_aload 0 (i_getR 10 5 (i_iload 1 (i_callV 8 1 mX8_codeOfViolation i_ireturn)))))))))
def mX11_violationCode : List Value → AH → Option Ou := runF 2 fX11_violationCode_0
def fX11_violationSlot_0 : Fn := (i_iload 1 (i_aload 0 (i_getR 10 5 (i_getI 8 8 (i_callS 2 mX11_checkIndex (i_aload 0 (i_getR 10 5 (i_iload 1 (i_callV 8 1 mX8_slotOfViolation i_ireturn)))))))))
def mX11_violationSlot : List Value → AH → Option Ou := runF 2 fX11_violationSlot_0
def fX11_violationSubject_0 : Fn := (i_iload 1 (i_aload 0 (i_getR 10 5 (i_getI 8 8 (i_callS 2 mX11_checkIndex (i_aload 0 (i_getR 10 5 (i_iload 1 (i_callV 8 1 mX8_subjectOfViolation i_ireturn)))))))))
def mX11_violationSubject : List Value → AH → Option Ou := runF 2 fX11_violationSubject_0
def fX11_availableAt_0 : Fn := (i_iload 1 (i_push (.int (48)) (i_callS 2 mX11_checkIndex (i_aload 0 (i_getR 10 5 (i_getR 8 7 (i_iload 1 (i_callS 2 mX11_cell i_ireturn))))))))
def mX11_availableAt : List Value → AH → Option Ou := runF 2 fX11_availableAt_0
def fX11_dryHoses_0 : Fn := (i_iload 1 (i_push (.int (48)) (i_callS 2 mX11_checkIndex (i_aload 0 (i_getR 10 5 (i_getR 8 0 (i_getR 5 0 (i_iload 1 (i_callS 2 mX11_cell i_ireturn)))))))))
def mX11_dryHoses : List Value → AH → Option Ou := runF 2 fX11_dryHoses_0
def fX11_wetHoses_0 : Fn := (i_iload 1 (i_push (.int (48)) (i_callS 2 mX11_checkIndex (i_aload 0 (i_getR 10 5 (i_getR 8 0 (i_getR 5 1 (i_iload 1 (i_callS 2 mX11_cell i_ireturn)))))))))
def mX11_wetHoses : List Value → AH → Option Ou := runF 2 fX11_wetHoses_0
def fX11_dryingHoses_0 : Fn := (i_iload 1 (i_push (.int (48)) (i_callS 2 mX11_checkIndex (i_aload 0 (i_getR 10 5 (i_getR 8 0 (i_getR 5 2 (i_iload 1 (i_callS 2 mX11_cell i_ireturn)))))))))
def mX11_dryingHoses : List Value → AH → Option Ou := runF 2 fX11_dryingHoses_0
def fX11_awaySlots_42 (k15 : Fn) : Fn := (i_iinc 3 (1) k15)
def fX11_awaySlots_15 : Nat → Fn
  | 0 => fun _ _ _ => none
  | n + 1 => let k15 := fX11_awaySlots_15 n; (i_iload 3 (i_push (.int (48)) (i_icge (i_iload 2 i_ireturn) (i_aload 0 (i_getR 10 5 (i_getR 8 7 (i_iload 3 (i_callS 2 mX11_cell (i_iload 1 (i_bin (fun x y => x >>> (y &&& 31)) (i_push (.int (1)) (i_bin (fun x y => x &&& y) (i_ifne (fX11_awaySlots_42 k15) (i_iinc 2 (1) (fX11_awaySlots_42 k15)))))))))))))))
def fX11_awaySlots_0 : Fn := (i_iload 1 (i_aload 0 (i_getR 10 8 (i_getI 0 5 (i_callS 2 mX11_checkIndex (i_push (.int (0)) (i_istore 2 (i_push (.int (0)) (i_istore 3 (fX11_awaySlots_15 fuelN))))))))))
def mX11_awaySlots : List Value → AH → Option Ou := runF 4 fX11_awaySlots_0
def fX11_busiestSlot_40 (k7 : Fn) : Fn := (i_iinc 3 (1) k7)
def fX11_busiestSlot_7 : Nat → Fn
  | 0 => fun _ _ _ => none
  | n + 1 => let k7 := fX11_busiestSlot_7 n; (i_iload 3 (i_push (.int (48)) (i_icge (i_iload 1 i_ireturn) (i_aload 0 (i_getR 10 5 (i_getR 8 7 (i_iload 3 (i_callS 2 mX11_cell (i_callS 1 mJ6_bitCount_0f7a4 (i_istore 4 (i_iload 4 (i_iload 2 (i_icge (fX11_busiestSlot_40 k7) (i_iload 3 (i_istore 1 (i_iload 4 (i_istore 2 (fX11_busiestSlot_40 k7))))))))))))))))))
def fX11_busiestSlot_0 : Fn := (i_push (.int (0)) (i_istore 1 (i_push (.int (11)) (i_istore 2 (i_push (.int (0)) (i_istore 3 (fX11_busiestSlot_7 fuelN)))))))
def mX11_busiestSlot : List Value → AH → Option Ou := runF 5 fX11_busiestSlot_0
def fX12_init_359 : Fn := (i_dup (i_push (.int (4)) (i_push (.int (10000)) (i_iastore (i_putR 11 85 (i_aload 0 (i_callV 11 0 mX12_clear (i_aload 0 (i_callV 11 0 mX12_settle i_return)))))))))
def fX12_init_325 : Fn := (i_putR 11 81 (i_aload 0 (i_push (.int (5)) (i_newarr 1 5 (i_putR 11 82 (i_aload 0 (i_push (.int (5)) (i_newarr 1 5 (i_dup (i_push (.int (0)) (i_push (.int (1)) (i_iastore (i_dup (i_push (.int (1)) (i_push (.int (10)) (i_iastore (i_dup (i_push (.int (2)) (i_push (.int (100)) (i_iastore (i_dup (i_push (.int (3)) (i_push (.int (1000)) (i_iastore fX12_init_359))))))))))))))))))))))))
def fX12_init_278 : Fn := (i_putR 11 67 (i_aload 0 (i_push (.int (48)) (i_newarr 1 48 (i_putR 11 68 (i_aload 0 (i_push (.int (48)) (i_newarr 1 48 (i_putR 11 69 (i_aload 0 (i_push (.int (48)) (i_newarr 1 48 (i_putR 11 70 (i_aload 0 (i_push (.int (64)) (i_newarr 1 64 (i_putR 11 71 (i_aload 0 (i_push (.int (40)) (i_newarr 1 40 (i_putR 11 76 (i_aload 0 (i_push (.int (5)) (i_newarr 1 5 fX12_init_325))))))))))))))))))))))))
def fX12_init_234 : Fn := (i_putR 11 61 (i_aload 0 (i_push (.int (5)) (i_newarr 1 5 (i_putR 11 62 (i_aload 0 (i_push (.int (5)) (i_newarr 1 5 (i_putR 11 63 (i_aload 0 (i_push (.int (5)) (i_newarr 1 5 (i_putR 11 64 (i_aload 0 (i_push (.int (5)) (i_newarr 1 5 (i_putR 11 65 (i_aload 0 (i_push (.int (10)) (i_newarr 1 10 (i_putR 11 66 (i_aload 0 (i_push (.int (48)) (i_newarr 1 48 fX12_init_278))))))))))))))))))))))))
def fX12_init_186 : Fn := (i_newarr 1 1000 (i_putR 11 36 (i_aload 0 (i_push (.int (-1)) (i_putI 11 39 (i_aload 0 (i_push (.int (144)) (i_newarr 1 144 (i_putR 11 53 (i_aload 0 (i_push (.int (1024)) (i_newarr 1 1024 (i_putR 11 54 (i_aload 0 (i_push (.int (10)) (i_newarr 1 10 (i_putR 11 56 (i_aload 0 (i_push (.int (6)) (i_newarr 1 6 (i_putR 11 57 (i_aload 0 (i_push (.int (5)) (i_newarr 1 5 fX12_init_234))))))))))))))))))))))))
def fX12_init_138 : Fn := (i_newarr 1 5 (i_putR 11 28 (i_aload 0 (i_push (.int (5)) (i_newarr 1 5 (i_putR 11 29 (i_aload 0 (i_push (.int (5)) (i_newarr 1 5 (i_putR 11 30 (i_aload 0 (i_push (.int (220)) (i_newarr 1 220 (i_putR 11 31 (i_aload 0 (i_push (.int (33)) (i_newarr 3 33 (i_putR 11 32 (i_aload 0 (i_push (.int (10)) (i_newarr 1 10 (i_putR 11 35 (i_aload 0 (i_push (.int (1000)) fX12_init_186))))))))))))))))))))))))
def fX12_init_95 : Fn := (i_newarr 1 12 (i_putR 11 22 (i_aload 0 (i_push (.int (5)) (i_newarr 3 5 (i_putR 11 23 (i_aload 0 (i_push (.int (5)) (i_newarr 1 5 (i_putR 11 24 (i_aload 0 (i_push (.int (5)) (i_newarr 1 5 (i_putR 11 25 (i_aload 0 (i_push (.int (15)) (i_newarr 1 15 (i_putR 11 26 (i_aload 0 (i_push (.int (5)) (i_newarr 1 5 (i_putR 11 27 (i_aload 0 (i_push (.int (5)) fX12_init_138))))))))))))))))))))))))
def fX12_init_47 : Fn := (i_newarr 1 6 (i_putR 11 16 (i_aload 0 (i_push (.int (10)) (i_newarr 3 10 (i_putR 11 17 (i_aload 0 (i_push (.int (10)) (i_newarr 1 10 (i_putR 11 18 (i_aload 0 (i_push (.int (10)) (i_newarr 1 10 (i_putR 11 19 (i_aload 0 (i_push (.int (12)) (i_newarr 1 12 (i_putR 11 20 (i_aload 0 (i_push (.int (12)) (i_newarr 1 12 (i_putR 11 21 (i_aload 0 (i_push (.int (12)) fX12_init_95))))))))))))))))))))))))
def fX12_init_0 : Fn := (i_aload 0 (i_objInit (i_aload 0 (i_push (.int (12)) (i_newarr 3 12 (i_putR 11 11 (i_aload 0 (i_push (.int (20)) (i_newarr 1 20 (i_putR 11 12 (i_aload 0 (i_push (.int (20)) (i_newarr 1 20 (i_putR 11 13 (i_aload 0 (i_push (.int (20)) (i_newarr 1 20 (i_putR 11 14 (i_aload 0 (i_push (.int (6)) (i_newarr 3 6 (i_putR 11 15 (i_aload 0 (i_push (.int (6)) fX12_init_47))))))))))))))))))))))))
def mX12_init : List Value → AH → Option Ou := runF 1 fX12_init_0
def fX12_keep_208 : Fn := (i_aload 0 (i_aload 0 (i_getR 11 15 (i_push (.int (6)) (i_iload 1 (i_callV 11 3 mX12_keepNames (i_aload 0 (i_aload 0 (i_getR 11 17 (i_push (.int (10)) (i_iload 1 (i_callV 11 3 mX12_keepNames (i_aload 0 (i_aload 0 (i_getR 11 23 (i_push (.int (5)) (i_iload 1 (i_callV 11 3 mX12_keepNames i_return))))))))))))))))))
def fX12_keep_167 : Fn := (i_aload 0 (i_aload 0 (i_getR 11 27 (i_push (.int (5)) (i_iload 1 (i_callV 11 3 mX12_keepRow (i_aload 0 (i_aload 0 (i_getR 11 28 (i_push (.int (5)) (i_iload 1 (i_callV 11 3 mX12_keepRow (i_aload 0 (i_aload 0 (i_getR 11 29 (i_push (.int (5)) (i_iload 1 (i_callV 11 3 mX12_keepRow (i_aload 0 (i_aload 0 (i_getR 11 11 (i_push (.int (12)) (i_iload 1 (i_callV 11 3 mX12_keepNames fX12_keep_208))))))))))))))))))))))))
def fX12_keep_125 : Fn := (i_aload 0 (i_aload 0 (i_getR 11 22 (i_push (.int (12)) (i_iload 1 (i_callV 11 3 mX12_keepRow (i_aload 0 (i_aload 0 (i_getR 11 24 (i_push (.int (5)) (i_iload 1 (i_callV 11 3 mX12_keepRow (i_aload 0 (i_aload 0 (i_getR 11 25 (i_push (.int (5)) (i_iload 1 (i_callV 11 3 mX12_keepRow (i_aload 0 (i_aload 0 (i_getR 11 26 (i_push (.int (15)) (i_iload 1 (i_callV 11 3 mX12_keepRow fX12_keep_167))))))))))))))))))))))))
def fX12_keep_81 : Fn := (i_aload 0 (i_aload 0 (i_getR 11 18 (i_push (.int (10)) (i_iload 1 (i_callV 11 3 mX12_keepRow (i_aload 0 (i_aload 0 (i_getR 11 19 (i_push (.int (10)) (i_iload 1 (i_callV 11 3 mX12_keepRow (i_aload 0 (i_aload 0 (i_getR 11 20 (i_push (.int (12)) (i_iload 1 (i_callV 11 3 mX12_keepRow (i_aload 0 (i_aload 0 (i_getR 11 21 (i_push (.int (12)) (i_iload 1 (i_callV 11 3 mX12_keepRow fX12_keep_125))))))))))))))))))))))))
def fX12_keep_37 : Fn := (i_aload 0 (i_aload 0 (i_getR 11 12 (i_push (.int (20)) (i_iload 1 (i_callV 11 3 mX12_keepRow (i_aload 0 (i_aload 0 (i_getR 11 13 (i_push (.int (20)) (i_iload 1 (i_callV 11 3 mX12_keepRow (i_aload 0 (i_aload 0 (i_getR 11 14 (i_push (.int (20)) (i_iload 1 (i_callV 11 3 mX12_keepRow (i_aload 0 (i_aload 0 (i_getR 11 16 (i_push (.int (6)) (i_iload 1 (i_callV 11 3 mX12_keepRow fX12_keep_81))))))))))))))))))))))))
def fX12_keep_18 : Fn := (i_aload 0 (i_aload 0 (i_getR 11 35 (i_push (.int (10)) (i_iload 1 (i_callV 11 3 mX12_keepRow (i_iload 1 (i_ifeq fX12_keep_37 (i_aload 0 (i_callV 11 0 mX12_takeHead fX12_keep_37))))))))))
def fX12_keep_0 : Fn := (i_aload 0 (i_push (.int (0)) (i_putI 11 33 (i_aload 0 (i_push (.int (0)) (i_putI 11 34 (i_iload 1 (i_ifne fX12_keep_18 (i_aload 0 (i_callV 11 0 mX12_layHead fX12_keep_18))))))))))
def mX12_keep : List Value → AH → Option Ou := runF 2 fX12_keep_0
def fX12_launch_164 : Fn := i_return
def fX12_launch_117 : Fn := (i_iload 3 (i_push (.int (-1)) (i_icne (i_aload 0 (i_getI 11 72 (i_aload 0 (i_getR 11 27 (i_iload 1 (i_iaload (i_icge (i_aload 0 (i_iload 1 (i_iload 2 (i_iload 3 (i_callV 11 3 mX12_setsOff fX12_launch_164))))) (i_aload 0 (i_getR 11 61 (i_iload 1 (i_push (.int (-4)) (i_iastore fX12_launch_164)))))))))))) (i_aload 0 (i_getR 11 61 (i_iload 1 (i_push (.int (-3)) (i_iastore fX12_launch_164))))))))
def fX12_launch_90 : Nat → Fn
  | 0 => fun _ _ _ => none
  | n + 1 => let k90 := fX12_launch_90 n; (i_iload 4 (i_push (.int (3)) (i_icge fX12_launch_117 (i_iload 3 (i_push (.int (-1)) (i_iceq fX12_launch_117 (i_aload 0 (i_iload 1 (i_iload 2 (i_iload 4 (i_iload 3 (i_callV 11 4 mX12_chosen (i_istore 3 (i_iinc 4 (1) k90))))))))))))))
def fX12_launch_69 (k20 : Fn) : Fn := (i_iinc 3 (1) k20)
def fX12_launch_61 (k20 : Fn) : Fn := (i_aload 0 (i_getR 11 61 (i_iload 1 (i_push (.int (-2)) (i_iastore (fX12_launch_69 k20))))))
def fX12_launch_20 : Nat → Fn
  | 0 => fun _ _ _ => none
  | n + 1 => let k20 := fX12_launch_20 n; (i_iload 3 (i_aload 0 (i_getI 11 7 (i_icge (i_aload 0 (i_getR 11 61 (i_iload 1 (i_iaload (i_ifeq (i_push (.int (0)) (i_istore 3 (i_push (.int (0)) (i_istore 4 (fX12_launch_90 fuelN))))) i_return))))) (i_aload 0 (i_getR 11 28 (i_iload 1 (i_iaload (i_iload 3 (i_callS 2 mX12_has (i_ifeq (fX12_launch_69 k20) (i_aload 0 (i_getR 11 61 (i_iload 3 (i_iaload (i_push (.int (1)) (i_icne (fX12_launch_61 k20) (i_aload 0 (i_getR 11 64 (i_iload 3 (i_iaload (i_iload 2 (i_icle (fX12_launch_69 k20) (fX12_launch_61 k20))))))))))))))))))))))))
def fX12_launch_0 : Fn := (i_iload 2 (i_aload 0 (i_getR 11 29 (i_iload 1 (i_iaload (i_icge (i_push (.int (0)) (i_istore 3 (fX12_launch_20 fuelN))) (i_aload 0 (i_getR 11 61 (i_iload 1 (i_push (.int (-1)) (i_iastore i_return)))))))))))
def mX12_launch : List Value → AH → Option Ou := runF 5 fX12_launch_0
def fJ0_length_8abf5_0 : Fn := (i_aload 0 (i_strVal (i_strLen (i_aload 0 (i_callT 0 mJ0_coder_7d493 (i_bin (fun x y => x >>> (y &&& 31)) i_ireturn))))))
def mJ0_length_8abf5 : List Value → AH → Option Ou := runF 1 fJ0_length_8abf5_0
def fJ0_charAt_5068e_0 : Fn := (i_aload 0 (i_callT 0 mJ0_isLatin1_aae02 (i_ifeq (i_aload 0 (i_strVal (i_iload 1 i_fail))) (i_aload 0 (i_strVal (i_iload 1 (i_callS 2 mJ1_charAt_3b067 i_creturn)))))))
def mJ0_charAt_5068e : List Value → AH → Option Ou := runF 2 fJ0_charAt_5068e_0
def fX0_init_51 : Fn := (i_aload 0 (i_push (.int (6)) (i_newarr 1 6 (i_putR 0 14 (i_aload 0 (i_push (.int (10)) (i_newarr 1 10 (i_putR 0 15 (i_aload 0 (i_push (.int (10)) (i_newarr 1 10 (i_putR 0 16 (i_aload 0 (i_callV 0 0 mX0_clear i_return))))))))))))))
def fX0_init_0 : Fn := (i_aload 0 (i_objInit (i_aload 0 (i_new 7 (i_dup (i_callI 0 mX7_init (i_putR 0 0 (i_aload 0 (i_new 3 (i_dup (i_callI 0 mX3_init (i_putR 0 1 (i_aload 0 (i_push (.int (33)) (i_newarr 1 33 (i_putR 0 11 (i_aload 0 (i_push (.int (33)) (i_newarr 1 33 (i_putR 0 12 (i_aload 0 (i_push (.int (144)) (i_newarr 1 144 (i_putR 0 13 fX0_init_51))))))))))))))))))))))))
def mX0_init : List Value → AH → Option Ou := runF 1 fX0_init_0
def fX0_addNode_0 : Fn := (i_aload 0 (i_iload 1 (i_push (.int (0)) (i_aload 0 (i_getI 0 2 (i_callV 0 3 mX0_addName (i_aload 0 (i_dup (i_getI 0 2 (i_push (.int (1)) (i_bin (fun x y => x + y) (i_putI 0 2 i_return))))))))))))
def mX0_addNode : List Value → AH → Option Ou := runF 2 fX0_addNode_0
def fX0_addStation_0 : Fn := (i_aload 0 (i_iload 1 (i_push (.int (1)) (i_aload 0 (i_getI 0 4 (i_callV 0 3 mX0_addName (i_aload 0 (i_getR 0 14 (i_aload 0 (i_getI 0 4 (i_iload 2 (i_callS 3 mX11_put (i_aload 0 (i_dup (i_getI 0 4 (i_push (.int (1)) (i_bin (fun x y => x + y) (i_putI 0 4 i_return))))))))))))))))))
def mX0_addStation : List Value → AH → Option Ou := runF 3 fX0_addStation_0
def fX0_addEngine_44 : Fn := i_return
def fX0_addEngine_0 : Fn := (i_aload 0 (i_iload 1 (i_push (.int (2)) (i_aload 0 (i_getI 0 5 (i_callV 0 3 mX0_addName (i_aload 0 (i_getR 0 15 (i_aload 0 (i_getI 0 5 (i_iload 2 (i_callS 3 mX11_put (i_aload 0 (i_getR 0 16 (i_aload 0 (i_getI 0 5 (i_iload 3 (i_callS 3 mX11_put (i_aload 0 (i_dup (i_getI 0 5 (i_push (.int (1)) (i_bin (fun x y => x + y) (i_putI 0 5 fX0_addEngine_44))))))))))))))))))))))))
def mX0_addEngine : List Value → AH → Option Ou := runF 4 fX0_addEngine_0
def fX0_addDrill_0 : Fn := (i_aload 0 (i_iload 1 (i_push (.int (3)) (i_aload 0 (i_getR 0 1 (i_getI 3 0 (i_callV 0 3 mX0_addName (i_aload 0 (i_getR 0 1 (i_dup (i_getI 3 0 (i_push (.int (1)) (i_bin (fun x y => x + y) (i_putI 3 0 i_return))))))))))))))
def mX0_addDrill : List Value → AH → Option Ou := runF 2 fX0_addDrill_0
def fX1_takeNumber_64 : Fn := i_zreturn
def fX1_takeNumber_59 : Fn := (i_push (.int (1)) fX1_takeNumber_64)
def fX1_takeNumber_45 : Fn := (i_aload 0 (i_push (.int (2)) (i_aload 0 (i_getI 1 4 (i_push (.int (1)) (i_bin (fun x y => x - y) (i_callV 1 2 mX1_fail (i_ifeq (i_push (.int (0)) fX1_takeNumber_64) fX1_takeNumber_59))))))))
def fX1_takeNumber_0 : Fn := (i_aload 0 (i_push (.ref 1021) (i_callV 1 1 mX1_take (i_ifne (i_aload 0 (i_aload 0 (i_getR 1 2 (i_aload 0 (i_getI 1 4 (i_push (.int (1)) (i_bin (fun x y => x - y) (i_callV 9 1 mX10_valueAt (i_putI 1 7 (i_aload 0 (i_getI 1 7 (i_iload 1 (i_iclt fX1_takeNumber_45 (i_aload 0 (i_getI 1 7 (i_iload 2 (i_icle fX1_takeNumber_59 fX1_takeNumber_45))))))))))))))))) (i_push (.int (0)) i_zreturn)))))
def mX1_takeNumber : List Value → AH → Option Ou := runF 3 fX1_takeNumber_0
def fX1_takeNewName_63 : Fn := i_zreturn
def fX1_takeNewName_58 : Fn := (i_push (.int (1)) fX1_takeNewName_63)
def fX1_takeNewName_50 : Fn := (i_push (.int (1)) (i_bin (fun x y => x - y) (i_callV 1 2 mX1_fail (i_ifeq (i_push (.int (0)) fX1_takeNewName_63) fX1_takeNewName_58))))
def fX1_takeNewName_0 : Fn := (i_aload 0 (i_push (.ref 1020) (i_callV 1 1 mX1_take (i_ifne (i_aload 0 (i_aload 0 (i_getR 1 2 (i_aload 0 (i_getI 1 4 (i_push (.int (1)) (i_bin (fun x y => x - y) (i_callV 9 1 mX10_valueAt (i_putI 1 8 (i_aload 0 (i_getR 1 3 (i_aload 0 (i_getI 1 8 (i_callV 0 1 mX0_objectNamed (i_push (.int (-1)) (i_iceq fX1_takeNewName_58 (i_aload 0 (i_push (.int (3)) (i_aload 0 (i_getI 1 4 fX1_takeNewName_50)))))))))))))))))))) (i_push (.int (0)) i_zreturn)))))
def mX1_takeNewName : List Value → AH → Option Ou := runF 1 fX1_takeNewName_0
def fX1_takeObject_46 : Fn := (i_aload 0 (i_push (.int (3)) (i_aload 0 (i_getI 1 4 (i_push (.int (1)) (i_bin (fun x y => x - y) (i_callV 1 2 mX1_fail i_zreturn)))))))
def fX1_takeObject_59 : Fn := (i_iload 2 (i_push (.int (100)) (i_div (fun x y => x - x / y * y) (i_putI 1 9 (i_push (.int (1)) i_zreturn)))))
def fX1_takeObject_0 : Fn := (i_aload 0 (i_push (.ref 1020) (i_callV 1 1 mX1_take (i_ifne (i_aload 0 (i_getR 1 3 (i_aload 0 (i_getR 1 2 (i_aload 0 (i_getI 1 4 (i_push (.int (1)) (i_bin (fun x y => x - y) (i_callV 9 1 mX10_valueAt (i_callV 0 1 mX0_objectNamed (i_istore 2 (i_iload 2 (i_push (.int (-1)) (i_iceq fX1_takeObject_46 (i_iload 2 (i_push (.int (100)) (i_div (fun x y => x / y) (i_iload 1 (i_iceq (i_aload 0 fX1_takeObject_59) fX1_takeObject_46))))))))))))))))))) (i_push (.int (0)) i_zreturn)))))
def mX1_takeObject : List Value → AH → Option Ou := runF 3 fX1_takeObject_0
def fX2_openStreets_13 : Fn := (i_push (.int (0)) i_ireturn)
def fX2_openStreets_40 : Fn := (i_aload 0 (i_getR 2 1 (i_iload 1 (i_iaload i_ireturn))))
def fX2_openStreets_0 : Fn := (i_iload 1 (i_iflt fX2_openStreets_13 (i_iload 1 (i_aload 0 (i_getR 2 1 (i_alen (i_iclt (i_aload 0 (i_getR 2 1 (i_iload 1 (i_iaload (i_push (.int (-1)) (i_icne fX2_openStreets_40 (i_aload 0 (i_iload 1 (i_callV 2 1 mX2_moveUp (i_aload 0 (i_getR 2 1 (i_iload 1 (i_aload 0 (i_callV 2 0 mX2_openStreetsNow (i_iastore fX2_openStreets_40))))))))))))))) fX2_openStreets_13)))))))
def mX2_openStreets : List Value → AH → Option Ou := runF 2 fX2_openStreets_0
def fX2_minutesTo_80 (k18 : Fn) : Fn := (i_iinc 4 (1) k18)
def fX2_minutesTo_66 (k18 : Fn) : Fn := (i_getR 2 3 (i_iload 4 (i_iaload (i_iload 2 (i_callV 0 2 mX0_minutesFromStation (i_min (i_istore 3 (fX2_minutesTo_80 k18))))))))
def fX2_minutesTo_18 : Nat → Fn
  | 0 => fun _ _ _ => none
  | n + 1 => let k18 := fX2_minutesTo_18 n; (i_iload 4 (i_push (.int (10)) (i_icge (i_iload 3 i_ireturn) (i_aload 0 (i_getR 2 3 (i_iload 4 (i_iaload (i_push (.int (-1)) (i_iceq (fX2_minutesTo_80 k18) (i_aload 0 (i_getR 2 0 (i_getR 0 0 (i_iload 1 (i_aload 0 (i_getR 2 0 (i_getR 0 15 (i_iload 4 (i_iaload (i_callV 7 2 mX7_admits (i_ifeq (fX2_minutesTo_80 k18) (i_iload 3 (i_aload 0 (i_getR 2 0 (i_aload 0 (fX2_minutesTo_66 k18)))))))))))))))))))))))))
def fX2_minutesTo_0 : Fn := (i_aload 0 (i_getR 2 0 (i_getR 0 0 (i_iload 1 (i_callV 7 1 mX7_nodeOf (i_istore 2 (i_push (.int (1000000)) (i_istore 3 (i_push (.int (0)) (i_istore 4 (fX2_minutesTo_18 fuelN)))))))))))
def mX2_minutesTo : List Value → AH → Option Ou := runF 5 fX2_minutesTo_0
def fX2_streetsCoveredFrom_82 (k5 : Fn) : Fn := (i_iinc 4 (1) k5)
def fX2_streetsCoveredFrom_60 (k5 : Fn) : Fn := (i_aload 0 (i_getR 2 0 (i_getR 0 0 (i_iload 4 (i_callV 7 1 mX7_limitOf (i_icgt (fX2_streetsCoveredFrom_82 k5) (i_iload 3 (i_push (.int (1)) (i_iload 4 (i_bin (fun x y => x <<< (y &&& 31)) (i_bin (fun x y => x ||| y) (i_istore 3 (fX2_streetsCoveredFrom_82 k5)))))))))))))
def fX2_streetsCoveredFrom_5 : Nat → Fn
  | 0 => fun _ _ _ => none
  | n + 1 => let k5 := fX2_streetsCoveredFrom_5 n; (i_iload 4 (i_aload 0 (i_getR 2 0 (i_getR 0 0 (i_getI 7 0 (i_icge (i_iload 3 i_ireturn) (i_aload 0 (i_getR 2 0 (i_iload 1 (i_aload 0 (i_getR 2 0 (i_getR 0 0 (i_iload 4 (i_callV 7 1 mX7_nodeOf (i_callV 0 2 mX0_minutesFromStation (i_istore 5 (i_aload 0 (i_getR 2 0 (i_getR 0 0 (i_iload 4 (i_iload 2 (i_callV 7 2 mX7_admits (i_ifeq (fX2_streetsCoveredFrom_82 k5) (i_iload 5 (fX2_streetsCoveredFrom_60 k5)))))))))))))))))))))))))
def fX2_streetsCoveredFrom_0 : Fn := (i_push (.int (0)) (i_istore 3 (i_push (.int (0)) (i_istore 4 (fX2_streetsCoveredFrom_5 fuelN)))))
def mX2_streetsCoveredFrom : List Value → AH → Option Ou := runF 6 fX2_streetsCoveredFrom_0
def fX3_planCalls_103 (k15 : Fn) : Fn := (i_iinc 5 (1) k15)
def fX3_planCalls_61 (k15 : Fn) : Fn := (i_iload 7 (i_push (.int (6)) (i_icgt (fX3_planCalls_103 k15) (i_aload 0 (i_iload 1 (i_iload 4 (i_iload 6 (i_aload 2 (i_callV 3 4 mX3_rankAmong (i_istore 8 (i_aload 0 (i_iload 1 (i_push (.int (10)) (i_bin (fun x y => x * y) (i_iload 8 (i_bin (fun x y => x + y) (i_iload 1 (i_push (.int (10)) (i_bin (fun x y => x * y) (i_iload 4 (i_bin (fun x y => x + y) (i_iload 5 (i_callV 3 3 mX3_insertCall (i_iinc 4 (1) (fX3_planCalls_103 k15)))))))))))))))))))))))))
def fX3_planCalls_15 : Nat → Fn
  | 0 => fun _ _ _ => none
  | n + 1 => let k15 := fX3_planCalls_15 n; (i_iload 5 (i_aload 2 (i_getI 0 5 (i_icge (i_aload 0 (i_getR 3 9 (i_iload 1 (i_iload 4 (i_callS 3 mX11_put i_return))))) (i_aload 2 (i_aload 2 (i_iload 5 (i_callV 0 1 mX0_homeOf (i_iload 3 (i_callV 0 2 mX0_minutesFromStation (i_istore 6 (i_aload 2 (i_iload 6 (i_callV 0 1 mX0_slotsFor (i_istore 7 (i_aload 0 (i_getR 3 7 (i_iload 1 (i_push (.int (10)) (i_bin (fun x y => x * y) (i_iload 5 (i_bin (fun x y => x + y) (i_iload 7 (i_callS 3 mX11_put (fX3_planCalls_61 k15)))))))))))))))))))))))))
def fX3_planCalls_0 : Fn := (i_aload 0 (i_getR 3 1 (i_iload 1 (i_callS 2 mX11_cell (i_istore 3 (i_push (.int (0)) (i_istore 4 (i_push (.int (0)) (i_istore 5 (fX3_planCalls_15 fuelN))))))))))
def mX3_planCalls : List Value → AH → Option Ou := runF 9 fX3_planCalls_0
def fX8_serve_0 : Fn := (i_aload 0 (i_aload 1 (i_putR 8 12 (i_aload 0 (i_aload 1 (i_callV 8 1 mX8_equipAs (i_aload 0 (i_callV 8 0 mX8_dropStarts i_return))))))))
def mX8_serve : List Value → AH → Option Ou := runF 2 fX8_serve_0
def fX8_launch_147 : Fn := (i_callV 5 2 mX5_lend (i_push (.int (1)) i_zreturn))
def fX8_launch_87 : Fn := (i_iload 4 (i_ifeq (i_aload 0 (i_getR 8 2 (i_iload 1 (i_push (.int (1)) (i_callS 3 mX11_put (i_aload 0 (i_iload 1 (i_iload 2 (i_iload 3 (i_callV 8 3 mX8_sendOut (i_aload 0 (i_getR 8 0 (i_aload 0 (i_getR 8 12 (i_getR 0 1 (i_getR 3 3 (i_iload 1 (i_callS 2 mX11_cell (i_aload 0 (i_getR 8 5 (i_iload 1 (i_callS 2 mX11_cell fX8_launch_147)))))))))))))))))))))) (i_aload 0 (i_getR 8 2 (i_iload 1 (i_iload 4 (i_ineg (i_callS 3 mX11_put (i_push (.int (0)) i_zreturn)))))))))
def fX8_launch_61 : Fn := (i_getR 8 0 (i_getI 5 3 (i_aload 0 (i_getR 8 12 (i_getR 0 1 (i_getR 3 3 (i_iload 1 (i_callS 2 mX11_cell (i_icge fX8_launch_87 (i_push (.int (4)) (i_istore 4 fX8_launch_87)))))))))))
def fX8_launch_55 : Fn := (i_istore 4 fX8_launch_87)
def fX8_launch_0 : Fn := (i_push (.int (0)) (i_istore 3 (i_push (.int (0)) (i_istore 4 (i_iload 2 (i_aload 0 (i_getR 8 12 (i_getR 0 1 (i_getR 3 5 (i_iload 1 (i_callS 2 mX11_cell (i_icge (i_aload 0 (i_iload 1 (i_iload 2 (i_callV 8 2 mX8_followsOthers (i_ifne (i_aload 0 (i_iload 1 (i_callV 8 1 mX8_chooseEngines (i_istore 3 (i_iload 3 (i_ifne (i_aload 0 fX8_launch_61) (i_push (.int (3)) fX8_launch_55))))))) (i_push (.int (2)) (i_istore 4 fX8_launch_87))))))) (i_push (.int (1)) (i_istore 4 fX8_launch_87))))))))))))))
def mX8_launch : List Value → AH → Option Ou := runF 5 fX8_launch_0
def fX8_listCancelled_35 (k2 : Fn) : Fn := (i_iinc 3 (1) k2)
def fX8_listCancelled_2 : Nat → Fn
  | 0 => fun _ _ _ => none
  | n + 1 => let k2 := fX8_listCancelled_2 n; (i_iload 3 (i_push (.int (5)) (i_icge i_return (i_aload 0 (i_getR 8 1 (i_iload 3 (i_iaload (i_iload 1 (i_icne (fX8_listCancelled_35 k2) (i_aload 0 (i_getR 8 2 (i_iload 3 (i_iaload (i_iload 2 (i_ineg (i_icne (fX8_listCancelled_35 k2) (i_aload 0 (i_iload 1 (i_iload 2 (i_iload 3 (i_callV 8 3 mX8_addViolation (fX8_listCancelled_35 k2))))))))))))))))))))))
def fX8_listCancelled_0 : Fn := (i_push (.int (0)) (i_istore 3 (fX8_listCancelled_2 fuelN)))
def mX8_listCancelled : List Value → AH → Option Ou := runF 4 fX8_listCancelled_0
def fX10_isSpelled_20 : Fn := (i_push (.int (0)) i_zreturn)
def fX10_isSpelled_25 : Nat → Fn
  | 0 => fun _ _ _ => none
  | n + 1 => let k25 := fX10_isSpelled_25 n; (i_iload 4 (i_aload 0 (i_callT 0 mJ0_length_8abf5 (i_icge (i_push (.int (1)) i_zreturn) (i_aload 0 (i_iload 4 (i_callT 1 mJ0_charAt_5068e (i_aload 1 (i_iload 2 (i_iload 4 (i_bin (fun x y => x + y) (i_baload (i_iceq (i_iinc 4 (1) k25) (i_push (.int (0)) i_zreturn))))))))))))))
def fX10_isSpelled_0 : Fn := (i_aload 0 (i_callT 0 mJ0_length_8abf5 (i_iload 3 (i_iload 2 (i_bin (fun x y => x - y) (i_icne fX10_isSpelled_20 (i_iload 2 (i_iflt fX10_isSpelled_20 (i_iload 3 (i_aload 1 (i_alen (i_icle (i_push (.int (0)) (i_istore 4 (fX10_isSpelled_25 fuelN))) fX10_isSpelled_20))))))))))))
def mX10_isSpelled : List Value → AH → Option Ou := runF 5 fX10_isSpelled_0
def fX11_uncovered_0 : Fn := (i_aload 0 (i_iload 1 (i_callV 10 1 mX11_checkEngineSet (i_aload 0 (i_getR 10 4 (i_iload 1 (i_callV 2 1 mX2_openStreets i_ireturn)))))))
def mX11_uncovered : List Value → AH → Option Ou := runF 2 fX11_uncovered_0
def fX11_nearestMinutes_0 : Fn := (i_iload 2 (i_aload 0 (i_getR 10 8 (i_getR 0 0 (i_getI 7 0 (i_callS 2 mX11_checkIndex (i_aload 0 (i_iload 1 (i_callV 10 1 mX11_checkEngineSet (i_aload 0 (i_getR 10 4 (i_iload 1 (i_callV 2 1 mX2_moveUp (i_aload 0 (i_getR 10 4 (i_iload 2 (i_callV 2 1 mX2_minutesTo (i_callS 1 mX11_minusOneIfNoWay i_ireturn))))))))))))))))))
def mX11_nearestMinutes : List Value → AH → Option Ou := runF 3 fX11_nearestMinutes_0
def fX11_weakestStreet_92 (k20 : Fn) : Fn := (i_iinc 4 (1) k20)
def fX11_weakestStreet_86 (k20 : Fn) : Fn := (i_iload 4 (i_istore 2 (i_iload 6 (i_istore 3 (fX11_weakestStreet_92 k20)))))
def fX11_weakestStreet_73 (k20 : Fn) : Fn := (i_istore 6 (i_iload 2 (i_push (.int (-1)) (i_iceq (fX11_weakestStreet_86 k20) (i_iload 6 (i_iload 3 (i_icge (fX11_weakestStreet_92 k20) (fX11_weakestStreet_86 k20))))))))
def fX11_weakestStreet_20 : Nat → Fn
  | 0 => fun _ _ _ => none
  | n + 1 => let k20 := fX11_weakestStreet_20 n; (i_iload 4 (i_aload 0 (i_getR 10 8 (i_getR 0 0 (i_getI 7 0 (i_icge (i_iload 2 i_ireturn) (i_aload 0 (i_getR 10 4 (i_iload 4 (i_callV 2 1 mX2_minutesTo (i_istore 5 (i_iload 5 (i_push (.int (1000000)) (i_iclt (i_aload 0 (i_getR 10 8 (i_getR 0 0 (i_iload 4 (i_callV 7 1 mX7_limitOf (i_iload 5 (i_bin (fun x y => x - y) (fX11_weakestStreet_73 k20)))))))) (i_push (.int (-1000000)) (fX11_weakestStreet_73 k20))))))))))))))))
def fX11_weakestStreet_0 : Fn := (i_aload 0 (i_iload 1 (i_callV 10 1 mX11_checkEngineSet (i_aload 0 (i_getR 10 4 (i_iload 1 (i_callV 2 1 mX2_moveUp (i_push (.int (-1)) (i_istore 2 (i_push (.int (0)) (i_istore 3 (i_push (.int (0)) (i_istore 4 (fX11_weakestStreet_20 fuelN))))))))))))))
def mX11_weakestStreet : List Value → AH → Option Ou := runF 7 fX11_weakestStreet_0
def fX11_criticalEngine_53 (k6 : Fn) : Fn := (i_iinc 3 (1) k6)
def fX11_criticalEngine_50 (k6 : Fn) : Fn := (i_iload 4 (i_istore 2 (fX11_criticalEngine_53 k6)))
def fX11_criticalEngine_6 : Nat → Fn
  | 0 => fun _ _ _ => none
  | n + 1 => let k6 := fX11_criticalEngine_6 n; (i_iload 3 (i_aload 0 (i_getR 10 8 (i_getI 0 5 (i_icge (i_iload 1 i_ireturn) (i_aload 0 (i_getR 10 4 (i_aload 0 (i_getR 10 8 (i_callV 0 0 mX0_allEngines (i_push (.int (1)) (i_iload 3 (i_bin (fun x y => x <<< (y &&& 31)) (i_push (.int (-1)) (i_bin (fun x y => x ^^^ y) (i_bin (fun x y => x &&& y) (i_callV 2 1 mX2_openStreets (i_callS 1 mJ6_bitCount_0f7a4 (i_istore 4 (i_iload 4 (i_iload 2 (i_icle (fX11_criticalEngine_53 k6) (i_iload 3 (i_istore 1 (fX11_criticalEngine_50 k6)))))))))))))))))))))))))
def fX11_criticalEngine_0 : Fn := (i_push (.int (-1)) (i_istore 1 (i_push (.int (-1)) (i_istore 2 (i_push (.int (0)) (i_istore 3 (fX11_criticalEngine_6 fuelN)))))))
def mX11_criticalEngine : List Value → AH → Option Ou := runF 5 fX11_criticalEngine_0
def fX11_safeAbsences_55 (k20 : Fn) : Fn := (i_iinc 3 (1) k20)
def fX11_safeAbsences_20 : Nat → Fn
  | 0 => fun _ _ _ => none
  | n + 1 => let k20 := fX11_safeAbsences_20 n; (i_iload 3 (i_iload 1 (i_icgt (i_iload 2 (i_push (.int (1)) (i_bin (fun x y => x - y) i_ireturn))) (i_iload 3 (i_callS 1 mJ6_bitCount_0f7a4 (i_istore 4 (i_iload 4 (i_iload 2 (i_icge (fX11_safeAbsences_55 k20) (i_aload 0 (i_getR 10 4 (i_iload 1 (i_iload 3 (i_push (.int (-1)) (i_bin (fun x y => x ^^^ y) (i_bin (fun x y => x &&& y) (i_callV 2 1 mX2_openStreets (i_ifeq (fX11_safeAbsences_55 k20) (i_iload 4 (i_istore 2 (fX11_safeAbsences_55 k20)))))))))))))))))))))
def fX11_safeAbsences_0 : Fn := (i_aload 0 (i_getR 10 8 (i_callV 0 0 mX0_allEngines (i_istore 1 (i_aload 0 (i_getR 10 8 (i_getI 0 5 (i_push (.int (1)) (i_bin (fun x y => x + y) (i_istore 2 (i_push (.int (0)) (i_istore 3 (fX11_safeAbsences_20 fuelN)))))))))))))
def mX11_safeAbsences : List Value → AH → Option Ou := runF 5 fX11_safeAbsences_0
def fX11_uncoveredAt_0 : Fn := (i_iload 1 (i_push (.int (48)) (i_callS 2 mX11_checkIndex (i_aload 0 (i_getR 10 4 (i_aload 0 (i_getR 10 5 (i_getR 8 7 (i_iload 1 (i_callS 2 mX11_cell (i_callV 2 1 mX2_openStreets i_ireturn)))))))))))
def mX11_uncoveredAt : List Value → AH → Option Ou := runF 2 fX11_uncoveredAt_0
def fX12_isWord_24 : Fn := (i_push (.int (0)) i_zreturn)
def fX12_isWord_28 : Nat → Fn
  | 0 => fun _ _ _ => none
  | n + 1 => let k28 := fX12_isWord_28 n; (i_iload 2 (i_aload 1 (i_callT 0 mJ0_length_8abf5 (i_icge (i_push (.int (1)) i_zreturn) (i_aload 0 (i_getR 11 36 (i_aload 0 (i_getI 11 43 (i_iload 2 (i_bin (fun x y => x + y) (i_iaload (i_aload 1 (i_iload 2 (i_callT 1 mJ0_charAt_5068e (i_iceq (i_iinc 2 (1) k28) (i_push (.int (0)) i_zreturn))))))))))))))))
def fX12_isWord_0 : Fn := (i_aload 0 (i_getI 11 46 (i_push (.int (1)) (i_icne fX12_isWord_24 (i_aload 0 (i_getI 11 42 (i_aload 0 (i_getI 11 43 (i_bin (fun x y => x - y) (i_aload 1 (i_callT 0 mJ0_length_8abf5 (i_iceq (i_push (.int (0)) (i_istore 2 (fX12_isWord_28 fuelN))) fX12_isWord_24))))))))))))
def mX12_isWord : List Value → AH → Option Ou := runF 3 fX12_isWord_0
def fX12_takesWord_0 : Fn := (i_aload 0 (i_aload 1 (i_callV 11 1 mX12_isWord (i_ifne (i_aload 0 (i_callV 11 0 mX12_advance (i_push (.int (1)) i_zreturn))) (i_push (.int (0)) i_zreturn)))))
def mX12_takesWord : List Value → AH → Option Ou := runF 2 fX12_takesWord_0
def fX12_needsWord_25 : Fn := i_zreturn
def fX12_needsWord_20 : Fn := (i_push (.int (1)) fX12_needsWord_25)
def fX12_needsWord_0 : Fn := (i_aload 0 (i_aload 1 (i_callV 11 1 mX12_takesWord (i_ifne fX12_needsWord_20 (i_aload 0 (i_push (.int (1)) (i_aload 0 (i_getI 11 43 (i_callV 11 2 mX12_failsAt (i_ifeq (i_push (.int (0)) fX12_needsWord_25) fX12_needsWord_20))))))))))
def mX12_needsWord : List Value → AH → Option Ou := runF 2 fX12_needsWord_0
def fX12_sortHere_43 : Fn := i_ireturn
def fX12_sortHere_0 : Fn := (i_aload 0 (i_push (.ref 2023) (i_callV 11 1 mX12_isWord (i_ifeq (i_aload 0 (i_push (.ref 2024) (i_callV 11 1 mX12_isWord (i_ifeq (i_aload 0 (i_push (.ref 2025) (i_callV 11 1 mX12_isWord (i_ifeq (i_push (.int (-1)) fX12_sortHere_43) (i_push (.int (2)) fX12_sortHere_43))))) (i_push (.int (1)) fX12_sortHere_43))))) (i_push (.int (0)) fX12_sortHere_43)))))
def mX12_sortHere : List Value → AH → Option Ou := runF 1 fX12_sortHere_0
def fX12_isReserved_203 : Fn := i_zreturn
def fX12_isReserved_198 : Fn := (i_push (.int (1)) fX12_isReserved_203)
def fX12_isReserved_181 : Fn := (i_istore 2 (i_iload 1 (i_ifne fX12_isReserved_198 (i_iload 2 (i_ifne fX12_isReserved_198 (i_aload 0 (i_callV 11 0 mX12_sortHere (i_push (.int (-1)) (i_iceq (i_push (.int (0)) fX12_isReserved_203) fX12_isReserved_198)))))))))
def fX12_isReserved_176 : Fn := (i_push (.int (1)) fX12_isReserved_181)
def fX12_isReserved_143 : Fn := (i_ifne fX12_isReserved_176 (i_aload 0 (i_push (.ref 2020) (i_callV 11 1 mX12_isWord (i_ifne fX12_isReserved_176 (i_aload 0 (i_push (.ref 2021) (i_callV 11 1 mX12_isWord (i_ifne fX12_isReserved_176 (i_aload 0 (i_push (.ref 2022) (i_callV 11 1 mX12_isWord (i_ifeq (i_push (.int (0)) fX12_isReserved_181) fX12_isReserved_176)))))))))))))
def fX12_isReserved_85 : Fn := (i_istore 1 (i_aload 0 (i_push (.ref 2014) (i_callV 11 1 mX12_isWord (i_ifne fX12_isReserved_176 (i_aload 0 (i_push (.ref 2015) (i_callV 11 1 mX12_isWord (i_ifne fX12_isReserved_176 (i_aload 0 (i_push (.ref 2016) (i_callV 11 1 mX12_isWord (i_ifne fX12_isReserved_176 (i_aload 0 (i_push (.ref 2017) (i_callV 11 1 mX12_isWord (i_ifne fX12_isReserved_176 (i_aload 0 (i_push (.ref 2018) (i_callV 11 1 mX12_isWord (i_ifne fX12_isReserved_176 (i_aload 0 (i_push (.ref 2019) (i_callV 11 1 mX12_isWord fX12_isReserved_143))))))))))))))))))))))))
def fX12_isReserved_80 : Fn := (i_push (.int (1)) fX12_isReserved_85)
def fX12_isReserved_60 : Fn := (i_aload 0 (i_push (.ref 2012) (i_callV 11 1 mX12_isWord (i_ifne fX12_isReserved_80 (i_aload 0 (i_push (.ref 2013) (i_callV 11 1 mX12_isWord (i_ifeq (i_push (.int (0)) fX12_isReserved_85) fX12_isReserved_80))))))))
def fX12_isReserved_0 : Fn := (i_aload 0 (i_push (.ref 2006) (i_callV 11 1 mX12_isWord (i_ifne fX12_isReserved_80 (i_aload 0 (i_push (.ref 2007) (i_callV 11 1 mX12_isWord (i_ifne fX12_isReserved_80 (i_aload 0 (i_push (.ref 2008) (i_callV 11 1 mX12_isWord (i_ifne fX12_isReserved_80 (i_aload 0 (i_push (.ref 2009) (i_callV 11 1 mX12_isWord (i_ifne fX12_isReserved_80 (i_aload 0 (i_push (.ref 2010) (i_callV 11 1 mX12_isWord (i_ifne fX12_isReserved_80 (i_aload 0 (i_push (.ref 2011) (i_callV 11 1 mX12_isWord (i_ifne fX12_isReserved_80 fX12_isReserved_60))))))))))))))))))))))))
def mX12_isReserved : List Value → AH → Option Ou := runF 3 fX12_isReserved_0
def fX12_isName_34 : Fn := i_zreturn
def fX12_isName_33 : Fn := (i_push (.int (0)) fX12_isName_34)
def fX12_isName_0 : Fn := (i_aload 0 (i_getI 11 46 (i_push (.int (1)) (i_icne fX12_isName_33 (i_aload 0 (i_getI 11 42 (i_aload 0 (i_getI 11 43 (i_bin (fun x y => x - y) (i_push (.int (6)) (i_icgt fX12_isName_33 (i_aload 0 (i_callV 11 0 mX12_isReserved (i_ifne fX12_isName_33 (i_push (.int (1)) fX12_isName_34)))))))))))))))
def mX12_isName : List Value → AH → Option Ou := runF 1 fX12_isName_0
def fX12_needsNewName_0 : Fn := (i_aload 0 (i_callV 11 0 mX12_isName (i_ifne (i_aload 0 (i_aload 0 (i_getL 11 45 (i_callV 11 1 mX12_isGiven (i_ifeq (i_aload 0 (i_aload 0 (i_getL 11 45 (i_putL 11 50 (i_aload 0 (i_callV 11 0 mX12_advance (i_push (.int (1)) i_zreturn))))))) (i_aload 0 (i_push (.int (3)) (i_aload 0 (i_getI 11 43 (i_callV 11 2 mX12_failsAt i_zreturn)))))))))) (i_aload 0 (i_push (.int (1)) (i_aload 0 (i_getI 11 43 (i_callV 11 2 mX12_failsAt i_zreturn))))))))
def mX12_needsNewName : List Value → AH → Option Ou := runF 1 fX12_needsNewName_0
def fX12_needsName_46 : Fn := (i_aload 0 (i_push (.int (3)) (i_aload 0 (i_getI 11 43 (i_callV 11 2 mX12_failsAt i_zreturn)))))
def fX12_needsName_0 : Fn := (i_aload 0 (i_callV 11 0 mX12_isName (i_ifne (i_aload 0 (i_aload 1 (i_iload 2 (i_aload 0 (i_getL 11 45 (i_callS 3 mX12_named (i_putI 11 51 (i_aload 0 (i_getI 11 51 (i_push (.int (-1)) (i_iceq fX12_needsName_46 (i_aload 0 (i_getI 11 51 (i_iload 3 (i_icne (i_aload 0 (i_callV 11 0 mX12_advance (i_push (.int (1)) i_zreturn))) fX12_needsName_46))))))))))))))) (i_aload 0 (i_push (.int (1)) (i_aload 0 (i_getI 11 43 (i_callV 11 2 mX12_failsAt i_zreturn))))))))
def mX12_needsName : List Value → AH → Option Ou := runF 4 fX12_needsName_0
def fX12_readNode_29 : Fn := (i_push (.int (0)) i_zreturn)
def fX12_readNode_15 : Fn := (i_iload 1 (i_callV 11 2 mX12_mayAdd (i_ifeq fX12_readNode_29 (i_aload 0 (i_callV 11 0 mX12_needsNewName (i_ifne (i_aload 0 (i_getR 11 11 (i_aload 0 (i_getI 11 2 (i_aload 0 (i_getL 11 50 (i_lastore (i_aload 0 (i_dup (i_getI 11 2 (i_push (.int (1)) (i_bin (fun x y => x + y) (i_putI 11 2 (i_push (.int (1)) i_zreturn)))))))))))))) fX12_readNode_29))))))
def fX12_readNode_0 : Fn := (i_aload 0 (i_aload 0 (i_getI 11 2 (i_push (.int (12)) (i_icge (i_push (.int (0)) fX12_readNode_15) (i_push (.int (1)) fX12_readNode_15))))))
def mX12_readNode : List Value → AH → Option Ou := runF 2 fX12_readNode_0
def fX12_readRoad_38 : Fn := (i_push (.int (0)) i_zreturn)
def fX12_readRoad_114 : Fn := (i_getI 11 3 (i_push (.int (1)) (i_bin (fun x y => x + y) (i_putI 11 3 (i_push (.int (1)) i_zreturn)))))
def fX12_readRoad_63 : Fn := (i_getI 11 51 (i_callV 11 3 mX12_needsName (i_ifne (i_aload 0 (i_getR 11 13 (i_aload 0 (i_getI 11 3 (i_aload 0 (i_getI 11 51 (i_iastore (i_aload 0 (i_push (.int (1)) (i_push (.int (60)) (i_callV 11 2 mX12_needsNumber (i_ifne (i_aload 0 (i_getR 11 14 (i_aload 0 (i_getI 11 3 (i_aload 0 (i_getI 11 49 (i_iastore (i_aload 0 (i_dup fX12_readRoad_114))))))))) (i_push (.int (0)) i_zreturn))))))))))))) (i_push (.int (0)) i_zreturn))))
def fX12_readRoad_15 : Fn := (i_iload 1 (i_callV 11 2 mX12_mayAdd (i_ifeq fX12_readRoad_38 (i_aload 0 (i_aload 0 (i_getR 11 11 (i_aload 0 (i_getI 11 2 (i_push (.int (-1)) (i_callV 11 3 mX12_needsName (i_ifne (i_aload 0 (i_getR 11 12 (i_aload 0 (i_getI 11 3 (i_aload 0 (i_getI 11 51 (i_iastore (i_aload 0 (i_aload 0 (i_getR 11 11 (i_aload 0 (i_getI 11 2 (i_aload 0 fX12_readRoad_63))))))))))))) fX12_readRoad_38)))))))))))
def fX12_readRoad_0 : Fn := (i_aload 0 (i_aload 0 (i_getI 11 3 (i_push (.int (20)) (i_icge (i_push (.int (0)) fX12_readRoad_15) (i_push (.int (1)) fX12_readRoad_15))))))
def mX12_readRoad : List Value → AH → Option Ou := runF 2 fX12_readRoad_0
def fX12_readStation_55 : Fn := (i_push (.int (0)) i_zreturn)
def fX12_readStation_69 : Fn := (i_lastore (i_aload 0 (i_getR 11 16 (i_aload 0 (i_getI 11 4 (i_aload 0 (i_getI 11 51 (i_iastore (i_aload 0 (i_dup (i_getI 11 4 (i_push (.int (1)) (i_bin (fun x y => x + y) (i_putI 11 4 (i_push (.int (1)) i_zreturn)))))))))))))))
def fX12_readStation_15 : Fn := (i_iload 1 (i_callV 11 2 mX12_mayAdd (i_ifeq fX12_readStation_55 (i_aload 0 (i_callV 11 0 mX12_needsNewName (i_ifeq fX12_readStation_55 (i_aload 0 (i_push (.ref 2014) (i_callV 11 1 mX12_needsWord (i_ifeq fX12_readStation_55 (i_aload 0 (i_aload 0 (i_getR 11 11 (i_aload 0 (i_getI 11 2 (i_push (.int (-1)) (i_callV 11 3 mX12_needsName (i_ifne (i_aload 0 (i_getR 11 15 (i_aload 0 (i_getI 11 4 (i_aload 0 (i_getL 11 50 fX12_readStation_69)))))) fX12_readStation_55))))))))))))))))))
def fX12_readStation_0 : Fn := (i_aload 0 (i_aload 0 (i_getI 11 4 (i_push (.int (6)) (i_icge (i_push (.int (0)) fX12_readStation_15) (i_push (.int (1)) fX12_readStation_15))))))
def mX12_readStation : List Value → AH → Option Ou := runF 2 fX12_readStation_0
def fX12_needsSort_0 : Fn := (i_aload 0 (i_aload 0 (i_callV 11 0 mX12_sortHere (i_putI 11 52 (i_aload 0 (i_getI 11 52 (i_push (.int (-1)) (i_icne (i_aload 0 (i_callV 11 0 mX12_advance (i_push (.int (1)) i_zreturn))) (i_aload 0 (i_push (.int (1)) (i_aload 0 (i_getI 11 43 (i_callV 11 2 mX12_failsAt i_zreturn)))))))))))))
def mX12_needsSort : List Value → AH → Option Ou := runF 1 fX12_needsSort_0
def fX12_readEngine_62 : Fn := (i_push (.int (0)) i_zreturn)
def fX12_readEngine_113 : Fn := (i_push (.int (1)) i_zreturn)
def fX12_readEngine_69 : Fn := (i_getI 11 5 (i_aload 0 (i_getL 11 50 (i_lastore (i_aload 0 (i_getR 11 18 (i_aload 0 (i_getI 11 5 (i_aload 0 (i_getI 11 52 (i_iastore (i_aload 0 (i_getR 11 19 (i_aload 0 (i_getI 11 5 (i_aload 0 (i_getI 11 51 (i_iastore (i_aload 0 (i_dup (i_getI 11 5 (i_push (.int (1)) (i_bin (fun x y => x + y) (i_putI 11 5 fX12_readEngine_113))))))))))))))))))))))))
def fX12_readEngine_15 : Fn := (i_iload 1 (i_callV 11 2 mX12_mayAdd (i_ifeq fX12_readEngine_62 (i_aload 0 (i_callV 11 0 mX12_needsNewName (i_ifeq fX12_readEngine_62 (i_aload 0 (i_callV 11 0 mX12_needsSort (i_ifeq fX12_readEngine_62 (i_aload 0 (i_push (.ref 2014) (i_callV 11 1 mX12_needsWord (i_ifeq fX12_readEngine_62 (i_aload 0 (i_aload 0 (i_getR 11 15 (i_aload 0 (i_getI 11 4 (i_push (.int (-1)) (i_callV 11 3 mX12_needsName (i_ifne (i_aload 0 (i_getR 11 17 (i_aload 0 fX12_readEngine_69))) fX12_readEngine_62)))))))))))))))))))))
def fX12_readEngine_0 : Fn := (i_aload 0 (i_aload 0 (i_getI 11 5 (i_push (.int (10)) (i_icge (i_push (.int (0)) fX12_readEngine_15) (i_push (.int (1)) fX12_readEngine_15))))))
def mX12_readEngine : List Value → AH → Option Ou := runF 2 fX12_readEngine_0
def fX12_readStreet_38 : Fn := (i_push (.int (0)) i_zreturn)
def fX12_readStreet_73 : Fn := (i_push (.int (0)) i_zreturn)
def fX12_readStreet_118 : Fn := (i_aload 0 (i_dup (i_getI 11 6 (i_push (.int (1)) (i_bin (fun x y => x + y) (i_putI 11 6 (i_push (.int (1)) i_zreturn)))))))
def fX12_readStreet_114 : Fn := (i_aload 0 (i_callV 11 0 mX12_advance fX12_readStreet_118))
def fX12_readStreet_65 : Fn := (i_push (.int (120)) (i_callV 11 2 mX12_needsNumber (i_ifne (i_aload 0 (i_getR 11 21 (i_aload 0 (i_getI 11 6 (i_aload 0 (i_getI 11 49 (i_iastore (i_aload 0 (i_getR 11 22 (i_aload 0 (i_getI 11 6 (i_aload 0 (i_callV 11 0 mX12_sortHere (i_iastore (i_aload 0 (i_getR 11 22 (i_aload 0 (i_getI 11 6 (i_iaload (i_push (.int (-1)) (i_iceq fX12_readStreet_118 fX12_readStreet_114))))))))))))))))))))) fX12_readStreet_73)))
def fX12_readStreet_15 : Fn := (i_iload 1 (i_callV 11 2 mX12_mayAdd (i_ifeq fX12_readStreet_38 (i_aload 0 (i_aload 0 (i_getR 11 11 (i_aload 0 (i_getI 11 2 (i_push (.int (-1)) (i_callV 11 3 mX12_needsName (i_ifne (i_aload 0 (i_getR 11 20 (i_aload 0 (i_getI 11 6 (i_aload 0 (i_getI 11 51 (i_iastore (i_aload 0 (i_push (.ref 2015) (i_callV 11 1 mX12_needsWord (i_ifeq fX12_readStreet_73 (i_aload 0 (i_push (.int (0)) fX12_readStreet_65))))))))))))) fX12_readStreet_38)))))))))))
def fX12_readStreet_0 : Fn := (i_aload 0 (i_aload 0 (i_getI 11 6 (i_push (.int (12)) (i_icge (i_push (.int (0)) fX12_readStreet_15) (i_push (.int (1)) fX12_readStreet_15))))))
def mX12_readStreet : List Value → AH → Option Ou := runF 2 fX12_readStreet_0
def fX12_readHoses_30 : Fn := (i_push (.int (0)) i_zreturn)
def fX12_readHoses_65 : Fn := (i_push (.int (0)) i_zreturn)
def fX12_readHoses_95 : Fn := (i_push (.int (0)) i_zreturn)
def fX12_readHoses_67 : Fn := (i_aload 0 (i_aload 0 (i_getI 11 49 (i_putI 11 9 (i_aload 0 (i_push (.ref 2017) (i_callV 11 1 mX12_needsWord (i_ifeq fX12_readHoses_95 (i_aload 0 (i_push (.int (1)) (i_push (.int (12)) (i_callV 11 2 mX12_needsNumber (i_ifne (i_aload 0 (i_aload 0 (i_getI 11 49 (i_putI 11 10 (i_push (.int (1)) i_zreturn))))) fX12_readHoses_95)))))))))))))
def fX12_readHoses_13 : Fn := (i_iload 1 (i_callV 11 2 mX12_mayAdd (i_ifeq fX12_readHoses_30 (i_aload 0 (i_push (.int (0)) (i_push (.int (40)) (i_callV 11 2 mX12_needsNumber (i_ifne (i_aload 0 (i_push (.int (1)) (i_putZ 11 48 (i_aload 0 (i_aload 0 (i_getI 11 49 (i_putI 11 8 (i_aload 0 (i_push (.ref 2016) (i_callV 11 1 mX12_needsWord (i_ifeq fX12_readHoses_65 (i_aload 0 (i_push (.int (1)) (i_push (.int (12)) (i_callV 11 2 mX12_needsNumber (i_ifne fX12_readHoses_67 fX12_readHoses_65)))))))))))))))) fX12_readHoses_30))))))))
def fX12_readHoses_0 : Fn := (i_aload 0 (i_aload 0 (i_getI 11 48 (i_ifne (i_push (.int (0)) fX12_readHoses_13) (i_push (.int (1)) fX12_readHoses_13)))))
def mX12_readHoses : List Value → AH → Option Ou := runF 2 fX12_readHoses_0
def fX12_readNeeds_73 (k26 : Fn) : Fn := (i_iaload (i_ifle (i_aload 0 (i_getR 11 26 (i_push (.int (3)) (i_iload 1 (i_bin (fun x y => x * y) (i_aload 0 (i_getI 11 52 (i_bin (fun x y => x + y) (i_iload 3 (i_iastore (i_aload 0 (i_callV 11 0 mX12_takesComma (i_istore 2 k26))))))))))))) (i_aload 0 (i_push (.int (3)) (i_iload 4 (i_callV 11 2 mX12_failsAt i_zreturn))))))
def fX12_readNeeds_26 : Nat → Fn
  | 0 => fun _ _ _ => none
  | n + 1 => let k26 := fX12_readNeeds_26 n; (i_iload 2 (i_ifeq (i_push (.int (1)) i_zreturn) (i_aload 0 (i_push (.int (1)) (i_push (.int (4)) (i_callV 11 2 mX12_needsNumber (i_ifne (i_aload 0 (i_getI 11 49 (i_istore 3 (i_aload 0 (i_getI 11 43 (i_istore 4 (i_aload 0 (i_callV 11 0 mX12_needsSort (i_ifne (i_aload 0 (i_getR 11 26 (i_push (.int (3)) (i_iload 1 (i_bin (fun x y => x * y) (i_aload 0 (i_getI 11 52 (i_bin (fun x y => x + y) (fX12_readNeeds_73 k26))))))))) (i_push (.int (0)) i_zreturn)))))))))) (i_push (.int (0)) i_zreturn))))))))
def fX12_readNeeds_2 : Nat → Fn
  | 0 => fun _ _ _ => none
  | n + 1 => let k2 := fX12_readNeeds_2 n; (i_iload 2 (i_push (.int (3)) (i_icge (i_push (.int (1)) (i_istore 2 (fX12_readNeeds_26 fuelN))) (i_aload 0 (i_getR 11 26 (i_push (.int (3)) (i_iload 1 (i_bin (fun x y => x * y) (i_iload 2 (i_bin (fun x y => x + y) (i_push (.int (0)) (i_iastore (i_iinc 2 (1) k2)))))))))))))
def fX12_readNeeds_0 : Fn := (i_push (.int (0)) (i_istore 2 (fX12_readNeeds_2 fuelN)))
def mX12_readNeeds : List Value → AH → Option Ou := runF 5 fX12_readNeeds_0
def fX12_readAfter_57 (k2 : Fn) : Fn := (i_dup2 (i_iaload (i_push (.int (1)) (i_aload 0 (i_getI 11 51 (i_bin (fun x y => x <<< (y &&& 31)) (i_bin (fun x y => x ||| y) (i_iastore (i_aload 0 (i_callV 11 0 mX12_takesComma (i_istore 2 k2)))))))))))
def fX12_readAfter_48 : Fn := (i_callV 11 2 mX12_failsAt i_zreturn)
def fX12_readAfter_2 : Nat → Fn
  | 0 => fun _ _ _ => none
  | n + 1 => let k2 := fX12_readAfter_2 n; (i_iload 2 (i_ifeq (i_push (.int (1)) i_zreturn) (i_aload 0 (i_getI 11 43 (i_istore 3 (i_aload 0 (i_aload 0 (i_getR 11 23 (i_aload 0 (i_getI 11 7 (i_push (.int (-1)) (i_callV 11 3 mX12_needsName (i_ifne (i_aload 0 (i_getR 11 28 (i_iload 1 (i_iaload (i_aload 0 (i_getI 11 51 (i_callS 2 mX12_has (i_ifeq (i_aload 0 (i_getR 11 28 (i_iload 1 (fX12_readAfter_57 k2)))) (i_aload 0 (i_push (.int (3)) (i_iload 3 fX12_readAfter_48))))))))))) (i_push (.int (0)) i_zreturn))))))))))))))
def fX12_readAfter_0 : Fn := (i_push (.int (1)) (i_istore 2 (fX12_readAfter_2 fuelN)))
def mX12_readAfter : List Value → AH → Option Ou := runF 4 fX12_readAfter_0
def fX12_readDrill_56 : Fn := (i_push (.int (0)) i_zreturn)
def fX12_readDrill_98 : Fn := (i_push (.int (0)) i_zreturn)
def fX12_readDrill_128 : Fn := (i_push (.int (0)) i_zreturn)
def fX12_readDrill_235 : Fn := (i_aload 0 (i_dup (i_getI 11 7 (i_push (.int (1)) (i_bin (fun x y => x + y) (i_putI 11 7 (i_push (.int (1)) i_zreturn)))))))
def fX12_readDrill_203 : Fn := (i_aload 0 (i_push (.ref 2022) (i_callV 11 1 mX12_takesWord (i_ifeq fX12_readDrill_235 (i_aload 0 (i_push (.int (0)) (i_push (.int (23)) (i_callV 11 2 mX12_needsNumber (i_ifne (i_aload 0 (i_getR 11 29 (i_iload 2 (i_aload 0 (i_getI 11 49 (i_iastore fX12_readDrill_235)))))) (i_push (.int (0)) i_zreturn))))))))))
def fX12_readDrill_183 : Fn := (i_aload 0 (i_push (.ref 2021) (i_callV 11 1 mX12_takesWord (i_ifeq fX12_readDrill_203 (i_aload 0 (i_iload 2 (i_callV 11 1 mX12_readAfter (i_ifne fX12_readDrill_203 (i_push (.int (0)) i_zreturn)))))))))
def fX12_readDrill_161 : Fn := (i_aload 0 (i_push (.int (0)) (i_push (.int (40)) (i_callV 11 2 mX12_needsNumber (i_ifne (i_aload 0 (i_getR 11 27 (i_iload 2 (i_aload 0 (i_getI 11 49 (i_iastore fX12_readDrill_183)))))) (i_push (.int (0)) i_zreturn))))))
def fX12_readDrill_117 : Fn := (i_ifeq fX12_readDrill_128 (i_aload 0 (i_iload 2 (i_callV 11 1 mX12_readNeeds (i_ifne (i_aload 0 (i_getR 11 27 (i_iload 2 (i_push (.int (0)) (i_iastore (i_aload 0 (i_getR 11 28 (i_iload 2 (i_push (.int (0)) (i_iastore (i_aload 0 (i_getR 11 29 (i_iload 2 (i_push (.int (0)) (i_iastore (i_aload 0 (i_push (.ref 2020) (i_callV 11 1 mX12_takesWord (i_ifeq fX12_readDrill_183 fX12_readDrill_161))))))))))))))))))) fX12_readDrill_128)))))
def fX12_readDrill_68 : Fn := (i_aload 0 (i_getR 11 24 (i_iload 2 (i_aload 0 (i_getI 11 51 (i_iastore (i_aload 0 (i_push (.ref 2018) (i_callV 11 1 mX12_needsWord (i_ifeq fX12_readDrill_98 (i_aload 0 (i_push (.int (1)) (i_push (.int (8)) (i_callV 11 2 mX12_needsNumber (i_ifne (i_aload 0 (i_getR 11 25 (i_iload 2 (i_aload 0 (i_getI 11 49 (i_iastore (i_aload 0 (i_push (.ref 2019) (i_callV 11 1 mX12_needsWord fX12_readDrill_117))))))))) fX12_readDrill_98)))))))))))))))
def fX12_readDrill_16 : Fn := (i_iload 1 (i_callV 11 2 mX12_mayAdd (i_ifeq fX12_readDrill_56 (i_aload 0 (i_callV 11 0 mX12_needsNewName (i_ifeq fX12_readDrill_56 (i_aload 0 (i_push (.ref 2014) (i_callV 11 1 mX12_needsWord (i_ifeq fX12_readDrill_56 (i_aload 0 (i_aload 0 (i_getR 11 11 (i_aload 0 (i_getI 11 2 (i_push (.int (-1)) (i_callV 11 3 mX12_needsName (i_ifne (i_aload 0 (i_getR 11 23 (i_iload 2 (i_aload 0 (i_getL 11 50 (i_lastore fX12_readDrill_68)))))) fX12_readDrill_56))))))))))))))))))
def fX12_readDrill_0 : Fn := (i_aload 0 (i_getI 11 7 (i_istore 2 (i_aload 0 (i_iload 2 (i_push (.int (5)) (i_icge (i_push (.int (0)) fX12_readDrill_16) (i_push (.int (1)) fX12_readDrill_16))))))))
def mX12_readDrill : List Value → AH → Option Ou := runF 3 fX12_readDrill_0
def fX12_readStatement_86 : Fn := (i_push (.ref 2011) (i_callV 11 1 mX12_takesWord (i_ifeq (i_aload 0 (i_push (.ref 2012) (i_callV 11 1 mX12_takesWord (i_ifeq (i_aload 0 (i_push (.ref 2013) (i_callV 11 1 mX12_takesWord (i_ifeq (i_aload 0 (i_push (.int (1)) (i_iload 1 (i_callV 11 2 mX12_failsAt i_zreturn)))) (i_aload 0 (i_iload 1 (i_callV 11 1 mX12_readDrill i_zreturn))))))) (i_aload 0 (i_iload 1 (i_callV 11 1 mX12_readHoses i_zreturn))))))) (i_aload 0 (i_iload 1 (i_callV 11 1 mX12_readStreet i_zreturn))))))
def fX12_readStatement_80 : Fn := (i_iload 1 (i_callV 11 1 mX12_readEngine i_zreturn))
def fX12_readStatement_0 : Fn := (i_aload 0 (i_getI 11 43 (i_istore 1 (i_aload 0 (i_push (.ref 2006) (i_callV 11 1 mX12_takesWord (i_ifeq (i_aload 0 (i_push (.ref 2007) (i_callV 11 1 mX12_takesWord (i_ifeq (i_aload 0 (i_push (.ref 2008) (i_callV 11 1 mX12_takesWord (i_ifeq (i_aload 0 (i_push (.ref 2009) (i_callV 11 1 mX12_takesWord (i_ifeq (i_aload 0 (i_push (.ref 2010) (i_callV 11 1 mX12_takesWord (i_ifeq (i_aload 0 fX12_readStatement_86) (i_aload 0 fX12_readStatement_80))))) (i_aload 0 (i_iload 1 (i_callV 11 1 mX12_readStation i_zreturn))))))) (i_aload 0 (i_iload 1 (i_callV 11 1 mX12_readRoad i_zreturn))))))) (i_aload 0 (i_iload 1 (i_callV 11 1 mX12_readNode i_zreturn))))))) (i_aload 0 (i_iload 1 (i_callV 11 1 mX12_readSlot i_zreturn))))))))))
def mX12_readStatement : List Value → AH → Option Ou := runF 2 fX12_readStatement_0
def fX12_readBrigade_33 : Fn := (i_aload 0 (i_push (.int (1)) (i_aload 0 (i_getI 11 43 (i_callV 11 2 mX12_failsAt i_zreturn)))))
def fX12_readBrigade_0 : Nat → Fn
  | 0 => fun _ _ _ => none
  | n + 1 => let k0 := fX12_readBrigade_0 n; (i_aload 0 (i_getI 11 46 (i_ifeq (i_push (.int (1)) i_zreturn) (i_aload 0 (i_callV 11 0 mX12_readStatement (i_ifne (i_aload 0 (i_getI 11 46 (i_push (.int (3)) (i_icne fX12_readBrigade_33 (i_aload 0 (i_getI 11 44 (i_push (.int (59)) (i_iceq (i_aload 0 (i_callV 11 0 mX12_advance k0)) fX12_readBrigade_33)))))))) (i_push (.int (0)) i_zreturn)))))))
def mX12_readBrigade : List Value → AH → Option Ou := runF 1 (fX12_readBrigade_0 fuelN)
def fX12_loadBrigade_40 : Fn := (i_callV 11 0 mX12_advance (i_aload 0 (i_callV 11 0 mX12_readBrigade (i_istore 1 (i_aload 0 (i_push (.int (0)) (i_putI 11 37 (i_aload 0 (i_aload 0 (i_getI 11 40 (i_putI 11 38 (i_aload 0 (i_aload 0 (i_getI 11 41 (i_putI 11 39 (i_iload 1 (i_ifne (i_aload 0 (i_callV 11 0 mX12_settle (i_aload 0 (i_getI 11 7 i_ireturn)))) (i_aload 0 (i_push (.int (1)) (i_callV 11 1 mX12_keep (i_push (.int (-1)) i_ireturn)))))))))))))))))))))
def fX12_loadBrigade_0 : Fn := (i_aload 0 (i_push (.int (0)) (i_putI 11 0 (i_aload 0 (i_push (.int (0)) (i_callV 11 1 mX12_keep (i_aload 0 (i_callV 11 0 mX12_clear (i_aload 0 (i_push (.int (0)) (i_putI 11 40 (i_aload 0 (i_push (.int (-1)) (i_putI 11 41 (i_aload 0 (i_push (.int (0)) (i_putI 11 42 (i_aload 0 (i_push (.int (0)) (i_putZ 11 47 (i_aload 0 (i_push (.int (0)) (i_putZ 11 48 (i_aload 0 fX12_loadBrigade_40))))))))))))))))))))))))
def mX12_loadBrigade : List Value → AH → Option Ou := runF 2 fX12_loadBrigade_0
def fX12_find_56 : Fn := (i_push (.int (-1)) i_ireturn)
def fX12_find_164 : Fn := i_ireturn
def fX12_find_158 : Fn := (i_push (.int (300)) (i_iload 5 (i_bin (fun x y => x + y) fX12_find_164)))
def fX12_find_154 : Fn := (i_push (.int (-1)) fX12_find_164)
def fX12_find_93 : Fn := (i_istore 5 (i_iload 5 (i_push (.int (-1)) (i_iceq (i_aload 0 (i_getR 11 17 (i_aload 0 (i_getI 11 5 (i_lload 2 (i_callS 3 mX12_named (i_istore 5 (i_iload 5 (i_push (.int (-1)) (i_iceq (i_aload 0 (i_getR 11 23 (i_aload 0 (i_getI 11 7 (i_lload 2 (i_callS 3 mX12_named (i_istore 5 (i_iload 5 (i_push (.int (-1)) (i_icne fX12_find_158 fX12_find_154)))))))))) (i_push (.int (200)) (i_iload 5 (i_bin (fun x y => x + y) i_ireturn))))))))))))) (i_push (.int (100)) (i_iload 5 (i_bin (fun x y => x + y) i_ireturn)))))))
def fX12_find_40 : Fn := (i_istore 4 (i_aload 0 (i_push (.int (0)) (i_putI 11 37 (i_iload 1 (i_ifeq fX12_find_56 (i_iload 4 (i_ifne (i_aload 0 (i_getR 11 11 (i_aload 0 (i_getI 11 2 (i_lload 2 (i_callS 3 mX12_named (i_istore 5 (i_iload 5 (i_push (.int (-1)) (i_iceq (i_aload 0 (i_getR 11 15 (i_aload 0 (i_getI 11 4 (i_lload 2 (i_callS 3 mX12_named fX12_find_93)))))) (i_iload 5 i_ireturn))))))))))) fX12_find_56))))))))
def fX12_find_0 : Fn := (i_aload 0 (i_push (.int (0)) (i_putI 11 0 (i_aload 0 (i_push (.int (0)) (i_putI 11 42 (i_aload 0 (i_callV 11 0 mX12_advance (i_aload 0 (i_callV 11 0 mX12_isName (i_istore 1 (i_aload 0 (i_getL 11 45 (i_lstore 2 (i_aload 0 (i_callV 11 0 mX12_advance (i_aload 0 (i_getI 11 46 (i_ifne (i_push (.int (0)) fX12_find_40) (i_push (.int (1)) fX12_find_40))))))))))))))))))))
def mX12_find : List Value → AH → Option Ou := runF 6 fX12_find_0
def fX12_play_230 (k110 : Fn) : Fn := (i_aload 0 (i_getI 11 74 (i_iastore (i_iinc 1 (1) k110))))
def fX12_play_192 (k110 : Fn) (k157 : Fn) : Fn := (i_iinc 3 (1) k157)
def fX12_play_157 (k110 : Fn) : Nat → Fn
  | 0 => fun _ _ _ => none
  | n + 1 => let k157 := fX12_play_157 k110 n; (i_iload 3 (i_aload 0 (i_getI 11 5 (i_icge (i_aload 0 (i_getR 11 67 (i_iload 1 (i_iload 2 (i_iastore (i_aload 0 (i_getR 11 68 (i_iload 1 (i_aload 0 (i_getI 11 72 (i_iastore (i_aload 0 (i_getR 11 69 (i_iload 1 (i_aload 0 (i_getI 11 73 (i_iastore (i_aload 0 (i_getR 11 70 (i_iload 1 (fX12_play_230 k110))))))))))))))))))))) (i_aload 0 (i_getR 11 66 (i_iload 3 (i_iaload (i_iload 1 (i_icgt (fX12_play_192 k110 k157) (i_aload 0 (i_getI 11 58 (i_iload 3 (i_callS 2 mX12_has (i_ifne (fX12_play_192 k110 k157) (i_iload 2 (i_push (.int (1)) (i_iload 3 (i_bin (fun x y => x <<< (y &&& 31)) (i_bin (fun x y => x ||| y) (i_istore 2 (fX12_play_192 k110 k157))))))))))))))))))))))
def fX12_play_147 (k110 : Fn) (k123 : Fn) : Fn := (i_iinc 2 (1) k123)
def fX12_play_123 (k110 : Fn) : Nat → Fn
  | 0 => fun _ _ _ => none
  | n + 1 => let k123 := fX12_play_123 k110 n; (i_iload 2 (i_aload 0 (i_getI 11 7 (i_icge (i_push (.int (0)) (i_istore 2 (i_push (.int (0)) (i_istore 3 (fX12_play_157 k110 fuelN))))) (i_aload 0 (i_getR 11 30 (i_iload 2 (i_iaload (i_iload 1 (i_icne (fX12_play_147 k110 k123) (i_aload 0 (i_iload 2 (i_iload 1 (i_callV 11 2 mX12_launch (fX12_play_147 k110 k123)))))))))))))))
def fX12_play_110 : Nat → Fn
  | 0 => fun _ _ _ => none
  | n + 1 => let k110 := fX12_play_110 n; (i_iload 1 (i_push (.int (48)) (i_icge i_return (i_aload 0 (i_iload 1 (i_callV 11 1 mX12_hang (i_push (.int (0)) (i_istore 2 (fX12_play_123 k110 fuelN)))))))))
def fX12_play_71 : Nat → Fn
  | 0 => fun _ _ _ => none
  | n + 1 => let k71 := fX12_play_71 n; (i_iload 1 (i_push (.int (64)) (i_icge (i_aload 0 (i_aload 0 (i_getI 11 59 (i_putI 11 72 (i_aload 0 (i_push (.int (0)) (i_putI 11 73 (i_aload 0 (i_push (.int (0)) (i_putI 11 74 (i_push (.int (0)) (i_istore 1 (fX12_play_110 fuelN))))))))))))) (i_aload 0 (i_getR 11 71 (i_iload 1 (i_push (.int (0)) (i_iastore (i_iinc 1 (1) k71)))))))))
def fX12_play_50 : Nat → Fn
  | 0 => fun _ _ _ => none
  | n + 1 => let k50 := fX12_play_50 n; (i_iload 1 (i_push (.int (10)) (i_icge (i_push (.int (0)) (i_istore 1 (fX12_play_71 fuelN))) (i_aload 0 (i_getR 11 66 (i_iload 1 (i_push (.int (0)) (i_iastore (i_iinc 1 (1) k50)))))))))
def fX12_play_36 (k2 : Fn) : Fn := (i_getR 11 65 (i_iload 1 (i_push (.int (-1)) (i_iastore (i_iinc 1 (1) k2)))))
def fX12_play_2 : Nat → Fn
  | 0 => fun _ _ _ => none
  | n + 1 => let k2 := fX12_play_2 n; (i_iload 1 (i_push (.int (5)) (i_icge (i_push (.int (0)) (i_istore 1 (fX12_play_50 fuelN))) (i_aload 0 (i_getR 11 61 (i_iload 1 (i_push (.int (0)) (i_iastore (i_aload 0 (i_getR 11 62 (i_iload 1 (i_push (.int (0)) (i_iastore (i_aload 0 (i_getR 11 63 (i_iload 1 (i_push (.int (-1)) (i_iastore (i_aload 0 (i_getR 11 64 (i_iload 1 (i_push (.int (-1)) (i_iastore (i_aload 0 (fX12_play_36 k2)))))))))))))))))))))))))
def fX12_play_0 : Fn := (i_push (.int (0)) (i_istore 1 (fX12_play_2 fuelN)))
def mX12_play : List Value → AH → Option Ou := runF 4 fX12_play_0
def fX12_isValid_33 : Nat → Fn
  | 0 => fun _ _ _ => none
  | n + 1 => let k33 := fX12_isValid_33 n; (i_iload 1 (i_push (.int (48)) (i_icge (i_push (.int (1)) i_zreturn) (i_aload 0 (i_aload 0 (i_getR 11 67 (i_iload 1 (i_iaload (i_callV 11 1 mX12_gapsOf (i_ifeq (i_iinc 1 (1) k33) (i_push (.int (0)) i_zreturn)))))))))))
def fX12_isValid_6 : Nat → Fn
  | 0 => fun _ _ _ => none
  | n + 1 => let k6 := fX12_isValid_6 n; (i_iload 1 (i_aload 0 (i_getI 11 7 (i_icge (i_push (.int (0)) (i_istore 1 (fX12_isValid_33 fuelN))) (i_aload 0 (i_getR 11 61 (i_iload 1 (i_iaload (i_ifge (i_iinc 1 (1) k6) (i_push (.int (0)) i_zreturn))))))))))
def fX12_isValid_0 : Fn := (i_aload 0 (i_callV 11 0 mX12_play (i_push (.int (0)) (i_istore 1 (fX12_isValid_6 fuelN)))))
def mX12_isValid : List Value → AH → Option Ou := runF 2 fX12_isValid_0
def fX12_drillState_0 : Fn := (i_aload 0 (i_push (.int (0)) (i_putI 11 0 (i_aload 0 (i_iload 1 (i_callV 11 1 mX12_noDrill (i_ifeq (i_aload 0 (i_callV 11 0 mX12_play (i_aload 0 (i_getR 11 61 (i_iload 1 (i_iaload i_ireturn)))))) (i_push (.int (0)) i_ireturn))))))))
def mX12_drillState : List Value → AH → Option Ou := runF 2 fX12_drillState_0
def fX12_drillEngines_0 : Fn := (i_aload 0 (i_push (.int (0)) (i_putI 11 0 (i_aload 0 (i_iload 1 (i_callV 11 1 mX12_noDrill (i_ifeq (i_aload 0 (i_callV 11 0 mX12_play (i_aload 0 (i_getR 11 62 (i_iload 1 (i_iaload i_ireturn)))))) (i_push (.int (0)) i_ireturn))))))))
def mX12_drillEngines : List Value → AH → Option Ou := runF 2 fX12_drillEngines_0
def fX12_drillBegin_0 : Fn := (i_aload 0 (i_push (.int (0)) (i_putI 11 0 (i_aload 0 (i_iload 1 (i_callV 11 1 mX12_noDrill (i_ifeq (i_aload 0 (i_callV 11 0 mX12_play (i_aload 0 (i_getR 11 63 (i_iload 1 (i_iaload i_ireturn)))))) (i_push (.int (0)) i_ireturn))))))))
def mX12_drillBegin : List Value → AH → Option Ou := runF 2 fX12_drillBegin_0
def fX12_drillEnd_0 : Fn := (i_aload 0 (i_push (.int (0)) (i_putI 11 0 (i_aload 0 (i_iload 1 (i_callV 11 1 mX12_noDrill (i_ifeq (i_aload 0 (i_callV 11 0 mX12_play (i_aload 0 (i_getR 11 64 (i_iload 1 (i_iaload i_ireturn)))))) (i_push (.int (0)) i_ireturn))))))))
def mX12_drillEnd : List Value → AH → Option Ou := runF 2 fX12_drillEnd_0
def fX12_drillBack_0 : Fn := (i_aload 0 (i_push (.int (0)) (i_putI 11 0 (i_aload 0 (i_iload 1 (i_callV 11 1 mX12_noDrill (i_ifeq (i_aload 0 (i_callV 11 0 mX12_play (i_aload 0 (i_getR 11 65 (i_iload 1 (i_iaload i_ireturn)))))) (i_push (.int (0)) i_ireturn))))))))
def mX12_drillBack : List Value → AH → Option Ou := runF 2 fX12_drillBack_0
def fX12_judged_106 (k11 : Fn) : Fn := (i_iinc 2 (1) k11)
def fX12_judged_68 (k11 : Fn) (k19 : Fn) (k27 : Fn) : Fn := (i_iinc 4 (1) k27)
def fX12_judged_27 (k11 : Fn) (k19 : Fn) : Nat → Fn
  | 0 => fun _ _ _ => none
  | n + 1 => let k27 := fX12_judged_27 k11 k19 n; (i_iload 4 (i_aload 0 (i_getI 11 7 (i_icge (i_iinc 3 (1) k19) (i_aload 0 (i_getR 11 30 (i_iload 4 (i_iaload (i_iload 2 (i_icne (fX12_judged_68 k11 k19 k27) (i_aload 0 (i_getR 11 61 (i_iload 4 (i_iaload (i_iload 3 (i_ineg (i_icne (fX12_judged_68 k11 k19 k27) (i_aload 0 (i_iload 1 (i_iload 3 (i_iload 2 (i_iload 4 (i_callV 11 4 mX12_violation (fX12_judged_68 k11 k19 k27))))))))))))))))))))))))
def fX12_judged_19 (k11 : Fn) : Nat → Fn
  | 0 => fun _ _ _ => none
  | n + 1 => let k19 := fX12_judged_19 k11 n; (i_iload 3 (i_push (.int (5)) (i_icge (i_aload 0 (i_aload 0 (i_getR 11 67 (i_iload 2 (i_iaload (i_callV 11 1 mX12_gapsOf (i_istore 3 (i_iload 3 (i_ifeq (fX12_judged_106 k11) (i_aload 0 (i_iload 1 (i_push (.int (5)) (i_iload 2 (i_iload 3 (i_callS 1 mX12_lowest (i_callV 11 4 mX12_violation (fX12_judged_106 k11))))))))))))))))) (i_push (.int (0)) (i_istore 4 (fX12_judged_27 k11 k19 fuelN))))))
def fX12_judged_11 : Nat → Fn
  | 0 => fun _ _ _ => none
  | n + 1 => let k11 := fX12_judged_11 n; (i_iload 2 (i_push (.int (48)) (i_icge i_return (i_push (.int (1)) (i_istore 3 (fX12_judged_19 k11 fuelN))))))
def fX12_judged_0 : Fn := (i_aload 0 (i_callV 11 0 mX12_play (i_aload 0 (i_push (.int (0)) (i_putI 11 77 (i_push (.int (0)) (i_istore 2 (fX12_judged_11 fuelN))))))))
def mX12_judged : List Value → AH → Option Ou := runF 5 fX12_judged_0
def fX12_violations_0 : Fn := (i_aload 0 (i_push (.int (0)) (i_putI 11 0 (i_aload 0 (i_push (.int (-1)) (i_callV 11 1 mX12_judged (i_aload 0 (i_getI 11 77 i_ireturn))))))))
def mX12_violations : List Value → AH → Option Ou := runF 1 fX12_violations_0
def fX12_noViolation_25 : Fn := (i_push (.int (1)) (i_callV 11 2 mX12_fails i_zreturn))
def fX12_noViolation_0 : Fn := (i_aload 0 (i_iload 1 (i_callV 11 1 mX12_judged (i_aload 0 (i_iload 1 (i_push (.int (0)) (i_aload 0 (i_getI 11 77 (i_push (.int (1)) (i_bin (fun x y => x - y) (i_callS 3 mX12_inRange (i_ifne (i_push (.int (0)) fX12_noViolation_25) (i_push (.int (1)) fX12_noViolation_25)))))))))))))
def mX12_noViolation : List Value → AH → Option Ou := runF 2 fX12_noViolation_0
def fX12_violationCode_21 : Fn := i_ireturn
def fX12_violationCode_0 : Fn := (i_aload 0 (i_push (.int (0)) (i_putI 11 0 (i_aload 0 (i_iload 1 (i_callV 11 1 mX12_noViolation (i_ifeq (i_aload 0 (i_getI 11 78 fX12_violationCode_21)) (i_push (.int (0)) fX12_violationCode_21))))))))
def mX12_violationCode : List Value → AH → Option Ou := runF 2 fX12_violationCode_0
def fX12_violationSlot_21 : Fn := i_ireturn
def fX12_violationSlot_0 : Fn := (i_aload 0 (i_push (.int (0)) (i_putI 11 0 (i_aload 0 (i_iload 1 (i_callV 11 1 mX12_noViolation (i_ifeq (i_aload 0 (i_getI 11 79 fX12_violationSlot_21)) (i_push (.int (0)) fX12_violationSlot_21))))))))
def mX12_violationSlot : List Value → AH → Option Ou := runF 2 fX12_violationSlot_0
def fX12_violationSubject_21 : Fn := i_ireturn
def fX12_violationSubject_0 : Fn := (i_aload 0 (i_push (.int (0)) (i_putI 11 0 (i_aload 0 (i_iload 1 (i_callV 11 1 mX12_noViolation (i_ifeq (i_aload 0 (i_getI 11 80 fX12_violationSubject_21)) (i_push (.int (0)) fX12_violationSubject_21))))))))
def mX12_violationSubject : List Value → AH → Option Ou := runF 2 fX12_violationSubject_0
def fX12_availableAt_0 : Fn := (i_aload 0 (i_push (.int (0)) (i_putI 11 0 (i_aload 0 (i_iload 1 (i_callV 11 1 mX12_noSlot (i_ifeq (i_aload 0 (i_callV 11 0 mX12_play (i_aload 0 (i_getR 11 67 (i_iload 1 (i_iaload i_ireturn)))))) (i_push (.int (0)) i_ireturn))))))))
def mX12_availableAt : List Value → AH → Option Ou := runF 2 fX12_availableAt_0
def fX12_uncoveredAt_0 : Fn := (i_aload 0 (i_push (.int (0)) (i_putI 11 0 (i_aload 0 (i_iload 1 (i_callV 11 1 mX12_noSlot (i_ifeq (i_aload 0 (i_callV 11 0 mX12_play (i_aload 0 (i_aload 0 (i_getR 11 67 (i_iload 1 (i_iaload (i_callV 11 1 mX12_gapsOf i_ireturn)))))))) (i_push (.int (0)) i_ireturn))))))))
def mX12_uncoveredAt : List Value → AH → Option Ou := runF 2 fX12_uncoveredAt_0
def fX12_dryHoses_0 : Fn := (i_aload 0 (i_push (.int (0)) (i_putI 11 0 (i_aload 0 (i_iload 1 (i_callV 11 1 mX12_noSlot (i_ifeq (i_aload 0 (i_callV 11 0 mX12_play (i_aload 0 (i_getR 11 68 (i_iload 1 (i_iaload i_ireturn)))))) (i_push (.int (0)) i_ireturn))))))))
def mX12_dryHoses : List Value → AH → Option Ou := runF 2 fX12_dryHoses_0
def fX12_wetHoses_0 : Fn := (i_aload 0 (i_push (.int (0)) (i_putI 11 0 (i_aload 0 (i_iload 1 (i_callV 11 1 mX12_noSlot (i_ifeq (i_aload 0 (i_callV 11 0 mX12_play (i_aload 0 (i_getR 11 69 (i_iload 1 (i_iaload i_ireturn)))))) (i_push (.int (0)) i_ireturn))))))))
def mX12_wetHoses : List Value → AH → Option Ou := runF 2 fX12_wetHoses_0
def fX12_dryingHoses_0 : Fn := (i_aload 0 (i_push (.int (0)) (i_putI 11 0 (i_aload 0 (i_iload 1 (i_callV 11 1 mX12_noSlot (i_ifeq (i_aload 0 (i_callV 11 0 mX12_play (i_aload 0 (i_getR 11 70 (i_iload 1 (i_iaload i_ireturn)))))) (i_push (.int (0)) i_ireturn))))))))
def mX12_dryingHoses : List Value → AH → Option Ou := runF 2 fX12_dryingHoses_0
def fX12_awaySlots_48 (k23 : Fn) : Fn := (i_callS 1 mX12_oneIf (i_bin (fun x y => x + y) (i_istore 2 (i_iinc 3 (1) k23))))
def fX12_awaySlots_23 : Nat → Fn
  | 0 => fun _ _ _ => none
  | n + 1 => let k23 := fX12_awaySlots_23 n; (i_iload 3 (i_push (.int (48)) (i_icge (i_iload 2 i_ireturn) (i_iload 2 (i_aload 0 (i_getR 11 67 (i_iload 3 (i_iaload (i_iload 1 (i_callS 2 mX12_has (i_ifne (i_push (.int (0)) (fX12_awaySlots_48 k23)) (i_push (.int (1)) (fX12_awaySlots_48 k23)))))))))))))
def fX12_awaySlots_0 : Fn := (i_aload 0 (i_push (.int (0)) (i_putI 11 0 (i_aload 0 (i_iload 1 (i_callV 11 1 mX12_noEngine (i_ifeq (i_aload 0 (i_callV 11 0 mX12_play (i_push (.int (0)) (i_istore 2 (i_push (.int (0)) (i_istore 3 (fX12_awaySlots_23 fuelN))))))) (i_push (.int (0)) i_ireturn))))))))
def mX12_awaySlots : List Value → AH → Option Ou := runF 4 fX12_awaySlots_0
def fX12_busiestSlot_42 (k13 : Fn) : Fn := (i_iinc 2 (1) k13)
def fX12_busiestSlot_13 : Nat → Fn
  | 0 => fun _ _ _ => none
  | n + 1 => let k13 := fX12_busiestSlot_13 n; (i_iload 2 (i_push (.int (48)) (i_icge (i_iload 1 i_ireturn) (i_aload 0 (i_getR 11 67 (i_iload 2 (i_iaload (i_callS 1 mX12_sizeOf (i_aload 0 (i_getR 11 67 (i_iload 1 (i_iaload (i_callS 1 mX12_sizeOf (i_icge (fX12_busiestSlot_42 k13) (i_iload 2 (i_istore 1 (fX12_busiestSlot_42 k13)))))))))))))))))
def fX12_busiestSlot_0 : Fn := (i_aload 0 (i_push (.int (0)) (i_putI 11 0 (i_aload 0 (i_callV 11 0 mX12_play (i_push (.int (0)) (i_istore 1 (i_push (.int (1)) (i_istore 2 (fX12_busiestSlot_13 fuelN))))))))))
def mX12_busiestSlot : List Value → AH → Option Ou := runF 3 fX12_busiestSlot_0
def fX12_finish_0 : Fn := (i_aload 0 (i_push (.int (0)) (i_putI 11 0 (i_aload 0 (i_callV 11 0 mX12_play (i_aload 0 (i_callV 11 0 mX12_finished i_ireturn)))))))
def mX12_finish : List Value → AH → Option Ou := runF 1 fX12_finish_0
def fX12_settleStart_2 : Nat → Fn
  | 0 => fun _ _ _ => none
  | n + 1 => let k2 := fX12_settleStart_2 n; (i_iload 3 (i_push (.int (23)) (i_icgt (i_aload 0 (i_getR 11 30 (i_iload 1 (i_push (.int (-1)) (i_iastore (i_push (.int (-1)) i_ireturn)))))) (i_aload 0 (i_getR 11 30 (i_iload 1 (i_iload 3 (i_iastore (i_aload 0 (i_callV 11 0 mX12_isValid (i_ifeq (i_iinc 3 (1) k2) (i_iload 3 i_ireturn))))))))))))
def fX12_settleStart_0 : Fn := (i_iload 2 (i_istore 3 (fX12_settleStart_2 fuelN)))
def mX12_settleStart : List Value → AH → Option Ou := runF 4 fX12_settleStart_0
def fX12_earliestStart_0 : Fn := (i_aload 0 (i_push (.int (0)) (i_putI 11 0 (i_aload 0 (i_iload 1 (i_callV 11 1 mX12_noDrill (i_ifeq (i_aload 0 (i_getR 11 30 (i_iload 1 (i_iaload (i_istore 2 (i_aload 0 (i_iload 1 (i_push (.int (0)) (i_callV 11 2 mX12_settleStart (i_istore 3 (i_aload 0 (i_getR 11 30 (i_iload 1 (i_iload 2 (i_iastore (i_iload 3 i_ireturn)))))))))))))))) (i_push (.int (0)) i_ireturn))))))))
def mX12_earliestStart : List Value → AH → Option Ou := runF 4 fX12_earliestStart_0
def fX12_compact_71 (k22 : Fn) (k30 : Fn) : Fn := (i_iinc 3 (1) k30)
def fX12_compact_30 (k22 : Fn) : Nat → Fn
  | 0 => fun _ _ _ => none
  | n + 1 => let k30 := fX12_compact_30 k22 n; (i_iload 3 (i_aload 0 (i_getI 11 7 (i_icge k22 (i_aload 0 (i_getR 11 30 (i_iload 3 (i_iaload (i_istore 4 (i_iload 4 (i_push (.int (-1)) (i_iceq (fX12_compact_71 k22 k30) (i_aload 0 (i_iload 3 (i_push (.int (0)) (i_callV 11 2 mX12_settleStart (i_iload 4 (i_icne (i_iinc 1 (1) (i_push (.int (1)) (i_istore 2 (fX12_compact_71 k22 k30)))) (fX12_compact_71 k22 k30)))))))))))))))))))
def fX12_compact_22 : Nat → Fn
  | 0 => fun _ _ _ => none
  | n + 1 => let k22 := fX12_compact_22 n; (i_iload 2 (i_ifeq (i_iload 1 i_ireturn) (i_push (.int (0)) (i_istore 2 (i_push (.int (0)) (i_istore 3 (fX12_compact_30 k22 fuelN)))))))
def fX12_compact_0 : Fn := (i_aload 0 (i_push (.int (0)) (i_putI 11 0 (i_aload 0 (i_callV 11 0 mX12_isValid (i_ifne (i_aload 0 (i_callV 11 0 mX12_remember (i_push (.int (0)) (i_istore 1 (i_push (.int (1)) (i_istore 2 (fX12_compact_22 fuelN))))))) (i_push (.int (-1)) i_ireturn)))))))
def mX12_compact : List Value → AH → Option Ou := runF 5 fX12_compact_0
def fX12_schedule_129 : Nat → Fn
  | 0 => fun _ _ _ => none
  | n + 1 => let k129 := fX12_schedule_129 n; (i_iload 4 (i_push (.int (5)) (i_icge (i_aload 0 (i_callV 11 0 mX12_play (i_aload 0 (i_callV 11 0 mX12_finished i_ireturn)))) (i_aload 0 (i_getR 11 30 (i_iload 4 (i_aload 0 (i_getR 11 81 (i_iload 4 (i_iaload (i_iastore (i_iinc 4 (1) k129))))))))))))
def fX12_schedule_92 : Nat → Fn
  | 0 => fun _ _ _ => none
  | n + 1 => let k92 := fX12_schedule_92 n; (i_iload 4 (i_push (.int (5)) (i_icge (i_aload 0 (i_callV 11 0 mX12_putBack (i_aload 0 (i_callV 11 0 mX12_remember (i_push (.int (0)) (i_istore 4 (fX12_schedule_129 fuelN))))))) (i_aload 0 (i_getR 11 81 (i_iload 4 (i_aload 0 (i_getR 11 30 (i_iload 4 (i_iaload (i_iastore (i_iinc 4 (1) k92))))))))))))
def fX12_schedule_78 : Fn := (i_iload 3 (i_push (.int (-1)) (i_icne (i_push (.int (0)) (i_istore 4 (fX12_schedule_92 fuelN))) (i_aload 0 (i_callV 11 0 mX12_putBack (i_push (.int (-1)) i_ireturn))))))
def fX12_schedule_48 : Nat → Fn
  | 0 => fun _ _ _ => none
  | n + 1 => let k48 := fX12_schedule_48 n; (i_iload 4 (i_iload 2 (i_icge fX12_schedule_78 (i_iload 3 (i_push (.int (-1)) (i_iceq fX12_schedule_78 (i_aload 0 (i_aload 0 (i_getR 11 81 (i_iload 4 (i_iaload (i_iload 3 (i_callV 11 2 mX12_settleStart (i_istore 3 (i_iinc 4 (1) k48)))))))))))))))
def fX12_schedule_30 : Fn := (i_push (.int (1)) (i_callV 11 2 mX12_fails (i_ifeq (i_aload 0 (i_callV 11 0 mX12_keepStarts (i_push (.int (0)) (i_istore 3 (i_push (.int (0)) (i_istore 4 (fX12_schedule_48 fuelN))))))) (i_push (.int (0)) i_ireturn))))
def fX12_schedule_18 : Fn := (i_istore 2 (i_aload 0 (i_iload 2 (i_push (.int (-1)) (i_icne (i_push (.int (0)) fX12_schedule_30) (i_push (.int (1)) fX12_schedule_30))))))
def fX12_schedule_0 : Fn := (i_aload 0 (i_push (.int (0)) (i_putI 11 0 (i_iload 1 (i_ifge (i_aload 0 (i_iload 1 (i_callV 11 1 mX12_readOrder fX12_schedule_18))) (i_push (.int (-1)) fX12_schedule_18))))))
def mX12_schedule : List Value → AH → Option Ou := runF 5 fX12_schedule_0
def fX12_tryOrders_125 (self : List Value → AH → Option Ou) (k52 : Fn) : Fn := (i_iinc 5 (1) k52)
def fX12_tryOrders_117 (self : List Value → AH → Option Ou) (k52 : Fn) : Fn := (i_aload 0 (i_getR 11 30 (i_iload 5 (i_push (.int (-1)) (i_iastore (fX12_tryOrders_125 self k52))))))
def fX12_tryOrders_97 (self : List Value → AH → Option Ou) (k52 : Fn) : Fn := (i_bin (fun x y => x + y) (i_iload 6 (i_iload 4 (i_iload 5 (i_push (.int (1)) (i_bin (fun x y => x + y) (i_aload 0 (i_getR 11 85 (i_iload 2 (i_iaload (i_bin (fun x y => x * y) (i_bin (fun x y => x + y) (i_callV 11 4 self (fX12_tryOrders_117 self k52))))))))))))))
def fX12_tryOrders_52 (self : List Value → AH → Option Ou) : Nat → Fn
  | 0 => fun _ _ _ => none
  | n + 1 => let k52 := fX12_tryOrders_52 self n; (i_iload 5 (i_aload 0 (i_getI 11 7 (i_icge i_return (i_iload 1 (i_iload 5 (i_callS 2 mX12_has (i_ifeq (i_aload 0 (i_iload 5 (i_iload 3 (i_callV 11 2 mX12_settleStart (i_istore 6 (i_iload 6 (i_push (.int (-1)) (i_iceq (fX12_tryOrders_117 self k52) (i_aload 0 (i_iload 1 (i_push (.int (1)) (i_iload 5 (i_bin (fun x y => x <<< (y &&& 31)) (i_bin (fun x y => x ||| y) (i_iload 2 (i_push (.int (1)) (fX12_tryOrders_97 self k52))))))))))))))))) (fX12_tryOrders_125 self k52)))))))))
def fX12_tryOrders_36 (self : List Value → AH → Option Ou) : Fn := (i_aload 0 (i_iload 5 (i_putI 11 83 (i_aload 0 (i_iload 4 (i_putI 11 84 i_return))))))
def fX12_tryOrders_0 (self : List Value → AH → Option Ou) : Fn := (i_iload 2 (i_aload 0 (i_getI 11 7 (i_icne (i_push (.int (0)) (i_istore 5 (fX12_tryOrders_52 self fuelN))) (i_aload 0 (i_callV 11 0 mX12_play (i_aload 0 (i_callV 11 0 mX12_finished (i_istore 5 (i_aload 0 (i_getI 11 83 (i_push (.int (-1)) (i_iceq (fX12_tryOrders_36 self) (i_iload 5 (i_aload 0 (i_getI 11 83 (i_iclt (fX12_tryOrders_36 self) i_return)))))))))))))))))
def mRX12_tryOrders : Nat → List Value → AH → Option Ou
  | 0 => fun _ _ => none
  | r + 1 => runF 7 (fX12_tryOrders_0 (mRX12_tryOrders r))
def mX12_tryOrders : List Value → AH → Option Ou := mRX12_tryOrders 8
def fX12_bestOf_38 : Fn := (i_callV 11 0 mX12_putBack (i_aload 0 (i_push (.int (0)) (i_putI 11 58 (i_aload 0 (i_aload 0 (i_getI 11 8 (i_putI 11 59 (i_aload 0 (i_aload 0 (i_getI 11 10 (i_putI 11 60 (i_aload 0 (i_getI 11 83 i_ireturn))))))))))))))
def fX12_bestOf_0 : Fn := (i_aload 0 (i_iload 1 (i_putI 11 58 (i_aload 0 (i_iload 2 (i_putI 11 59 (i_aload 0 (i_iload 3 (i_putI 11 60 (i_aload 0 (i_callV 11 0 mX12_keepStarts (i_aload 0 (i_push (.int (-1)) (i_putI 11 83 (i_aload 0 (i_push (.int (-1)) (i_putI 11 84 (i_aload 0 (i_push (.int (0)) (i_push (.int (0)) (i_push (.int (0)) (i_push (.int (0)) (i_callV 11 4 mX12_tryOrders (i_aload 0 fX12_bestOf_38))))))))))))))))))))))))
def mX12_bestOf : List Value → AH → Option Ou := runF 4 fX12_bestOf_0
def fX12_bestFinish_0 : Fn := (i_aload 0 (i_push (.int (0)) (i_putI 11 0 (i_aload 0 (i_push (.int (0)) (i_aload 0 (i_getI 11 8 (i_aload 0 (i_getI 11 10 (i_callV 11 3 mX12_bestOf i_ireturn))))))))))
def mX12_bestFinish : List Value → AH → Option Ou := runF 1 fX12_bestFinish_0
def fX12_bestOrder_0 : Fn := (i_aload 0 (i_push (.int (0)) (i_putI 11 0 (i_aload 0 (i_push (.int (0)) (i_aload 0 (i_getI 11 8 (i_aload 0 (i_getI 11 10 (i_callV 11 3 mX12_bestOf (i_pop (i_aload 0 (i_getI 11 84 i_ireturn)))))))))))))
def mX12_bestOrder : List Value → AH → Option Ou := runF 1 fX12_bestOrder_0
def fX12_bestFinishWithout_32 : Fn := i_ireturn
def fX12_bestFinishWithout_0 : Fn := (i_aload 0 (i_push (.int (0)) (i_putI 11 0 (i_aload 0 (i_iload 1 (i_callV 11 1 mX12_noEngine (i_ifeq (i_aload 0 (i_push (.int (1)) (i_iload 1 (i_bin (fun x y => x <<< (y &&& 31)) (i_aload 0 (i_getI 11 8 (i_aload 0 (i_getI 11 10 (i_callV 11 3 mX12_bestOf fX12_bestFinishWithout_32))))))))) (i_push (.int (0)) fX12_bestFinishWithout_32))))))))
def mX12_bestFinishWithout : List Value → AH → Option Ou := runF 2 fX12_bestFinishWithout_0
def fX12_bestFinishWith_31 : Fn := (i_push (.int (1)) (i_callV 11 2 mX12_fails (i_ifeq (i_aload 0 (i_push (.int (0)) (i_iload 1 (i_iload 2 (i_callV 11 3 mX12_bestOf i_ireturn))))) (i_push (.int (0)) i_ireturn))))
def fX12_bestFinishWith_26 : Fn := (i_push (.int (1)) fX12_bestFinishWith_31)
def fX12_bestFinishWith_0 : Fn := (i_aload 0 (i_push (.int (0)) (i_putI 11 0 (i_aload 0 (i_iload 1 (i_push (.int (0)) (i_push (.int (40)) (i_callS 3 mX12_inRange (i_ifeq fX12_bestFinishWith_26 (i_iload 2 (i_push (.int (1)) (i_push (.int (12)) (i_callS 3 mX12_inRange (i_ifne (i_push (.int (0)) fX12_bestFinishWith_31) fX12_bestFinishWith_26))))))))))))))
def mX12_bestFinishWith : List Value → AH → Option Ou := runF 3 fX12_bestFinishWith_0
def fX12_enoughRacks_52 : Fn := (i_push (.int (-1)) i_ireturn)
def fX12_enoughRacks_19 : Nat → Fn
  | 0 => fun _ _ _ => none
  | n + 1 => let k19 := fX12_enoughRacks_19 n; (i_iload 2 (i_push (.int (12)) (i_icgt fX12_enoughRacks_52 (i_iload 1 (i_push (.int (-1)) (i_iceq fX12_enoughRacks_52 (i_aload 0 (i_push (.int (0)) (i_aload 0 (i_getI 11 8 (i_iload 2 (i_callV 11 3 mX12_bestOf (i_iload 1 (i_icne (i_iinc 2 (1) k19) (i_iload 2 i_ireturn)))))))))))))))
def fX12_enoughRacks_0 : Fn := (i_aload 0 (i_push (.int (0)) (i_putI 11 0 (i_aload 0 (i_push (.int (0)) (i_aload 0 (i_getI 11 8 (i_push (.int (12)) (i_callV 11 3 mX12_bestOf (i_istore 1 (i_push (.int (1)) (i_istore 2 (fX12_enoughRacks_19 fuelN)))))))))))))
def mX12_enoughRacks : List Value → AH → Option Ou := runF 3 fX12_enoughRacks_0
def fX0_complete_23 : Nat → Fn
  | 0 => fun _ _ _ => none
  | n + 1 => let k23 := fX0_complete_23 n; (i_iload 1 (i_aload 0 (i_getR 0 1 (i_getI 3 0 (i_icge i_return (i_aload 0 (i_getR 0 1 (i_iload 1 (i_aload 0 (i_callV 3 2 mX3_planCalls (i_iinc 1 (1) k23)))))))))))
def fX0_complete_2 : Nat → Fn
  | 0 => fun _ _ _ => none
  | n + 1 => let k2 := fX0_complete_2 n; (i_iload 1 (i_aload 0 (i_getI 0 2 (i_icge (i_push (.int (0)) (i_istore 1 (fX0_complete_23 fuelN))) (i_aload 0 (i_iload 1 (i_callV 0 1 mX0_shortenWaysOver (i_iinc 1 (1) k2))))))))
def fX0_complete_0 : Fn := (i_push (.int (0)) (i_istore 1 (fX0_complete_2 fuelN)))
def mX0_complete : List Value → AH → Option Ou := runF 2 fX0_complete_0
def fX1_readSlot_0 : Fn := (i_aload 0 (i_push (.int (10)) (i_push (.int (60)) (i_callV 1 2 mX1_takeNumber (i_ifne (i_aload 0 (i_getR 1 3 (i_aload 0 (i_getI 1 7 (i_putI 0 6 (i_aload 0 (i_push (.int (1)) (i_putZ 1 5 (i_push (.int (1)) i_zreturn))))))))) (i_push (.int (0)) i_zreturn))))))
def mX1_readSlot : List Value → AH → Option Ou := runF 1 fX1_readSlot_0
def fX1_readNode_0 : Fn := (i_aload 0 (i_callV 1 0 mX1_takeNewName (i_ifne (i_aload 0 (i_getR 1 3 (i_aload 0 (i_getI 1 8 (i_callV 0 1 mX0_addNode (i_push (.int (1)) i_zreturn)))))) (i_push (.int (0)) i_zreturn))))
def mX1_readNode : List Value → AH → Option Ou := runF 1 fX1_readNode_0
def fX1_readRoad_63 : Fn := (i_getI 1 9 (i_aload 0 (i_getI 1 7 (i_callV 0 3 mX0_addRoad (i_push (.int (1)) i_zreturn)))))
def fX1_readRoad_0 : Fn := (i_aload 0 (i_push (.int (0)) (i_callV 1 1 mX1_takeObject (i_ifne (i_aload 0 (i_getI 1 9 (i_istore 1 (i_aload 0 (i_push (.int (0)) (i_callV 1 1 mX1_takeObject (i_ifne (i_aload 0 (i_getI 1 9 (i_iload 1 (i_icne (i_aload 0 (i_push (.int (1)) (i_push (.int (60)) (i_callV 1 2 mX1_takeNumber (i_ifne (i_aload 0 (i_getR 1 3 (i_iload 1 (i_aload 0 fX1_readRoad_63)))) (i_push (.int (0)) i_zreturn)))))) (i_aload 0 (i_push (.int (3)) (i_aload 0 (i_getI 1 4 (i_push (.int (1)) (i_bin (fun x y => x - y) (i_callV 1 2 mX1_fail i_zreturn))))))))))) (i_push (.int (0)) i_zreturn)))))))) (i_push (.int (0)) i_zreturn)))))
def mX1_readRoad : List Value → AH → Option Ou := runF 2 fX1_readRoad_0
def fX1_readStation_25 : Fn := (i_push (.int (0)) i_zreturn)
def fX1_readStation_0 : Fn := (i_aload 0 (i_callV 1 0 mX1_takeNewName (i_ifeq fX1_readStation_25 (i_aload 0 (i_push (.ref 1008) (i_callV 1 1 mX1_take (i_ifeq fX1_readStation_25 (i_aload 0 (i_push (.int (0)) (i_callV 1 1 mX1_takeObject (i_ifne (i_aload 0 (i_getR 1 3 (i_aload 0 (i_getI 1 8 (i_aload 0 (i_getI 1 9 (i_callV 0 2 mX0_addStation (i_push (.int (1)) i_zreturn)))))))) fX1_readStation_25)))))))))))
def mX1_readStation : List Value → AH → Option Ou := runF 1 fX1_readStation_0
def fX1_readEngine_32 : Fn := (i_push (.int (0)) i_zreturn)
def fX1_readEngine_54 : Fn := i_zreturn
def fX1_readEngine_0 : Fn := (i_aload 0 (i_callV 1 0 mX1_takeNewName (i_ifeq fX1_readEngine_32 (i_aload 0 (i_callV 1 0 mX1_takeKind (i_ifeq fX1_readEngine_32 (i_aload 0 (i_push (.ref 1008) (i_callV 1 1 mX1_take (i_ifeq fX1_readEngine_32 (i_aload 0 (i_push (.int (1)) (i_callV 1 1 mX1_takeObject (i_ifne (i_aload 0 (i_getR 1 3 (i_aload 0 (i_getI 1 8 (i_aload 0 (i_getI 1 10 (i_aload 0 (i_getI 1 9 (i_callV 0 3 mX0_addEngine (i_push (.int (1)) fX1_readEngine_54)))))))))) fX1_readEngine_32))))))))))))))
def mX1_readEngine : List Value → AH → Option Ou := runF 1 fX1_readEngine_0
def fX1_readStreet_28 : Fn := (i_push (.int (0)) i_zreturn)
def fX1_readStreet_60 : Fn := (i_aload 0 (i_getR 1 3 (i_getR 0 0 (i_aload 0 (i_getI 1 9 (i_aload 0 (i_getI 1 7 (i_iload 1 (i_callV 7 3 mX7_add (i_push (.int (1)) i_zreturn))))))))))
def fX1_readStreet_51 : Fn := (i_dup (i_getI 1 4 (i_push (.int (1)) (i_bin (fun x y => x + y) (i_putI 1 4 fX1_readStreet_60)))))
def fX1_readStreet_0 : Fn := (i_aload 0 (i_push (.int (0)) (i_callV 1 1 mX1_takeObject (i_ifeq fX1_readStreet_28 (i_aload 0 (i_push (.ref 1009) (i_callV 1 1 mX1_take (i_ifeq fX1_readStreet_28 (i_aload 0 (i_push (.int (0)) (i_push (.int (120)) (i_callV 1 2 mX1_takeNumber (i_ifne (i_aload 0 (i_getR 1 2 (i_aload 0 (i_getI 1 4 (i_callV 9 1 mX10_sortAt (i_callS 1 mX1_kindOfWord (i_istore 1 (i_iload 1 (i_push (.int (-1)) (i_iceq fX1_readStreet_60 (i_aload 0 fX1_readStreet_51))))))))))) fX1_readStreet_28)))))))))))))
def mX1_readStreet : List Value → AH → Option Ou := runF 2 fX1_readStreet_0
def fX1_readHoses_43 : Fn := (i_push (.int (0)) i_zreturn)
def fX1_readHoses_76 : Fn := (i_push (.int (0)) i_zreturn)
def fX1_readHoses_56 : Fn := (i_aload 0 (i_push (.ref 1011) (i_callV 1 1 mX1_take (i_ifeq fX1_readHoses_76 (i_aload 0 (i_push (.int (1)) (i_push (.int (12)) (i_callV 1 2 mX1_takeNumber (i_ifne (i_aload 0 (i_getR 1 3 (i_aload 0 (i_getI 1 7 (i_putI 0 9 (i_aload 0 (i_push (.int (1)) (i_putZ 1 6 (i_push (.int (1)) i_zreturn))))))))) fX1_readHoses_76)))))))))
def fX1_readHoses_0 : Fn := (i_aload 0 (i_push (.int (0)) (i_push (.int (40)) (i_callV 1 2 mX1_takeNumber (i_ifne (i_aload 0 (i_getR 1 3 (i_aload 0 (i_getI 1 7 (i_putI 0 7 (i_aload 0 (i_push (.ref 1010) (i_callV 1 1 mX1_take (i_ifeq fX1_readHoses_43 (i_aload 0 (i_push (.int (1)) (i_push (.int (12)) (i_callV 1 2 mX1_takeNumber (i_ifne (i_aload 0 (i_getR 1 3 (i_aload 0 (i_getI 1 7 (i_putI 0 8 fX1_readHoses_56))))) fX1_readHoses_43)))))))))))))) (i_push (.int (0)) i_zreturn))))))
def mX1_readHoses : List Value → AH → Option Ou := runF 1 fX1_readHoses_0
def fX1_readNeeds_35 : Fn := (i_push (.int (0)) i_zreturn)
def fX1_readNeeds_82 (k14 : Fn) : Fn := (i_iinc 1 (1) k14)
def fX1_readNeeds_80 : Fn := (i_push (.int (1)) i_zreturn)
def fX1_readNeeds_64 : Fn := (i_push (.int (1)) (i_bin (fun x y => x - y) (i_callV 1 2 mX1_fail i_zreturn)))
def fX1_readNeeds_14 : Nat → Fn
  | 0 => fun _ _ _ => none
  | n + 1 => let k14 := fX1_readNeeds_14 n; (i_iload 1 (i_push (.int (3)) (i_icgt (i_aload 0 (i_push (.int (1)) (i_aload 0 (i_getI 1 4 (i_callV 1 2 mX1_fail i_zreturn))))) (i_aload 0 (i_push (.int (1)) (i_push (.int (4)) (i_callV 1 2 mX1_takeNumber (i_ifeq fX1_readNeeds_35 (i_aload 0 (i_callV 1 0 mX1_takeKind (i_ifne (i_aload 0 (i_getR 1 3 (i_getR 0 1 (i_aload 0 (i_getI 1 10 (i_aload 0 (i_getI 1 7 (i_callV 3 2 mX3_addNeed (i_ifne (i_aload 0 (i_push (.ref 1023) (i_callV 1 1 mX1_takeIfThere (i_ifne (fX1_readNeeds_82 k14) fX1_readNeeds_80)))) (i_aload 0 (i_push (.int (3)) (i_aload 0 (i_getI 1 4 fX1_readNeeds_64))))))))))))) fX1_readNeeds_35)))))))))))
def fX1_readNeeds_0 : Fn := (i_aload 0 (i_push (.ref 1013) (i_callV 1 1 mX1_take (i_ifne (i_push (.int (0)) (i_istore 1 (fX1_readNeeds_14 fuelN))) (i_push (.int (0)) i_zreturn)))))
def mX1_readNeeds : List Value → AH → Option Ou := runF 2 fX1_readNeeds_0
def fX1_readDrillHoses_0 : Fn := (i_aload 0 (i_push (.ref 1014) (i_callV 1 1 mX1_takeIfThere (i_ifne (i_aload 0 (i_push (.int (0)) (i_push (.int (40)) (i_callV 1 2 mX1_takeNumber (i_ifne (i_aload 0 (i_getR 1 3 (i_getR 0 1 (i_aload 0 (i_getI 1 7 (i_callV 3 1 mX3_setHoses (i_push (.int (1)) i_zreturn))))))) (i_push (.int (0)) i_zreturn)))))) (i_push (.int (1)) i_zreturn)))))
def mX1_readDrillHoses : List Value → AH → Option Ou := runF 1 fX1_readDrillHoses_0
def fX1_readAfter_14 : Nat → Fn
  | 0 => fun _ _ _ => none
  | n + 1 => let k14 := fX1_readAfter_14 n; (i_iload 1 (i_push (.int (5)) (i_icgt (i_aload 0 (i_push (.int (1)) (i_aload 0 (i_getI 1 4 (i_callV 1 2 mX1_fail i_zreturn))))) (i_aload 0 (i_push (.int (3)) (i_callV 1 1 mX1_takeObject (i_ifne (i_aload 0 (i_getR 1 3 (i_getR 0 1 (i_aload 0 (i_getI 1 9 (i_callV 3 1 mX3_addAfter (i_ifne (i_aload 0 (i_push (.ref 1023) (i_callV 1 1 mX1_takeIfThere (i_ifne (i_iinc 1 (1) k14) (i_push (.int (1)) i_zreturn))))) (i_aload 0 (i_push (.int (3)) (i_aload 0 (i_getI 1 4 (i_push (.int (1)) (i_bin (fun x y => x - y) (i_callV 1 2 mX1_fail i_zreturn)))))))))))))) (i_push (.int (0)) i_zreturn))))))))
def fX1_readAfter_0 : Fn := (i_aload 0 (i_push (.ref 1015) (i_callV 1 1 mX1_takeIfThere (i_ifne (i_push (.int (0)) (i_istore 1 (fX1_readAfter_14 fuelN))) (i_push (.int (1)) i_zreturn)))))
def mX1_readAfter : List Value → AH → Option Ou := runF 2 fX1_readAfter_0
def fX1_readFrom_0 : Fn := (i_aload 0 (i_push (.ref 1016) (i_callV 1 1 mX1_takeIfThere (i_ifne (i_aload 0 (i_push (.int (0)) (i_push (.int (23)) (i_callV 1 2 mX1_takeNumber (i_ifne (i_aload 0 (i_getR 1 3 (i_getR 0 1 (i_aload 0 (i_getI 1 7 (i_callV 3 1 mX3_setFirstSlot (i_push (.int (1)) i_zreturn))))))) (i_push (.int (0)) i_zreturn)))))) (i_push (.int (1)) i_zreturn)))))
def mX1_readFrom : List Value → AH → Option Ou := runF 1 fX1_readFrom_0
def fX2_serve_25 (k15 : Fn) : Nat → Fn
  | 0 => fun _ _ _ => none
  | n + 1 => let k25 := fX2_serve_25 k15 n; (i_iload 3 (i_push (.int (3)) (i_icge (i_iinc 2 (1) k15) (i_aload 0 (i_getR 2 2 (i_iload 2 (i_push (.int (3)) (i_bin (fun x y => x * y) (i_iload 3 (i_bin (fun x y => x + y) (i_aload 0 (i_iload 2 (i_iload 3 (i_callV 2 2 mX2_streetsCoveredFrom (i_callS 3 mX11_put (i_iinc 3 (1) k25))))))))))))))))
def fX2_serve_15 : Nat → Fn
  | 0 => fun _ _ _ => none
  | n + 1 => let k15 := fX2_serve_15 n; (i_iload 2 (i_aload 1 (i_getI 0 4 (i_icge i_return (i_push (.int (0)) (i_istore 3 (fX2_serve_25 k15 fuelN)))))))
def fX2_serve_0 : Fn := (i_aload 0 (i_aload 1 (i_putR 2 0 (i_aload 0 (i_getR 2 1 (i_push (.int (-1)) (i_callS 2 mJ7_fill_53178 (i_push (.int (0)) (i_istore 2 (fX2_serve_15 fuelN))))))))))
def mX2_serve : List Value → AH → Option Ou := runF 4 fX2_serve_0
def fX8_play_145 (k8 : Fn) : Fn := (i_iinc 3 (1) k8)
def fX8_play_143 : Fn := (i_iload 2 i_zreturn)
def fX8_play_120 (k8 : Fn) : Fn := (i_iload 1 (i_ifeq (fX8_play_145 k8) (i_iload 2 (i_ifeq fX8_play_143 (i_iload 3 (i_aload 0 (i_getI 8 17 (i_iclt (fX8_play_145 k8) (i_aload 0 (i_getI 8 16 (i_ifne (fX8_play_145 k8) fX8_play_143)))))))))))
def fX8_play_112 (k8 : Fn) : Fn := (i_callV 2 1 mX2_openStreets (i_ifeq (fX8_play_120 k8) (i_push (.int (0)) (i_istore 2 (fX8_play_120 k8)))))
def fX8_play_71 (k8 : Fn) (k42 : Fn) : Fn := (i_iinc 4 (1) k42)
def fX8_play_42 (k8 : Fn) : Nat → Fn
  | 0 => fun _ _ _ => none
  | n + 1 => let k42 := fX8_play_42 k8 n; (i_iload 4 (i_push (.int (5)) (i_icge (i_aload 0 (i_getR 8 0 (i_iload 3 (i_callV 5 1 mX5_note (i_aload 0 (i_getR 8 7 (i_iload 3 (i_aload 0 (i_getI 8 13 (i_aload 0 (i_getI 8 16 (i_push (.int (-1)) (i_bin (fun x y => x ^^^ y) (i_bin (fun x y => x &&& y) (i_iastore (i_aload 0 (i_getR 8 9 (i_aload 0 (i_getR 8 7 (i_iload 3 (i_iaload (fX8_play_112 k8)))))))))))))))))))))) (i_aload 0 (i_getR 8 1 (i_iload 4 (i_iaload (i_iload 3 (i_icne (fX8_play_71 k8 k42) (i_aload 0 (i_iload 4 (i_iload 3 (i_callV 8 2 mX8_launch (i_ifne (fX8_play_71 k8 k42) (i_push (.int (0)) (i_istore 2 (fX8_play_71 k8 k42)))))))))))))))))
def fX8_play_8 : Nat → Fn
  | 0 => fun _ _ _ => none
  | n + 1 => let k8 := fX8_play_8 n; (i_iload 3 (i_push (.int (48)) (i_icge (i_iload 2 i_zreturn) (i_aload 0 (i_getR 8 0 (i_iload 3 (i_callV 5 1 mX5_advance (i_aload 0 (i_dup (i_getI 8 16 (i_aload 0 (i_getR 8 11 (i_iload 3 (i_iaload (i_push (.int (-1)) (i_bin (fun x y => x ^^^ y) (i_bin (fun x y => x &&& y) (i_putI 8 16 (i_push (.int (0)) (i_istore 4 (fX8_play_42 k8 fuelN)))))))))))))))))))))
def fX8_play_0 : Fn := (i_aload 0 (i_callV 8 0 mX8_reset (i_push (.int (1)) (i_istore 2 (i_push (.int (0)) (i_istore 3 (fX8_play_8 fuelN)))))))
def mX8_play : List Value → AH → Option Ou := runF 5 fX8_play_0
def fX8_listViolations_60 (k7 : Fn) : Fn := (i_iinc 1 (1) k7)
def fX8_listViolations_15 (k7 : Fn) : Nat → Fn
  | 0 => fun _ _ _ => none
  | n + 1 => let k15 := fX8_listViolations_15 k7 n; (i_iload 2 (i_push (.int (4)) (i_icgt (i_aload 0 (i_getR 8 9 (i_aload 0 (i_getR 8 7 (i_iload 1 (i_iaload (i_callV 2 1 mX2_openStreets (i_istore 2 (i_iload 2 (i_ifeq (fX8_listViolations_60 k7) (i_aload 0 (i_iload 1 (i_push (.int (5)) (i_iload 2 (i_callS 1 mX8_firstOf (i_callV 8 3 mX8_addViolation (fX8_listViolations_60 k7))))))))))))))))) (i_aload 0 (i_iload 1 (i_iload 2 (i_callV 8 2 mX8_listCancelled (i_iinc 2 (1) k15))))))))
def fX8_listViolations_7 : Nat → Fn
  | 0 => fun _ _ _ => none
  | n + 1 => let k7 := fX8_listViolations_7 n; (i_iload 1 (i_push (.int (48)) (i_icge i_return (i_push (.int (1)) (i_istore 2 (fX8_listViolations_15 k7 fuelN))))))
def fX8_listViolations_0 : Fn := (i_aload 0 (i_push (.int (0)) (i_putI 8 8 (i_push (.int (0)) (i_istore 1 (fX8_listViolations_7 fuelN))))))
def mX8_listViolations : List Value → AH → Option Ou := runF 3 fX8_listViolations_0
def fX10_sortOfWord_56 : Fn := i_areturn
def fX10_sortOfWord_2 : Nat → Fn
  | 0 => fun _ _ _ => none
  | n + 1 => let k2 := fX10_sortOfWord_2 n; (i_iload 3 (i_push (.ref 1100) (i_alenT (i_icge (i_iload 2 (i_iload 1 (i_bin (fun x y => x - y) (i_push (.int (6)) (i_icgt (i_push (.ref 1024) fX10_sortOfWord_56) (i_push (.ref 1020) fX10_sortOfWord_56)))))) (i_push (.ref 1100) (i_iload 3 (i_aaloadT (i_tokTx (i_aload 0 (i_iload 1 (i_iload 2 (i_callS 4 mX10_isSpelled (i_ifeq (i_iinc 3 (1) k2) (i_push (.ref 1100) (i_iload 3 (i_aaloadT i_areturn))))))))))))))))
def fX10_sortOfWord_0 : Fn := (i_push (.int (0)) (i_istore 3 (fX10_sortOfWord_2 fuelN)))
def mX10_sortOfWord : List Value → AH → Option Ou := runF 4 fX10_sortOfWord_0
def fX1_readDrill_25 : Fn := (i_push (.int (0)) i_zreturn)
def fX1_readDrill_47 : Fn := (i_push (.int (0)) i_zreturn)
def fX1_readDrill_100 : Fn := (i_push (.int (0)) i_zreturn)
def fX1_readDrill_111 : Fn := i_zreturn
def fX1_readDrill_55 : Fn := (i_getR 1 3 (i_getR 0 1 (i_aload 0 (i_getI 1 9 (i_aload 0 (i_getI 1 7 (i_callV 3 2 mX3_open (i_aload 0 (i_callV 1 0 mX1_readNeeds (i_ifeq fX1_readDrill_100 (i_aload 0 (i_callV 1 0 mX1_readDrillHoses (i_ifeq fX1_readDrill_100 (i_aload 0 (i_callV 1 0 mX1_readAfter (i_ifeq fX1_readDrill_100 (i_aload 0 (i_callV 1 0 mX1_readFrom (i_ifne (i_aload 0 (i_getR 1 3 (i_iload 1 (i_callV 0 1 mX0_addDrill (i_push (.int (1)) fX1_readDrill_111))))) fX1_readDrill_100)))))))))))))))))))
def fX1_readDrill_0 : Fn := (i_aload 0 (i_callV 1 0 mX1_takeNewName (i_ifeq fX1_readDrill_25 (i_aload 0 (i_push (.ref 1008) (i_callV 1 1 mX1_take (i_ifeq fX1_readDrill_25 (i_aload 0 (i_push (.int (0)) (i_callV 1 1 mX1_takeObject (i_ifne (i_aload 0 (i_push (.ref 1012) (i_callV 1 1 mX1_take (i_ifeq fX1_readDrill_47 (i_aload 0 (i_push (.int (1)) (i_push (.int (8)) (i_callV 1 2 mX1_takeNumber (i_ifne (i_aload 0 (i_getI 1 8 (i_istore 1 (i_aload 0 fX1_readDrill_55)))) fX1_readDrill_47))))))))) fX1_readDrill_25)))))))))))
def mX1_readDrill : List Value → AH → Option Ou := runF 2 fX1_readDrill_0
def fX8_placeFrom_22 : Nat → Fn
  | 0 => fun _ _ _ => none
  | n + 1 => let k22 := fX8_placeFrom_22 n; (i_iload 4 (i_push (.int (24)) (i_icge (i_aload 0 (i_iload 1 (i_push (.int (-1)) (i_callV 8 2 mX8_putStart (i_push (.int (-1)) i_ireturn))))) (i_aload 0 (i_iload 1 (i_iload 4 (i_callV 8 2 mX8_putStart (i_aload 0 (i_push (.int (1)) (i_callV 8 1 mX8_play (i_ifeq (i_iinc 4 (1) k22) (i_iload 4 i_ireturn))))))))))))
def fX8_placeFrom_0 : Fn := (i_iload 2 (i_aload 0 (i_getR 8 12 (i_getR 0 1 (i_getR 3 5 (i_iload 1 (i_callS 2 mX11_cell (i_max (i_istore 3 (i_iload 3 (i_istore 4 (fX8_placeFrom_22 fuelN))))))))))))
def mX8_placeFrom : List Value → AH → Option Ou := runF 5 fX8_placeFrom_0
def fX8_review_0 : Fn := (i_aload 0 (i_push (.int (0)) (i_callV 8 1 mX8_play (i_pop (i_aload 0 (i_callV 8 0 mX8_listViolations i_return))))))
def mX8_review : List Value → AH → Option Ou := runF 1 fX8_review_0
def fX10_sortOf_10 : Fn := (i_push (.ref 1024) i_areturn)
def fX10_sortOf_81 : Fn := i_areturn
def fX10_sortOf_55 : Fn := i_areturn
def fX10_sortOf_0 : Fn := (i_iload 1 (i_iflt fX10_sortOf_10 (i_iload 1 (i_aload 0 (i_alen (i_iclt (i_aload 0 (i_iload 1 (i_baload (i_istore 3 (i_iload 3 (i_callS 1 mX10_isLetter (i_ifeq (i_iload 3 (i_callS 1 mX10_isDigit (i_ifeq (i_iload 3 (i_push (.int (59)) (i_icne (i_iload 3 (i_push (.int (44)) (i_icne (i_push (.ref 1024) fX10_sortOf_81) (i_push (.ref 1023) fX10_sortOf_81)))) (i_push (.ref 1022) i_areturn)))) (i_iload 2 (i_iload 1 (i_bin (fun x y => x - y) (i_push (.int (4)) (i_icgt (i_push (.ref 1024) fX10_sortOf_55) (i_push (.ref 1021) fX10_sortOf_55))))))))) (i_aload 0 (i_iload 1 (i_iload 2 (i_callS 3 mX10_sortOfWord i_areturn))))))))))) fX10_sortOf_10))))))
def mX10_sortOf : List Value → AH → Option Ou := runF 4 fX10_sortOf_0
def fX11_setStart_49 : Fn := (i_iload 2 (i_callV 8 2 mX8_putStart (i_aload 0 (i_getR 10 5 (i_callV 8 0 mX8_review (i_iload 3 i_ireturn))))))
def fX11_setStart_0 : Fn := (i_iload 1 (i_aload 0 (i_getR 10 8 (i_getR 0 1 (i_getI 3 0 (i_callS 2 mX11_checkIndex (i_iload 2 (i_push (.int (-1)) (i_push (.int (23)) (i_callS 3 mX11_checkRange (i_aload 0 (i_getR 10 2 (i_aload 0 (i_getR 10 5 (i_getR 8 1 (i_callV 4 1 mX4_remember (i_aload 0 (i_getR 10 5 (i_iload 1 (i_callV 8 1 mX8_startOf (i_istore 3 (i_aload 0 (i_getR 10 5 (i_iload 1 fX11_setStart_49))))))))))))))))))))))))
def mX11_setStart : List Value → AH → Option Ou := runF 4 fX11_setStart_0
def fX11_clearStarts_47 (k18 : Fn) : Fn := (i_iinc 2 (1) k18)
def fX11_clearStarts_18 : Nat → Fn
  | 0 => fun _ _ _ => none
  | n + 1 => let k18 := fX11_clearStarts_18 n; (i_iload 2 (i_aload 0 (i_getR 10 8 (i_getR 0 1 (i_getI 3 0 (i_icge (i_aload 0 (i_getR 10 5 (i_callV 8 0 mX8_dropStarts (i_aload 0 (i_getR 10 5 (i_callV 8 0 mX8_review (i_iload 1 i_ireturn))))))) (i_aload 0 (i_getR 10 5 (i_iload 2 (i_callV 8 1 mX8_startOf (i_push (.int (-1)) (i_iceq (fX11_clearStarts_47 k18) (i_iinc 1 (1) (fX11_clearStarts_47 k18))))))))))))))
def fX11_clearStarts_0 : Fn := (i_aload 0 (i_getR 10 2 (i_aload 0 (i_getR 10 5 (i_getR 8 1 (i_callV 4 1 mX4_remember (i_push (.int (0)) (i_istore 1 (i_push (.int (0)) (i_istore 2 (fX11_clearStarts_18 fuelN)))))))))))
def mX11_clearStarts : List Value → AH → Option Ou := runF 3 fX11_clearStarts_0
def fX11_undo_0 : Fn := (i_aload 0 (i_getR 10 2 (i_getI 4 0 (i_ifne (i_aload 0 (i_getR 10 2 (i_aload 0 (i_getR 10 5 (i_getR 8 1 (i_callV 4 1 mX4_restore (i_aload 0 (i_getR 10 5 (i_callV 8 0 mX8_review (i_aload 0 (i_getR 10 2 (i_getI 4 0 i_ireturn)))))))))))) (i_push (.int (-1)) i_ireturn)))))
def mX11_undo : List Value → AH → Option Ou := runF 1 fX11_undo_0
def fX11_earliestStart_0 : Fn := (i_iload 1 (i_aload 0 (i_getR 10 8 (i_getR 0 1 (i_getI 3 0 (i_callS 2 mX11_checkIndex (i_aload 0 (i_getR 10 6 (i_aload 0 (i_getR 10 8 (i_callV 8 1 mX8_equipAs (i_aload 0 (i_getR 10 6 (i_aload 0 (i_getR 10 5 (i_callV 8 1 mX8_copyStarts (i_aload 0 (i_getR 10 6 (i_iload 1 (i_push (.int (0)) (i_callV 8 2 mX8_placeFrom i_ireturn)))))))))))))))))))))
def mX11_earliestStart : List Value → AH → Option Ou := runF 2 fX11_earliestStart_0
def fX11_serveLoadedBrigade_0 : Fn := (i_aload 0 (i_getR 10 4 (i_aload 0 (i_getR 10 8 (i_callV 2 1 mX2_serve (i_aload 0 (i_getR 10 6 (i_aload 0 (i_getR 10 8 (i_callV 8 1 mX8_serve (i_aload 0 (i_getR 10 5 (i_aload 0 (i_getR 10 8 (i_callV 8 1 mX8_serve (i_aload 0 (i_getR 10 5 (i_callV 8 0 mX8_review (i_aload 0 (i_getR 10 2 (i_push (.int (0)) (i_putI 4 0 i_return))))))))))))))))))))))
def mX11_serveLoadedBrigade : List Value → AH → Option Ou := runF 1 fX11_serveLoadedBrigade_0
def fX11_compactOnce_48 (k4 : Fn) : Fn := (i_iinc 2 (1) k4)
def fX11_compactOnce_4 : Nat → Fn
  | 0 => fun _ _ _ => none
  | n + 1 => let k4 := fX11_compactOnce_4 n; (i_iload 2 (i_aload 0 (i_getR 10 8 (i_getR 0 1 (i_getI 3 0 (i_icge (i_iload 1 i_ireturn) (i_aload 0 (i_getR 10 6 (i_iload 2 (i_callV 8 1 mX8_startOf (i_istore 3 (i_iload 3 (i_push (.int (-1)) (i_iceq (fX11_compactOnce_48 k4) (i_aload 0 (i_getR 10 6 (i_iload 2 (i_push (.int (0)) (i_callV 8 2 mX8_placeFrom (i_iload 3 (i_iceq (fX11_compactOnce_48 k4) (i_iinc 1 (1) (fX11_compactOnce_48 k4)))))))))))))))))))))))
def fX11_compactOnce_0 : Fn := (i_push (.int (0)) (i_istore 1 (i_push (.int (0)) (i_istore 2 (fX11_compactOnce_4 fuelN)))))
def mX11_compactOnce : List Value → AH → Option Ou := runF 4 fX11_compactOnce_0
def fX1_readBody_90 : Fn := i_zreturn
def fX1_readBody_0 : Fn := (i_aload 1 (i_push (.ref 1000) (i_acne (i_aload 1 (i_push (.ref 1001) (i_acne (i_aload 1 (i_push (.ref 1002) (i_acne (i_aload 1 (i_push (.ref 1003) (i_acne (i_aload 1 (i_push (.ref 1004) (i_acne (i_aload 1 (i_push (.ref 1005) (i_acne (i_aload 1 (i_push (.ref 1007) (i_acne (i_aload 0 (i_callV 1 0 mX1_readHoses fX1_readBody_90)) (i_aload 0 (i_callV 1 0 mX1_readDrill fX1_readBody_90))))) (i_aload 0 (i_callV 1 0 mX1_readStreet i_zreturn))))) (i_aload 0 (i_callV 1 0 mX1_readEngine i_zreturn))))) (i_aload 0 (i_callV 1 0 mX1_readStation i_zreturn))))) (i_aload 0 (i_callV 1 0 mX1_readRoad i_zreturn))))) (i_aload 0 (i_callV 1 0 mX1_readNode i_zreturn))))) (i_aload 0 (i_callV 1 0 mX1_readSlot i_zreturn)))))
def mX1_readBody : List Value → AH → Option Ou := runF 2 fX1_readBody_0
def fX6_listSchedule_11 : Nat → Fn
  | 0 => fun _ _ _ => none
  | n + 1 => let k11 := fX6_listSchedule_11 n; (i_iload 3 (i_ifle (i_push (.int (1)) i_zreturn) (i_aload 0 (i_getR 6 2 (i_iload 3 (i_push (.int (10)) (i_div (fun x y => x - x / y * y) (i_push (.int (1)) (i_bin (fun x y => x - y) (i_iload 2 (i_callV 8 2 mX8_placeFrom (i_istore 2 (i_iload 2 (i_push (.int (-1)) (i_icne (i_iload 3 (i_push (.int (10)) (i_div (fun x y => x / y) (i_istore 3 k11)))) (i_push (.int (0)) i_zreturn))))))))))))))))
def fX6_listSchedule_0 : Fn := (i_aload 0 (i_getR 6 2 (i_callV 8 0 mX8_dropStarts (i_push (.int (0)) (i_istore 2 (i_iload 1 (i_istore 3 (fX6_listSchedule_11 fuelN))))))))
def mX6_listSchedule : List Value → AH → Option Ou := runF 4 fX6_listSchedule_0
def fX6_extend_126 (self : List Value → AH → Option Ou) (k50 : Fn) : Fn := (i_iinc 7 (1) k50)
def fX6_extend_116 (self : List Value → AH → Option Ou) (k50 : Fn) : Fn := (i_aload 0 (i_getR 6 2 (i_iload 7 (i_push (.int (-1)) (i_callV 8 2 mX8_putStart (fX6_extend_126 self k50))))))
def fX6_extend_92 (self : List Value → AH → Option Ou) (k50 : Fn) : Fn := (i_push (.int (1)) (i_iload 7 (i_bin (fun x y => x <<< (y &&& 31)) (i_bin (fun x y => x ||| y) (i_iload 3 (i_iload 7 (i_push (.int (1)) (i_bin (fun x y => x + y) (i_iload 4 (i_bin (fun x y => x * y) (i_bin (fun x y => x + y) (i_iload 4 (i_push (.int (10)) (i_bin (fun x y => x * y) (i_iload 8 (i_callS 6 self (fX6_extend_116 self k50)))))))))))))))))
def fX6_extend_50 (self : List Value → AH → Option Ou) : Nat → Fn
  | 0 => fun _ _ _ => none
  | n + 1 => let k50 := fX6_extend_50 self n; (i_iload 7 (i_aload 0 (i_getI 6 3 (i_icge i_return (i_iload 2 (i_iload 7 (i_bin (fun x y => x >>> (y &&& 31)) (i_push (.int (1)) (i_bin (fun x y => x &&& y) (i_ifne (fX6_extend_126 self k50) (i_aload 0 (i_getR 6 2 (i_iload 7 (i_iload 5 (i_callV 8 2 mX8_placeFrom (i_istore 8 (i_iload 8 (i_push (.int (-1)) (i_iceq (fX6_extend_116 self k50) (i_aload 0 (i_iload 1 (i_push (.int (1)) (i_bin (fun x y => x + y) (i_iload 2 (fX6_extend_92 self k50)))))))))))))))))))))))))
def fX6_extend_27 (self : List Value → AH → Option Ou) : Fn := (i_iload 1 (i_aload 0 (i_getI 6 3 (i_iclt (i_push (.int (0)) (i_istore 7 (fX6_extend_50 self fuelN))) (i_aload 0 (i_iload 6 (i_putI 6 1 (i_aload 0 (i_iload 3 (i_putI 6 0 i_return))))))))))
def fX6_extend_0 (self : List Value → AH → Option Ou) : Fn := (i_aload 0 (i_getR 6 2 (i_callV 8 0 mX8_greatestEnd (i_istore 6 (i_aload 0 (i_getI 6 1 (i_push (.int (-1)) (i_iceq (fX6_extend_27 self) (i_iload 6 (i_aload 0 (i_getI 6 1 (i_iclt (fX6_extend_27 self) i_return))))))))))))
def mRX6_extend : Nat → List Value → AH → Option Ou
  | 0 => fun _ _ => none
  | r + 1 => runF 9 (fX6_extend_0 (mRX6_extend r))
def mX6_extend : List Value → AH → Option Ou := mRX6_extend 8
def fX10_scan_117 : Fn := (i_aload 0 (i_push (.ref 1025) (i_iload 2 (i_push (.int (0)) (i_callV 9 3 mX10_add i_return)))))
def fX10_scan_111 (k7 : Fn) : Fn := (i_iinc 3 (1) k7)
def fX10_scan_74 (k7 : Fn) : Fn := (i_aload 1 (i_iload 3 (i_iload 4 (i_callS 3 mX10_sortOf (i_astore 5 (i_aload 0 (i_aload 5 (i_iload 3 (i_aload 1 (i_iload 3 (i_iload 4 (i_callS 3 mX10_valueOf (i_callV 9 3 mX10_add (i_aload 5 (i_push (.ref 1024) (i_acne (i_iload 4 (i_push (.int (1)) (i_bin (fun x y => x - y) (i_istore 3 (fX10_scan_111 k7))))) i_return))))))))))))))))
def fX10_scan_42 (k7 : Fn) : Nat → Fn
  | 0 => fun _ _ _ => none
  | n + 1 => let k42 := fX10_scan_42 k7 n; (i_iload 4 (i_iload 2 (i_icge (fX10_scan_74 k7) (i_iload 4 (i_aload 1 (i_alen (i_icge (fX10_scan_74 k7) (i_aload 1 (i_iload 3 (i_baload (i_aload 1 (i_iload 4 (i_baload (i_callS 2 mX10_isSameRun (i_ifeq (fX10_scan_74 k7) (i_iinc 4 (1) k42))))))))))))))))
def fX10_scan_7 : Nat → Fn
  | 0 => fun _ _ _ => none
  | n + 1 => let k7 := fX10_scan_7 n; (i_iload 3 (i_iload 2 (i_icge fX10_scan_117 (i_iload 3 (i_aload 1 (i_alen (i_icge fX10_scan_117 (i_aload 1 (i_iload 3 (i_baload (i_push (.int (32)) (i_iceq (fX10_scan_111 k7) (i_aload 1 (i_iload 3 (i_baload (i_push (.int (10)) (i_icne (i_iload 3 (i_push (.int (1)) (i_bin (fun x y => x + y) (i_istore 4 (fX10_scan_42 k7 fuelN))))) (fX10_scan_111 k7))))))))))))))))))
def fX10_scan_0 : Fn := (i_aload 0 (i_push (.int (0)) (i_putI 9 3 (i_push (.int (0)) (i_istore 3 (fX10_scan_7 fuelN))))))
def mX10_scan : List Value → AH → Option Ou := runF 6 fX10_scan_0
def fX11_init_151 : Fn := (i_putR 10 7 (i_aload 0 (i_callV 10 0 mX11_serveLoadedBrigade i_return)))
def fX11_init_101 : Fn := (i_aload 0 (i_new 8 (i_dup (i_aload 0 (i_getR 10 8 (i_aload 0 (i_getR 10 4 (i_callI 2 mX8_init (i_putR 10 5 (i_aload 0 (i_new 8 (i_dup (i_aload 0 (i_getR 10 8 (i_aload 0 (i_getR 10 4 (i_callI 2 mX8_init (i_putR 10 6 (i_aload 0 (i_new 6 (i_dup (i_aload 0 (i_getR 10 6 (i_callI 1 mX6_init fX11_init_151))))))))))))))))))))))))
def fX11_init_51 : Fn := (i_callI 0 mX0_init (i_putR 10 9 (i_aload 0 (i_push (.int (0)) (i_putI 10 11 (i_aload 0 (i_push (.int (-1)) (i_putI 10 12 (i_aload 0 (i_new 1 (i_dup (i_aload 0 (i_getR 10 1 (i_aload 0 (i_getR 10 9 (i_callI 2 mX1_init (i_putR 10 3 (i_aload 0 (i_new 2 (i_dup (i_aload 0 (i_getR 10 8 (i_callI 1 mX2_init (i_putR 10 4 fX11_init_101))))))))))))))))))))))))
def fX11_init_0 : Fn := (i_aload 0 (i_objInit (i_aload 0 (i_push (.int (1000)) (i_newarr 2 1000 (i_putR 10 0 (i_aload 0 (i_new 9 (i_dup (i_callI 0 mX10_init (i_putR 10 1 (i_aload 0 (i_new 4 (i_dup (i_callI 0 mX4_init (i_putR 10 2 (i_aload 0 (i_new 0 (i_dup (i_callI 0 mX0_init (i_putR 10 8 (i_aload 0 (i_new 0 (i_dup fX11_init_51))))))))))))))))))))))))
def mX11_init : List Value → AH → Option Ou := runF 1 fX11_init_0
def fX11_find_48 : Fn := (i_push (.int (-1)) i_ireturn)
def fX11_find_54 : Fn := (i_aload 0 (i_getR 10 1 (i_push (.int (0)) (i_callV 9 1 mX10_valueAt (i_callV 0 1 mX0_objectNamed i_ireturn)))))
def fX11_find_0 : Fn := (i_aload 0 (i_getR 10 1 (i_aload 0 (i_getR 10 0 (i_aload 0 (i_getI 10 10 (i_callV 9 2 mX10_scan (i_aload 0 (i_push (.int (0)) (i_putI 10 10 (i_aload 0 (i_getR 10 1 (i_push (.int (0)) (i_callV 9 1 mX10_sortAt (i_push (.ref 1020) (i_acne fX11_find_48 (i_aload 0 (i_getR 10 1 (i_push (.int (1)) (i_callV 9 1 mX10_sortAt (i_push (.ref 1025) (i_aceq (i_aload 0 (i_getR 10 8 fX11_find_54)) fX11_find_48))))))))))))))))))))))
def mX11_find : List Value → AH → Option Ou := runF 1 fX11_find_0
def fX11_compact_80 : Fn := (i_aload 0 (i_getR 10 5 (i_aload 0 (i_getR 10 6 (i_callV 8 1 mX8_copyStarts (i_aload 0 (i_getR 10 5 (i_callV 8 0 mX8_review (i_iload 1 i_ireturn)))))))))
def fX11_compact_52 : Nat → Fn
  | 0 => fun _ _ _ => none
  | n + 1 => let k52 := fX11_compact_52 n; (i_iload 2 (i_push (.int (120)) (i_icgt fX11_compact_80 (i_aload 0 (i_callV 10 0 mX11_compactOnce (i_istore 3 (i_iload 3 (i_ifne (i_iload 1 (i_iload 3 (i_bin (fun x y => x + y) (i_istore 1 (i_iinc 2 (1) k52))))) fX11_compact_80))))))))
def fX11_compact_0 : Fn := (i_aload 0 (i_getR 10 5 (i_getI 8 8 (i_ifle (i_aload 0 (i_getR 10 2 (i_aload 0 (i_getR 10 5 (i_getR 8 1 (i_callV 4 1 mX4_remember (i_aload 0 (i_getR 10 6 (i_aload 0 (i_getR 10 8 (i_callV 8 1 mX8_equipAs (i_aload 0 (i_getR 10 6 (i_aload 0 (i_getR 10 5 (i_callV 8 1 mX8_copyStarts (i_push (.int (0)) (i_istore 1 (i_push (.int (0)) (i_istore 2 (fX11_compact_52 fuelN))))))))))))))))))))) (i_push (.int (-1)) i_ireturn)))))
def mX11_compact : List Value → AH → Option Ou := runF 4 fX11_compact_0
def fX11_schedule_54 : Fn := (i_aload 0 (i_getR 10 5 (i_callV 8 0 mX8_review (i_aload 0 (i_getR 10 5 (i_callV 8 0 mX8_greatestEnd i_ireturn))))))
def fX11_schedule_0 : Fn := (i_aload 0 (i_iload 1 (i_callV 10 1 mX11_checkOrder (i_aload 0 (i_getR 10 6 (i_aload 0 (i_getR 10 8 (i_callV 8 1 mX8_equipAs (i_aload 0 (i_getR 10 7 (i_iload 1 (i_callV 6 1 mX6_listSchedule (i_ifne (i_aload 0 (i_getR 10 2 (i_aload 0 (i_getR 10 5 (i_getR 8 1 (i_callV 4 1 mX4_remember (i_aload 0 (i_getR 10 5 (i_aload 0 (i_getR 10 6 (i_callV 8 1 mX8_copyStarts fX11_schedule_54))))))))))) (i_push (.int (-1)) i_ireturn))))))))))))))
def mX11_schedule : List Value → AH → Option Ou := runF 2 fX11_schedule_0
def fX1_read_90 : Fn := (i_push (.int (0)) i_zreturn)
def fX1_read_92 (k29 : Fn) : Fn := (i_iinc 2 (1) k29)
def fX1_read_29 : Nat → Fn
  | 0 => fun _ _ _ => none
  | n + 1 => let k29 := fX1_read_29 n; (i_iload 2 (i_push (.int (1000)) (i_icge (i_aload 0 (i_push (.int (1)) (i_aload 0 (i_getI 1 4 (i_callV 1 2 mX1_fail i_zreturn))))) (i_aload 0 (i_getR 1 2 (i_aload 0 (i_getI 1 4 (i_callV 9 1 mX10_sortAt (i_astore 3 (i_aload 3 (i_push (.ref 1025) (i_acne (i_aload 0 (i_aload 3 (i_callV 1 1 mX1_takeFirstWord (i_ifeq fX1_read_90 (i_aload 0 (i_aload 3 (i_callV 1 1 mX1_readBody (i_ifeq fX1_read_90 (i_aload 0 (i_push (.ref 1022) (i_callV 1 1 mX1_take (i_ifne (fX1_read_92 k29) fX1_read_90)))))))))))) (i_aload 0 (i_getR 1 3 (i_callV 0 0 mX0_complete (i_push (.int (1)) i_zreturn))))))))))))))))
def fX1_read_0 : Fn := (i_aload 0 (i_aload 1 (i_putR 1 3 (i_aload 0 (i_getR 1 3 (i_callV 0 0 mX0_clear (i_aload 0 (i_push (.int (0)) (i_putI 1 4 (i_aload 0 (i_push (.int (0)) (i_putZ 1 5 (i_aload 0 (i_push (.int (0)) (i_putZ 1 6 (i_push (.int (0)) (i_istore 2 (fX1_read_29 fuelN))))))))))))))))))
def mX1_read : List Value → AH → Option Ou := runF 4 fX1_read_0
def fX6_run_48 : Fn := (i_aload 0 (i_getR 6 2 (i_push (.int (1)) (i_callV 8 1 mX8_play (i_pop (i_aload 0 (i_push (.int (0)) (i_push (.int (0)) (i_push (.int (0)) (i_push (.int (1)) (i_push (.int (0)) (i_callS 6 mX6_extend (i_aload 0 (i_getI 6 1 i_ireturn))))))))))))))
def fX6_run_0 : Fn := (i_aload 0 (i_getR 6 2 (i_iload 1 (i_iload 2 (i_iload 3 (i_callV 8 3 mX8_equip (i_aload 0 (i_aload 0 (i_getR 6 2 (i_getR 8 12 (i_getR 0 1 (i_getI 3 0 (i_push (.int (5)) (i_min (i_putI 6 3 (i_aload 0 (i_push (.int (-1)) (i_putI 6 1 (i_aload 0 (i_push (.int (-1)) (i_putI 6 0 (i_aload 0 (i_getR 6 2 (i_callV 8 0 mX8_dropStarts fX6_run_48))))))))))))))))))))))))
def mX6_run : List Value → AH → Option Ou := runF 4 fX6_run_0
def fX11_loadBrigade_79 : Fn := (i_astore 1 (i_aload 0 (i_aload 0 (i_getR 10 9 (i_putR 10 8 (i_aload 0 (i_aload 1 (i_putR 10 9 (i_aload 0 (i_callV 10 0 mX11_serveLoadedBrigade (i_aload 0 (i_getR 10 8 (i_getR 0 1 (i_getI 3 0 i_ireturn))))))))))))))
def fX11_loadBrigade_46 : Fn := (i_getR 10 3 (i_getI 1 0 (i_putI 10 11 (i_aload 0 (i_aload 0 (i_getR 10 1 (i_aload 0 (i_getR 10 3 (i_getI 1 1 (i_callV 9 1 mX10_offsetAt (i_putI 10 12 (i_push (.int (-1)) i_ireturn))))))))))))
def fX11_loadBrigade_0 : Fn := (i_aload 0 (i_getR 10 1 (i_aload 0 (i_getR 10 0 (i_aload 0 (i_getI 10 10 (i_callV 9 2 mX10_scan (i_aload 0 (i_push (.int (0)) (i_putI 10 10 (i_aload 0 (i_push (.int (0)) (i_putI 10 11 (i_aload 0 (i_push (.int (-1)) (i_putI 10 12 (i_aload 0 (i_getR 10 3 (i_aload 0 (i_getR 10 9 (i_callV 1 1 mX1_read (i_ifne (i_aload 0 (i_getR 10 8 fX11_loadBrigade_79)) (i_aload 0 (i_aload 0 fX11_loadBrigade_46))))))))))))))))))))))))
def mX11_loadBrigade : List Value → AH → Option Ou := runF 2 fX11_loadBrigade_0
def fX11_bestFinish_0 : Fn := (i_aload 0 (i_getR 10 7 (i_aload 0 (i_getR 10 8 (i_callV 0 0 mX0_allEngines (i_aload 0 (i_getR 10 8 (i_getI 0 7 (i_aload 0 (i_getR 10 8 (i_getI 0 9 (i_callV 6 3 mX6_run i_ireturn))))))))))))
def mX11_bestFinish : List Value → AH → Option Ou := runF 1 fX11_bestFinish_0
def fX11_bestOrder_0 : Fn := (i_aload 0 (i_getR 10 7 (i_aload 0 (i_getR 10 8 (i_callV 0 0 mX0_allEngines (i_aload 0 (i_getR 10 8 (i_getI 0 7 (i_aload 0 (i_getR 10 8 (i_getI 0 9 (i_callV 6 3 mX6_run (i_pop (i_aload 0 (i_getR 10 7 (i_getI 6 0 i_ireturn))))))))))))))))
def mX11_bestOrder : List Value → AH → Option Ou := runF 1 fX11_bestOrder_0
def fX11_bestFinishWithout_0 : Fn := (i_iload 1 (i_aload 0 (i_getR 10 8 (i_getI 0 5 (i_callS 2 mX11_checkIndex (i_aload 0 (i_getR 10 7 (i_aload 0 (i_getR 10 8 (i_callV 0 0 mX0_allEngines (i_push (.int (1)) (i_iload 1 (i_bin (fun x y => x <<< (y &&& 31)) (i_push (.int (-1)) (i_bin (fun x y => x ^^^ y) (i_bin (fun x y => x &&& y) (i_aload 0 (i_getR 10 8 (i_getI 0 7 (i_aload 0 (i_getR 10 8 (i_getI 0 9 (i_callV 6 3 mX6_run i_ireturn)))))))))))))))))))))))
def mX11_bestFinishWithout : List Value → AH → Option Ou := runF 2 fX11_bestFinishWithout_0
def fX11_bestFinishWith_0 : Fn := (i_iload 1 (i_push (.int (0)) (i_push (.int (40)) (i_callS 3 mX11_checkRange (i_iload 2 (i_push (.int (1)) (i_push (.int (12)) (i_callS 3 mX11_checkRange (i_aload 0 (i_getR 10 7 (i_aload 0 (i_getR 10 8 (i_callV 0 0 mX0_allEngines (i_iload 1 (i_iload 2 (i_callV 6 3 mX6_run i_ireturn))))))))))))))))
def mX11_bestFinishWith : List Value → AH → Option Ou := runF 3 fX11_bestFinishWith_0
def fX11_enoughRacks_33 : Nat → Fn
  | 0 => fun _ _ _ => none
  | n + 1 => let k33 := fX11_enoughRacks_33 n; (i_iload 2 (i_push (.int (12)) (i_icge (i_push (.int (12)) i_ireturn) (i_aload 0 (i_getR 10 7 (i_aload 0 (i_getR 10 8 (i_callV 0 0 mX0_allEngines (i_aload 0 (i_getR 10 8 (i_getI 0 7 (i_iload 2 (i_callV 6 3 mX6_run (i_iload 1 (i_icne (i_iinc 2 (1) k33) (i_iload 2 i_ireturn))))))))))))))))
def fX11_enoughRacks_0 : Fn := (i_aload 0 (i_getR 10 7 (i_aload 0 (i_getR 10 8 (i_callV 0 0 mX0_allEngines (i_aload 0 (i_getR 10 8 (i_getI 0 7 (i_push (.int (12)) (i_callV 6 3 mX6_run (i_istore 1 (i_iload 1 (i_push (.int (-1)) (i_icne (i_push (.int (1)) (i_istore 2 (fX11_enoughRacks_33 fuelN))) (i_push (.int (-1)) i_ireturn)))))))))))))))
def mX11_enoughRacks : List Value → AH → Option Ou := runF 3 fX11_enoughRacks_0
