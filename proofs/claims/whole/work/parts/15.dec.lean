theorem dX0_objectNamed_0 : decode cX0_objectNamed 0 = .ok (.iconst 0, 1) := by decide +kernel
theorem dX0_objectNamed_1 : decode cX0_objectNamed 1 = .ok (.istore_n 2, 1) := by decide +kernel
theorem dX0_objectNamed_2 : decode cX0_objectNamed 2 = .ok (.iload_n 2, 1) := by decide +kernel
theorem dX0_objectNamed_3 : decode cX0_objectNamed 3 = .ok (.aload_n 0, 1) := by decide +kernel
theorem dX0_objectNamed_4 : decode cX0_objectNamed 4 = .ok (.getfield 64, 3) := by decide +kernel
theorem dX0_objectNamed_7 : decode cX0_objectNamed 7 = .ok (.if_icmp .ge 32, 3) := by decide +kernel
theorem dX0_objectNamed_10 : decode cX0_objectNamed 10 = .ok (.iload_n 2, 1) := by decide +kernel
theorem dX0_objectNamed_11 : decode cX0_objectNamed 11 = .ok (.bipush 33, 2) := by decide +kernel
theorem dX0_objectNamed_13 : decode cX0_objectNamed 13 = .ok (.if_icmp .ge 26, 3) := by decide +kernel
theorem dX0_objectNamed_16 : decode cX0_objectNamed 16 = .ok (.aload_n 0, 1) := by decide +kernel
theorem dX0_objectNamed_17 : decode cX0_objectNamed 17 = .ok (.getfield 25, 3) := by decide +kernel
theorem dX0_objectNamed_20 : decode cX0_objectNamed 20 = .ok (.iload_n 2, 1) := by decide +kernel
theorem dX0_objectNamed_21 : decode cX0_objectNamed 21 = .ok (.iaload, 1) := by decide +kernel
theorem dX0_objectNamed_22 : decode cX0_objectNamed 22 = .ok (.iload_n 1, 1) := by decide +kernel
theorem dX0_objectNamed_23 : decode cX0_objectNamed 23 = .ok (.if_icmp .ne 10, 3) := by decide +kernel
theorem dX0_objectNamed_26 : decode cX0_objectNamed 26 = .ok (.aload_n 0, 1) := by decide +kernel
theorem dX0_objectNamed_27 : decode cX0_objectNamed 27 = .ok (.getfield 29, 3) := by decide +kernel
theorem dX0_objectNamed_30 : decode cX0_objectNamed 30 = .ok (.iload_n 2, 1) := by decide +kernel
theorem dX0_objectNamed_31 : decode cX0_objectNamed 31 = .ok (.iaload, 1) := by decide +kernel
theorem dX0_objectNamed_32 : decode cX0_objectNamed 32 = .ok (.ireturn, 1) := by decide +kernel
theorem dX0_objectNamed_33 : decode cX0_objectNamed 33 = .ok (.iinc 2 1, 3) := by decide +kernel
theorem dX0_objectNamed_36 : decode cX0_objectNamed 36 = .ok (.goto (-34), 3) := by decide +kernel
theorem dX0_objectNamed_39 : decode cX0_objectNamed 39 = .ok (.iconst (-1), 1) := by decide +kernel
theorem dX0_objectNamed_40 : decode cX0_objectNamed 40 = .ok (.ireturn, 1) := by decide +kernel
theorem dX0_minutesBetween_0 : decode cX0_minutesBetween 0 = .ok (.iload_n 1, 1) := by decide +kernel
theorem dX0_minutesBetween_1 : decode cX0_minutesBetween 1 = .ok (.ifCond .lt 19, 3) := by decide +kernel
theorem dX0_minutesBetween_4 : decode cX0_minutesBetween 4 = .ok (.iload_n 1, 1) := by decide +kernel
theorem dX0_minutesBetween_5 : decode cX0_minutesBetween 5 = .ok (.bipush 12, 2) := by decide +kernel
theorem dX0_minutesBetween_7 : decode cX0_minutesBetween 7 = .ok (.if_icmp .ge 13, 3) := by decide +kernel
theorem dX0_minutesBetween_10 : decode cX0_minutesBetween 10 = .ok (.iload_n 2, 1) := by decide +kernel
theorem dX0_minutesBetween_11 : decode cX0_minutesBetween 11 = .ok (.ifCond .lt 9, 3) := by decide +kernel
theorem dX0_minutesBetween_14 : decode cX0_minutesBetween 14 = .ok (.iload_n 2, 1) := by decide +kernel
theorem dX0_minutesBetween_15 : decode cX0_minutesBetween 15 = .ok (.bipush 12, 2) := by decide +kernel
theorem dX0_minutesBetween_17 : decode cX0_minutesBetween 17 = .ok (.if_icmp .lt 6, 3) := by decide +kernel
theorem dX0_minutesBetween_20 : decode cX0_minutesBetween 20 = .ok (.ldc 79, 2) := by decide +kernel
theorem dX0_minutesBetween_22 : decode cX0_minutesBetween 22 = .ok (.ireturn, 1) := by decide +kernel
theorem dX0_minutesBetween_23 : decode cX0_minutesBetween 23 = .ok (.aload_n 0, 1) := by decide +kernel
theorem dX0_minutesBetween_24 : decode cX0_minutesBetween 24 = .ok (.getfield 32, 3) := by decide +kernel
theorem dX0_minutesBetween_27 : decode cX0_minutesBetween 27 = .ok (.iload_n 1, 1) := by decide +kernel
theorem dX0_minutesBetween_28 : decode cX0_minutesBetween 28 = .ok (.bipush 12, 2) := by decide +kernel
theorem dX0_minutesBetween_30 : decode cX0_minutesBetween 30 = .ok (.imul, 1) := by decide +kernel
theorem dX0_minutesBetween_31 : decode cX0_minutesBetween 31 = .ok (.iload_n 2, 1) := by decide +kernel
theorem dX0_minutesBetween_32 : decode cX0_minutesBetween 32 = .ok (.iadd, 1) := by decide +kernel
theorem dX0_minutesBetween_33 : decode cX0_minutesBetween 33 = .ok (.iaload, 1) := by decide +kernel
theorem dX0_minutesBetween_34 : decode cX0_minutesBetween 34 = .ok (.ireturn, 1) := by decide +kernel
theorem dX0_minutesFromStation_0 : decode cX0_minutesFromStation 0 = .ok (.iload_n 1, 1) := by decide +kernel
theorem dX0_minutesFromStation_1 : decode cX0_minutesFromStation 1 = .ok (.ifCond .lt 17, 3) := by decide +kernel
theorem dX0_minutesFromStation_4 : decode cX0_minutesFromStation 4 = .ok (.iload_n 1, 1) := by decide +kernel
theorem dX0_minutesFromStation_5 : decode cX0_minutesFromStation 5 = .ok (.aload_n 0, 1) := by decide +kernel
theorem dX0_minutesFromStation_6 : decode cX0_minutesFromStation 6 = .ok (.getfield 58, 3) := by decide +kernel
theorem dX0_minutesFromStation_9 : decode cX0_minutesFromStation 9 = .ok (.if_icmp .ge 9, 3) := by decide +kernel
theorem dX0_minutesFromStation_12 : decode cX0_minutesFromStation 12 = .ok (.iload_n 1, 1) := by decide +kernel
theorem dX0_minutesFromStation_13 : decode cX0_minutesFromStation 13 = .ok (.bipush 6, 2) := by decide +kernel
theorem dX0_minutesFromStation_15 : decode cX0_minutesFromStation 15 = .ok (.if_icmp .lt 6, 3) := by decide +kernel
theorem dX0_minutesFromStation_18 : decode cX0_minutesFromStation 18 = .ok (.ldc 79, 2) := by decide +kernel
theorem dX0_minutesFromStation_20 : decode cX0_minutesFromStation 20 = .ok (.ireturn, 1) := by decide +kernel
theorem dX0_minutesFromStation_21 : decode cX0_minutesFromStation 21 = .ok (.aload_n 0, 1) := by decide +kernel
theorem dX0_minutesFromStation_22 : decode cX0_minutesFromStation 22 = .ok (.aload_n 0, 1) := by decide +kernel
theorem dX0_minutesFromStation_23 : decode cX0_minutesFromStation 23 = .ok (.getfield 35, 3) := by decide +kernel
theorem dX0_minutesFromStation_26 : decode cX0_minutesFromStation 26 = .ok (.iload_n 1, 1) := by decide +kernel
theorem dX0_minutesFromStation_27 : decode cX0_minutesFromStation 27 = .ok (.iaload, 1) := by decide +kernel
theorem dX0_minutesFromStation_28 : decode cX0_minutesFromStation 28 = .ok (.iload_n 2, 1) := by decide +kernel
theorem dX0_minutesFromStation_29 : decode cX0_minutesFromStation 29 = .ok (.invokevirtual 94, 3) := by decide +kernel
theorem dX0_minutesFromStation_32 : decode cX0_minutesFromStation 32 = .ok (.ireturn, 1) := by decide +kernel
theorem dX0_allEngines_0 : decode cX0_allEngines 0 = .ok (.iconst 1, 1) := by decide +kernel
theorem dX0_allEngines_1 : decode cX0_allEngines 1 = .ok (.aload_n 0, 1) := by decide +kernel
theorem dX0_allEngines_2 : decode cX0_allEngines 2 = .ok (.getfield 61, 3) := by decide +kernel
theorem dX0_allEngines_5 : decode cX0_allEngines 5 = .ok (.ishl, 1) := by decide +kernel
theorem dX0_allEngines_6 : decode cX0_allEngines 6 = .ok (.iconst 1, 1) := by decide +kernel
theorem dX0_allEngines_7 : decode cX0_allEngines 7 = .ok (.isub, 1) := by decide +kernel
theorem dX0_allEngines_8 : decode cX0_allEngines 8 = .ok (.ireturn, 1) := by decide +kernel
theorem dX0_slotsFor_0 : decode cX0_slotsFor 0 = .ok (.iload_n 1, 1) := by decide +kernel
theorem dX0_slotsFor_1 : decode cX0_slotsFor 1 = .ok (.ldc 79, 2) := by decide +kernel
theorem dX0_slotsFor_3 : decode cX0_slotsFor 3 = .ok (.if_icmp .ge 10, 3) := by decide +kernel
theorem dX0_slotsFor_6 : decode cX0_slotsFor 6 = .ok (.aload_n 0, 1) := by decide +kernel
theorem dX0_slotsFor_7 : decode cX0_slotsFor 7 = .ok (.getfield 67, 3) := by decide +kernel
theorem dX0_slotsFor_10 : decode cX0_slotsFor 10 = .ok (.ifCond .gt 6, 3) := by decide +kernel
theorem dX0_slotsFor_13 : decode cX0_slotsFor 13 = .ok (.ldc 79, 2) := by decide +kernel
theorem dX0_slotsFor_15 : decode cX0_slotsFor 15 = .ok (.ireturn, 1) := by decide +kernel
theorem dX0_slotsFor_16 : decode cX0_slotsFor 16 = .ok (.iload_n 1, 1) := by decide +kernel
theorem dX0_slotsFor_17 : decode cX0_slotsFor 17 = .ok (.aload_n 0, 1) := by decide +kernel
theorem dX0_slotsFor_18 : decode cX0_slotsFor 18 = .ok (.getfield 67, 3) := by decide +kernel
theorem dX0_slotsFor_21 : decode cX0_slotsFor 21 = .ok (.iadd, 1) := by decide +kernel
theorem dX0_slotsFor_22 : decode cX0_slotsFor 22 = .ok (.iconst 1, 1) := by decide +kernel
theorem dX0_slotsFor_23 : decode cX0_slotsFor 23 = .ok (.isub, 1) := by decide +kernel
theorem dX0_slotsFor_24 : decode cX0_slotsFor 24 = .ok (.aload_n 0, 1) := by decide +kernel
theorem dX0_slotsFor_25 : decode cX0_slotsFor 25 = .ok (.getfield 67, 3) := by decide +kernel
theorem dX0_slotsFor_28 : decode cX0_slotsFor 28 = .ok (.idiv, 1) := by decide +kernel
theorem dX0_slotsFor_29 : decode cX0_slotsFor 29 = .ok (.ireturn, 1) := by decide +kernel
theorem dX0_putWay_0 : decode cX0_putWay 0 = .ok (.iload_n 1, 1) := by decide +kernel
theorem dX0_putWay_1 : decode cX0_putWay 1 = .ok (.ifCond .lt 31, 3) := by decide +kernel
theorem dX0_putWay_4 : decode cX0_putWay 4 = .ok (.iload_n 1, 1) := by decide +kernel
theorem dX0_putWay_5 : decode cX0_putWay 5 = .ok (.bipush 12, 2) := by decide +kernel
theorem dX0_putWay_7 : decode cX0_putWay 7 = .ok (.if_icmp .ge 25, 3) := by decide +kernel
theorem dX0_putWay_10 : decode cX0_putWay 10 = .ok (.iload_n 2, 1) := by decide +kernel
theorem dX0_putWay_11 : decode cX0_putWay 11 = .ok (.ifCond .lt 21, 3) := by decide +kernel
theorem dX0_putWay_14 : decode cX0_putWay 14 = .ok (.iload_n 2, 1) := by decide +kernel
theorem dX0_putWay_15 : decode cX0_putWay 15 = .ok (.bipush 12, 2) := by decide +kernel
theorem dX0_putWay_17 : decode cX0_putWay 17 = .ok (.if_icmp .ge 15, 3) := by decide +kernel
theorem dX0_putWay_20 : decode cX0_putWay 20 = .ok (.aload_n 0, 1) := by decide +kernel
theorem dX0_putWay_21 : decode cX0_putWay 21 = .ok (.getfield 32, 3) := by decide +kernel
theorem dX0_putWay_24 : decode cX0_putWay 24 = .ok (.iload_n 1, 1) := by decide +kernel
theorem dX0_putWay_25 : decode cX0_putWay 25 = .ok (.bipush 12, 2) := by decide +kernel
theorem dX0_putWay_27 : decode cX0_putWay 27 = .ok (.imul, 1) := by decide +kernel
theorem dX0_putWay_28 : decode cX0_putWay 28 = .ok (.iload_n 2, 1) := by decide +kernel
theorem dX0_putWay_29 : decode cX0_putWay 29 = .ok (.iadd, 1) := by decide +kernel
theorem dX0_putWay_30 : decode cX0_putWay 30 = .ok (.iload_n 3, 1) := by decide +kernel
theorem dX0_putWay_31 : decode cX0_putWay 31 = .ok (.iastore, 1) := by decide +kernel
theorem dX0_putWay_32 : decode cX0_putWay 32 = .ok (.return_, 1) := by decide +kernel
theorem dX0_shortenWaysOver_0 : decode cX0_shortenWaysOver 0 = .ok (.iconst 0, 1) := by decide +kernel
theorem dX0_shortenWaysOver_1 : decode cX0_shortenWaysOver 1 = .ok (.istore_n 2, 1) := by decide +kernel
theorem dX0_shortenWaysOver_2 : decode cX0_shortenWaysOver 2 = .ok (.iload_n 2, 1) := by decide +kernel
theorem dX0_shortenWaysOver_3 : decode cX0_shortenWaysOver 3 = .ok (.aload_n 0, 1) := by decide +kernel
theorem dX0_shortenWaysOver_4 : decode cX0_shortenWaysOver 4 = .ok (.getfield 52, 3) := by decide +kernel
theorem dX0_shortenWaysOver_7 : decode cX0_shortenWaysOver 7 = .ok (.if_icmp .ge 66, 3) := by decide +kernel
theorem dX0_shortenWaysOver_10 : decode cX0_shortenWaysOver 10 = .ok (.aload_n 0, 1) := by decide +kernel
theorem dX0_shortenWaysOver_11 : decode cX0_shortenWaysOver 11 = .ok (.iload_n 2, 1) := by decide +kernel
theorem dX0_shortenWaysOver_12 : decode cX0_shortenWaysOver 12 = .ok (.iload_n 1, 1) := by decide +kernel
theorem dX0_shortenWaysOver_13 : decode cX0_shortenWaysOver 13 = .ok (.invokevirtual 94, 3) := by decide +kernel
theorem dX0_shortenWaysOver_16 : decode cX0_shortenWaysOver 16 = .ok (.istore_n 3, 1) := by decide +kernel
theorem dX0_shortenWaysOver_17 : decode cX0_shortenWaysOver 17 = .ok (.iconst 0, 1) := by decide +kernel
theorem dX0_shortenWaysOver_18 : decode cX0_shortenWaysOver 18 = .ok (.istore 4, 2) := by decide +kernel
theorem dX0_shortenWaysOver_20 : decode cX0_shortenWaysOver 20 = .ok (.iload 4, 2) := by decide +kernel
theorem dX0_shortenWaysOver_22 : decode cX0_shortenWaysOver 22 = .ok (.aload_n 0, 1) := by decide +kernel
theorem dX0_shortenWaysOver_23 : decode cX0_shortenWaysOver 23 = .ok (.getfield 52, 3) := by decide +kernel
theorem dX0_shortenWaysOver_26 : decode cX0_shortenWaysOver 26 = .ok (.if_icmp .ge 41, 3) := by decide +kernel
theorem dX0_shortenWaysOver_29 : decode cX0_shortenWaysOver 29 = .ok (.iload_n 3, 1) := by decide +kernel
theorem dX0_shortenWaysOver_30 : decode cX0_shortenWaysOver 30 = .ok (.aload_n 0, 1) := by decide +kernel
theorem dX0_shortenWaysOver_31 : decode cX0_shortenWaysOver 31 = .ok (.iload_n 1, 1) := by decide +kernel
theorem dX0_shortenWaysOver_32 : decode cX0_shortenWaysOver 32 = .ok (.iload 4, 2) := by decide +kernel
theorem dX0_shortenWaysOver_34 : decode cX0_shortenWaysOver 34 = .ok (.invokevirtual 94, 3) := by decide +kernel
theorem dX0_shortenWaysOver_37 : decode cX0_shortenWaysOver 37 = .ok (.iadd, 1) := by decide +kernel
theorem dX0_shortenWaysOver_38 : decode cX0_shortenWaysOver 38 = .ok (.istore 5, 2) := by decide +kernel
theorem dX0_shortenWaysOver_40 : decode cX0_shortenWaysOver 40 = .ok (.iload 5, 2) := by decide +kernel
theorem dX0_shortenWaysOver_42 : decode cX0_shortenWaysOver 42 = .ok (.aload_n 0, 1) := by decide +kernel
theorem dX0_shortenWaysOver_43 : decode cX0_shortenWaysOver 43 = .ok (.iload_n 2, 1) := by decide +kernel
theorem dX0_shortenWaysOver_44 : decode cX0_shortenWaysOver 44 = .ok (.iload 4, 2) := by decide +kernel
theorem dX0_shortenWaysOver_46 : decode cX0_shortenWaysOver 46 = .ok (.invokevirtual 94, 3) := by decide +kernel
theorem dX0_shortenWaysOver_49 : decode cX0_shortenWaysOver 49 = .ok (.if_icmp .ge 12, 3) := by decide +kernel
theorem dX0_shortenWaysOver_52 : decode cX0_shortenWaysOver 52 = .ok (.aload_n 0, 1) := by decide +kernel
theorem dX0_shortenWaysOver_53 : decode cX0_shortenWaysOver 53 = .ok (.iload_n 2, 1) := by decide +kernel
theorem dX0_shortenWaysOver_54 : decode cX0_shortenWaysOver 54 = .ok (.iload 4, 2) := by decide +kernel
theorem dX0_shortenWaysOver_56 : decode cX0_shortenWaysOver 56 = .ok (.iload 5, 2) := by decide +kernel
theorem dX0_shortenWaysOver_58 : decode cX0_shortenWaysOver 58 = .ok (.invokevirtual 98, 3) := by decide +kernel
theorem dX0_shortenWaysOver_61 : decode cX0_shortenWaysOver 61 = .ok (.iinc 4 1, 3) := by decide +kernel
theorem dX0_shortenWaysOver_64 : decode cX0_shortenWaysOver 64 = .ok (.goto (-44), 3) := by decide +kernel
theorem dX0_shortenWaysOver_67 : decode cX0_shortenWaysOver 67 = .ok (.iinc 2 1, 3) := by decide +kernel
theorem dX0_shortenWaysOver_70 : decode cX0_shortenWaysOver 70 = .ok (.goto (-68), 3) := by decide +kernel
theorem dX0_shortenWaysOver_73 : decode cX0_shortenWaysOver 73 = .ok (.return_, 1) := by decide +kernel
theorem dX1_init_0 : decode cX1_init 0 = .ok (.aload_n 0, 1) := by decide +kernel
theorem dX1_init_1 : decode cX1_init 1 = .ok (.invokespecial 3, 3) := by decide +kernel
theorem dX1_init_4 : decode cX1_init 4 = .ok (.aload_n 0, 1) := by decide +kernel
theorem dX1_init_5 : decode cX1_init 5 = .ok (.aload_n 1, 1) := by decide +kernel
theorem dX1_init_6 : decode cX1_init 6 = .ok (.putfield 9, 3) := by decide +kernel
theorem dX1_init_9 : decode cX1_init 9 = .ok (.aload_n 0, 1) := by decide +kernel
theorem dX1_init_10 : decode cX1_init 10 = .ok (.aload_n 2, 1) := by decide +kernel
theorem dX1_init_11 : decode cX1_init 11 = .ok (.putfield 15, 3) := by decide +kernel
theorem dX1_init_14 : decode cX1_init 14 = .ok (.return_, 1) := by decide +kernel
theorem dX1_statementsOf_0 : decode cX1_statementsOf 0 = .ok (.aload_n 1, 1) := by decide +kernel
theorem dX1_statementsOf_1 : decode cX1_statementsOf 1 = .ok (.getstatic 74, 3) := by decide +kernel
theorem dX1_statementsOf_4 : decode cX1_statementsOf 4 = .ok (.if_acmp .ne 11, 3) := by decide +kernel
theorem dX1_statementsOf_7 : decode cX1_statementsOf 7 = .ok (.aload_n 0, 1) := by decide +kernel
theorem dX1_statementsOf_8 : decode cX1_statementsOf 8 = .ok (.getfield 15, 3) := by decide +kernel
theorem dX1_statementsOf_11 : decode cX1_statementsOf 11 = .ok (.getfield 77, 3) := by decide +kernel
theorem dX1_statementsOf_14 : decode cX1_statementsOf 14 = .ok (.ireturn, 1) := by decide +kernel
theorem dX1_statementsOf_15 : decode cX1_statementsOf 15 = .ok (.aload_n 1, 1) := by decide +kernel
theorem dX1_statementsOf_16 : decode cX1_statementsOf 16 = .ok (.getstatic 80, 3) := by decide +kernel
theorem dX1_statementsOf_19 : decode cX1_statementsOf 19 = .ok (.if_acmp .ne 11, 3) := by decide +kernel
theorem dX1_statementsOf_22 : decode cX1_statementsOf 22 = .ok (.aload_n 0, 1) := by decide +kernel
theorem dX1_statementsOf_23 : decode cX1_statementsOf 23 = .ok (.getfield 15, 3) := by decide +kernel
theorem dX1_statementsOf_26 : decode cX1_statementsOf 26 = .ok (.getfield 83, 3) := by decide +kernel
theorem dX1_statementsOf_29 : decode cX1_statementsOf 29 = .ok (.ireturn, 1) := by decide +kernel
theorem dX1_statementsOf_30 : decode cX1_statementsOf 30 = .ok (.aload_n 1, 1) := by decide +kernel
theorem dX1_statementsOf_31 : decode cX1_statementsOf 31 = .ok (.getstatic 86, 3) := by decide +kernel
theorem dX1_statementsOf_34 : decode cX1_statementsOf 34 = .ok (.if_acmp .ne 11, 3) := by decide +kernel
theorem dX1_statementsOf_37 : decode cX1_statementsOf 37 = .ok (.aload_n 0, 1) := by decide +kernel
theorem dX1_statementsOf_38 : decode cX1_statementsOf 38 = .ok (.getfield 15, 3) := by decide +kernel
theorem dX1_statementsOf_41 : decode cX1_statementsOf 41 = .ok (.getfield 89, 3) := by decide +kernel
theorem dX1_statementsOf_44 : decode cX1_statementsOf 44 = .ok (.ireturn, 1) := by decide +kernel
theorem dX1_statementsOf_45 : decode cX1_statementsOf 45 = .ok (.aload_n 1, 1) := by decide +kernel
theorem dX1_statementsOf_46 : decode cX1_statementsOf 46 = .ok (.getstatic 92, 3) := by decide +kernel
theorem dX1_statementsOf_49 : decode cX1_statementsOf 49 = .ok (.if_acmp .ne 11, 3) := by decide +kernel
theorem dX1_statementsOf_52 : decode cX1_statementsOf 52 = .ok (.aload_n 0, 1) := by decide +kernel
theorem dX1_statementsOf_53 : decode cX1_statementsOf 53 = .ok (.getfield 15, 3) := by decide +kernel
theorem dX1_statementsOf_56 : decode cX1_statementsOf 56 = .ok (.getfield 95, 3) := by decide +kernel
theorem dX1_statementsOf_59 : decode cX1_statementsOf 59 = .ok (.ireturn, 1) := by decide +kernel
theorem dX1_statementsOf_60 : decode cX1_statementsOf 60 = .ok (.aload_n 1, 1) := by decide +kernel
theorem dX1_statementsOf_61 : decode cX1_statementsOf 61 = .ok (.getstatic 98, 3) := by decide +kernel
theorem dX1_statementsOf_64 : decode cX1_statementsOf 64 = .ok (.if_acmp .ne 14, 3) := by decide +kernel
theorem dX1_statementsOf_67 : decode cX1_statementsOf 67 = .ok (.aload_n 0, 1) := by decide +kernel
theorem dX1_statementsOf_68 : decode cX1_statementsOf 68 = .ok (.getfield 15, 3) := by decide +kernel
theorem dX1_statementsOf_71 : decode cX1_statementsOf 71 = .ok (.getfield 101, 3) := by decide +kernel
theorem dX1_statementsOf_74 : decode cX1_statementsOf 74 = .ok (.getfield 105, 3) := by decide +kernel
theorem dX1_statementsOf_77 : decode cX1_statementsOf 77 = .ok (.ireturn, 1) := by decide +kernel
theorem dX1_statementsOf_78 : decode cX1_statementsOf 78 = .ok (.aload_n 1, 1) := by decide +kernel
theorem dX1_statementsOf_79 : decode cX1_statementsOf 79 = .ok (.getstatic 110, 3) := by decide +kernel
theorem dX1_statementsOf_82 : decode cX1_statementsOf 82 = .ok (.if_acmp .ne 14, 3) := by decide +kernel
theorem dX1_statementsOf_85 : decode cX1_statementsOf 85 = .ok (.aload_n 0, 1) := by decide +kernel
theorem dX1_statementsOf_86 : decode cX1_statementsOf 86 = .ok (.getfield 15, 3) := by decide +kernel
theorem dX1_statementsOf_89 : decode cX1_statementsOf 89 = .ok (.getfield 113, 3) := by decide +kernel
theorem dX1_statementsOf_92 : decode cX1_statementsOf 92 = .ok (.getfield 117, 3) := by decide +kernel
theorem dX1_statementsOf_95 : decode cX1_statementsOf 95 = .ok (.ireturn, 1) := by decide +kernel
theorem dX1_statementsOf_96 : decode cX1_statementsOf 96 = .ok (.aload_n 1, 1) := by decide +kernel
theorem dX1_statementsOf_97 : decode cX1_statementsOf 97 = .ok (.getstatic 120, 3) := by decide +kernel
theorem dX1_statementsOf_100 : decode cX1_statementsOf 100 = .ok (.if_acmp .ne 13, 3) := by decide +kernel
theorem dX1_statementsOf_103 : decode cX1_statementsOf 103 = .ok (.aload_n 0, 1) := by decide +kernel
theorem dX1_statementsOf_104 : decode cX1_statementsOf 104 = .ok (.getfield 28, 3) := by decide +kernel
theorem dX1_statementsOf_107 : decode cX1_statementsOf 107 = .ok (.ifCond .eq 17, 3) := by decide +kernel
theorem dX1_statementsOf_110 : decode cX1_statementsOf 110 = .ok (.goto 10, 3) := by decide +kernel
theorem dX1_statementsOf_113 : decode cX1_statementsOf 113 = .ok (.aload_n 0, 1) := by decide +kernel
theorem dX1_statementsOf_114 : decode cX1_statementsOf 114 = .ok (.getfield 32, 3) := by decide +kernel
theorem dX1_statementsOf_117 : decode cX1_statementsOf 117 = .ok (.ifCond .eq 7, 3) := by decide +kernel
theorem dX1_statementsOf_120 : decode cX1_statementsOf 120 = .ok (.iconst 1, 1) := by decide +kernel
theorem dX1_statementsOf_121 : decode cX1_statementsOf 121 = .ok (.goto 4, 3) := by decide +kernel
theorem dX1_statementsOf_124 : decode cX1_statementsOf 124 = .ok (.iconst 0, 1) := by decide +kernel
theorem dX1_statementsOf_125 : decode cX1_statementsOf 125 = .ok (.ireturn, 1) := by decide +kernel
theorem dX1_kindOfWord_0 : decode cX1_kindOfWord 0 = .ok (.aload_n 0, 1) := by decide +kernel
theorem dX1_kindOfWord_1 : decode cX1_kindOfWord 1 = .ok (.getstatic 282, 3) := by decide +kernel
theorem dX1_kindOfWord_4 : decode cX1_kindOfWord 4 = .ok (.if_acmp .ne 5, 3) := by decide +kernel
theorem dX1_kindOfWord_7 : decode cX1_kindOfWord 7 = .ok (.iconst 0, 1) := by decide +kernel
theorem dX1_kindOfWord_8 : decode cX1_kindOfWord 8 = .ok (.ireturn, 1) := by decide +kernel
theorem dX1_kindOfWord_9 : decode cX1_kindOfWord 9 = .ok (.aload_n 0, 1) := by decide +kernel
theorem dX1_kindOfWord_10 : decode cX1_kindOfWord 10 = .ok (.getstatic 285, 3) := by decide +kernel
theorem dX1_kindOfWord_13 : decode cX1_kindOfWord 13 = .ok (.if_acmp .ne 5, 3) := by decide +kernel
theorem dX1_kindOfWord_16 : decode cX1_kindOfWord 16 = .ok (.iconst 1, 1) := by decide +kernel
theorem dX1_kindOfWord_17 : decode cX1_kindOfWord 17 = .ok (.ireturn, 1) := by decide +kernel
theorem dX1_kindOfWord_18 : decode cX1_kindOfWord 18 = .ok (.aload_n 0, 1) := by decide +kernel
theorem dX1_kindOfWord_19 : decode cX1_kindOfWord 19 = .ok (.getstatic 288, 3) := by decide +kernel
theorem dX1_kindOfWord_22 : decode cX1_kindOfWord 22 = .ok (.if_acmp .ne 7, 3) := by decide +kernel
theorem dX1_kindOfWord_25 : decode cX1_kindOfWord 25 = .ok (.iconst 2, 1) := by decide +kernel
theorem dX1_kindOfWord_26 : decode cX1_kindOfWord 26 = .ok (.goto 4, 3) := by decide +kernel
theorem dX1_kindOfWord_29 : decode cX1_kindOfWord 29 = .ok (.iconst (-1), 1) := by decide +kernel
theorem dX1_kindOfWord_30 : decode cX1_kindOfWord 30 = .ok (.ireturn, 1) := by decide +kernel
theorem dX1_fail_0 : decode cX1_fail 0 = .ok (.aload_n 0, 1) := by decide +kernel
theorem dX1_fail_1 : decode cX1_fail 1 = .ok (.iload_n 1, 1) := by decide +kernel
theorem dX1_fail_2 : decode cX1_fail 2 = .ok (.putfield 291, 3) := by decide +kernel
theorem dX1_fail_5 : decode cX1_fail 5 = .ok (.aload_n 0, 1) := by decide +kernel
theorem dX1_fail_6 : decode cX1_fail 6 = .ok (.iload_n 2, 1) := by decide +kernel
theorem dX1_fail_7 : decode cX1_fail 7 = .ok (.putfield 294, 3) := by decide +kernel
theorem dX1_fail_10 : decode cX1_fail 10 = .ok (.iconst 0, 1) := by decide +kernel
theorem dX1_fail_11 : decode cX1_fail 11 = .ok (.ireturn, 1) := by decide +kernel
theorem dX2_init_0 : decode cX2_init 0 = .ok (.aload_n 0, 1) := by decide +kernel
theorem dX2_init_1 : decode cX2_init 1 = .ok (.invokespecial 3, 3) := by decide +kernel
theorem dX2_init_4 : decode cX2_init 4 = .ok (.aload_n 0, 1) := by decide +kernel
theorem dX2_init_5 : decode cX2_init 5 = .ok (.sipush 1024, 3) := by decide +kernel
theorem dX2_init_8 : decode cX2_init 8 = .ok (.newarray .int, 2) := by decide +kernel
theorem dX2_init_10 : decode cX2_init 10 = .ok (.putfield 9, 3) := by decide +kernel
theorem dX2_init_13 : decode cX2_init 13 = .ok (.aload_n 0, 1) := by decide +kernel
theorem dX2_init_14 : decode cX2_init 14 = .ok (.bipush 18, 2) := by decide +kernel
theorem dX2_init_16 : decode cX2_init 16 = .ok (.newarray .int, 2) := by decide +kernel
theorem dX2_init_18 : decode cX2_init 18 = .ok (.putfield 15, 3) := by decide +kernel
theorem dX2_init_21 : decode cX2_init 21 = .ok (.aload_n 0, 1) := by decide +kernel
theorem dX2_init_22 : decode cX2_init 22 = .ok (.bipush 10, 2) := by decide +kernel
theorem dX2_init_24 : decode cX2_init 24 = .ok (.newarray .int, 2) := by decide +kernel
theorem dX2_init_26 : decode cX2_init 26 = .ok (.putfield 18, 3) := by decide +kernel
theorem dX2_init_29 : decode cX2_init 29 = .ok (.aload_n 0, 1) := by decide +kernel
theorem dX2_init_30 : decode cX2_init 30 = .ok (.bipush 6, 2) := by decide +kernel
theorem dX2_init_32 : decode cX2_init 32 = .ok (.newarray .int, 2) := by decide +kernel
theorem dX2_init_34 : decode cX2_init 34 = .ok (.putfield 21, 3) := by decide +kernel
theorem dX2_init_37 : decode cX2_init 37 = .ok (.aload_n 0, 1) := by decide +kernel
theorem dX2_init_38 : decode cX2_init 38 = .ok (.aload_n 1, 1) := by decide +kernel
theorem dX2_init_39 : decode cX2_init 39 = .ok (.putfield 24, 3) := by decide +kernel
theorem dX2_init_42 : decode cX2_init 42 = .ok (.return_, 1) := by decide +kernel
theorem dX2_streetsCoveredBy_0 : decode cX2_streetsCoveredBy 0 = .ok (.iload_n 1, 1) := by decide +kernel
theorem dX2_streetsCoveredBy_1 : decode cX2_streetsCoveredBy 1 = .ok (.ifCond .lt 19, 3) := by decide +kernel
theorem dX2_streetsCoveredBy_4 : decode cX2_streetsCoveredBy 4 = .ok (.iload_n 1, 1) := by decide +kernel
theorem dX2_streetsCoveredBy_5 : decode cX2_streetsCoveredBy 5 = .ok (.bipush 10, 2) := by decide +kernel
theorem dX2_streetsCoveredBy_7 : decode cX2_streetsCoveredBy 7 = .ok (.if_icmp .ge 13, 3) := by decide +kernel
theorem dX2_streetsCoveredBy_10 : decode cX2_streetsCoveredBy 10 = .ok (.aload_n 0, 1) := by decide +kernel
theorem dX2_streetsCoveredBy_11 : decode cX2_streetsCoveredBy 11 = .ok (.getfield 18, 3) := by decide +kernel
theorem dX2_streetsCoveredBy_14 : decode cX2_streetsCoveredBy 14 = .ok (.iload_n 1, 1) := by decide +kernel
theorem dX2_streetsCoveredBy_15 : decode cX2_streetsCoveredBy 15 = .ok (.iaload, 1) := by decide +kernel
theorem dX2_streetsCoveredBy_16 : decode cX2_streetsCoveredBy 16 = .ok (.iconst (-1), 1) := by decide +kernel
theorem dX2_streetsCoveredBy_17 : decode cX2_streetsCoveredBy 17 = .ok (.if_icmp .ne 5, 3) := by decide +kernel
theorem dX2_streetsCoveredBy_20 : decode cX2_streetsCoveredBy 20 = .ok (.iconst 0, 1) := by decide +kernel
theorem dX2_streetsCoveredBy_21 : decode cX2_streetsCoveredBy 21 = .ok (.ireturn, 1) := by decide +kernel
theorem dX2_streetsCoveredBy_22 : decode cX2_streetsCoveredBy 22 = .ok (.aload_n 0, 1) := by decide +kernel
theorem dX2_streetsCoveredBy_23 : decode cX2_streetsCoveredBy 23 = .ok (.getfield 18, 3) := by decide +kernel
theorem dX2_streetsCoveredBy_26 : decode cX2_streetsCoveredBy 26 = .ok (.iload_n 1, 1) := by decide +kernel
theorem dX2_streetsCoveredBy_27 : decode cX2_streetsCoveredBy 27 = .ok (.iaload, 1) := by decide +kernel
theorem dX2_streetsCoveredBy_28 : decode cX2_streetsCoveredBy 28 = .ok (.iconst 3, 1) := by decide +kernel
theorem dX2_streetsCoveredBy_29 : decode cX2_streetsCoveredBy 29 = .ok (.imul, 1) := by decide +kernel
theorem dX2_streetsCoveredBy_30 : decode cX2_streetsCoveredBy 30 = .ok (.aload_n 0, 1) := by decide +kernel
theorem dX2_streetsCoveredBy_31 : decode cX2_streetsCoveredBy 31 = .ok (.getfield 24, 3) := by decide +kernel
theorem dX2_streetsCoveredBy_34 : decode cX2_streetsCoveredBy 34 = .ok (.getfield 90, 3) := by decide +kernel
theorem dX2_streetsCoveredBy_37 : decode cX2_streetsCoveredBy 37 = .ok (.iload_n 1, 1) := by decide +kernel
theorem dX2_streetsCoveredBy_38 : decode cX2_streetsCoveredBy 38 = .ok (.iaload, 1) := by decide +kernel
theorem dX2_streetsCoveredBy_39 : decode cX2_streetsCoveredBy 39 = .ok (.iadd, 1) := by decide +kernel
theorem dX2_streetsCoveredBy_40 : decode cX2_streetsCoveredBy 40 = .ok (.istore_n 2, 1) := by decide +kernel
theorem dX2_streetsCoveredBy_41 : decode cX2_streetsCoveredBy 41 = .ok (.iload_n 2, 1) := by decide +kernel
theorem dX2_streetsCoveredBy_42 : decode cX2_streetsCoveredBy 42 = .ok (.ifCond .lt 21, 3) := by decide +kernel
theorem dX2_streetsCoveredBy_45 : decode cX2_streetsCoveredBy 45 = .ok (.iload_n 2, 1) := by decide +kernel
theorem dX2_streetsCoveredBy_46 : decode cX2_streetsCoveredBy 46 = .ok (.aload_n 0, 1) := by decide +kernel
theorem dX2_streetsCoveredBy_47 : decode cX2_streetsCoveredBy 47 = .ok (.getfield 15, 3) := by decide +kernel
theorem dX2_streetsCoveredBy_50 : decode cX2_streetsCoveredBy 50 = .ok (.arraylength, 1) := by decide +kernel
theorem dX2_streetsCoveredBy_51 : decode cX2_streetsCoveredBy 51 = .ok (.if_icmp .ge 12, 3) := by decide +kernel
theorem dX2_streetsCoveredBy_54 : decode cX2_streetsCoveredBy 54 = .ok (.aload_n 0, 1) := by decide +kernel
theorem dX2_streetsCoveredBy_55 : decode cX2_streetsCoveredBy 55 = .ok (.getfield 15, 3) := by decide +kernel
theorem dX2_streetsCoveredBy_58 : decode cX2_streetsCoveredBy 58 = .ok (.iload_n 2, 1) := by decide +kernel
theorem dX2_streetsCoveredBy_59 : decode cX2_streetsCoveredBy 59 = .ok (.iaload, 1) := by decide +kernel
theorem dX2_streetsCoveredBy_60 : decode cX2_streetsCoveredBy 60 = .ok (.goto 4, 3) := by decide +kernel
theorem dX2_streetsCoveredBy_63 : decode cX2_streetsCoveredBy 63 = .ok (.iconst 0, 1) := by decide +kernel
theorem dX2_streetsCoveredBy_64 : decode cX2_streetsCoveredBy 64 = .ok (.ireturn, 1) := by decide +kernel
theorem dX2_donorFor_0 : decode cX2_donorFor 0 = .ok (.aload_n 0, 1) := by decide +kernel
theorem dX2_donorFor_1 : decode cX2_donorFor 1 = .ok (.getfield 24, 3) := by decide +kernel
theorem dX2_donorFor_4 : decode cX2_donorFor 4 = .ok (.getfield 34, 3) := by decide +kernel
theorem dX2_donorFor_7 : decode cX2_donorFor 7 = .ok (.istore_n 2, 1) := by decide +kernel
theorem dX2_donorFor_8 : decode cX2_donorFor 8 = .ok (.iconst 1, 1) := by decide +kernel
theorem dX2_donorFor_9 : decode cX2_donorFor 9 = .ok (.istore_n 3, 1) := by decide +kernel
theorem dX2_donorFor_10 : decode cX2_donorFor 10 = .ok (.iload_n 3, 1) := by decide +kernel
theorem dX2_donorFor_11 : decode cX2_donorFor 11 = .ok (.iload_n 2, 1) := by decide +kernel
theorem dX2_donorFor_12 : decode cX2_donorFor 12 = .ok (.if_icmp .ge 55, 3) := by decide +kernel
theorem dX2_donorFor_15 : decode cX2_donorFor 15 = .ok (.iload_n 1, 1) := by decide +kernel
theorem dX2_donorFor_16 : decode cX2_donorFor 16 = .ok (.iload_n 3, 1) := by decide +kernel
theorem dX2_donorFor_17 : decode cX2_donorFor 17 = .ok (.iadd, 1) := by decide +kernel
theorem dX2_donorFor_18 : decode cX2_donorFor 18 = .ok (.iload_n 2, 1) := by decide +kernel
theorem dX2_donorFor_19 : decode cX2_donorFor 19 = .ok (.if_icmp .ge 9, 3) := by decide +kernel
theorem dX2_donorFor_22 : decode cX2_donorFor 22 = .ok (.iload_n 1, 1) := by decide +kernel
theorem dX2_donorFor_23 : decode cX2_donorFor 23 = .ok (.iload_n 3, 1) := by decide +kernel
theorem dX2_donorFor_24 : decode cX2_donorFor 24 = .ok (.iadd, 1) := by decide +kernel
theorem dX2_donorFor_25 : decode cX2_donorFor 25 = .ok (.goto 8, 3) := by decide +kernel
theorem dX2_donorFor_28 : decode cX2_donorFor 28 = .ok (.iload_n 1, 1) := by decide +kernel
theorem dX2_donorFor_29 : decode cX2_donorFor 29 = .ok (.iload_n 3, 1) := by decide +kernel
theorem dX2_donorFor_30 : decode cX2_donorFor 30 = .ok (.iadd, 1) := by decide +kernel
theorem dX2_donorFor_31 : decode cX2_donorFor 31 = .ok (.iload_n 2, 1) := by decide +kernel
theorem dX2_donorFor_32 : decode cX2_donorFor 32 = .ok (.isub, 1) := by decide +kernel
theorem dX2_donorFor_33 : decode cX2_donorFor 33 = .ok (.istore 4, 2) := by decide +kernel
theorem dX2_donorFor_35 : decode cX2_donorFor 35 = .ok (.iload 4, 2) := by decide +kernel
theorem dX2_donorFor_37 : decode cX2_donorFor 37 = .ok (.ifCond .lt 24, 3) := by decide +kernel
theorem dX2_donorFor_40 : decode cX2_donorFor 40 = .ok (.iload 4, 2) := by decide +kernel
theorem dX2_donorFor_42 : decode cX2_donorFor 42 = .ok (.bipush 6, 2) := by decide +kernel
theorem dX2_donorFor_44 : decode cX2_donorFor 44 = .ok (.if_icmp .ge 17, 3) := by decide +kernel
theorem dX2_donorFor_47 : decode cX2_donorFor 47 = .ok (.aload_n 0, 1) := by decide +kernel
theorem dX2_donorFor_48 : decode cX2_donorFor 48 = .ok (.getfield 21, 3) := by decide +kernel
theorem dX2_donorFor_51 : decode cX2_donorFor 51 = .ok (.iload 4, 2) := by decide +kernel
theorem dX2_donorFor_53 : decode cX2_donorFor 53 = .ok (.iaload, 1) := by decide +kernel
theorem dX2_donorFor_54 : decode cX2_donorFor 54 = .ok (.iconst 2, 1) := by decide +kernel
theorem dX2_donorFor_55 : decode cX2_donorFor 55 = .ok (.if_icmp .lt 6, 3) := by decide +kernel
theorem dX2_donorFor_58 : decode cX2_donorFor 58 = .ok (.iload 4, 2) := by decide +kernel
theorem dX2_donorFor_60 : decode cX2_donorFor 60 = .ok (.ireturn, 1) := by decide +kernel
theorem dX2_donorFor_61 : decode cX2_donorFor 61 = .ok (.iinc 3 1, 3) := by decide +kernel
theorem dX2_donorFor_64 : decode cX2_donorFor 64 = .ok (.goto (-54), 3) := by decide +kernel
theorem dX2_donorFor_67 : decode cX2_donorFor 67 = .ok (.iconst (-1), 1) := by decide +kernel
theorem dX2_donorFor_68 : decode cX2_donorFor 68 = .ok (.ireturn, 1) := by decide +kernel
theorem dX2_sendLastEngine_0 : decode cX2_sendLastEngine 0 = .ok (.bipush 9, 2) := by decide +kernel
theorem dX2_sendLastEngine_2 : decode cX2_sendLastEngine 2 = .ok (.istore_n 3, 1) := by decide +kernel
theorem dX2_sendLastEngine_3 : decode cX2_sendLastEngine 3 = .ok (.iload_n 3, 1) := by decide +kernel
theorem dX2_sendLastEngine_4 : decode cX2_sendLastEngine 4 = .ok (.ifCond .lt 27, 3) := by decide +kernel
theorem dX2_sendLastEngine_7 : decode cX2_sendLastEngine 7 = .ok (.aload_n 0, 1) := by decide +kernel
theorem dX2_sendLastEngine_8 : decode cX2_sendLastEngine 8 = .ok (.getfield 18, 3) := by decide +kernel
theorem dX2_sendLastEngine_11 : decode cX2_sendLastEngine 11 = .ok (.iload_n 3, 1) := by decide +kernel
theorem dX2_sendLastEngine_12 : decode cX2_sendLastEngine 12 = .ok (.iaload, 1) := by decide +kernel
theorem dX2_sendLastEngine_13 : decode cX2_sendLastEngine 13 = .ok (.iload_n 1, 1) := by decide +kernel
theorem dX2_sendLastEngine_14 : decode cX2_sendLastEngine 14 = .ok (.if_icmp .ne 11, 3) := by decide +kernel
theorem dX2_sendLastEngine_17 : decode cX2_sendLastEngine 17 = .ok (.aload_n 0, 1) := by decide +kernel
theorem dX2_sendLastEngine_18 : decode cX2_sendLastEngine 18 = .ok (.getfield 18, 3) := by decide +kernel
theorem dX2_sendLastEngine_21 : decode cX2_sendLastEngine 21 = .ok (.iload_n 3, 1) := by decide +kernel
theorem dX2_sendLastEngine_22 : decode cX2_sendLastEngine 22 = .ok (.iload_n 2, 1) := by decide +kernel
theorem dX2_sendLastEngine_23 : decode cX2_sendLastEngine 23 = .ok (.iastore, 1) := by decide +kernel
theorem dX2_sendLastEngine_24 : decode cX2_sendLastEngine 24 = .ok (.return_, 1) := by decide +kernel
theorem dX2_sendLastEngine_25 : decode cX2_sendLastEngine 25 = .ok (.iinc 3 (-1), 3) := by decide +kernel
theorem dX2_sendLastEngine_28 : decode cX2_sendLastEngine 28 = .ok (.goto (-25), 3) := by decide +kernel
theorem dX2_sendLastEngine_31 : decode cX2_sendLastEngine 31 = .ok (.return_, 1) := by decide +kernel
theorem dX3_init_0 : decode cX3_init 0 = .ok (.aload_n 0, 1) := by decide +kernel
theorem dX3_init_1 : decode cX3_init 1 = .ok (.invokespecial 3, 3) := by decide +kernel
theorem dX3_init_4 : decode cX3_init 4 = .ok (.aload_n 0, 1) := by decide +kernel
theorem dX3_init_5 : decode cX3_init 5 = .ok (.iconst 5, 1) := by decide +kernel
theorem dX3_init_6 : decode cX3_init 6 = .ok (.newarray .int, 2) := by decide +kernel
theorem dX3_init_8 : decode cX3_init 8 = .ok (.putfield 9, 3) := by decide +kernel
theorem dX3_init_11 : decode cX3_init 11 = .ok (.aload_n 0, 1) := by decide +kernel
theorem dX3_init_12 : decode cX3_init 12 = .ok (.iconst 5, 1) := by decide +kernel
theorem dX3_init_13 : decode cX3_init 13 = .ok (.newarray .int, 2) := by decide +kernel
theorem dX3_init_15 : decode cX3_init 15 = .ok (.putfield 15, 3) := by decide +kernel
theorem dX3_init_18 : decode cX3_init 18 = .ok (.aload_n 0, 1) := by decide +kernel
theorem dX3_init_19 : decode cX3_init 19 = .ok (.iconst 5, 1) := by decide +kernel
theorem dX3_init_20 : decode cX3_init 20 = .ok (.newarray .int, 2) := by decide +kernel
theorem dX3_init_22 : decode cX3_init 22 = .ok (.putfield 18, 3) := by decide +kernel
theorem dX3_init_25 : decode cX3_init 25 = .ok (.aload_n 0, 1) := by decide +kernel
theorem dX3_init_26 : decode cX3_init 26 = .ok (.iconst 5, 1) := by decide +kernel
theorem dX3_init_27 : decode cX3_init 27 = .ok (.newarray .int, 2) := by decide +kernel
theorem dX3_init_29 : decode cX3_init 29 = .ok (.putfield 21, 3) := by decide +kernel
theorem dX3_init_32 : decode cX3_init 32 = .ok (.aload_n 0, 1) := by decide +kernel
theorem dX3_init_33 : decode cX3_init 33 = .ok (.iconst 5, 1) := by decide +kernel
theorem dX3_init_34 : decode cX3_init 34 = .ok (.newarray .int, 2) := by decide +kernel
theorem dX3_init_36 : decode cX3_init 36 = .ok (.putfield 24, 3) := by decide +kernel
theorem dX3_init_39 : decode cX3_init 39 = .ok (.aload_n 0, 1) := by decide +kernel
theorem dX3_init_40 : decode cX3_init 40 = .ok (.bipush 15, 2) := by decide +kernel
theorem dX3_init_42 : decode cX3_init 42 = .ok (.newarray .int, 2) := by decide +kernel
theorem dX3_init_44 : decode cX3_init 44 = .ok (.putfield 27, 3) := by decide +kernel
theorem dX3_init_47 : decode cX3_init 47 = .ok (.aload_n 0, 1) := by decide +kernel
theorem dX3_init_48 : decode cX3_init 48 = .ok (.bipush 50, 2) := by decide +kernel
theorem dX3_init_50 : decode cX3_init 50 = .ok (.newarray .int, 2) := by decide +kernel
theorem dX3_init_52 : decode cX3_init 52 = .ok (.putfield 30, 3) := by decide +kernel
theorem dX3_init_55 : decode cX3_init 55 = .ok (.aload_n 0, 1) := by decide +kernel
theorem dX3_init_56 : decode cX3_init 56 = .ok (.bipush 50, 2) := by decide +kernel
theorem dX3_init_58 : decode cX3_init 58 = .ok (.newarray .int, 2) := by decide +kernel
theorem dX3_init_60 : decode cX3_init 60 = .ok (.putfield 33, 3) := by decide +kernel
theorem dX3_init_63 : decode cX3_init 63 = .ok (.aload_n 0, 1) := by decide +kernel
theorem dX3_init_64 : decode cX3_init 64 = .ok (.iconst 5, 1) := by decide +kernel
theorem dX3_init_65 : decode cX3_init 65 = .ok (.newarray .int, 2) := by decide +kernel
theorem dX3_init_67 : decode cX3_init 67 = .ok (.putfield 36, 3) := by decide +kernel
theorem dX3_init_70 : decode cX3_init 70 = .ok (.return_, 1) := by decide +kernel
theorem dX4_init_0 : decode cX4_init 0 = .ok (.aload_n 0, 1) := by decide +kernel
theorem dX4_init_1 : decode cX4_init 1 = .ok (.invokespecial 3, 3) := by decide +kernel
theorem dX4_init_4 : decode cX4_init 4 = .ok (.aload_n 0, 1) := by decide +kernel
theorem dX4_init_5 : decode cX4_init 5 = .ok (.bipush 40, 2) := by decide +kernel
theorem dX4_init_7 : decode cX4_init 7 = .ok (.newarray .int, 2) := by decide +kernel
theorem dX4_init_9 : decode cX4_init 9 = .ok (.putfield 11, 3) := by decide +kernel
theorem dX4_init_12 : decode cX4_init 12 = .ok (.return_, 1) := by decide +kernel
theorem dX5_init_0 : decode cX5_init 0 = .ok (.aload_n 0, 1) := by decide +kernel
theorem dX5_init_1 : decode cX5_init 1 = .ok (.invokespecial 3, 3) := by decide +kernel
theorem dX5_init_4 : decode cX5_init 4 = .ok (.aload_n 0, 1) := by decide +kernel
theorem dX5_init_5 : decode cX5_init 5 = .ok (.bipush 48, 2) := by decide +kernel
theorem dX5_init_7 : decode cX5_init 7 = .ok (.newarray .int, 2) := by decide +kernel
theorem dX5_init_9 : decode cX5_init 9 = .ok (.putfield 9, 3) := by decide +kernel
theorem dX5_init_12 : decode cX5_init 12 = .ok (.aload_n 0, 1) := by decide +kernel
theorem dX5_init_13 : decode cX5_init 13 = .ok (.bipush 48, 2) := by decide +kernel
theorem dX5_init_15 : decode cX5_init 15 = .ok (.newarray .int, 2) := by decide +kernel
theorem dX5_init_17 : decode cX5_init 17 = .ok (.putfield 15, 3) := by decide +kernel
theorem dX5_init_20 : decode cX5_init 20 = .ok (.aload_n 0, 1) := by decide +kernel
theorem dX5_init_21 : decode cX5_init 21 = .ok (.bipush 48, 2) := by decide +kernel
theorem dX5_init_23 : decode cX5_init 23 = .ok (.newarray .int, 2) := by decide +kernel
theorem dX5_init_25 : decode cX5_init 25 = .ok (.putfield 18, 3) := by decide +kernel
theorem dX5_init_28 : decode cX5_init 28 = .ok (.aload_n 0, 1) := by decide +kernel
theorem dX5_init_29 : decode cX5_init 29 = .ok (.bipush 48, 2) := by decide +kernel
theorem dX5_init_31 : decode cX5_init 31 = .ok (.newarray .int, 2) := by decide +kernel
theorem dX5_init_33 : decode cX5_init 33 = .ok (.putfield 21, 3) := by decide +kernel
theorem dX5_init_36 : decode cX5_init 36 = .ok (.aload_n 0, 1) := by decide +kernel
theorem dX5_init_37 : decode cX5_init 37 = .ok (.bipush 48, 2) := by decide +kernel
theorem dX5_init_39 : decode cX5_init 39 = .ok (.newarray .int, 2) := by decide +kernel
theorem dX5_init_41 : decode cX5_init 41 = .ok (.putfield 24, 3) := by decide +kernel
theorem dX5_init_44 : decode cX5_init 44 = .ok (.return_, 1) := by decide +kernel
theorem dX6_init_0 : decode cX6_init 0 = .ok (.aload_n 0, 1) := by decide +kernel
theorem dX6_init_1 : decode cX6_init 1 = .ok (.invokespecial 3, 3) := by decide +kernel
theorem dX6_init_4 : decode cX6_init 4 = .ok (.aload_n 0, 1) := by decide +kernel
theorem dX6_init_5 : decode cX6_init 5 = .ok (.aload_n 1, 1) := by decide +kernel
theorem dX6_init_6 : decode cX6_init 6 = .ok (.putfield 9, 3) := by decide +kernel
theorem dX6_init_9 : decode cX6_init 9 = .ok (.return_, 1) := by decide +kernel
theorem dX7_init_0 : decode cX7_init 0 = .ok (.aload_n 0, 1) := by decide +kernel
theorem dX7_init_1 : decode cX7_init 1 = .ok (.invokespecial 3, 3) := by decide +kernel
theorem dX7_init_4 : decode cX7_init 4 = .ok (.aload_n 0, 1) := by decide +kernel
theorem dX7_init_5 : decode cX7_init 5 = .ok (.bipush 12, 2) := by decide +kernel
theorem dX7_init_7 : decode cX7_init 7 = .ok (.newarray .int, 2) := by decide +kernel
theorem dX7_init_9 : decode cX7_init 9 = .ok (.putfield 9, 3) := by decide +kernel
theorem dX7_init_12 : decode cX7_init 12 = .ok (.aload_n 0, 1) := by decide +kernel
theorem dX7_init_13 : decode cX7_init 13 = .ok (.bipush 12, 2) := by decide +kernel
theorem dX7_init_15 : decode cX7_init 15 = .ok (.newarray .int, 2) := by decide +kernel
theorem dX7_init_17 : decode cX7_init 17 = .ok (.putfield 15, 3) := by decide +kernel
theorem dX7_init_20 : decode cX7_init 20 = .ok (.aload_n 0, 1) := by decide +kernel
theorem dX7_init_21 : decode cX7_init 21 = .ok (.bipush 12, 2) := by decide +kernel
theorem dX7_init_23 : decode cX7_init 23 = .ok (.newarray .int, 2) := by decide +kernel
theorem dX7_init_25 : decode cX7_init 25 = .ok (.putfield 18, 3) := by decide +kernel
theorem dX7_init_28 : decode cX7_init 28 = .ok (.return_, 1) := by decide +kernel
theorem dX8_init_0 : decode cX8_init 0 = .ok (.aload_n 0, 1) := by decide +kernel
theorem dX8_init_1 : decode cX8_init 1 = .ok (.invokespecial 3, 3) := by decide +kernel
theorem dX8_init_4 : decode cX8_init 4 = .ok (.aload_n 0, 1) := by decide +kernel
theorem dX8_init_5 : decode cX8_init 5 = .ok (.new 9, 3) := by decide +kernel
theorem dX8_init_8 : decode cX8_init 8 = .ok (.dup, 1) := by decide +kernel
theorem dX8_init_9 : decode cX8_init 9 = .ok (.invokespecial 11, 3) := by decide +kernel
theorem dX8_init_12 : decode cX8_init 12 = .ok (.putfield 12, 3) := by decide +kernel
theorem dX8_init_15 : decode cX8_init 15 = .ok (.aload_n 0, 1) := by decide +kernel
theorem dX8_init_16 : decode cX8_init 16 = .ok (.iconst 5, 1) := by decide +kernel
theorem dX8_init_17 : decode cX8_init 17 = .ok (.newarray .int, 2) := by decide +kernel
theorem dX8_init_19 : decode cX8_init 19 = .ok (.putfield 18, 3) := by decide +kernel
theorem dX8_init_22 : decode cX8_init 22 = .ok (.aload_n 0, 1) := by decide +kernel
theorem dX8_init_23 : decode cX8_init 23 = .ok (.iconst 5, 1) := by decide +kernel
theorem dX8_init_24 : decode cX8_init 24 = .ok (.newarray .int, 2) := by decide +kernel
theorem dX8_init_26 : decode cX8_init 26 = .ok (.putfield 22, 3) := by decide +kernel
theorem dX8_init_29 : decode cX8_init 29 = .ok (.aload_n 0, 1) := by decide +kernel
theorem dX8_init_30 : decode cX8_init 30 = .ok (.iconst 5, 1) := by decide +kernel
theorem dX8_init_31 : decode cX8_init 31 = .ok (.newarray .int, 2) := by decide +kernel
theorem dX8_init_33 : decode cX8_init 33 = .ok (.putfield 25, 3) := by decide +kernel
theorem dX8_init_36 : decode cX8_init 36 = .ok (.aload_n 0, 1) := by decide +kernel
theorem dX8_init_37 : decode cX8_init 37 = .ok (.iconst 5, 1) := by decide +kernel
theorem dX8_init_38 : decode cX8_init 38 = .ok (.newarray .int, 2) := by decide +kernel
theorem dX8_init_40 : decode cX8_init 40 = .ok (.putfield 28, 3) := by decide +kernel
theorem dX8_init_43 : decode cX8_init 43 = .ok (.aload_n 0, 1) := by decide +kernel
theorem dX8_init_44 : decode cX8_init 44 = .ok (.iconst 5, 1) := by decide +kernel
theorem dX8_init_45 : decode cX8_init 45 = .ok (.newarray .int, 2) := by decide +kernel
theorem dX8_init_47 : decode cX8_init 47 = .ok (.putfield 31, 3) := by decide +kernel
theorem dX8_init_50 : decode cX8_init 50 = .ok (.aload_n 0, 1) := by decide +kernel
theorem dX8_init_51 : decode cX8_init 51 = .ok (.iconst 5, 1) := by decide +kernel
theorem dX8_init_52 : decode cX8_init 52 = .ok (.newarray .int, 2) := by decide +kernel
theorem dX8_init_54 : decode cX8_init 54 = .ok (.putfield 34, 3) := by decide +kernel
theorem dX8_init_57 : decode cX8_init 57 = .ok (.aload_n 0, 1) := by decide +kernel
theorem dX8_init_58 : decode cX8_init 58 = .ok (.bipush 48, 2) := by decide +kernel
theorem dX8_init_60 : decode cX8_init 60 = .ok (.newarray .int, 2) := by decide +kernel
theorem dX8_init_62 : decode cX8_init 62 = .ok (.putfield 37, 3) := by decide +kernel
theorem dX8_init_65 : decode cX8_init 65 = .ok (.aload_n 0, 1) := by decide +kernel
theorem dX8_init_66 : decode cX8_init 66 = .ok (.bipush 53, 2) := by decide +kernel
theorem dX8_init_68 : decode cX8_init 68 = .ok (.newarray .int, 2) := by decide +kernel
theorem dX8_init_70 : decode cX8_init 70 = .ok (.putfield 40, 3) := by decide +kernel
theorem dX8_init_73 : decode cX8_init 73 = .ok (.aload_n 0, 1) := by decide +kernel
theorem dX8_init_74 : decode cX8_init 74 = .ok (.bipush 48, 2) := by decide +kernel
theorem dX8_init_76 : decode cX8_init 76 = .ok (.newarray .int, 2) := by decide +kernel
theorem dX8_init_78 : decode cX8_init 78 = .ok (.putfield 43, 3) := by decide +kernel
theorem dX8_init_81 : decode cX8_init 81 = .ok (.aload_n 0, 1) := by decide +kernel
theorem dX8_init_82 : decode cX8_init 82 = .ok (.aload_n 1, 1) := by decide +kernel
theorem dX8_init_83 : decode cX8_init 83 = .ok (.putfield 46, 3) := by decide +kernel
theorem dX8_init_86 : decode cX8_init 86 = .ok (.aload_n 0, 1) := by decide +kernel
theorem dX8_init_87 : decode cX8_init 87 = .ok (.aload_n 2, 1) := by decide +kernel
theorem dX8_init_88 : decode cX8_init 88 = .ok (.putfield 50, 3) := by decide +kernel
theorem dX8_init_91 : decode cX8_init 91 = .ok (.return_, 1) := by decide +kernel
theorem dX8_equip_0 : decode cX8_equip 0 = .ok (.aload_n 0, 1) := by decide +kernel
theorem dX8_equip_1 : decode cX8_equip 1 = .ok (.iload_n 1, 1) := by decide +kernel
theorem dX8_equip_2 : decode cX8_equip 2 = .ok (.putfield 78, 3) := by decide +kernel
theorem dX8_equip_5 : decode cX8_equip 5 = .ok (.aload_n 0, 1) := by decide +kernel
theorem dX8_equip_6 : decode cX8_equip 6 = .ok (.iload_n 2, 1) := by decide +kernel
theorem dX8_equip_7 : decode cX8_equip 7 = .ok (.putfield 81, 3) := by decide +kernel
theorem dX8_equip_10 : decode cX8_equip 10 = .ok (.aload_n 0, 1) := by decide +kernel
theorem dX8_equip_11 : decode cX8_equip 11 = .ok (.iload_n 3, 1) := by decide +kernel
theorem dX8_equip_12 : decode cX8_equip 12 = .ok (.putfield 84, 3) := by decide +kernel
theorem dX8_equip_15 : decode cX8_equip 15 = .ok (.return_, 1) := by decide +kernel
theorem dX8_copyStarts_0 : decode cX8_copyStarts 0 = .ok (.aload_n 1, 1) := by decide +kernel
theorem dX8_copyStarts_1 : decode cX8_copyStarts 1 = .ok (.getfield 18, 3) := by decide +kernel
theorem dX8_copyStarts_4 : decode cX8_copyStarts 4 = .ok (.iconst 0, 1) := by decide +kernel
theorem dX8_copyStarts_5 : decode cX8_copyStarts 5 = .ok (.aload_n 0, 1) := by decide +kernel
theorem dX8_copyStarts_6 : decode cX8_copyStarts 6 = .ok (.getfield 18, 3) := by decide +kernel
theorem dX8_copyStarts_9 : decode cX8_copyStarts 9 = .ok (.iconst 0, 1) := by decide +kernel
theorem dX8_copyStarts_10 : decode cX8_copyStarts 10 = .ok (.iconst 5, 1) := by decide +kernel
theorem dX8_copyStarts_11 : decode cX8_copyStarts 11 = .ok (.invokestatic 93, 3) := by decide +kernel
theorem dX8_copyStarts_14 : decode cX8_copyStarts 14 = .ok (.return_, 1) := by decide +kernel
theorem dX8_greatestEnd_0 : decode cX8_greatestEnd 0 = .ok (.iconst 0, 1) := by decide +kernel
theorem dX8_greatestEnd_1 : decode cX8_greatestEnd 1 = .ok (.istore_n 1, 1) := by decide +kernel
theorem dX8_greatestEnd_2 : decode cX8_greatestEnd 2 = .ok (.iconst 0, 1) := by decide +kernel
theorem dX8_greatestEnd_3 : decode cX8_greatestEnd 3 = .ok (.istore_n 2, 1) := by decide +kernel
theorem dX8_greatestEnd_4 : decode cX8_greatestEnd 4 = .ok (.iload_n 2, 1) := by decide +kernel
theorem dX8_greatestEnd_5 : decode cX8_greatestEnd 5 = .ok (.iconst 5, 1) := by decide +kernel
theorem dX8_greatestEnd_6 : decode cX8_greatestEnd 6 = .ok (.if_icmp .ge 20, 3) := by decide +kernel
theorem dX8_greatestEnd_9 : decode cX8_greatestEnd 9 = .ok (.iload_n 1, 1) := by decide +kernel
theorem dX8_greatestEnd_10 : decode cX8_greatestEnd 10 = .ok (.aload_n 0, 1) := by decide +kernel
theorem dX8_greatestEnd_11 : decode cX8_greatestEnd 11 = .ok (.getfield 31, 3) := by decide +kernel
theorem dX8_greatestEnd_14 : decode cX8_greatestEnd 14 = .ok (.iload_n 2, 1) := by decide +kernel
theorem dX8_greatestEnd_15 : decode cX8_greatestEnd 15 = .ok (.iaload, 1) := by decide +kernel
theorem dX8_greatestEnd_16 : decode cX8_greatestEnd 16 = .ok (.invokestatic 116, 3) := by decide +kernel
theorem dX8_greatestEnd_19 : decode cX8_greatestEnd 19 = .ok (.istore_n 1, 1) := by decide +kernel
theorem dX8_greatestEnd_20 : decode cX8_greatestEnd 20 = .ok (.iinc 2 1, 3) := by decide +kernel
theorem dX8_greatestEnd_23 : decode cX8_greatestEnd 23 = .ok (.goto (-19), 3) := by decide +kernel
theorem dX8_greatestEnd_26 : decode cX8_greatestEnd 26 = .ok (.iload_n 1, 1) := by decide +kernel
theorem dX8_greatestEnd_27 : decode cX8_greatestEnd 27 = .ok (.ireturn, 1) := by decide +kernel
theorem dX8_firstOf_0 : decode cX8_firstOf 0 = .ok (.iconst 0, 1) := by decide +kernel
theorem dX8_firstOf_1 : decode cX8_firstOf 1 = .ok (.istore_n 1, 1) := by decide +kernel
theorem dX8_firstOf_2 : decode cX8_firstOf 2 = .ok (.iload_n 1, 1) := by decide +kernel
theorem dX8_firstOf_3 : decode cX8_firstOf 3 = .ok (.bipush 12, 2) := by decide +kernel
theorem dX8_firstOf_5 : decode cX8_firstOf 5 = .ok (.if_icmp .ge 17, 3) := by decide +kernel
theorem dX8_firstOf_8 : decode cX8_firstOf 8 = .ok (.iload_n 0, 1) := by decide +kernel
theorem dX8_firstOf_9 : decode cX8_firstOf 9 = .ok (.iload_n 1, 1) := by decide +kernel
theorem dX8_firstOf_10 : decode cX8_firstOf 10 = .ok (.ishr, 1) := by decide +kernel
theorem dX8_firstOf_11 : decode cX8_firstOf 11 = .ok (.iconst 1, 1) := by decide +kernel
theorem dX8_firstOf_12 : decode cX8_firstOf 12 = .ok (.iand, 1) := by decide +kernel
theorem dX8_firstOf_13 : decode cX8_firstOf 13 = .ok (.ifCond .ne 9, 3) := by decide +kernel
theorem dX8_firstOf_16 : decode cX8_firstOf 16 = .ok (.iinc 1 1, 3) := by decide +kernel
theorem dX8_firstOf_19 : decode cX8_firstOf 19 = .ok (.goto (-17), 3) := by decide +kernel
theorem dX8_firstOf_22 : decode cX8_firstOf 22 = .ok (.iload_n 1, 1) := by decide +kernel
theorem dX8_firstOf_23 : decode cX8_firstOf 23 = .ok (.ireturn, 1) := by decide +kernel
theorem dX10_init_0 : decode cX10_init 0 = .ok (.aload_n 0, 1) := by decide +kernel
theorem dX10_init_1 : decode cX10_init 1 = .ok (.invokespecial 3, 3) := by decide +kernel
theorem dX10_init_4 : decode cX10_init 4 = .ok (.aload_n 0, 1) := by decide +kernel
theorem dX10_init_5 : decode cX10_init 5 = .ok (.sipush 1001, 3) := by decide +kernel
theorem dX10_init_8 : decode cX10_init 8 = .ok (.anewarray 11, 3) := by decide +kernel
theorem dX10_init_11 : decode cX10_init 11 = .ok (.putfield 13, 3) := by decide +kernel
theorem dX10_init_14 : decode cX10_init 14 = .ok (.aload_n 0, 1) := by decide +kernel
theorem dX10_init_15 : decode cX10_init 15 = .ok (.sipush 1001, 3) := by decide +kernel
theorem dX10_init_18 : decode cX10_init 18 = .ok (.newarray .int, 2) := by decide +kernel
theorem dX10_init_20 : decode cX10_init 20 = .ok (.putfield 17, 3) := by decide +kernel
theorem dX10_init_23 : decode cX10_init 23 = .ok (.aload_n 0, 1) := by decide +kernel
theorem dX10_init_24 : decode cX10_init 24 = .ok (.sipush 1001, 3) := by decide +kernel
theorem dX10_init_27 : decode cX10_init 27 = .ok (.newarray .int, 2) := by decide +kernel
theorem dX10_init_29 : decode cX10_init 29 = .ok (.putfield 21, 3) := by decide +kernel
theorem dX10_init_32 : decode cX10_init 32 = .ok (.return_, 1) := by decide +kernel
theorem dX10_sortAt_0 : decode cX10_sortAt 0 = .ok (.iload_n 1, 1) := by decide +kernel
theorem dX10_sortAt_1 : decode cX10_sortAt 1 = .ok (.ifCond .lt 29, 3) := by decide +kernel
theorem dX10_sortAt_4 : decode cX10_sortAt 4 = .ok (.iload_n 1, 1) := by decide +kernel
theorem dX10_sortAt_5 : decode cX10_sortAt 5 = .ok (.aload_n 0, 1) := by decide +kernel
theorem dX10_sortAt_6 : decode cX10_sortAt 6 = .ok (.getfield 24, 3) := by decide +kernel
theorem dX10_sortAt_9 : decode cX10_sortAt 9 = .ok (.if_icmp .ge 21, 3) := by decide +kernel
theorem dX10_sortAt_12 : decode cX10_sortAt 12 = .ok (.iload_n 1, 1) := by decide +kernel
theorem dX10_sortAt_13 : decode cX10_sortAt 13 = .ok (.aload_n 0, 1) := by decide +kernel
theorem dX10_sortAt_14 : decode cX10_sortAt 14 = .ok (.getfield 13, 3) := by decide +kernel
theorem dX10_sortAt_17 : decode cX10_sortAt 17 = .ok (.arraylength, 1) := by decide +kernel
theorem dX10_sortAt_18 : decode cX10_sortAt 18 = .ok (.if_icmp .ge 12, 3) := by decide +kernel
theorem dX10_sortAt_21 : decode cX10_sortAt 21 = .ok (.aload_n 0, 1) := by decide +kernel
theorem dX10_sortAt_22 : decode cX10_sortAt 22 = .ok (.getfield 13, 3) := by decide +kernel
theorem dX10_sortAt_25 : decode cX10_sortAt 25 = .ok (.iload_n 1, 1) := by decide +kernel
theorem dX10_sortAt_26 : decode cX10_sortAt 26 = .ok (.aaload, 1) := by decide +kernel
theorem dX10_sortAt_27 : decode cX10_sortAt 27 = .ok (.ifnonnull 7, 3) := by decide +kernel
theorem dX10_sortAt_30 : decode cX10_sortAt 30 = .ok (.getstatic 44, 3) := by decide +kernel
theorem dX10_sortAt_33 : decode cX10_sortAt 33 = .ok (.areturn, 1) := by decide +kernel
theorem dX10_sortAt_34 : decode cX10_sortAt 34 = .ok (.aload_n 0, 1) := by decide +kernel
theorem dX10_sortAt_35 : decode cX10_sortAt 35 = .ok (.getfield 13, 3) := by decide +kernel
theorem dX10_sortAt_38 : decode cX10_sortAt 38 = .ok (.iload_n 1, 1) := by decide +kernel
theorem dX10_sortAt_39 : decode cX10_sortAt 39 = .ok (.aaload, 1) := by decide +kernel
theorem dX10_sortAt_40 : decode cX10_sortAt 40 = .ok (.areturn, 1) := by decide +kernel
theorem dX10_add_0 : decode cX10_add 0 = .ok (.aload_n 0, 1) := by decide +kernel
theorem dX10_add_1 : decode cX10_add 1 = .ok (.getfield 24, 3) := by decide +kernel
theorem dX10_add_4 : decode cX10_add 4 = .ok (.ifCond .lt 53, 3) := by decide +kernel
theorem dX10_add_7 : decode cX10_add 7 = .ok (.aload_n 0, 1) := by decide +kernel
theorem dX10_add_8 : decode cX10_add 8 = .ok (.getfield 24, 3) := by decide +kernel
theorem dX10_add_11 : decode cX10_add 11 = .ok (.sipush 1001, 3) := by decide +kernel
theorem dX10_add_14 : decode cX10_add 14 = .ok (.if_icmp .ge 43, 3) := by decide +kernel
theorem dX10_add_17 : decode cX10_add 17 = .ok (.aload_n 0, 1) := by decide +kernel
theorem dX10_add_18 : decode cX10_add 18 = .ok (.getfield 13, 3) := by decide +kernel
theorem dX10_add_21 : decode cX10_add 21 = .ok (.aload_n 0, 1) := by decide +kernel
theorem dX10_add_22 : decode cX10_add 22 = .ok (.getfield 24, 3) := by decide +kernel
theorem dX10_add_25 : decode cX10_add 25 = .ok (.aload_n 1, 1) := by decide +kernel
theorem dX10_add_26 : decode cX10_add 26 = .ok (.aastore, 1) := by decide +kernel
theorem dX10_add_27 : decode cX10_add 27 = .ok (.aload_n 0, 1) := by decide +kernel
theorem dX10_add_28 : decode cX10_add 28 = .ok (.getfield 17, 3) := by decide +kernel
theorem dX10_add_31 : decode cX10_add 31 = .ok (.aload_n 0, 1) := by decide +kernel
theorem dX10_add_32 : decode cX10_add 32 = .ok (.getfield 24, 3) := by decide +kernel
theorem dX10_add_35 : decode cX10_add 35 = .ok (.iload_n 2, 1) := by decide +kernel
theorem dX10_add_36 : decode cX10_add 36 = .ok (.iastore, 1) := by decide +kernel
theorem dX10_add_37 : decode cX10_add 37 = .ok (.aload_n 0, 1) := by decide +kernel
theorem dX10_add_38 : decode cX10_add 38 = .ok (.getfield 21, 3) := by decide +kernel
theorem dX10_add_41 : decode cX10_add 41 = .ok (.aload_n 0, 1) := by decide +kernel
theorem dX10_add_42 : decode cX10_add 42 = .ok (.getfield 24, 3) := by decide +kernel
theorem dX10_add_45 : decode cX10_add 45 = .ok (.iload_n 3, 1) := by decide +kernel
theorem dX10_add_46 : decode cX10_add 46 = .ok (.iastore, 1) := by decide +kernel
theorem dX10_add_47 : decode cX10_add 47 = .ok (.aload_n 0, 1) := by decide +kernel
theorem dX10_add_48 : decode cX10_add 48 = .ok (.dup, 1) := by decide +kernel
theorem dX10_add_49 : decode cX10_add 49 = .ok (.getfield 24, 3) := by decide +kernel
theorem dX10_add_52 : decode cX10_add 52 = .ok (.iconst 1, 1) := by decide +kernel
theorem dX10_add_53 : decode cX10_add 53 = .ok (.iadd, 1) := by decide +kernel
theorem dX10_add_54 : decode cX10_add 54 = .ok (.putfield 24, 3) := by decide +kernel
theorem dX10_add_57 : decode cX10_add 57 = .ok (.return_, 1) := by decide +kernel
theorem dX10_isLetter_0 : decode cX10_isLetter 0 = .ok (.iload_n 0, 1) := by decide +kernel
theorem dX10_isLetter_1 : decode cX10_isLetter 1 = .ok (.bipush 97, 2) := by decide +kernel
theorem dX10_isLetter_3 : decode cX10_isLetter 3 = .ok (.if_icmp .lt 13, 3) := by decide +kernel
theorem dX10_isLetter_6 : decode cX10_isLetter 6 = .ok (.iload_n 0, 1) := by decide +kernel
theorem dX10_isLetter_7 : decode cX10_isLetter 7 = .ok (.bipush 122, 2) := by decide +kernel
theorem dX10_isLetter_9 : decode cX10_isLetter 9 = .ok (.if_icmp .gt 7, 3) := by decide +kernel
theorem dX10_isLetter_12 : decode cX10_isLetter 12 = .ok (.iconst 1, 1) := by decide +kernel
theorem dX10_isLetter_13 : decode cX10_isLetter 13 = .ok (.goto 4, 3) := by decide +kernel
theorem dX10_isLetter_16 : decode cX10_isLetter 16 = .ok (.iconst 0, 1) := by decide +kernel
theorem dX10_isLetter_17 : decode cX10_isLetter 17 = .ok (.ireturn, 1) := by decide +kernel
theorem dX10_isDigit_0 : decode cX10_isDigit 0 = .ok (.iload_n 0, 1) := by decide +kernel
theorem dX10_isDigit_1 : decode cX10_isDigit 1 = .ok (.bipush 48, 2) := by decide +kernel
theorem dX10_isDigit_3 : decode cX10_isDigit 3 = .ok (.if_icmp .lt 13, 3) := by decide +kernel
theorem dX10_isDigit_6 : decode cX10_isDigit 6 = .ok (.iload_n 0, 1) := by decide +kernel
theorem dX10_isDigit_7 : decode cX10_isDigit 7 = .ok (.bipush 57, 2) := by decide +kernel
theorem dX10_isDigit_9 : decode cX10_isDigit 9 = .ok (.if_icmp .gt 7, 3) := by decide +kernel
theorem dX10_isDigit_12 : decode cX10_isDigit 12 = .ok (.iconst 1, 1) := by decide +kernel
theorem dX10_isDigit_13 : decode cX10_isDigit 13 = .ok (.goto 4, 3) := by decide +kernel
theorem dX10_isDigit_16 : decode cX10_isDigit 16 = .ok (.iconst 0, 1) := by decide +kernel
theorem dX10_isDigit_17 : decode cX10_isDigit 17 = .ok (.ireturn, 1) := by decide +kernel
theorem dX10_isSameRun_0 : decode cX10_isSameRun 0 = .ok (.iload_n 0, 1) := by decide +kernel
theorem dX10_isSameRun_1 : decode cX10_isSameRun 1 = .ok (.invokestatic 55, 3) := by decide +kernel
theorem dX10_isSameRun_4 : decode cX10_isSameRun 4 = .ok (.ifCond .eq 10, 3) := by decide +kernel
theorem dX10_isSameRun_7 : decode cX10_isSameRun 7 = .ok (.iload_n 1, 1) := by decide +kernel
theorem dX10_isSameRun_8 : decode cX10_isSameRun 8 = .ok (.invokestatic 55, 3) := by decide +kernel
theorem dX10_isSameRun_11 : decode cX10_isSameRun 11 = .ok (.ifCond .ne 17, 3) := by decide +kernel
theorem dX10_isSameRun_14 : decode cX10_isSameRun 14 = .ok (.iload_n 0, 1) := by decide +kernel
theorem dX10_isSameRun_15 : decode cX10_isSameRun 15 = .ok (.invokestatic 59, 3) := by decide +kernel
theorem dX10_isSameRun_18 : decode cX10_isSameRun 18 = .ok (.ifCond .eq 14, 3) := by decide +kernel
theorem dX10_isSameRun_21 : decode cX10_isSameRun 21 = .ok (.iload_n 1, 1) := by decide +kernel
theorem dX10_isSameRun_22 : decode cX10_isSameRun 22 = .ok (.invokestatic 59, 3) := by decide +kernel
theorem dX10_isSameRun_25 : decode cX10_isSameRun 25 = .ok (.ifCond .eq 7, 3) := by decide +kernel
theorem dX10_isSameRun_28 : decode cX10_isSameRun 28 = .ok (.iconst 1, 1) := by decide +kernel
theorem dX10_isSameRun_29 : decode cX10_isSameRun 29 = .ok (.goto 4, 3) := by decide +kernel
theorem dX10_isSameRun_32 : decode cX10_isSameRun 32 = .ok (.iconst 0, 1) := by decide +kernel
theorem dX10_isSameRun_33 : decode cX10_isSameRun 33 = .ok (.ireturn, 1) := by decide +kernel
theorem dX10_valueOf_0 : decode cX10_valueOf 0 = .ok (.iconst 0, 1) := by decide +kernel
theorem dX10_valueOf_1 : decode cX10_valueOf 1 = .ok (.istore_n 3, 1) := by decide +kernel
theorem dX10_valueOf_2 : decode cX10_valueOf 2 = .ok (.iload_n 1, 1) := by decide +kernel
theorem dX10_valueOf_3 : decode cX10_valueOf 3 = .ok (.iconst 0, 1) := by decide +kernel
theorem dX10_valueOf_4 : decode cX10_valueOf 4 = .ok (.invokestatic 98, 3) := by decide +kernel
theorem dX10_valueOf_7 : decode cX10_valueOf 7 = .ok (.istore 4, 2) := by decide +kernel
theorem dX10_valueOf_9 : decode cX10_valueOf 9 = .ok (.iload 4, 2) := by decide +kernel
theorem dX10_valueOf_11 : decode cX10_valueOf 11 = .ok (.iload_n 2, 1) := by decide +kernel
theorem dX10_valueOf_12 : decode cX10_valueOf 12 = .ok (.if_icmp .ge 65, 3) := by decide +kernel
theorem dX10_valueOf_15 : decode cX10_valueOf 15 = .ok (.iload 4, 2) := by decide +kernel
theorem dX10_valueOf_17 : decode cX10_valueOf 17 = .ok (.aload_n 0, 1) := by decide +kernel
theorem dX10_valueOf_18 : decode cX10_valueOf 18 = .ok (.arraylength, 1) := by decide +kernel
theorem dX10_valueOf_19 : decode cX10_valueOf 19 = .ok (.if_icmp .ge 58, 3) := by decide +kernel
theorem dX10_valueOf_22 : decode cX10_valueOf 22 = .ok (.iload 4, 2) := by decide +kernel
theorem dX10_valueOf_24 : decode cX10_valueOf 24 = .ok (.iload_n 1, 1) := by decide +kernel
theorem dX10_valueOf_25 : decode cX10_valueOf 25 = .ok (.bipush 6, 2) := by decide +kernel
theorem dX10_valueOf_27 : decode cX10_valueOf 27 = .ok (.iadd, 1) := by decide +kernel
theorem dX10_valueOf_28 : decode cX10_valueOf 28 = .ok (.if_icmp .ge 49, 3) := by decide +kernel
theorem dX10_valueOf_31 : decode cX10_valueOf 31 = .ok (.aload_n 0, 1) := by decide +kernel
theorem dX10_valueOf_32 : decode cX10_valueOf 32 = .ok (.iload 4, 2) := by decide +kernel
theorem dX10_valueOf_34 : decode cX10_valueOf 34 = .ok (.baload, 1) := by decide +kernel
theorem dX10_valueOf_35 : decode cX10_valueOf 35 = .ok (.invokestatic 59, 3) := by decide +kernel
theorem dX10_valueOf_38 : decode cX10_valueOf 38 = .ok (.ifCond .eq 18, 3) := by decide +kernel
theorem dX10_valueOf_41 : decode cX10_valueOf 41 = .ok (.iload_n 3, 1) := by decide +kernel
theorem dX10_valueOf_42 : decode cX10_valueOf 42 = .ok (.bipush 10, 2) := by decide +kernel
theorem dX10_valueOf_44 : decode cX10_valueOf 44 = .ok (.imul, 1) := by decide +kernel
theorem dX10_valueOf_45 : decode cX10_valueOf 45 = .ok (.aload_n 0, 1) := by decide +kernel
theorem dX10_valueOf_46 : decode cX10_valueOf 46 = .ok (.iload 4, 2) := by decide +kernel
theorem dX10_valueOf_48 : decode cX10_valueOf 48 = .ok (.baload, 1) := by decide +kernel
theorem dX10_valueOf_49 : decode cX10_valueOf 49 = .ok (.iadd, 1) := by decide +kernel
theorem dX10_valueOf_50 : decode cX10_valueOf 50 = .ok (.bipush 48, 2) := by decide +kernel
theorem dX10_valueOf_52 : decode cX10_valueOf 52 = .ok (.isub, 1) := by decide +kernel
theorem dX10_valueOf_53 : decode cX10_valueOf 53 = .ok (.goto 17, 3) := by decide +kernel
theorem dX10_valueOf_56 : decode cX10_valueOf 56 = .ok (.iload_n 3, 1) := by decide +kernel
theorem dX10_valueOf_57 : decode cX10_valueOf 57 = .ok (.bipush 27, 2) := by decide +kernel
theorem dX10_valueOf_59 : decode cX10_valueOf 59 = .ok (.imul, 1) := by decide +kernel
theorem dX10_valueOf_60 : decode cX10_valueOf 60 = .ok (.aload_n 0, 1) := by decide +kernel
theorem dX10_valueOf_61 : decode cX10_valueOf 61 = .ok (.iload 4, 2) := by decide +kernel
theorem dX10_valueOf_63 : decode cX10_valueOf 63 = .ok (.baload, 1) := by decide +kernel
theorem dX10_valueOf_64 : decode cX10_valueOf 64 = .ok (.iadd, 1) := by decide +kernel
theorem dX10_valueOf_65 : decode cX10_valueOf 65 = .ok (.bipush 97, 2) := by decide +kernel
theorem dX10_valueOf_67 : decode cX10_valueOf 67 = .ok (.isub, 1) := by decide +kernel
theorem dX10_valueOf_68 : decode cX10_valueOf 68 = .ok (.iconst 1, 1) := by decide +kernel
theorem dX10_valueOf_69 : decode cX10_valueOf 69 = .ok (.iadd, 1) := by decide +kernel
theorem dX10_valueOf_70 : decode cX10_valueOf 70 = .ok (.istore_n 3, 1) := by decide +kernel
theorem dX10_valueOf_71 : decode cX10_valueOf 71 = .ok (.iinc 4 1, 3) := by decide +kernel
theorem dX10_valueOf_74 : decode cX10_valueOf 74 = .ok (.goto (-65), 3) := by decide +kernel
theorem dX10_valueOf_77 : decode cX10_valueOf 77 = .ok (.iload_n 3, 1) := by decide +kernel
theorem dX10_valueOf_78 : decode cX10_valueOf 78 = .ok (.ireturn, 1) := by decide +kernel
theorem dX11_truncateInput_0 : decode cX11_truncateInput 0 = .ok (.iload_n 1, 1) := by decide +kernel
theorem dX11_truncateInput_1 : decode cX11_truncateInput 1 = .ok (.ifCond .lt 11, 3) := by decide +kernel
theorem dX11_truncateInput_4 : decode cX11_truncateInput 4 = .ok (.iload_n 1, 1) := by decide +kernel
theorem dX11_truncateInput_5 : decode cX11_truncateInput 5 = .ok (.aload_n 0, 1) := by decide +kernel
theorem dX11_truncateInput_6 : decode cX11_truncateInput 6 = .ok (.getfield 86, 3) := by decide +kernel
theorem dX11_truncateInput_9 : decode cX11_truncateInput 9 = .ok (.if_icmp .le 5, 3) := by decide +kernel
theorem dX11_truncateInput_12 : decode cX11_truncateInput 12 = .ok (.iconst 0, 1) := by decide +kernel
theorem dX11_truncateInput_13 : decode cX11_truncateInput 13 = .ok (.ireturn, 1) := by decide +kernel
theorem dX11_truncateInput_14 : decode cX11_truncateInput 14 = .ok (.aload_n 0, 1) := by decide +kernel
theorem dX11_truncateInput_15 : decode cX11_truncateInput 15 = .ok (.iload_n 1, 1) := by decide +kernel
theorem dX11_truncateInput_16 : decode cX11_truncateInput 16 = .ok (.putfield 86, 3) := by decide +kernel
theorem dX11_truncateInput_19 : decode cX11_truncateInput 19 = .ok (.iconst 1, 1) := by decide +kernel
theorem dX11_truncateInput_20 : decode cX11_truncateInput 20 = .ok (.ireturn, 1) := by decide +kernel
theorem dX11_errorCode_0 : decode cX11_errorCode 0 = .ok (.aload_n 0, 1) := by decide +kernel
theorem dX11_errorCode_1 : decode cX11_errorCode 1 = .ok (.getfield 37, 3) := by decide +kernel
theorem dX11_errorCode_4 : decode cX11_errorCode 4 = .ok (.ireturn, 1) := by decide +kernel
theorem dX11_errorOffset_0 : decode cX11_errorOffset 0 = .ok (.aload_n 0, 1) := by decide +kernel
theorem dX11_errorOffset_1 : decode cX11_errorOffset 1 = .ok (.getfield 41, 3) := by decide +kernel
theorem dX11_errorOffset_4 : decode cX11_errorOffset 4 = .ok (.ireturn, 1) := by decide +kernel
theorem dX11_nodes_0 : decode cX11_nodes 0 = .ok (.aload_n 0, 1) := by decide +kernel
theorem dX11_nodes_1 : decode cX11_nodes 1 = .ok (.getfield 30, 3) := by decide +kernel
theorem dX11_nodes_4 : decode cX11_nodes 4 = .ok (.getfield 120, 3) := by decide +kernel
theorem dX11_nodes_7 : decode cX11_nodes 7 = .ok (.ireturn, 1) := by decide +kernel
theorem dX11_stations_0 : decode cX11_stations 0 = .ok (.aload_n 0, 1) := by decide +kernel
theorem dX11_stations_1 : decode cX11_stations 1 = .ok (.getfield 30, 3) := by decide +kernel
theorem dX11_stations_4 : decode cX11_stations 4 = .ok (.getfield 123, 3) := by decide +kernel
theorem dX11_stations_7 : decode cX11_stations 7 = .ok (.ireturn, 1) := by decide +kernel
theorem dX11_engines_0 : decode cX11_engines 0 = .ok (.aload_n 0, 1) := by decide +kernel
theorem dX11_engines_1 : decode cX11_engines 1 = .ok (.getfield 30, 3) := by decide +kernel
theorem dX11_engines_4 : decode cX11_engines 4 = .ok (.getfield 126, 3) := by decide +kernel
theorem dX11_engines_7 : decode cX11_engines 7 = .ok (.ireturn, 1) := by decide +kernel
theorem dX11_streets_0 : decode cX11_streets 0 = .ok (.aload_n 0, 1) := by decide +kernel
theorem dX11_streets_1 : decode cX11_streets 1 = .ok (.getfield 30, 3) := by decide +kernel
theorem dX11_streets_4 : decode cX11_streets 4 = .ok (.getfield 129, 3) := by decide +kernel
theorem dX11_streets_7 : decode cX11_streets 7 = .ok (.getfield 133, 3) := by decide +kernel
theorem dX11_streets_10 : decode cX11_streets 10 = .ok (.ireturn, 1) := by decide +kernel
theorem dX11_drills_0 : decode cX11_drills 0 = .ok (.aload_n 0, 1) := by decide +kernel
theorem dX11_drills_1 : decode cX11_drills 1 = .ok (.getfield 30, 3) := by decide +kernel
theorem dX11_drills_4 : decode cX11_drills 4 = .ok (.getfield 111, 3) := by decide +kernel
theorem dX11_drills_7 : decode cX11_drills 7 = .ok (.getfield 115, 3) := by decide +kernel
theorem dX11_drills_10 : decode cX11_drills 10 = .ok (.ireturn, 1) := by decide +kernel
theorem dX11_violations_0 : decode cX11_violations 0 = .ok (.aload_n 0, 1) := by decide +kernel
theorem dX11_violations_1 : decode cX11_violations 1 = .ok (.getfield 67, 3) := by decide +kernel
theorem dX11_violations_4 : decode cX11_violations 4 = .ok (.getfield 262, 3) := by decide +kernel
theorem dX11_violations_7 : decode cX11_violations 7 = .ok (.ireturn, 1) := by decide +kernel
theorem dX11_finish_0 : decode cX11_finish 0 = .ok (.aload_n 0, 1) := by decide +kernel
theorem dX11_finish_1 : decode cX11_finish 1 = .ok (.getfield 67, 3) := by decide +kernel
theorem dX11_finish_4 : decode cX11_finish 4 = .ok (.invokevirtual 292, 3) := by decide +kernel
theorem dX11_finish_7 : decode cX11_finish 7 = .ok (.ireturn, 1) := by decide +kernel
theorem dX11_appendFourBytes_0 : decode cX11_appendFourBytes 0 = .ok (.bipush 24, 2) := by decide +kernel
theorem dX11_appendFourBytes_2 : decode cX11_appendFourBytes 2 = .ok (.istore_n 2, 1) := by decide +kernel
theorem dX11_appendFourBytes_3 : decode cX11_appendFourBytes 3 = .ok (.iload_n 2, 1) := by decide +kernel
theorem dX11_appendFourBytes_4 : decode cX11_appendFourBytes 4 = .ok (.ifCond .lt 51, 3) := by decide +kernel
theorem dX11_appendFourBytes_7 : decode cX11_appendFourBytes 7 = .ok (.aload_n 0, 1) := by decide +kernel
theorem dX11_appendFourBytes_8 : decode cX11_appendFourBytes 8 = .ok (.getfield 86, 3) := by decide +kernel
theorem dX11_appendFourBytes_11 : decode cX11_appendFourBytes 11 = .ok (.ifCond .lt 38, 3) := by decide +kernel
theorem dX11_appendFourBytes_14 : decode cX11_appendFourBytes 14 = .ok (.aload_n 0, 1) := by decide +kernel
theorem dX11_appendFourBytes_15 : decode cX11_appendFourBytes 15 = .ok (.getfield 86, 3) := by decide +kernel
theorem dX11_appendFourBytes_18 : decode cX11_appendFourBytes 18 = .ok (.aload_n 0, 1) := by decide +kernel
theorem dX11_appendFourBytes_19 : decode cX11_appendFourBytes 19 = .ok (.getfield 9, 3) := by decide +kernel
theorem dX11_appendFourBytes_22 : decode cX11_appendFourBytes 22 = .ok (.arraylength, 1) := by decide +kernel
theorem dX11_appendFourBytes_23 : decode cX11_appendFourBytes 23 = .ok (.if_icmp .ge 26, 3) := by decide +kernel
theorem dX11_appendFourBytes_26 : decode cX11_appendFourBytes 26 = .ok (.aload_n 0, 1) := by decide +kernel
theorem dX11_appendFourBytes_27 : decode cX11_appendFourBytes 27 = .ok (.getfield 9, 3) := by decide +kernel
theorem dX11_appendFourBytes_30 : decode cX11_appendFourBytes 30 = .ok (.aload_n 0, 1) := by decide +kernel
theorem dX11_appendFourBytes_31 : decode cX11_appendFourBytes 31 = .ok (.getfield 86, 3) := by decide +kernel
theorem dX11_appendFourBytes_34 : decode cX11_appendFourBytes 34 = .ok (.iload_n 1, 1) := by decide +kernel
theorem dX11_appendFourBytes_35 : decode cX11_appendFourBytes 35 = .ok (.iload_n 2, 1) := by decide +kernel
theorem dX11_appendFourBytes_36 : decode cX11_appendFourBytes 36 = .ok (.ishr, 1) := by decide +kernel
theorem dX11_appendFourBytes_37 : decode cX11_appendFourBytes 37 = .ok (.i2b, 1) := by decide +kernel
theorem dX11_appendFourBytes_38 : decode cX11_appendFourBytes 38 = .ok (.bastore, 1) := by decide +kernel
theorem dX11_appendFourBytes_39 : decode cX11_appendFourBytes 39 = .ok (.aload_n 0, 1) := by decide +kernel
theorem dX11_appendFourBytes_40 : decode cX11_appendFourBytes 40 = .ok (.dup, 1) := by decide +kernel
theorem dX11_appendFourBytes_41 : decode cX11_appendFourBytes 41 = .ok (.getfield 86, 3) := by decide +kernel
theorem dX11_appendFourBytes_44 : decode cX11_appendFourBytes 44 = .ok (.iconst 1, 1) := by decide +kernel
theorem dX11_appendFourBytes_45 : decode cX11_appendFourBytes 45 = .ok (.iadd, 1) := by decide +kernel
theorem dX11_appendFourBytes_46 : decode cX11_appendFourBytes 46 = .ok (.putfield 86, 3) := by decide +kernel
theorem dX11_appendFourBytes_49 : decode cX11_appendFourBytes 49 = .ok (.iinc 2 (-8), 3) := by decide +kernel
theorem dX11_appendFourBytes_52 : decode cX11_appendFourBytes 52 = .ok (.goto (-49), 3) := by decide +kernel
theorem dX11_appendFourBytes_55 : decode cX11_appendFourBytes 55 = .ok (.return_, 1) := by decide +kernel
theorem dX11_checkOrder_0 : decode cX11_checkOrder 0 = .ok (.iload_n 1, 1) := by decide +kernel
theorem dX11_checkOrder_1 : decode cX11_checkOrder 1 = .ok (.ifCond .ge 14, 3) := by decide +kernel
theorem dX11_checkOrder_4 : decode cX11_checkOrder 4 = .ok (.new 331, 3) := by decide +kernel
theorem dX11_checkOrder_7 : decode cX11_checkOrder 7 = .ok (.dup, 1) := by decide +kernel
theorem dX11_checkOrder_8 : decode cX11_checkOrder 8 = .ok (.ldc_w 333, 3) := by decide +kernel
theorem dX11_checkOrder_11 : decode cX11_checkOrder 11 = .ok (.invokespecial 335, 3) := by decide +kernel
theorem dX11_checkOrder_14 : decode cX11_checkOrder 14 = .ok (.athrow, 1) := by decide +kernel
theorem dX11_checkOrder_15 : decode cX11_checkOrder 15 = .ok (.iconst 0, 1) := by decide +kernel
theorem dX11_checkOrder_16 : decode cX11_checkOrder 16 = .ok (.istore_n 2, 1) := by decide +kernel
theorem dX11_checkOrder_17 : decode cX11_checkOrder 17 = .ok (.iload_n 1, 1) := by decide +kernel
theorem dX11_checkOrder_18 : decode cX11_checkOrder 18 = .ok (.istore_n 3, 1) := by decide +kernel
theorem dX11_checkOrder_19 : decode cX11_checkOrder 19 = .ok (.iload_n 3, 1) := by decide +kernel
theorem dX11_checkOrder_20 : decode cX11_checkOrder 20 = .ok (.ifCond .le 77, 3) := by decide +kernel
theorem dX11_checkOrder_23 : decode cX11_checkOrder 23 = .ok (.iload_n 3, 1) := by decide +kernel
theorem dX11_checkOrder_24 : decode cX11_checkOrder 24 = .ok (.bipush 10, 2) := by decide +kernel
theorem dX11_checkOrder_26 : decode cX11_checkOrder 26 = .ok (.irem, 1) := by decide +kernel
theorem dX11_checkOrder_27 : decode cX11_checkOrder 27 = .ok (.iconst 1, 1) := by decide +kernel
theorem dX11_checkOrder_28 : decode cX11_checkOrder 28 = .ok (.isub, 1) := by decide +kernel
theorem dX11_checkOrder_29 : decode cX11_checkOrder 29 = .ok (.istore 4, 2) := by decide +kernel
theorem dX11_checkOrder_31 : decode cX11_checkOrder 31 = .ok (.iload 4, 2) := by decide +kernel
theorem dX11_checkOrder_33 : decode cX11_checkOrder 33 = .ok (.ifCond .lt 18, 3) := by decide +kernel
theorem dX11_checkOrder_36 : decode cX11_checkOrder 36 = .ok (.iload 4, 2) := by decide +kernel
theorem dX11_checkOrder_38 : decode cX11_checkOrder 38 = .ok (.aload_n 0, 1) := by decide +kernel
theorem dX11_checkOrder_39 : decode cX11_checkOrder 39 = .ok (.getfield 30, 3) := by decide +kernel
theorem dX11_checkOrder_42 : decode cX11_checkOrder 42 = .ok (.getfield 111, 3) := by decide +kernel
theorem dX11_checkOrder_45 : decode cX11_checkOrder 45 = .ok (.getfield 115, 3) := by decide +kernel
theorem dX11_checkOrder_48 : decode cX11_checkOrder 48 = .ok (.if_icmp .lt 14, 3) := by decide +kernel
theorem dX11_checkOrder_51 : decode cX11_checkOrder 51 = .ok (.new 331, 3) := by decide +kernel
theorem dX11_checkOrder_54 : decode cX11_checkOrder 54 = .ok (.dup, 1) := by decide +kernel
theorem dX11_checkOrder_55 : decode cX11_checkOrder 55 = .ok (.ldc_w 338, 3) := by decide +kernel
theorem dX11_checkOrder_58 : decode cX11_checkOrder 58 = .ok (.invokespecial 335, 3) := by decide +kernel
theorem dX11_checkOrder_61 : decode cX11_checkOrder 61 = .ok (.athrow, 1) := by decide +kernel
theorem dX11_checkOrder_62 : decode cX11_checkOrder 62 = .ok (.iload_n 2, 1) := by decide +kernel
theorem dX11_checkOrder_63 : decode cX11_checkOrder 63 = .ok (.iload 4, 2) := by decide +kernel
theorem dX11_checkOrder_65 : decode cX11_checkOrder 65 = .ok (.ishr, 1) := by decide +kernel
theorem dX11_checkOrder_66 : decode cX11_checkOrder 66 = .ok (.iconst 1, 1) := by decide +kernel
theorem dX11_checkOrder_67 : decode cX11_checkOrder 67 = .ok (.iand, 1) := by decide +kernel
theorem dX11_checkOrder_68 : decode cX11_checkOrder 68 = .ok (.ifCond .eq 14, 3) := by decide +kernel
theorem dX11_checkOrder_71 : decode cX11_checkOrder 71 = .ok (.new 331, 3) := by decide +kernel
theorem dX11_checkOrder_74 : decode cX11_checkOrder 74 = .ok (.dup, 1) := by decide +kernel
theorem dX11_checkOrder_75 : decode cX11_checkOrder 75 = .ok (.ldc_w 340, 3) := by decide +kernel
theorem dX11_checkOrder_78 : decode cX11_checkOrder 78 = .ok (.invokespecial 335, 3) := by decide +kernel
theorem dX11_checkOrder_81 : decode cX11_checkOrder 81 = .ok (.athrow, 1) := by decide +kernel
theorem dX11_checkOrder_82 : decode cX11_checkOrder 82 = .ok (.iload_n 2, 1) := by decide +kernel
theorem dX11_checkOrder_83 : decode cX11_checkOrder 83 = .ok (.iconst 1, 1) := by decide +kernel
theorem dX11_checkOrder_84 : decode cX11_checkOrder 84 = .ok (.iload 4, 2) := by decide +kernel
theorem dX11_checkOrder_86 : decode cX11_checkOrder 86 = .ok (.ishl, 1) := by decide +kernel
theorem dX11_checkOrder_87 : decode cX11_checkOrder 87 = .ok (.ior, 1) := by decide +kernel
theorem dX11_checkOrder_88 : decode cX11_checkOrder 88 = .ok (.istore_n 2, 1) := by decide +kernel
theorem dX11_checkOrder_89 : decode cX11_checkOrder 89 = .ok (.iload_n 3, 1) := by decide +kernel
theorem dX11_checkOrder_90 : decode cX11_checkOrder 90 = .ok (.bipush 10, 2) := by decide +kernel
theorem dX11_checkOrder_92 : decode cX11_checkOrder 92 = .ok (.idiv, 1) := by decide +kernel
theorem dX11_checkOrder_93 : decode cX11_checkOrder 93 = .ok (.istore_n 3, 1) := by decide +kernel
theorem dX11_checkOrder_94 : decode cX11_checkOrder 94 = .ok (.goto (-75), 3) := by decide +kernel
theorem dX11_checkOrder_97 : decode cX11_checkOrder 97 = .ok (.return_, 1) := by decide +kernel
theorem dX11_checkEngineSet_0 : decode cX11_checkEngineSet 0 = .ok (.iload_n 1, 1) := by decide +kernel
theorem dX11_checkEngineSet_1 : decode cX11_checkEngineSet 1 = .ok (.aload_n 0, 1) := by decide +kernel
theorem dX11_checkEngineSet_2 : decode cX11_checkEngineSet 2 = .ok (.getfield 30, 3) := by decide +kernel
theorem dX11_checkEngineSet_5 : decode cX11_checkEngineSet 5 = .ok (.invokevirtual 210, 3) := by decide +kernel
theorem dX11_checkEngineSet_8 : decode cX11_checkEngineSet 8 = .ok (.iconst (-1), 1) := by decide +kernel
theorem dX11_checkEngineSet_9 : decode cX11_checkEngineSet 9 = .ok (.ixor, 1) := by decide +kernel
theorem dX11_checkEngineSet_10 : decode cX11_checkEngineSet 10 = .ok (.iand, 1) := by decide +kernel
theorem dX11_checkEngineSet_11 : decode cX11_checkEngineSet 11 = .ok (.ifCond .eq 14, 3) := by decide +kernel
theorem dX11_checkEngineSet_14 : decode cX11_checkEngineSet 14 = .ok (.new 331, 3) := by decide +kernel
theorem dX11_checkEngineSet_17 : decode cX11_checkEngineSet 17 = .ok (.dup, 1) := by decide +kernel
theorem dX11_checkEngineSet_18 : decode cX11_checkEngineSet 18 = .ok (.ldc_w 342, 3) := by decide +kernel
theorem dX11_checkEngineSet_21 : decode cX11_checkEngineSet 21 = .ok (.invokespecial 335, 3) := by decide +kernel
theorem dX11_checkEngineSet_24 : decode cX11_checkEngineSet 24 = .ok (.athrow, 1) := by decide +kernel
theorem dX11_checkEngineSet_25 : decode cX11_checkEngineSet 25 = .ok (.return_, 1) := by decide +kernel
theorem dX11_checkRange_0 : decode cX11_checkRange 0 = .ok (.iload_n 0, 1) := by decide +kernel
theorem dX11_checkRange_1 : decode cX11_checkRange 1 = .ok (.iload_n 1, 1) := by decide +kernel
theorem dX11_checkRange_2 : decode cX11_checkRange 2 = .ok (.if_icmp .lt 8, 3) := by decide +kernel
theorem dX11_checkRange_5 : decode cX11_checkRange 5 = .ok (.iload_n 0, 1) := by decide +kernel
theorem dX11_checkRange_6 : decode cX11_checkRange 6 = .ok (.iload_n 2, 1) := by decide +kernel
theorem dX11_checkRange_7 : decode cX11_checkRange 7 = .ok (.if_icmp .le 14, 3) := by decide +kernel
theorem dX11_checkRange_10 : decode cX11_checkRange 10 = .ok (.new 331, 3) := by decide +kernel
theorem dX11_checkRange_13 : decode cX11_checkRange 13 = .ok (.dup, 1) := by decide +kernel
theorem dX11_checkRange_14 : decode cX11_checkRange 14 = .ok (.ldc_w 344, 3) := by decide +kernel
theorem dX11_checkRange_17 : decode cX11_checkRange 17 = .ok (.invokespecial 335, 3) := by decide +kernel
theorem dX11_checkRange_20 : decode cX11_checkRange 20 = .ok (.athrow, 1) := by decide +kernel
theorem dX11_checkRange_21 : decode cX11_checkRange 21 = .ok (.return_, 1) := by decide +kernel
theorem dX11_checkIndex_0 : decode cX11_checkIndex 0 = .ok (.iload_n 0, 1) := by decide +kernel
theorem dX11_checkIndex_1 : decode cX11_checkIndex 1 = .ok (.ifCond .lt 8, 3) := by decide +kernel
theorem dX11_checkIndex_4 : decode cX11_checkIndex 4 = .ok (.iload_n 0, 1) := by decide +kernel
theorem dX11_checkIndex_5 : decode cX11_checkIndex 5 = .ok (.iload_n 1, 1) := by decide +kernel
theorem dX11_checkIndex_6 : decode cX11_checkIndex 6 = .ok (.if_icmp .lt 14, 3) := by decide +kernel
theorem dX11_checkIndex_9 : decode cX11_checkIndex 9 = .ok (.new 346, 3) := by decide +kernel
theorem dX11_checkIndex_12 : decode cX11_checkIndex 12 = .ok (.dup, 1) := by decide +kernel
theorem dX11_checkIndex_13 : decode cX11_checkIndex 13 = .ok (.ldc_w 348, 3) := by decide +kernel
theorem dX11_checkIndex_16 : decode cX11_checkIndex 16 = .ok (.invokespecial 350, 3) := by decide +kernel
theorem dX11_checkIndex_19 : decode cX11_checkIndex 19 = .ok (.athrow, 1) := by decide +kernel
theorem dX11_checkIndex_20 : decode cX11_checkIndex 20 = .ok (.return_, 1) := by decide +kernel
theorem dX11_minusOneIfNoWay_0 : decode cX11_minusOneIfNoWay 0 = .ok (.iload_n 0, 1) := by decide +kernel
theorem dX11_minusOneIfNoWay_1 : decode cX11_minusOneIfNoWay 1 = .ok (.ldc 205, 2) := by decide +kernel
theorem dX11_minusOneIfNoWay_3 : decode cX11_minusOneIfNoWay 3 = .ok (.if_icmp .lt 7, 3) := by decide +kernel
theorem dX11_minusOneIfNoWay_6 : decode cX11_minusOneIfNoWay 6 = .ok (.iconst (-1), 1) := by decide +kernel
theorem dX11_minusOneIfNoWay_7 : decode cX11_minusOneIfNoWay 7 = .ok (.goto 4, 3) := by decide +kernel
theorem dX11_minusOneIfNoWay_10 : decode cX11_minusOneIfNoWay 10 = .ok (.iload_n 0, 1) := by decide +kernel
theorem dX11_minusOneIfNoWay_11 : decode cX11_minusOneIfNoWay 11 = .ok (.ireturn, 1) := by decide +kernel
theorem dX11_cell_0 : decode cX11_cell 0 = .ok (.iload_n 1, 1) := by decide +kernel
theorem dX11_cell_1 : decode cX11_cell 1 = .ok (.ifCond .lt 15, 3) := by decide +kernel
theorem dX11_cell_4 : decode cX11_cell 4 = .ok (.iload_n 1, 1) := by decide +kernel
theorem dX11_cell_5 : decode cX11_cell 5 = .ok (.aload_n 0, 1) := by decide +kernel
theorem dX11_cell_6 : decode cX11_cell 6 = .ok (.arraylength, 1) := by decide +kernel
theorem dX11_cell_7 : decode cX11_cell 7 = .ok (.if_icmp .ge 9, 3) := by decide +kernel
theorem dX11_cell_10 : decode cX11_cell 10 = .ok (.aload_n 0, 1) := by decide +kernel
theorem dX11_cell_11 : decode cX11_cell 11 = .ok (.iload_n 1, 1) := by decide +kernel
theorem dX11_cell_12 : decode cX11_cell 12 = .ok (.iaload, 1) := by decide +kernel
theorem dX11_cell_13 : decode cX11_cell 13 = .ok (.goto 4, 3) := by decide +kernel
theorem dX11_cell_16 : decode cX11_cell 16 = .ok (.iconst 0, 1) := by decide +kernel
theorem dX11_cell_17 : decode cX11_cell 17 = .ok (.ireturn, 1) := by decide +kernel
theorem dX11_put_0 : decode cX11_put 0 = .ok (.iload_n 1, 1) := by decide +kernel
theorem dX11_put_1 : decode cX11_put 1 = .ok (.ifCond .lt 13, 3) := by decide +kernel
theorem dX11_put_4 : decode cX11_put 4 = .ok (.iload_n 1, 1) := by decide +kernel
theorem dX11_put_5 : decode cX11_put 5 = .ok (.aload_n 0, 1) := by decide +kernel
theorem dX11_put_6 : decode cX11_put 6 = .ok (.arraylength, 1) := by decide +kernel
theorem dX11_put_7 : decode cX11_put 7 = .ok (.if_icmp .ge 7, 3) := by decide +kernel
theorem dX11_put_10 : decode cX11_put 10 = .ok (.aload_n 0, 1) := by decide +kernel
theorem dX11_put_11 : decode cX11_put 11 = .ok (.iload_n 1, 1) := by decide +kernel
theorem dX11_put_12 : decode cX11_put 12 = .ok (.iload_n 2, 1) := by decide +kernel
theorem dX11_put_13 : decode cX11_put 13 = .ok (.iastore, 1) := by decide +kernel
theorem dX11_put_14 : decode cX11_put 14 = .ok (.return_, 1) := by decide +kernel
theorem dX12_thrown_0 : decode cX12_thrown 0 = .ok (.aload_n 0, 1) := by decide +kernel
theorem dX12_thrown_1 : decode cX12_thrown 1 = .ok (.getfield 150, 3) := by decide +kernel
theorem dX12_thrown_4 : decode cX12_thrown 4 = .ok (.ireturn, 1) := by decide +kernel
theorem dX12_inRange_0 : decode cX12_inRange 0 = .ok (.iload_n 0, 1) := by decide +kernel
theorem dX12_inRange_1 : decode cX12_inRange 1 = .ok (.iload_n 1, 1) := by decide +kernel
theorem dX12_inRange_2 : decode cX12_inRange 2 = .ok (.if_icmp .lt 12, 3) := by decide +kernel
theorem dX12_inRange_5 : decode cX12_inRange 5 = .ok (.iload_n 0, 1) := by decide +kernel
theorem dX12_inRange_6 : decode cX12_inRange 6 = .ok (.iload_n 2, 1) := by decide +kernel
theorem dX12_inRange_7 : decode cX12_inRange 7 = .ok (.if_icmp .gt 7, 3) := by decide +kernel
theorem dX12_inRange_10 : decode cX12_inRange 10 = .ok (.iconst 1, 1) := by decide +kernel
theorem dX12_inRange_11 : decode cX12_inRange 11 = .ok (.goto 4, 3) := by decide +kernel
theorem dX12_inRange_14 : decode cX12_inRange 14 = .ok (.iconst 0, 1) := by decide +kernel
theorem dX12_inRange_15 : decode cX12_inRange 15 = .ok (.ireturn, 1) := by decide +kernel
theorem dX12_has_0 : decode cX12_has 0 = .ok (.iload_n 0, 1) := by decide +kernel
theorem dX12_has_1 : decode cX12_has 1 = .ok (.iload_n 1, 1) := by decide +kernel
theorem dX12_has_2 : decode cX12_has 2 = .ok (.ishr, 1) := by decide +kernel
theorem dX12_has_3 : decode cX12_has 3 = .ok (.iconst 1, 1) := by decide +kernel
theorem dX12_has_4 : decode cX12_has 4 = .ok (.iand, 1) := by decide +kernel
theorem dX12_has_5 : decode cX12_has 5 = .ok (.iconst 1, 1) := by decide +kernel
theorem dX12_has_6 : decode cX12_has 6 = .ok (.if_icmp .ne 7, 3) := by decide +kernel
theorem dX12_has_9 : decode cX12_has 9 = .ok (.iconst 1, 1) := by decide +kernel
theorem dX12_has_10 : decode cX12_has 10 = .ok (.goto 4, 3) := by decide +kernel
theorem dX12_has_13 : decode cX12_has 13 = .ok (.iconst 0, 1) := by decide +kernel
theorem dX12_has_14 : decode cX12_has 14 = .ok (.ireturn, 1) := by decide +kernel
theorem dX12_oneIf_0 : decode cX12_oneIf 0 = .ok (.iload_n 0, 1) := by decide +kernel
theorem dX12_oneIf_1 : decode cX12_oneIf 1 = .ok (.ifCond .eq 7, 3) := by decide +kernel
theorem dX12_oneIf_4 : decode cX12_oneIf 4 = .ok (.iconst 1, 1) := by decide +kernel
theorem dX12_oneIf_5 : decode cX12_oneIf 5 = .ok (.goto 4, 3) := by decide +kernel
theorem dX12_oneIf_8 : decode cX12_oneIf 8 = .ok (.iconst 0, 1) := by decide +kernel
theorem dX12_oneIf_9 : decode cX12_oneIf 9 = .ok (.ireturn, 1) := by decide +kernel
theorem dX12_sizeOf_0 : decode cX12_sizeOf 0 = .ok (.iconst 0, 1) := by decide +kernel
theorem dX12_sizeOf_1 : decode cX12_sizeOf 1 = .ok (.istore_n 1, 1) := by decide +kernel
theorem dX12_sizeOf_2 : decode cX12_sizeOf 2 = .ok (.iconst 0, 1) := by decide +kernel
theorem dX12_sizeOf_3 : decode cX12_sizeOf 3 = .ok (.istore_n 2, 1) := by decide +kernel
theorem dX12_sizeOf_4 : decode cX12_sizeOf 4 = .ok (.iload_n 2, 1) := by decide +kernel
theorem dX12_sizeOf_5 : decode cX12_sizeOf 5 = .ok (.bipush 12, 2) := by decide +kernel
theorem dX12_sizeOf_7 : decode cX12_sizeOf 7 = .ok (.if_icmp .ge 17, 3) := by decide +kernel
theorem dX12_sizeOf_10 : decode cX12_sizeOf 10 = .ok (.iload_n 1, 1) := by decide +kernel
theorem dX12_sizeOf_11 : decode cX12_sizeOf 11 = .ok (.iload_n 0, 1) := by decide +kernel
theorem dX12_sizeOf_12 : decode cX12_sizeOf 12 = .ok (.iload_n 2, 1) := by decide +kernel
theorem dX12_sizeOf_13 : decode cX12_sizeOf 13 = .ok (.ishr, 1) := by decide +kernel
theorem dX12_sizeOf_14 : decode cX12_sizeOf 14 = .ok (.iconst 1, 1) := by decide +kernel
theorem dX12_sizeOf_15 : decode cX12_sizeOf 15 = .ok (.iand, 1) := by decide +kernel
theorem dX12_sizeOf_16 : decode cX12_sizeOf 16 = .ok (.iadd, 1) := by decide +kernel
theorem dX12_sizeOf_17 : decode cX12_sizeOf 17 = .ok (.istore_n 1, 1) := by decide +kernel
theorem dX12_sizeOf_18 : decode cX12_sizeOf 18 = .ok (.iinc 2 1, 3) := by decide +kernel
theorem dX12_sizeOf_21 : decode cX12_sizeOf 21 = .ok (.goto (-17), 3) := by decide +kernel
theorem dX12_sizeOf_24 : decode cX12_sizeOf 24 = .ok (.iload_n 1, 1) := by decide +kernel
theorem dX12_sizeOf_25 : decode cX12_sizeOf 25 = .ok (.ireturn, 1) := by decide +kernel
theorem dX12_fails_0 : decode cX12_fails 0 = .ok (.iload_n 1, 1) := by decide +kernel
theorem dX12_fails_1 : decode cX12_fails 1 = .ok (.ifCond .eq 8, 3) := by decide +kernel
theorem dX12_fails_4 : decode cX12_fails 4 = .ok (.aload_n 0, 1) := by decide +kernel
theorem dX12_fails_5 : decode cX12_fails 5 = .ok (.iload_n 2, 1) := by decide +kernel
theorem dX12_fails_6 : decode cX12_fails 6 = .ok (.putfield 150, 3) := by decide +kernel
theorem dX12_fails_9 : decode cX12_fails 9 = .ok (.iload_n 1, 1) := by decide +kernel
theorem dX12_fails_10 : decode cX12_fails 10 = .ok (.ireturn, 1) := by decide +kernel
theorem dX12_clear_0 : decode cX12_clear 0 = .ok (.aload_n 0, 1) := by decide +kernel
theorem dX12_clear_1 : decode cX12_clear 1 = .ok (.bipush 30, 2) := by decide +kernel
theorem dX12_clear_3 : decode cX12_clear 3 = .ok (.putfield 153, 3) := by decide +kernel
theorem dX12_clear_6 : decode cX12_clear 6 = .ok (.aload_n 0, 1) := by decide +kernel
theorem dX12_clear_7 : decode cX12_clear 7 = .ok (.iconst 0, 1) := by decide +kernel
theorem dX12_clear_8 : decode cX12_clear 8 = .ok (.putfield 156, 3) := by decide +kernel
theorem dX12_clear_11 : decode cX12_clear 11 = .ok (.aload_n 0, 1) := by decide +kernel
theorem dX12_clear_12 : decode cX12_clear 12 = .ok (.iconst 0, 1) := by decide +kernel
theorem dX12_clear_13 : decode cX12_clear 13 = .ok (.putfield 159, 3) := by decide +kernel
theorem dX12_clear_16 : decode cX12_clear 16 = .ok (.aload_n 0, 1) := by decide +kernel
theorem dX12_clear_17 : decode cX12_clear 17 = .ok (.iconst 0, 1) := by decide +kernel
theorem dX12_clear_18 : decode cX12_clear 18 = .ok (.putfield 162, 3) := by decide +kernel
theorem dX12_clear_21 : decode cX12_clear 21 = .ok (.aload_n 0, 1) := by decide +kernel
theorem dX12_clear_22 : decode cX12_clear 22 = .ok (.iconst 0, 1) := by decide +kernel
theorem dX12_clear_23 : decode cX12_clear 23 = .ok (.putfield 165, 3) := by decide +kernel
theorem dX12_clear_26 : decode cX12_clear 26 = .ok (.aload_n 0, 1) := by decide +kernel
theorem dX12_clear_27 : decode cX12_clear 27 = .ok (.iconst 0, 1) := by decide +kernel
theorem dX12_clear_28 : decode cX12_clear 28 = .ok (.putfield 168, 3) := by decide +kernel
theorem dX12_clear_31 : decode cX12_clear 31 = .ok (.aload_n 0, 1) := by decide +kernel
theorem dX12_clear_32 : decode cX12_clear 32 = .ok (.iconst 0, 1) := by decide +kernel
theorem dX12_clear_33 : decode cX12_clear 33 = .ok (.putfield 171, 3) := by decide +kernel
theorem dX12_clear_36 : decode cX12_clear 36 = .ok (.aload_n 0, 1) := by decide +kernel
theorem dX12_clear_37 : decode cX12_clear 37 = .ok (.iconst 0, 1) := by decide +kernel
theorem dX12_clear_38 : decode cX12_clear 38 = .ok (.putfield 174, 3) := by decide +kernel
theorem dX12_clear_41 : decode cX12_clear 41 = .ok (.aload_n 0, 1) := by decide +kernel
theorem dX12_clear_42 : decode cX12_clear 42 = .ok (.iconst 1, 1) := by decide +kernel
theorem dX12_clear_43 : decode cX12_clear 43 = .ok (.putfield 177, 3) := by decide +kernel
theorem dX12_clear_46 : decode cX12_clear 46 = .ok (.aload_n 0, 1) := by decide +kernel
theorem dX12_clear_47 : decode cX12_clear 47 = .ok (.iconst 1, 1) := by decide +kernel
theorem dX12_clear_48 : decode cX12_clear 48 = .ok (.putfield 180, 3) := by decide +kernel
theorem dX12_clear_51 : decode cX12_clear 51 = .ok (.return_, 1) := by decide +kernel
theorem dX12_keepRow_0 : decode cX12_keepRow 0 = .ok (.iconst 0, 1) := by decide +kernel
theorem dX12_keepRow_1 : decode cX12_keepRow 1 = .ok (.istore 4, 2) := by decide +kernel
theorem dX12_keepRow_3 : decode cX12_keepRow 3 = .ok (.iload 4, 2) := by decide +kernel
theorem dX12_keepRow_5 : decode cX12_keepRow 5 = .ok (.iload_n 2, 1) := by decide +kernel
theorem dX12_keepRow_6 : decode cX12_keepRow 6 = .ok (.if_icmp .ge 52, 3) := by decide +kernel
theorem dX12_keepRow_9 : decode cX12_keepRow 9 = .ok (.iload_n 3, 1) := by decide +kernel
theorem dX12_keepRow_10 : decode cX12_keepRow 10 = .ok (.ifCond .eq 19, 3) := by decide +kernel
theorem dX12_keepRow_13 : decode cX12_keepRow 13 = .ok (.aload_n 1, 1) := by decide +kernel
theorem dX12_keepRow_14 : decode cX12_keepRow 14 = .ok (.iload 4, 2) := by decide +kernel
theorem dX12_keepRow_16 : decode cX12_keepRow 16 = .ok (.aload_n 0, 1) := by decide +kernel
theorem dX12_keepRow_17 : decode cX12_keepRow 17 = .ok (.getfield 71, 3) := by decide +kernel
theorem dX12_keepRow_20 : decode cX12_keepRow 20 = .ok (.aload_n 0, 1) := by decide +kernel
theorem dX12_keepRow_21 : decode cX12_keepRow 21 = .ok (.getfield 183, 3) := by decide +kernel
theorem dX12_keepRow_24 : decode cX12_keepRow 24 = .ok (.iaload, 1) := by decide +kernel
theorem dX12_keepRow_25 : decode cX12_keepRow 25 = .ok (.iastore, 1) := by decide +kernel
theorem dX12_keepRow_26 : decode cX12_keepRow 26 = .ok (.goto 16, 3) := by decide +kernel
theorem dX12_keepRow_29 : decode cX12_keepRow 29 = .ok (.aload_n 0, 1) := by decide +kernel
theorem dX12_keepRow_30 : decode cX12_keepRow 30 = .ok (.getfield 71, 3) := by decide +kernel
theorem dX12_keepRow_33 : decode cX12_keepRow 33 = .ok (.aload_n 0, 1) := by decide +kernel
theorem dX12_keepRow_34 : decode cX12_keepRow 34 = .ok (.getfield 183, 3) := by decide +kernel
theorem dX12_keepRow_37 : decode cX12_keepRow 37 = .ok (.aload_n 1, 1) := by decide +kernel
theorem dX12_keepRow_38 : decode cX12_keepRow 38 = .ok (.iload 4, 2) := by decide +kernel
theorem dX12_keepRow_40 : decode cX12_keepRow 40 = .ok (.iaload, 1) := by decide +kernel
theorem dX12_keepRow_41 : decode cX12_keepRow 41 = .ok (.iastore, 1) := by decide +kernel
theorem dX12_keepRow_42 : decode cX12_keepRow 42 = .ok (.aload_n 0, 1) := by decide +kernel
theorem dX12_keepRow_43 : decode cX12_keepRow 43 = .ok (.dup, 1) := by decide +kernel
theorem dX12_keepRow_44 : decode cX12_keepRow 44 = .ok (.getfield 183, 3) := by decide +kernel
theorem dX12_keepRow_47 : decode cX12_keepRow 47 = .ok (.iconst 1, 1) := by decide +kernel
theorem dX12_keepRow_48 : decode cX12_keepRow 48 = .ok (.iadd, 1) := by decide +kernel
theorem dX12_keepRow_49 : decode cX12_keepRow 49 = .ok (.putfield 183, 3) := by decide +kernel
theorem dX12_keepRow_52 : decode cX12_keepRow 52 = .ok (.iinc 4 1, 3) := by decide +kernel
theorem dX12_keepRow_55 : decode cX12_keepRow 55 = .ok (.goto (-52), 3) := by decide +kernel
theorem dX12_keepRow_58 : decode cX12_keepRow 58 = .ok (.return_, 1) := by decide +kernel
theorem dX12_keepNames_0 : decode cX12_keepNames 0 = .ok (.iconst 0, 1) := by decide +kernel
theorem dX12_keepNames_1 : decode cX12_keepNames 1 = .ok (.istore 4, 2) := by decide +kernel
theorem dX12_keepNames_3 : decode cX12_keepNames 3 = .ok (.iload 4, 2) := by decide +kernel
theorem dX12_keepNames_5 : decode cX12_keepNames 5 = .ok (.iload_n 2, 1) := by decide +kernel
theorem dX12_keepNames_6 : decode cX12_keepNames 6 = .ok (.if_icmp .ge 52, 3) := by decide +kernel
theorem dX12_keepNames_9 : decode cX12_keepNames 9 = .ok (.iload_n 3, 1) := by decide +kernel
theorem dX12_keepNames_10 : decode cX12_keepNames 10 = .ok (.ifCond .eq 19, 3) := by decide +kernel
theorem dX12_keepNames_13 : decode cX12_keepNames 13 = .ok (.aload_n 1, 1) := by decide +kernel
theorem dX12_keepNames_14 : decode cX12_keepNames 14 = .ok (.iload 4, 2) := by decide +kernel
theorem dX12_keepNames_16 : decode cX12_keepNames 16 = .ok (.aload_n 0, 1) := by decide +kernel
theorem dX12_keepNames_17 : decode cX12_keepNames 17 = .ok (.getfield 74, 3) := by decide +kernel
theorem dX12_keepNames_20 : decode cX12_keepNames 20 = .ok (.aload_n 0, 1) := by decide +kernel
theorem dX12_keepNames_21 : decode cX12_keepNames 21 = .ok (.getfield 186, 3) := by decide +kernel
theorem dX12_keepNames_24 : decode cX12_keepNames 24 = .ok (.laload, 1) := by decide +kernel
theorem dX12_keepNames_25 : decode cX12_keepNames 25 = .ok (.lastore, 1) := by decide +kernel
theorem dX12_keepNames_26 : decode cX12_keepNames 26 = .ok (.goto 16, 3) := by decide +kernel
theorem dX12_keepNames_29 : decode cX12_keepNames 29 = .ok (.aload_n 0, 1) := by decide +kernel
theorem dX12_keepNames_30 : decode cX12_keepNames 30 = .ok (.getfield 74, 3) := by decide +kernel
theorem dX12_keepNames_33 : decode cX12_keepNames 33 = .ok (.aload_n 0, 1) := by decide +kernel
theorem dX12_keepNames_34 : decode cX12_keepNames 34 = .ok (.getfield 186, 3) := by decide +kernel
theorem dX12_keepNames_37 : decode cX12_keepNames 37 = .ok (.aload_n 1, 1) := by decide +kernel
theorem dX12_keepNames_38 : decode cX12_keepNames 38 = .ok (.iload 4, 2) := by decide +kernel
theorem dX12_keepNames_40 : decode cX12_keepNames 40 = .ok (.laload, 1) := by decide +kernel
theorem dX12_keepNames_41 : decode cX12_keepNames 41 = .ok (.lastore, 1) := by decide +kernel
theorem dX12_keepNames_42 : decode cX12_keepNames 42 = .ok (.aload_n 0, 1) := by decide +kernel
theorem dX12_keepNames_43 : decode cX12_keepNames 43 = .ok (.dup, 1) := by decide +kernel
theorem dX12_keepNames_44 : decode cX12_keepNames 44 = .ok (.getfield 186, 3) := by decide +kernel
theorem dX12_keepNames_47 : decode cX12_keepNames 47 = .ok (.iconst 1, 1) := by decide +kernel
theorem dX12_keepNames_48 : decode cX12_keepNames 48 = .ok (.iadd, 1) := by decide +kernel
theorem dX12_keepNames_49 : decode cX12_keepNames 49 = .ok (.putfield 186, 3) := by decide +kernel
theorem dX12_keepNames_52 : decode cX12_keepNames 52 = .ok (.iinc 4 1, 3) := by decide +kernel
theorem dX12_keepNames_55 : decode cX12_keepNames 55 = .ok (.goto (-52), 3) := by decide +kernel
theorem dX12_keepNames_58 : decode cX12_keepNames 58 = .ok (.return_, 1) := by decide +kernel
theorem dX12_layHead_0 : decode cX12_layHead 0 = .ok (.aload_n 0, 1) := by decide +kernel
theorem dX12_layHead_1 : decode cX12_layHead 1 = .ok (.getfield 77, 3) := by decide +kernel
theorem dX12_layHead_4 : decode cX12_layHead 4 = .ok (.iconst 0, 1) := by decide +kernel
theorem dX12_layHead_5 : decode cX12_layHead 5 = .ok (.aload_n 0, 1) := by decide +kernel
theorem dX12_layHead_6 : decode cX12_layHead 6 = .ok (.getfield 153, 3) := by decide +kernel
theorem dX12_layHead_9 : decode cX12_layHead 9 = .ok (.iastore, 1) := by decide +kernel
theorem dX12_layHead_10 : decode cX12_layHead 10 = .ok (.aload_n 0, 1) := by decide +kernel
theorem dX12_layHead_11 : decode cX12_layHead 11 = .ok (.getfield 77, 3) := by decide +kernel
theorem dX12_layHead_14 : decode cX12_layHead 14 = .ok (.iconst 1, 1) := by decide +kernel
theorem dX12_layHead_15 : decode cX12_layHead 15 = .ok (.aload_n 0, 1) := by decide +kernel
theorem dX12_layHead_16 : decode cX12_layHead 16 = .ok (.getfield 156, 3) := by decide +kernel
theorem dX12_layHead_19 : decode cX12_layHead 19 = .ok (.iastore, 1) := by decide +kernel
theorem dX12_layHead_20 : decode cX12_layHead 20 = .ok (.aload_n 0, 1) := by decide +kernel
theorem dX12_layHead_21 : decode cX12_layHead 21 = .ok (.getfield 77, 3) := by decide +kernel
theorem dX12_layHead_24 : decode cX12_layHead 24 = .ok (.iconst 2, 1) := by decide +kernel
theorem dX12_layHead_25 : decode cX12_layHead 25 = .ok (.aload_n 0, 1) := by decide +kernel
theorem dX12_layHead_26 : decode cX12_layHead 26 = .ok (.getfield 159, 3) := by decide +kernel
theorem dX12_layHead_29 : decode cX12_layHead 29 = .ok (.iastore, 1) := by decide +kernel
theorem dX12_layHead_30 : decode cX12_layHead 30 = .ok (.aload_n 0, 1) := by decide +kernel
theorem dX12_layHead_31 : decode cX12_layHead 31 = .ok (.getfield 77, 3) := by decide +kernel
theorem dX12_layHead_34 : decode cX12_layHead 34 = .ok (.iconst 3, 1) := by decide +kernel
theorem dX12_layHead_35 : decode cX12_layHead 35 = .ok (.aload_n 0, 1) := by decide +kernel
theorem dX12_layHead_36 : decode cX12_layHead 36 = .ok (.getfield 162, 3) := by decide +kernel
theorem dX12_layHead_39 : decode cX12_layHead 39 = .ok (.iastore, 1) := by decide +kernel
theorem dX12_layHead_40 : decode cX12_layHead 40 = .ok (.aload_n 0, 1) := by decide +kernel
theorem dX12_layHead_41 : decode cX12_layHead 41 = .ok (.getfield 77, 3) := by decide +kernel
theorem dX12_layHead_44 : decode cX12_layHead 44 = .ok (.iconst 4, 1) := by decide +kernel
theorem dX12_layHead_45 : decode cX12_layHead 45 = .ok (.aload_n 0, 1) := by decide +kernel
theorem dX12_layHead_46 : decode cX12_layHead 46 = .ok (.getfield 165, 3) := by decide +kernel
theorem dX12_layHead_49 : decode cX12_layHead 49 = .ok (.iastore, 1) := by decide +kernel
theorem dX12_layHead_50 : decode cX12_layHead 50 = .ok (.aload_n 0, 1) := by decide +kernel
theorem dX12_layHead_51 : decode cX12_layHead 51 = .ok (.getfield 77, 3) := by decide +kernel
theorem dX12_layHead_54 : decode cX12_layHead 54 = .ok (.iconst 5, 1) := by decide +kernel
theorem dX12_layHead_55 : decode cX12_layHead 55 = .ok (.aload_n 0, 1) := by decide +kernel
theorem dX12_layHead_56 : decode cX12_layHead 56 = .ok (.getfield 168, 3) := by decide +kernel
theorem dX12_layHead_59 : decode cX12_layHead 59 = .ok (.iastore, 1) := by decide +kernel
theorem dX12_layHead_60 : decode cX12_layHead 60 = .ok (.aload_n 0, 1) := by decide +kernel
theorem dX12_layHead_61 : decode cX12_layHead 61 = .ok (.getfield 77, 3) := by decide +kernel
theorem dX12_layHead_64 : decode cX12_layHead 64 = .ok (.bipush 6, 2) := by decide +kernel
theorem dX12_layHead_66 : decode cX12_layHead 66 = .ok (.aload_n 0, 1) := by decide +kernel
theorem dX12_layHead_67 : decode cX12_layHead 67 = .ok (.getfield 171, 3) := by decide +kernel
theorem dX12_layHead_70 : decode cX12_layHead 70 = .ok (.iastore, 1) := by decide +kernel
theorem dX12_layHead_71 : decode cX12_layHead 71 = .ok (.aload_n 0, 1) := by decide +kernel
theorem dX12_layHead_72 : decode cX12_layHead 72 = .ok (.getfield 77, 3) := by decide +kernel
theorem dX12_layHead_75 : decode cX12_layHead 75 = .ok (.bipush 7, 2) := by decide +kernel
theorem dX12_layHead_77 : decode cX12_layHead 77 = .ok (.aload_n 0, 1) := by decide +kernel
theorem dX12_layHead_78 : decode cX12_layHead 78 = .ok (.getfield 174, 3) := by decide +kernel
theorem dX12_layHead_81 : decode cX12_layHead 81 = .ok (.iastore, 1) := by decide +kernel
theorem dX12_layHead_82 : decode cX12_layHead 82 = .ok (.aload_n 0, 1) := by decide +kernel
theorem dX12_layHead_83 : decode cX12_layHead 83 = .ok (.getfield 77, 3) := by decide +kernel
theorem dX12_layHead_86 : decode cX12_layHead 86 = .ok (.bipush 8, 2) := by decide +kernel
theorem dX12_layHead_88 : decode cX12_layHead 88 = .ok (.aload_n 0, 1) := by decide +kernel
theorem dX12_layHead_89 : decode cX12_layHead 89 = .ok (.getfield 177, 3) := by decide +kernel
theorem dX12_layHead_92 : decode cX12_layHead 92 = .ok (.iastore, 1) := by decide +kernel
theorem dX12_layHead_93 : decode cX12_layHead 93 = .ok (.aload_n 0, 1) := by decide +kernel
theorem dX12_layHead_94 : decode cX12_layHead 94 = .ok (.getfield 77, 3) := by decide +kernel
theorem dX12_layHead_97 : decode cX12_layHead 97 = .ok (.bipush 9, 2) := by decide +kernel
theorem dX12_layHead_99 : decode cX12_layHead 99 = .ok (.aload_n 0, 1) := by decide +kernel
theorem dX12_layHead_100 : decode cX12_layHead 100 = .ok (.getfield 180, 3) := by decide +kernel
theorem dX12_layHead_103 : decode cX12_layHead 103 = .ok (.iastore, 1) := by decide +kernel
theorem dX12_layHead_104 : decode cX12_layHead 104 = .ok (.return_, 1) := by decide +kernel
theorem dX12_takeHead_0 : decode cX12_takeHead 0 = .ok (.aload_n 0, 1) := by decide +kernel
theorem dX12_takeHead_1 : decode cX12_takeHead 1 = .ok (.aload_n 0, 1) := by decide +kernel
theorem dX12_takeHead_2 : decode cX12_takeHead 2 = .ok (.getfield 77, 3) := by decide +kernel
theorem dX12_takeHead_5 : decode cX12_takeHead 5 = .ok (.iconst 0, 1) := by decide +kernel
theorem dX12_takeHead_6 : decode cX12_takeHead 6 = .ok (.iaload, 1) := by decide +kernel
theorem dX12_takeHead_7 : decode cX12_takeHead 7 = .ok (.putfield 153, 3) := by decide +kernel
theorem dX12_takeHead_10 : decode cX12_takeHead 10 = .ok (.aload_n 0, 1) := by decide +kernel
theorem dX12_takeHead_11 : decode cX12_takeHead 11 = .ok (.aload_n 0, 1) := by decide +kernel
theorem dX12_takeHead_12 : decode cX12_takeHead 12 = .ok (.getfield 77, 3) := by decide +kernel
theorem dX12_takeHead_15 : decode cX12_takeHead 15 = .ok (.iconst 1, 1) := by decide +kernel
theorem dX12_takeHead_16 : decode cX12_takeHead 16 = .ok (.iaload, 1) := by decide +kernel
theorem dX12_takeHead_17 : decode cX12_takeHead 17 = .ok (.putfield 156, 3) := by decide +kernel
theorem dX12_takeHead_20 : decode cX12_takeHead 20 = .ok (.aload_n 0, 1) := by decide +kernel
theorem dX12_takeHead_21 : decode cX12_takeHead 21 = .ok (.aload_n 0, 1) := by decide +kernel
theorem dX12_takeHead_22 : decode cX12_takeHead 22 = .ok (.getfield 77, 3) := by decide +kernel
theorem dX12_takeHead_25 : decode cX12_takeHead 25 = .ok (.iconst 2, 1) := by decide +kernel
theorem dX12_takeHead_26 : decode cX12_takeHead 26 = .ok (.iaload, 1) := by decide +kernel
theorem dX12_takeHead_27 : decode cX12_takeHead 27 = .ok (.putfield 159, 3) := by decide +kernel
theorem dX12_takeHead_30 : decode cX12_takeHead 30 = .ok (.aload_n 0, 1) := by decide +kernel
theorem dX12_takeHead_31 : decode cX12_takeHead 31 = .ok (.aload_n 0, 1) := by decide +kernel
theorem dX12_takeHead_32 : decode cX12_takeHead 32 = .ok (.getfield 77, 3) := by decide +kernel
theorem dX12_takeHead_35 : decode cX12_takeHead 35 = .ok (.iconst 3, 1) := by decide +kernel
theorem dX12_takeHead_36 : decode cX12_takeHead 36 = .ok (.iaload, 1) := by decide +kernel
theorem dX12_takeHead_37 : decode cX12_takeHead 37 = .ok (.putfield 162, 3) := by decide +kernel
theorem dX12_takeHead_40 : decode cX12_takeHead 40 = .ok (.aload_n 0, 1) := by decide +kernel
theorem dX12_takeHead_41 : decode cX12_takeHead 41 = .ok (.aload_n 0, 1) := by decide +kernel
theorem dX12_takeHead_42 : decode cX12_takeHead 42 = .ok (.getfield 77, 3) := by decide +kernel
theorem dX12_takeHead_45 : decode cX12_takeHead 45 = .ok (.iconst 4, 1) := by decide +kernel
theorem dX12_takeHead_46 : decode cX12_takeHead 46 = .ok (.iaload, 1) := by decide +kernel
theorem dX12_takeHead_47 : decode cX12_takeHead 47 = .ok (.putfield 165, 3) := by decide +kernel
theorem dX12_takeHead_50 : decode cX12_takeHead 50 = .ok (.aload_n 0, 1) := by decide +kernel
theorem dX12_takeHead_51 : decode cX12_takeHead 51 = .ok (.aload_n 0, 1) := by decide +kernel
theorem dX12_takeHead_52 : decode cX12_takeHead 52 = .ok (.getfield 77, 3) := by decide +kernel
theorem dX12_takeHead_55 : decode cX12_takeHead 55 = .ok (.iconst 5, 1) := by decide +kernel
theorem dX12_takeHead_56 : decode cX12_takeHead 56 = .ok (.iaload, 1) := by decide +kernel
theorem dX12_takeHead_57 : decode cX12_takeHead 57 = .ok (.putfield 168, 3) := by decide +kernel
theorem dX12_takeHead_60 : decode cX12_takeHead 60 = .ok (.aload_n 0, 1) := by decide +kernel
theorem dX12_takeHead_61 : decode cX12_takeHead 61 = .ok (.aload_n 0, 1) := by decide +kernel
theorem dX12_takeHead_62 : decode cX12_takeHead 62 = .ok (.getfield 77, 3) := by decide +kernel
theorem dX12_takeHead_65 : decode cX12_takeHead 65 = .ok (.bipush 6, 2) := by decide +kernel
theorem dX12_takeHead_67 : decode cX12_takeHead 67 = .ok (.iaload, 1) := by decide +kernel
theorem dX12_takeHead_68 : decode cX12_takeHead 68 = .ok (.putfield 171, 3) := by decide +kernel
theorem dX12_takeHead_71 : decode cX12_takeHead 71 = .ok (.aload_n 0, 1) := by decide +kernel
theorem dX12_takeHead_72 : decode cX12_takeHead 72 = .ok (.aload_n 0, 1) := by decide +kernel
theorem dX12_takeHead_73 : decode cX12_takeHead 73 = .ok (.getfield 77, 3) := by decide +kernel
theorem dX12_takeHead_76 : decode cX12_takeHead 76 = .ok (.bipush 7, 2) := by decide +kernel
theorem dX12_takeHead_78 : decode cX12_takeHead 78 = .ok (.iaload, 1) := by decide +kernel
theorem dX12_takeHead_79 : decode cX12_takeHead 79 = .ok (.putfield 174, 3) := by decide +kernel
theorem dX12_takeHead_82 : decode cX12_takeHead 82 = .ok (.aload_n 0, 1) := by decide +kernel
theorem dX12_takeHead_83 : decode cX12_takeHead 83 = .ok (.aload_n 0, 1) := by decide +kernel
theorem dX12_takeHead_84 : decode cX12_takeHead 84 = .ok (.getfield 77, 3) := by decide +kernel
theorem dX12_takeHead_87 : decode cX12_takeHead 87 = .ok (.bipush 8, 2) := by decide +kernel
theorem dX12_takeHead_89 : decode cX12_takeHead 89 = .ok (.iaload, 1) := by decide +kernel
theorem dX12_takeHead_90 : decode cX12_takeHead 90 = .ok (.putfield 177, 3) := by decide +kernel
theorem dX12_takeHead_93 : decode cX12_takeHead 93 = .ok (.aload_n 0, 1) := by decide +kernel
theorem dX12_takeHead_94 : decode cX12_takeHead 94 = .ok (.aload_n 0, 1) := by decide +kernel
theorem dX12_takeHead_95 : decode cX12_takeHead 95 = .ok (.getfield 77, 3) := by decide +kernel
theorem dX12_takeHead_98 : decode cX12_takeHead 98 = .ok (.bipush 9, 2) := by decide +kernel
theorem dX12_takeHead_100 : decode cX12_takeHead 100 = .ok (.iaload, 1) := by decide +kernel
theorem dX12_takeHead_101 : decode cX12_takeHead 101 = .ok (.putfield 180, 3) := by decide +kernel
theorem dX12_takeHead_104 : decode cX12_takeHead 104 = .ok (.return_, 1) := by decide +kernel
theorem dX12_appendWord_0 : decode cX12_appendWord 0 = .ok (.bipush 24, 2) := by decide +kernel
theorem dX12_appendWord_2 : decode cX12_appendWord 2 = .ok (.istore_n 2, 1) := by decide +kernel
theorem dX12_appendWord_3 : decode cX12_appendWord 3 = .ok (.iload_n 2, 1) := by decide +kernel
theorem dX12_appendWord_4 : decode cX12_appendWord 4 = .ok (.ifCond .lt 35, 3) := by decide +kernel
theorem dX12_appendWord_7 : decode cX12_appendWord 7 = .ok (.aload_n 0, 1) := by decide +kernel
theorem dX12_appendWord_8 : decode cX12_appendWord 8 = .ok (.getfield 80, 3) := by decide +kernel
theorem dX12_appendWord_11 : decode cX12_appendWord 11 = .ok (.aload_n 0, 1) := by decide +kernel
theorem dX12_appendWord_12 : decode cX12_appendWord 12 = .ok (.getfield 203, 3) := by decide +kernel
theorem dX12_appendWord_15 : decode cX12_appendWord 15 = .ok (.iload_n 1, 1) := by decide +kernel
theorem dX12_appendWord_16 : decode cX12_appendWord 16 = .ok (.iload_n 2, 1) := by decide +kernel
theorem dX12_appendWord_17 : decode cX12_appendWord 17 = .ok (.ishr, 1) := by decide +kernel
theorem dX12_appendWord_18 : decode cX12_appendWord 18 = .ok (.sipush 255, 3) := by decide +kernel
theorem dX12_appendWord_21 : decode cX12_appendWord 21 = .ok (.iand, 1) := by decide +kernel
theorem dX12_appendWord_22 : decode cX12_appendWord 22 = .ok (.iastore, 1) := by decide +kernel
theorem dX12_appendWord_23 : decode cX12_appendWord 23 = .ok (.aload_n 0, 1) := by decide +kernel
theorem dX12_appendWord_24 : decode cX12_appendWord 24 = .ok (.dup, 1) := by decide +kernel
theorem dX12_appendWord_25 : decode cX12_appendWord 25 = .ok (.getfield 203, 3) := by decide +kernel
theorem dX12_appendWord_28 : decode cX12_appendWord 28 = .ok (.iconst 1, 1) := by decide +kernel
theorem dX12_appendWord_29 : decode cX12_appendWord 29 = .ok (.iadd, 1) := by decide +kernel
theorem dX12_appendWord_30 : decode cX12_appendWord 30 = .ok (.putfield 203, 3) := by decide +kernel
theorem dX12_appendWord_33 : decode cX12_appendWord 33 = .ok (.iinc 2 (-8), 3) := by decide +kernel
theorem dX12_appendWord_36 : decode cX12_appendWord 36 = .ok (.goto (-33), 3) := by decide +kernel
theorem dX12_appendWord_39 : decode cX12_appendWord 39 = .ok (.return_, 1) := by decide +kernel
theorem dX12_appendInput_0 : decode cX12_appendInput 0 = .ok (.aload_n 0, 1) := by decide +kernel
theorem dX12_appendInput_1 : decode cX12_appendInput 1 = .ok (.iconst 0, 1) := by decide +kernel
theorem dX12_appendInput_2 : decode cX12_appendInput 2 = .ok (.putfield 150, 3) := by decide +kernel
theorem dX12_appendInput_5 : decode cX12_appendInput 5 = .ok (.aload_n 0, 1) := by decide +kernel
theorem dX12_appendInput_6 : decode cX12_appendInput 6 = .ok (.getfield 203, 3) := by decide +kernel
theorem dX12_appendInput_9 : decode cX12_appendInput 9 = .ok (.bipush 20, 2) := by decide +kernel
theorem dX12_appendInput_11 : decode cX12_appendInput 11 = .ok (.iadd, 1) := by decide +kernel
theorem dX12_appendInput_12 : decode cX12_appendInput 12 = .ok (.sipush 1000, 3) := by decide +kernel
theorem dX12_appendInput_15 : decode cX12_appendInput 15 = .ok (.if_icmp .le 5, 3) := by decide +kernel
theorem dX12_appendInput_18 : decode cX12_appendInput 18 = .ok (.iconst (-1), 1) := by decide +kernel
theorem dX12_appendInput_19 : decode cX12_appendInput 19 = .ok (.ireturn, 1) := by decide +kernel
theorem dX12_appendInput_20 : decode cX12_appendInput 20 = .ok (.aload_n 0, 1) := by decide +kernel
theorem dX12_appendInput_21 : decode cX12_appendInput 21 = .ok (.iload_n 1, 1) := by decide +kernel
theorem dX12_appendInput_22 : decode cX12_appendInput 22 = .ok (.invokevirtual 206, 3) := by decide +kernel
theorem dX12_appendInput_25 : decode cX12_appendInput 25 = .ok (.aload_n 0, 1) := by decide +kernel
theorem dX12_appendInput_26 : decode cX12_appendInput 26 = .ok (.iload_n 2, 1) := by decide +kernel
theorem dX12_appendInput_27 : decode cX12_appendInput 27 = .ok (.invokevirtual 206, 3) := by decide +kernel
theorem dX12_appendInput_30 : decode cX12_appendInput 30 = .ok (.aload_n 0, 1) := by decide +kernel
theorem dX12_appendInput_31 : decode cX12_appendInput 31 = .ok (.iload_n 3, 1) := by decide +kernel
theorem dX12_appendInput_32 : decode cX12_appendInput 32 = .ok (.invokevirtual 206, 3) := by decide +kernel
theorem dX12_appendInput_35 : decode cX12_appendInput 35 = .ok (.aload_n 0, 1) := by decide +kernel
theorem dX12_appendInput_36 : decode cX12_appendInput 36 = .ok (.iload 4, 2) := by decide +kernel
theorem dX12_appendInput_38 : decode cX12_appendInput 38 = .ok (.invokevirtual 206, 3) := by decide +kernel
theorem dX12_appendInput_41 : decode cX12_appendInput 41 = .ok (.aload_n 0, 1) := by decide +kernel
theorem dX12_appendInput_42 : decode cX12_appendInput 42 = .ok (.iload 5, 2) := by decide +kernel
theorem dX12_appendInput_44 : decode cX12_appendInput 44 = .ok (.invokevirtual 206, 3) := by decide +kernel
theorem dX12_appendInput_47 : decode cX12_appendInput 47 = .ok (.aload_n 0, 1) := by decide +kernel
theorem dX12_appendInput_48 : decode cX12_appendInput 48 = .ok (.getfield 203, 3) := by decide +kernel
theorem dX12_appendInput_51 : decode cX12_appendInput 51 = .ok (.ireturn, 1) := by decide +kernel
theorem dX12_truncateInput_0 : decode cX12_truncateInput 0 = .ok (.aload_n 0, 1) := by decide +kernel
theorem dX12_truncateInput_1 : decode cX12_truncateInput 1 = .ok (.iconst 0, 1) := by decide +kernel
theorem dX12_truncateInput_2 : decode cX12_truncateInput 2 = .ok (.putfield 150, 3) := by decide +kernel
theorem dX12_truncateInput_5 : decode cX12_truncateInput 5 = .ok (.iload_n 1, 1) := by decide +kernel
theorem dX12_truncateInput_6 : decode cX12_truncateInput 6 = .ok (.iconst 0, 1) := by decide +kernel
theorem dX12_truncateInput_7 : decode cX12_truncateInput 7 = .ok (.aload_n 0, 1) := by decide +kernel
theorem dX12_truncateInput_8 : decode cX12_truncateInput 8 = .ok (.getfield 203, 3) := by decide +kernel
theorem dX12_truncateInput_11 : decode cX12_truncateInput 11 = .ok (.invokestatic 210, 3) := by decide +kernel
theorem dX12_truncateInput_14 : decode cX12_truncateInput 14 = .ok (.ifCond .ne 5, 3) := by decide +kernel
theorem dX12_truncateInput_17 : decode cX12_truncateInput 17 = .ok (.iconst 0, 1) := by decide +kernel
theorem dX12_truncateInput_18 : decode cX12_truncateInput 18 = .ok (.ireturn, 1) := by decide +kernel
theorem dX12_truncateInput_19 : decode cX12_truncateInput 19 = .ok (.aload_n 0, 1) := by decide +kernel
theorem dX12_truncateInput_20 : decode cX12_truncateInput 20 = .ok (.iload_n 1, 1) := by decide +kernel
theorem dX12_truncateInput_21 : decode cX12_truncateInput 21 = .ok (.putfield 203, 3) := by decide +kernel
theorem dX12_truncateInput_24 : decode cX12_truncateInput 24 = .ok (.iconst 1, 1) := by decide +kernel
theorem dX12_truncateInput_25 : decode cX12_truncateInput 25 = .ok (.ireturn, 1) := by decide +kernel
theorem dX12_byteAt_0 : decode cX12_byteAt 0 = .ok (.iload_n 1, 1) := by decide +kernel
theorem dX12_byteAt_1 : decode cX12_byteAt 1 = .ok (.aload_n 0, 1) := by decide +kernel
theorem dX12_byteAt_2 : decode cX12_byteAt 2 = .ok (.getfield 203, 3) := by decide +kernel
theorem dX12_byteAt_5 : decode cX12_byteAt 5 = .ok (.if_icmp .ge 12, 3) := by decide +kernel
theorem dX12_byteAt_8 : decode cX12_byteAt 8 = .ok (.aload_n 0, 1) := by decide +kernel
theorem dX12_byteAt_9 : decode cX12_byteAt 9 = .ok (.getfield 80, 3) := by decide +kernel
theorem dX12_byteAt_12 : decode cX12_byteAt 12 = .ok (.iload_n 1, 1) := by decide +kernel
theorem dX12_byteAt_13 : decode cX12_byteAt 13 = .ok (.iaload, 1) := by decide +kernel
theorem dX12_byteAt_14 : decode cX12_byteAt 14 = .ok (.goto 4, 3) := by decide +kernel
theorem dX12_byteAt_17 : decode cX12_byteAt 17 = .ok (.iconst (-1), 1) := by decide +kernel
theorem dX12_byteAt_18 : decode cX12_byteAt 18 = .ok (.ireturn, 1) := by decide +kernel
theorem dX12_advance_0 : decode cX12_advance 0 = .ok (.aload_n 0, 1) := by decide +kernel
theorem dX12_advance_1 : decode cX12_advance 1 = .ok (.aload_n 0, 1) := by decide +kernel
theorem dX12_advance_2 : decode cX12_advance 2 = .ok (.getfield 214, 3) := by decide +kernel
theorem dX12_advance_5 : decode cX12_advance 5 = .ok (.invokevirtual 217, 3) := by decide +kernel
theorem dX12_advance_8 : decode cX12_advance 8 = .ok (.bipush 32, 2) := by decide +kernel
theorem dX12_advance_10 : decode cX12_advance 10 = .ok (.if_icmp .eq 16, 3) := by decide +kernel
theorem dX12_advance_13 : decode cX12_advance 13 = .ok (.aload_n 0, 1) := by decide +kernel
theorem dX12_advance_14 : decode cX12_advance 14 = .ok (.aload_n 0, 1) := by decide +kernel
theorem dX12_advance_15 : decode cX12_advance 15 = .ok (.getfield 214, 3) := by decide +kernel
theorem dX12_advance_18 : decode cX12_advance 18 = .ok (.invokevirtual 217, 3) := by decide +kernel
theorem dX12_advance_21 : decode cX12_advance 21 = .ok (.bipush 10, 2) := by decide +kernel
theorem dX12_advance_23 : decode cX12_advance 23 = .ok (.if_icmp .ne 16, 3) := by decide +kernel
theorem dX12_advance_26 : decode cX12_advance 26 = .ok (.aload_n 0, 1) := by decide +kernel
theorem dX12_advance_27 : decode cX12_advance 27 = .ok (.dup, 1) := by decide +kernel
theorem dX12_advance_28 : decode cX12_advance 28 = .ok (.getfield 214, 3) := by decide +kernel
theorem dX12_advance_31 : decode cX12_advance 31 = .ok (.iconst 1, 1) := by decide +kernel
theorem dX12_advance_32 : decode cX12_advance 32 = .ok (.iadd, 1) := by decide +kernel
theorem dX12_advance_33 : decode cX12_advance 33 = .ok (.putfield 214, 3) := by decide +kernel
theorem dX12_advance_36 : decode cX12_advance 36 = .ok (.goto (-36), 3) := by decide +kernel
theorem dX12_advance_39 : decode cX12_advance 39 = .ok (.aload_n 0, 1) := by decide +kernel
theorem dX12_advance_40 : decode cX12_advance 40 = .ok (.aload_n 0, 1) := by decide +kernel
theorem dX12_advance_41 : decode cX12_advance 41 = .ok (.getfield 214, 3) := by decide +kernel
theorem dX12_advance_44 : decode cX12_advance 44 = .ok (.putfield 221, 3) := by decide +kernel
theorem dX12_advance_47 : decode cX12_advance 47 = .ok (.aload_n 0, 1) := by decide +kernel
theorem dX12_advance_48 : decode cX12_advance 48 = .ok (.aload_n 0, 1) := by decide +kernel
theorem dX12_advance_49 : decode cX12_advance 49 = .ok (.getfield 214, 3) := by decide +kernel
theorem dX12_advance_52 : decode cX12_advance 52 = .ok (.invokevirtual 217, 3) := by decide +kernel
theorem dX12_advance_55 : decode cX12_advance 55 = .ok (.istore_n 1, 1) := by decide +kernel
theorem dX12_advance_56 : decode cX12_advance 56 = .ok (.aload_n 0, 1) := by decide +kernel
theorem dX12_advance_57 : decode cX12_advance 57 = .ok (.lconst 0, 1) := by decide +kernel
theorem dX12_advance_58 : decode cX12_advance 58 = .ok (.putfield 224, 3) := by decide +kernel
theorem dX12_advance_61 : decode cX12_advance 61 = .ok (.aload_n 0, 1) := by decide +kernel
theorem dX12_advance_62 : decode cX12_advance 62 = .ok (.iconst 0, 1) := by decide +kernel
theorem dX12_advance_63 : decode cX12_advance 63 = .ok (.putfield 228, 3) := by decide +kernel
theorem dX12_advance_66 : decode cX12_advance 66 = .ok (.iload_n 1, 1) := by decide +kernel
theorem dX12_advance_67 : decode cX12_advance 67 = .ok (.iconst (-1), 1) := by decide +kernel
theorem dX12_advance_68 : decode cX12_advance 68 = .ok (.if_icmp .ne 11, 3) := by decide +kernel
theorem dX12_advance_71 : decode cX12_advance 71 = .ok (.aload_n 0, 1) := by decide +kernel
theorem dX12_advance_72 : decode cX12_advance 72 = .ok (.iconst 0, 1) := by decide +kernel
theorem dX12_advance_73 : decode cX12_advance 73 = .ok (.putfield 231, 3) := by decide +kernel
theorem dX12_advance_76 : decode cX12_advance 76 = .ok (.goto 193, 3) := by decide +kernel
theorem dX12_advance_79 : decode cX12_advance 79 = .ok (.iload_n 1, 1) := by decide +kernel
theorem dX12_advance_80 : decode cX12_advance 80 = .ok (.bipush 97, 2) := by decide +kernel
theorem dX12_advance_82 : decode cX12_advance 82 = .ok (.bipush 122, 2) := by decide +kernel
theorem dX12_advance_84 : decode cX12_advance 84 = .ok (.invokestatic 210, 3) := by decide +kernel
theorem dX12_advance_87 : decode cX12_advance 87 = .ok (.ifCond .eq 79, 3) := by decide +kernel
theorem dX12_advance_90 : decode cX12_advance 90 = .ok (.aload_n 0, 1) := by decide +kernel
theorem dX12_advance_91 : decode cX12_advance 91 = .ok (.iconst 1, 1) := by decide +kernel
theorem dX12_advance_92 : decode cX12_advance 92 = .ok (.putfield 231, 3) := by decide +kernel
theorem dX12_advance_95 : decode cX12_advance 95 = .ok (.aload_n 0, 1) := by decide +kernel
theorem dX12_advance_96 : decode cX12_advance 96 = .ok (.aload_n 0, 1) := by decide +kernel
theorem dX12_advance_97 : decode cX12_advance 97 = .ok (.getfield 214, 3) := by decide +kernel
theorem dX12_advance_100 : decode cX12_advance 100 = .ok (.invokevirtual 217, 3) := by decide +kernel
theorem dX12_advance_103 : decode cX12_advance 103 = .ok (.bipush 97, 2) := by decide +kernel
theorem dX12_advance_105 : decode cX12_advance 105 = .ok (.bipush 122, 2) := by decide +kernel
theorem dX12_advance_107 : decode cX12_advance 107 = .ok (.invokestatic 210, 3) := by decide +kernel
theorem dX12_advance_110 : decode cX12_advance 110 = .ok (.ifCond .eq 159, 3) := by decide +kernel
theorem dX12_advance_113 : decode cX12_advance 113 = .ok (.aload_n 0, 1) := by decide +kernel
theorem dX12_advance_114 : decode cX12_advance 114 = .ok (.getfield 214, 3) := by decide +kernel
theorem dX12_advance_117 : decode cX12_advance 117 = .ok (.aload_n 0, 1) := by decide +kernel
theorem dX12_advance_118 : decode cX12_advance 118 = .ok (.getfield 221, 3) := by decide +kernel
theorem dX12_advance_121 : decode cX12_advance 121 = .ok (.isub, 1) := by decide +kernel
theorem dX12_advance_122 : decode cX12_advance 122 = .ok (.bipush 12, 2) := by decide +kernel
theorem dX12_advance_124 : decode cX12_advance 124 = .ok (.if_icmp .ge 29, 3) := by decide +kernel
theorem dX12_advance_127 : decode cX12_advance 127 = .ok (.aload_n 0, 1) := by decide +kernel
theorem dX12_advance_128 : decode cX12_advance 128 = .ok (.ldc2_w 234, 3) := by decide +kernel
theorem dX12_advance_131 : decode cX12_advance 131 = .ok (.aload_n 0, 1) := by decide +kernel
theorem dX12_advance_132 : decode cX12_advance 132 = .ok (.getfield 224, 3) := by decide +kernel
theorem dX12_advance_135 : decode cX12_advance 135 = .ok (.lmul, 1) := by decide +kernel
theorem dX12_advance_136 : decode cX12_advance 136 = .ok (.aload_n 0, 1) := by decide +kernel
theorem dX12_advance_137 : decode cX12_advance 137 = .ok (.aload_n 0, 1) := by decide +kernel
theorem dX12_advance_138 : decode cX12_advance 138 = .ok (.getfield 214, 3) := by decide +kernel
theorem dX12_advance_141 : decode cX12_advance 141 = .ok (.invokevirtual 217, 3) := by decide +kernel
theorem dX12_advance_144 : decode cX12_advance 144 = .ok (.i2l, 1) := by decide +kernel
theorem dX12_advance_145 : decode cX12_advance 145 = .ok (.ladd, 1) := by decide +kernel
theorem dX12_advance_146 : decode cX12_advance 146 = .ok (.ldc2_w 236, 3) := by decide +kernel
theorem dX12_advance_149 : decode cX12_advance 149 = .ok (.lsub, 1) := by decide +kernel
theorem dX12_advance_150 : decode cX12_advance 150 = .ok (.putfield 224, 3) := by decide +kernel
theorem dX12_advance_153 : decode cX12_advance 153 = .ok (.aload_n 0, 1) := by decide +kernel
theorem dX12_advance_154 : decode cX12_advance 154 = .ok (.dup, 1) := by decide +kernel
theorem dX12_advance_155 : decode cX12_advance 155 = .ok (.getfield 214, 3) := by decide +kernel
theorem dX12_advance_158 : decode cX12_advance 158 = .ok (.iconst 1, 1) := by decide +kernel
theorem dX12_advance_159 : decode cX12_advance 159 = .ok (.iadd, 1) := by decide +kernel
theorem dX12_advance_160 : decode cX12_advance 160 = .ok (.putfield 214, 3) := by decide +kernel
theorem dX12_advance_163 : decode cX12_advance 163 = .ok (.goto (-68), 3) := by decide +kernel
theorem dX12_advance_166 : decode cX12_advance 166 = .ok (.iload_n 1, 1) := by decide +kernel
theorem dX12_advance_167 : decode cX12_advance 167 = .ok (.bipush 48, 2) := by decide +kernel
theorem dX12_advance_169 : decode cX12_advance 169 = .ok (.bipush 57, 2) := by decide +kernel
theorem dX12_advance_171 : decode cX12_advance 171 = .ok (.invokestatic 210, 3) := by decide +kernel
theorem dX12_advance_174 : decode cX12_advance 174 = .ok (.ifCond .eq 75, 3) := by decide +kernel
theorem dX12_advance_177 : decode cX12_advance 177 = .ok (.aload_n 0, 1) := by decide +kernel
theorem dX12_advance_178 : decode cX12_advance 178 = .ok (.iconst 2, 1) := by decide +kernel
theorem dX12_advance_179 : decode cX12_advance 179 = .ok (.putfield 231, 3) := by decide +kernel
theorem dX12_advance_182 : decode cX12_advance 182 = .ok (.aload_n 0, 1) := by decide +kernel
theorem dX12_advance_183 : decode cX12_advance 183 = .ok (.aload_n 0, 1) := by decide +kernel
theorem dX12_advance_184 : decode cX12_advance 184 = .ok (.getfield 214, 3) := by decide +kernel
theorem dX12_advance_187 : decode cX12_advance 187 = .ok (.invokevirtual 217, 3) := by decide +kernel
theorem dX12_advance_190 : decode cX12_advance 190 = .ok (.bipush 48, 2) := by decide +kernel
theorem dX12_advance_192 : decode cX12_advance 192 = .ok (.bipush 57, 2) := by decide +kernel
theorem dX12_advance_194 : decode cX12_advance 194 = .ok (.invokestatic 210, 3) := by decide +kernel
theorem dX12_advance_197 : decode cX12_advance 197 = .ok (.ifCond .eq 72, 3) := by decide +kernel
theorem dX12_advance_200 : decode cX12_advance 200 = .ok (.aload_n 0, 1) := by decide +kernel
theorem dX12_advance_201 : decode cX12_advance 201 = .ok (.getfield 214, 3) := by decide +kernel
theorem dX12_advance_204 : decode cX12_advance 204 = .ok (.aload_n 0, 1) := by decide +kernel
theorem dX12_advance_205 : decode cX12_advance 205 = .ok (.getfield 221, 3) := by decide +kernel
theorem dX12_advance_208 : decode cX12_advance 208 = .ok (.isub, 1) := by decide +kernel
theorem dX12_advance_209 : decode cX12_advance 209 = .ok (.iconst 4, 1) := by decide +kernel
theorem dX12_advance_210 : decode cX12_advance 210 = .ok (.if_icmp .ge 26, 3) := by decide +kernel
theorem dX12_advance_213 : decode cX12_advance 213 = .ok (.aload_n 0, 1) := by decide +kernel
theorem dX12_advance_214 : decode cX12_advance 214 = .ok (.bipush 10, 2) := by decide +kernel
theorem dX12_advance_216 : decode cX12_advance 216 = .ok (.aload_n 0, 1) := by decide +kernel
theorem dX12_advance_217 : decode cX12_advance 217 = .ok (.getfield 228, 3) := by decide +kernel
theorem dX12_advance_220 : decode cX12_advance 220 = .ok (.imul, 1) := by decide +kernel
theorem dX12_advance_221 : decode cX12_advance 221 = .ok (.aload_n 0, 1) := by decide +kernel
theorem dX12_advance_222 : decode cX12_advance 222 = .ok (.aload_n 0, 1) := by decide +kernel
theorem dX12_advance_223 : decode cX12_advance 223 = .ok (.getfield 214, 3) := by decide +kernel
theorem dX12_advance_226 : decode cX12_advance 226 = .ok (.invokevirtual 217, 3) := by decide +kernel
theorem dX12_advance_229 : decode cX12_advance 229 = .ok (.iadd, 1) := by decide +kernel
theorem dX12_advance_230 : decode cX12_advance 230 = .ok (.bipush 48, 2) := by decide +kernel
theorem dX12_advance_232 : decode cX12_advance 232 = .ok (.isub, 1) := by decide +kernel
theorem dX12_advance_233 : decode cX12_advance 233 = .ok (.putfield 228, 3) := by decide +kernel
theorem dX12_advance_236 : decode cX12_advance 236 = .ok (.aload_n 0, 1) := by decide +kernel
theorem dX12_advance_237 : decode cX12_advance 237 = .ok (.dup, 1) := by decide +kernel
theorem dX12_advance_238 : decode cX12_advance 238 = .ok (.getfield 214, 3) := by decide +kernel
theorem dX12_advance_241 : decode cX12_advance 241 = .ok (.iconst 1, 1) := by decide +kernel
theorem dX12_advance_242 : decode cX12_advance 242 = .ok (.iadd, 1) := by decide +kernel
theorem dX12_advance_243 : decode cX12_advance 243 = .ok (.putfield 214, 3) := by decide +kernel
theorem dX12_advance_246 : decode cX12_advance 246 = .ok (.goto (-64), 3) := by decide +kernel
theorem dX12_advance_249 : decode cX12_advance 249 = .ok (.aload_n 0, 1) := by decide +kernel
theorem dX12_advance_250 : decode cX12_advance 250 = .ok (.iconst 3, 1) := by decide +kernel
theorem dX12_advance_251 : decode cX12_advance 251 = .ok (.putfield 231, 3) := by decide +kernel
theorem dX12_advance_254 : decode cX12_advance 254 = .ok (.aload_n 0, 1) := by decide +kernel
theorem dX12_advance_255 : decode cX12_advance 255 = .ok (.iload_n 1, 1) := by decide +kernel
theorem dX12_advance_256 : decode cX12_advance 256 = .ok (.putfield 228, 3) := by decide +kernel
theorem dX12_advance_259 : decode cX12_advance 259 = .ok (.aload_n 0, 1) := by decide +kernel
theorem dX12_advance_260 : decode cX12_advance 260 = .ok (.dup, 1) := by decide +kernel
theorem dX12_advance_261 : decode cX12_advance 261 = .ok (.getfield 214, 3) := by decide +kernel
theorem dX12_advance_264 : decode cX12_advance 264 = .ok (.iconst 1, 1) := by decide +kernel
theorem dX12_advance_265 : decode cX12_advance 265 = .ok (.iadd, 1) := by decide +kernel
theorem dX12_advance_266 : decode cX12_advance 266 = .ok (.putfield 214, 3) := by decide +kernel
theorem dX12_advance_269 : decode cX12_advance 269 = .ok (.return_, 1) := by decide +kernel
theorem dX12_failsAt_0 : decode cX12_failsAt 0 = .ok (.aload_n 0, 1) := by decide +kernel
theorem dX12_failsAt_1 : decode cX12_failsAt 1 = .ok (.getfield 238, 3) := by decide +kernel
theorem dX12_failsAt_4 : decode cX12_failsAt 4 = .ok (.ifCond .ne 13, 3) := by decide +kernel
theorem dX12_failsAt_7 : decode cX12_failsAt 7 = .ok (.aload_n 0, 1) := by decide +kernel
theorem dX12_failsAt_8 : decode cX12_failsAt 8 = .ok (.iload_n 1, 1) := by decide +kernel
theorem dX12_failsAt_9 : decode cX12_failsAt 9 = .ok (.putfield 238, 3) := by decide +kernel
theorem dX12_failsAt_12 : decode cX12_failsAt 12 = .ok (.aload_n 0, 1) := by decide +kernel
theorem dX12_failsAt_13 : decode cX12_failsAt 13 = .ok (.iload_n 2, 1) := by decide +kernel
theorem dX12_failsAt_14 : decode cX12_failsAt 14 = .ok (.putfield 241, 3) := by decide +kernel
theorem dX12_failsAt_17 : decode cX12_failsAt 17 = .ok (.iconst 0, 1) := by decide +kernel
theorem dX12_failsAt_18 : decode cX12_failsAt 18 = .ok (.ireturn, 1) := by decide +kernel
theorem dX12_takesComma_0 : decode cX12_takesComma 0 = .ok (.aload_n 0, 1) := by decide +kernel
theorem dX12_takesComma_1 : decode cX12_takesComma 1 = .ok (.getfield 231, 3) := by decide +kernel
theorem dX12_takesComma_4 : decode cX12_takesComma 4 = .ok (.iconst 3, 1) := by decide +kernel
theorem dX12_takesComma_5 : decode cX12_takesComma 5 = .ok (.if_icmp .ne 12, 3) := by decide +kernel
theorem dX12_takesComma_8 : decode cX12_takesComma 8 = .ok (.aload_n 0, 1) := by decide +kernel
theorem dX12_takesComma_9 : decode cX12_takesComma 9 = .ok (.getfield 228, 3) := by decide +kernel
theorem dX12_takesComma_12 : decode cX12_takesComma 12 = .ok (.bipush 44, 2) := by decide +kernel
theorem dX12_takesComma_14 : decode cX12_takesComma 14 = .ok (.if_icmp .eq 5, 3) := by decide +kernel
theorem dX12_takesComma_17 : decode cX12_takesComma 17 = .ok (.iconst 0, 1) := by decide +kernel
theorem dX12_takesComma_18 : decode cX12_takesComma 18 = .ok (.ireturn, 1) := by decide +kernel
theorem dX12_takesComma_19 : decode cX12_takesComma 19 = .ok (.aload_n 0, 1) := by decide +kernel
theorem dX12_takesComma_20 : decode cX12_takesComma 20 = .ok (.invokevirtual 258, 3) := by decide +kernel
theorem dX12_takesComma_23 : decode cX12_takesComma 23 = .ok (.iconst 1, 1) := by decide +kernel
theorem dX12_takesComma_24 : decode cX12_takesComma 24 = .ok (.ireturn, 1) := by decide +kernel
theorem dX12_needsNumber_0 : decode cX12_needsNumber 0 = .ok (.aload_n 0, 1) := by decide +kernel
theorem dX12_needsNumber_1 : decode cX12_needsNumber 1 = .ok (.getfield 231, 3) := by decide +kernel
theorem dX12_needsNumber_4 : decode cX12_needsNumber 4 = .ok (.iconst 2, 1) := by decide +kernel
theorem dX12_needsNumber_5 : decode cX12_needsNumber 5 = .ok (.if_icmp .ne 16, 3) := by decide +kernel
theorem dX12_needsNumber_8 : decode cX12_needsNumber 8 = .ok (.aload_n 0, 1) := by decide +kernel
theorem dX12_needsNumber_9 : decode cX12_needsNumber 9 = .ok (.getfield 214, 3) := by decide +kernel
theorem dX12_needsNumber_12 : decode cX12_needsNumber 12 = .ok (.aload_n 0, 1) := by decide +kernel
theorem dX12_needsNumber_13 : decode cX12_needsNumber 13 = .ok (.getfield 221, 3) := by decide +kernel
theorem dX12_needsNumber_16 : decode cX12_needsNumber 16 = .ok (.isub, 1) := by decide +kernel
theorem dX12_needsNumber_17 : decode cX12_needsNumber 17 = .ok (.iconst 4, 1) := by decide +kernel
theorem dX12_needsNumber_18 : decode cX12_needsNumber 18 = .ok (.if_icmp .le 13, 3) := by decide +kernel
theorem dX12_needsNumber_21 : decode cX12_needsNumber 21 = .ok (.aload_n 0, 1) := by decide +kernel
theorem dX12_needsNumber_22 : decode cX12_needsNumber 22 = .ok (.iconst 1, 1) := by decide +kernel
theorem dX12_needsNumber_23 : decode cX12_needsNumber 23 = .ok (.aload_n 0, 1) := by decide +kernel
theorem dX12_needsNumber_24 : decode cX12_needsNumber 24 = .ok (.getfield 221, 3) := by decide +kernel
theorem dX12_needsNumber_27 : decode cX12_needsNumber 27 = .ok (.invokevirtual 264, 3) := by decide +kernel
theorem dX12_needsNumber_30 : decode cX12_needsNumber 30 = .ok (.ireturn, 1) := by decide +kernel
theorem dX12_needsNumber_31 : decode cX12_needsNumber 31 = .ok (.aload_n 0, 1) := by decide +kernel
theorem dX12_needsNumber_32 : decode cX12_needsNumber 32 = .ok (.getfield 228, 3) := by decide +kernel
theorem dX12_needsNumber_35 : decode cX12_needsNumber 35 = .ok (.iload_n 1, 1) := by decide +kernel
theorem dX12_needsNumber_36 : decode cX12_needsNumber 36 = .ok (.iload_n 2, 1) := by decide +kernel
theorem dX12_needsNumber_37 : decode cX12_needsNumber 37 = .ok (.invokestatic 210, 3) := by decide +kernel
theorem dX12_needsNumber_40 : decode cX12_needsNumber 40 = .ok (.ifCond .ne 13, 3) := by decide +kernel
theorem dX12_needsNumber_43 : decode cX12_needsNumber 43 = .ok (.aload_n 0, 1) := by decide +kernel
theorem dX12_needsNumber_44 : decode cX12_needsNumber 44 = .ok (.iconst 2, 1) := by decide +kernel
theorem dX12_needsNumber_45 : decode cX12_needsNumber 45 = .ok (.aload_n 0, 1) := by decide +kernel
theorem dX12_needsNumber_46 : decode cX12_needsNumber 46 = .ok (.getfield 221, 3) := by decide +kernel
theorem dX12_needsNumber_49 : decode cX12_needsNumber 49 = .ok (.invokevirtual 264, 3) := by decide +kernel
theorem dX12_needsNumber_52 : decode cX12_needsNumber 52 = .ok (.ireturn, 1) := by decide +kernel
theorem dX12_needsNumber_53 : decode cX12_needsNumber 53 = .ok (.aload_n 0, 1) := by decide +kernel
theorem dX12_needsNumber_54 : decode cX12_needsNumber 54 = .ok (.aload_n 0, 1) := by decide +kernel
theorem dX12_needsNumber_55 : decode cX12_needsNumber 55 = .ok (.getfield 228, 3) := by decide +kernel
theorem dX12_needsNumber_58 : decode cX12_needsNumber 58 = .ok (.putfield 268, 3) := by decide +kernel
theorem dX12_needsNumber_61 : decode cX12_needsNumber 61 = .ok (.aload_n 0, 1) := by decide +kernel
theorem dX12_needsNumber_62 : decode cX12_needsNumber 62 = .ok (.invokevirtual 258, 3) := by decide +kernel
theorem dX12_needsNumber_65 : decode cX12_needsNumber 65 = .ok (.iconst 1, 1) := by decide +kernel
theorem dX12_needsNumber_66 : decode cX12_needsNumber 66 = .ok (.ireturn, 1) := by decide +kernel
theorem dX12_named_0 : decode cX12_named 0 = .ok (.iconst 0, 1) := by decide +kernel
theorem dX12_named_1 : decode cX12_named 1 = .ok (.istore 4, 2) := by decide +kernel
theorem dX12_named_3 : decode cX12_named 3 = .ok (.iload 4, 2) := by decide +kernel
theorem dX12_named_5 : decode cX12_named 5 = .ok (.iload_n 1, 1) := by decide +kernel
theorem dX12_named_6 : decode cX12_named 6 = .ok (.if_icmp .ge 21, 3) := by decide +kernel
theorem dX12_named_9 : decode cX12_named 9 = .ok (.aload_n 0, 1) := by decide +kernel
theorem dX12_named_10 : decode cX12_named 10 = .ok (.iload 4, 2) := by decide +kernel
theorem dX12_named_12 : decode cX12_named 12 = .ok (.laload, 1) := by decide +kernel
theorem dX12_named_13 : decode cX12_named 13 = .ok (.lload_n 2, 1) := by decide +kernel
theorem dX12_named_14 : decode cX12_named 14 = .ok (.lcmp, 1) := by decide +kernel
theorem dX12_named_15 : decode cX12_named 15 = .ok (.ifCond .ne 6, 3) := by decide +kernel
theorem dX12_named_18 : decode cX12_named 18 = .ok (.iload 4, 2) := by decide +kernel
theorem dX12_named_20 : decode cX12_named 20 = .ok (.ireturn, 1) := by decide +kernel
theorem dX12_named_21 : decode cX12_named 21 = .ok (.iinc 4 1, 3) := by decide +kernel
theorem dX12_named_24 : decode cX12_named 24 = .ok (.goto (-21), 3) := by decide +kernel
theorem dX12_named_27 : decode cX12_named 27 = .ok (.iconst (-1), 1) := by decide +kernel
theorem dX12_named_28 : decode cX12_named 28 = .ok (.ireturn, 1) := by decide +kernel
theorem dX12_isGiven_0 : decode cX12_isGiven 0 = .ok (.aload_n 0, 1) := by decide +kernel
theorem dX12_isGiven_1 : decode cX12_isGiven 1 = .ok (.getfield 7, 3) := by decide +kernel
theorem dX12_isGiven_4 : decode cX12_isGiven 4 = .ok (.aload_n 0, 1) := by decide +kernel
theorem dX12_isGiven_5 : decode cX12_isGiven 5 = .ok (.getfield 156, 3) := by decide +kernel
theorem dX12_isGiven_8 : decode cX12_isGiven 8 = .ok (.lload_n 1, 1) := by decide +kernel
theorem dX12_isGiven_9 : decode cX12_isGiven 9 = .ok (.invokestatic 313, 3) := by decide +kernel
theorem dX12_isGiven_12 : decode cX12_isGiven 12 = .ok (.iconst (-1), 1) := by decide +kernel
theorem dX12_isGiven_13 : decode cX12_isGiven 13 = .ok (.if_icmp .ne 51, 3) := by decide +kernel
theorem dX12_isGiven_16 : decode cX12_isGiven 16 = .ok (.aload_n 0, 1) := by decide +kernel
theorem dX12_isGiven_17 : decode cX12_isGiven 17 = .ok (.getfield 23, 3) := by decide +kernel
theorem dX12_isGiven_20 : decode cX12_isGiven 20 = .ok (.aload_n 0, 1) := by decide +kernel
theorem dX12_isGiven_21 : decode cX12_isGiven 21 = .ok (.getfield 162, 3) := by decide +kernel
theorem dX12_isGiven_24 : decode cX12_isGiven 24 = .ok (.lload_n 1, 1) := by decide +kernel
theorem dX12_isGiven_25 : decode cX12_isGiven 25 = .ok (.invokestatic 313, 3) := by decide +kernel
theorem dX12_isGiven_28 : decode cX12_isGiven 28 = .ok (.iconst (-1), 1) := by decide +kernel
theorem dX12_isGiven_29 : decode cX12_isGiven 29 = .ok (.if_icmp .ne 35, 3) := by decide +kernel
theorem dX12_isGiven_32 : decode cX12_isGiven 32 = .ok (.aload_n 0, 1) := by decide +kernel
theorem dX12_isGiven_33 : decode cX12_isGiven 33 = .ok (.getfield 29, 3) := by decide +kernel
theorem dX12_isGiven_36 : decode cX12_isGiven 36 = .ok (.aload_n 0, 1) := by decide +kernel
theorem dX12_isGiven_37 : decode cX12_isGiven 37 = .ok (.getfield 165, 3) := by decide +kernel
theorem dX12_isGiven_40 : decode cX12_isGiven 40 = .ok (.lload_n 1, 1) := by decide +kernel
theorem dX12_isGiven_41 : decode cX12_isGiven 41 = .ok (.invokestatic 313, 3) := by decide +kernel
theorem dX12_isGiven_44 : decode cX12_isGiven 44 = .ok (.iconst (-1), 1) := by decide +kernel
theorem dX12_isGiven_45 : decode cX12_isGiven 45 = .ok (.if_icmp .ne 19, 3) := by decide +kernel
theorem dX12_isGiven_48 : decode cX12_isGiven 48 = .ok (.aload_n 0, 1) := by decide +kernel
theorem dX12_isGiven_49 : decode cX12_isGiven 49 = .ok (.getfield 47, 3) := by decide +kernel
theorem dX12_isGiven_52 : decode cX12_isGiven 52 = .ok (.aload_n 0, 1) := by decide +kernel
theorem dX12_isGiven_53 : decode cX12_isGiven 53 = .ok (.getfield 171, 3) := by decide +kernel
theorem dX12_isGiven_56 : decode cX12_isGiven 56 = .ok (.lload_n 1, 1) := by decide +kernel
theorem dX12_isGiven_57 : decode cX12_isGiven 57 = .ok (.invokestatic 313, 3) := by decide +kernel
theorem dX12_isGiven_60 : decode cX12_isGiven 60 = .ok (.iconst (-1), 1) := by decide +kernel
theorem dX12_isGiven_61 : decode cX12_isGiven 61 = .ok (.if_icmp .eq 7, 3) := by decide +kernel
theorem dX12_isGiven_64 : decode cX12_isGiven 64 = .ok (.iconst 1, 1) := by decide +kernel
theorem dX12_isGiven_65 : decode cX12_isGiven 65 = .ok (.goto 4, 3) := by decide +kernel
theorem dX12_isGiven_68 : decode cX12_isGiven 68 = .ok (.iconst 0, 1) := by decide +kernel
theorem dX12_isGiven_69 : decode cX12_isGiven 69 = .ok (.ireturn, 1) := by decide +kernel
theorem dX12_mayAdd_0 : decode cX12_mayAdd 0 = .ok (.iload_n 1, 1) := by decide +kernel
theorem dX12_mayAdd_1 : decode cX12_mayAdd 1 = .ok (.ifCond .ne 12, 3) := by decide +kernel
theorem dX12_mayAdd_4 : decode cX12_mayAdd 4 = .ok (.aload_n 0, 1) := by decide +kernel
theorem dX12_mayAdd_5 : decode cX12_mayAdd 5 = .ok (.iconst 4, 1) := by decide +kernel
theorem dX12_mayAdd_6 : decode cX12_mayAdd 6 = .ok (.iload_n 2, 1) := by decide +kernel
theorem dX12_mayAdd_7 : decode cX12_mayAdd 7 = .ok (.invokevirtual 264, 3) := by decide +kernel
theorem dX12_mayAdd_10 : decode cX12_mayAdd 10 = .ok (.ifCond .eq 7, 3) := by decide +kernel
theorem dX12_mayAdd_13 : decode cX12_mayAdd 13 = .ok (.iconst 1, 1) := by decide +kernel
theorem dX12_mayAdd_14 : decode cX12_mayAdd 14 = .ok (.goto 4, 3) := by decide +kernel
theorem dX12_mayAdd_17 : decode cX12_mayAdd 17 = .ok (.iconst 0, 1) := by decide +kernel
theorem dX12_mayAdd_18 : decode cX12_mayAdd 18 = .ok (.ireturn, 1) := by decide +kernel
theorem dX12_readSlot_0 : decode cX12_readSlot 0 = .ok (.aload_n 0, 1) := by decide +kernel
theorem dX12_readSlot_1 : decode cX12_readSlot 1 = .ok (.aload_n 0, 1) := by decide +kernel
theorem dX12_readSlot_2 : decode cX12_readSlot 2 = .ok (.getfield 330, 3) := by decide +kernel
theorem dX12_readSlot_5 : decode cX12_readSlot 5 = .ok (.ifCond .ne 7, 3) := by decide +kernel
theorem dX12_readSlot_8 : decode cX12_readSlot 8 = .ok (.iconst 1, 1) := by decide +kernel
theorem dX12_readSlot_9 : decode cX12_readSlot 9 = .ok (.goto 4, 3) := by decide +kernel
theorem dX12_readSlot_12 : decode cX12_readSlot 12 = .ok (.iconst 0, 1) := by decide +kernel
theorem dX12_readSlot_13 : decode cX12_readSlot 13 = .ok (.iload_n 1, 1) := by decide +kernel
theorem dX12_readSlot_14 : decode cX12_readSlot 14 = .ok (.invokevirtual 334, 3) := by decide +kernel
theorem dX12_readSlot_17 : decode cX12_readSlot 17 = .ok (.ifCond .eq 14, 3) := by decide +kernel
theorem dX12_readSlot_20 : decode cX12_readSlot 20 = .ok (.aload_n 0, 1) := by decide +kernel
theorem dX12_readSlot_21 : decode cX12_readSlot 21 = .ok (.bipush 10, 2) := by decide +kernel
theorem dX12_readSlot_23 : decode cX12_readSlot 23 = .ok (.bipush 60, 2) := by decide +kernel
theorem dX12_readSlot_25 : decode cX12_readSlot 25 = .ok (.invokevirtual 338, 3) := by decide +kernel
theorem dX12_readSlot_28 : decode cX12_readSlot 28 = .ok (.ifCond .ne 5, 3) := by decide +kernel
theorem dX12_readSlot_31 : decode cX12_readSlot 31 = .ok (.iconst 0, 1) := by decide +kernel
theorem dX12_readSlot_32 : decode cX12_readSlot 32 = .ok (.ireturn, 1) := by decide +kernel
theorem dX12_readSlot_33 : decode cX12_readSlot 33 = .ok (.aload_n 0, 1) := by decide +kernel
theorem dX12_readSlot_34 : decode cX12_readSlot 34 = .ok (.iconst 1, 1) := by decide +kernel
theorem dX12_readSlot_35 : decode cX12_readSlot 35 = .ok (.putfield 330, 3) := by decide +kernel
theorem dX12_readSlot_38 : decode cX12_readSlot 38 = .ok (.aload_n 0, 1) := by decide +kernel
theorem dX12_readSlot_39 : decode cX12_readSlot 39 = .ok (.aload_n 0, 1) := by decide +kernel
theorem dX12_readSlot_40 : decode cX12_readSlot 40 = .ok (.getfield 268, 3) := by decide +kernel
theorem dX12_readSlot_43 : decode cX12_readSlot 43 = .ok (.putfield 153, 3) := by decide +kernel
theorem dX12_readSlot_46 : decode cX12_readSlot 46 = .ok (.iconst 1, 1) := by decide +kernel
theorem dX12_readSlot_47 : decode cX12_readSlot 47 = .ok (.ireturn, 1) := by decide +kernel
theorem dX12_errorCode_0 : decode cX12_errorCode 0 = .ok (.aload_n 0, 1) := by decide +kernel
theorem dX12_errorCode_1 : decode cX12_errorCode 1 = .ok (.iconst 0, 1) := by decide +kernel
theorem dX12_errorCode_2 : decode cX12_errorCode 2 = .ok (.putfield 150, 3) := by decide +kernel
theorem dX12_errorCode_5 : decode cX12_errorCode 5 = .ok (.aload_n 0, 1) := by decide +kernel
theorem dX12_errorCode_6 : decode cX12_errorCode 6 = .ok (.getfield 407, 3) := by decide +kernel
theorem dX12_errorCode_9 : decode cX12_errorCode 9 = .ok (.ireturn, 1) := by decide +kernel
theorem dX12_errorOffset_0 : decode cX12_errorOffset 0 = .ok (.aload_n 0, 1) := by decide +kernel
theorem dX12_errorOffset_1 : decode cX12_errorOffset 1 = .ok (.iconst 0, 1) := by decide +kernel
theorem dX12_errorOffset_2 : decode cX12_errorOffset 2 = .ok (.putfield 150, 3) := by decide +kernel
theorem dX12_errorOffset_5 : decode cX12_errorOffset 5 = .ok (.aload_n 0, 1) := by decide +kernel
theorem dX12_errorOffset_6 : decode cX12_errorOffset 6 = .ok (.getfield 83, 3) := by decide +kernel
theorem dX12_errorOffset_9 : decode cX12_errorOffset 9 = .ok (.ireturn, 1) := by decide +kernel
theorem dX12_settle_0 : decode cX12_settle 0 = .ok (.iconst 0, 1) := by decide +kernel
theorem dX12_settle_1 : decode cX12_settle 1 = .ok (.istore_n 1, 1) := by decide +kernel
theorem dX12_settle_2 : decode cX12_settle 2 = .ok (.iload_n 1, 1) := by decide +kernel
theorem dX12_settle_3 : decode cX12_settle 3 = .ok (.sipush 144, 3) := by decide +kernel
theorem dX12_settle_6 : decode cX12_settle 6 = .ok (.if_icmp .ge 29, 3) := by decide +kernel
theorem dX12_settle_9 : decode cX12_settle 9 = .ok (.aload_n 0, 1) := by decide +kernel
theorem dX12_settle_10 : decode cX12_settle 10 = .ok (.getfield 87, 3) := by decide +kernel
theorem dX12_settle_13 : decode cX12_settle 13 = .ok (.iload_n 1, 1) := by decide +kernel
theorem dX12_settle_14 : decode cX12_settle 14 = .ok (.iload_n 1, 1) := by decide +kernel
theorem dX12_settle_15 : decode cX12_settle 15 = .ok (.bipush 13, 2) := by decide +kernel
theorem dX12_settle_17 : decode cX12_settle 17 = .ok (.irem, 1) := by decide +kernel
theorem dX12_settle_18 : decode cX12_settle 18 = .ok (.ifCond .ne 7, 3) := by decide +kernel
theorem dX12_settle_21 : decode cX12_settle 21 = .ok (.iconst 0, 1) := by decide +kernel
theorem dX12_settle_22 : decode cX12_settle 22 = .ok (.goto 6, 3) := by decide +kernel
theorem dX12_settle_25 : decode cX12_settle 25 = .ok (.ldc_w 410, 3) := by decide +kernel
theorem dX12_settle_28 : decode cX12_settle 28 = .ok (.iastore, 1) := by decide +kernel
theorem dX12_settle_29 : decode cX12_settle 29 = .ok (.iinc 1 1, 3) := by decide +kernel
theorem dX12_settle_32 : decode cX12_settle 32 = .ok (.goto (-30), 3) := by decide +kernel
theorem dX12_settle_35 : decode cX12_settle 35 = .ok (.iconst 0, 1) := by decide +kernel
theorem dX12_settle_36 : decode cX12_settle 36 = .ok (.istore_n 1, 1) := by decide +kernel
theorem dX12_settle_37 : decode cX12_settle 37 = .ok (.iload_n 1, 1) := by decide +kernel
theorem dX12_settle_38 : decode cX12_settle 38 = .ok (.aload_n 0, 1) := by decide +kernel
theorem dX12_settle_39 : decode cX12_settle 39 = .ok (.getfield 159, 3) := by decide +kernel
theorem dX12_settle_42 : decode cX12_settle 42 = .ok (.if_icmp .ge 76, 3) := by decide +kernel
theorem dX12_settle_45 : decode cX12_settle 45 = .ok (.bipush 12, 2) := by decide +kernel
theorem dX12_settle_47 : decode cX12_settle 47 = .ok (.aload_n 0, 1) := by decide +kernel
theorem dX12_settle_48 : decode cX12_settle 48 = .ok (.getfield 13, 3) := by decide +kernel
theorem dX12_settle_51 : decode cX12_settle 51 = .ok (.iload_n 1, 1) := by decide +kernel
theorem dX12_settle_52 : decode cX12_settle 52 = .ok (.iaload, 1) := by decide +kernel
theorem dX12_settle_53 : decode cX12_settle 53 = .ok (.imul, 1) := by decide +kernel
theorem dX12_settle_54 : decode cX12_settle 54 = .ok (.aload_n 0, 1) := by decide +kernel
theorem dX12_settle_55 : decode cX12_settle 55 = .ok (.getfield 17, 3) := by decide +kernel
theorem dX12_settle_58 : decode cX12_settle 58 = .ok (.iload_n 1, 1) := by decide +kernel
theorem dX12_settle_59 : decode cX12_settle 59 = .ok (.iaload, 1) := by decide +kernel
theorem dX12_settle_60 : decode cX12_settle 60 = .ok (.iadd, 1) := by decide +kernel
theorem dX12_settle_61 : decode cX12_settle 61 = .ok (.istore_n 2, 1) := by decide +kernel
theorem dX12_settle_62 : decode cX12_settle 62 = .ok (.bipush 12, 2) := by decide +kernel
theorem dX12_settle_64 : decode cX12_settle 64 = .ok (.aload_n 0, 1) := by decide +kernel
theorem dX12_settle_65 : decode cX12_settle 65 = .ok (.getfield 17, 3) := by decide +kernel
theorem dX12_settle_68 : decode cX12_settle 68 = .ok (.iload_n 1, 1) := by decide +kernel
theorem dX12_settle_69 : decode cX12_settle 69 = .ok (.iaload, 1) := by decide +kernel
theorem dX12_settle_70 : decode cX12_settle 70 = .ok (.imul, 1) := by decide +kernel
theorem dX12_settle_71 : decode cX12_settle 71 = .ok (.aload_n 0, 1) := by decide +kernel
theorem dX12_settle_72 : decode cX12_settle 72 = .ok (.getfield 13, 3) := by decide +kernel
theorem dX12_settle_75 : decode cX12_settle 75 = .ok (.iload_n 1, 1) := by decide +kernel
theorem dX12_settle_76 : decode cX12_settle 76 = .ok (.iaload, 1) := by decide +kernel
theorem dX12_settle_77 : decode cX12_settle 77 = .ok (.iadd, 1) := by decide +kernel
theorem dX12_settle_78 : decode cX12_settle 78 = .ok (.istore_n 3, 1) := by decide +kernel
theorem dX12_settle_79 : decode cX12_settle 79 = .ok (.aload_n 0, 1) := by decide +kernel
theorem dX12_settle_80 : decode cX12_settle 80 = .ok (.getfield 87, 3) := by decide +kernel
theorem dX12_settle_83 : decode cX12_settle 83 = .ok (.iload_n 2, 1) := by decide +kernel
theorem dX12_settle_84 : decode cX12_settle 84 = .ok (.aload_n 0, 1) := by decide +kernel
theorem dX12_settle_85 : decode cX12_settle 85 = .ok (.getfield 87, 3) := by decide +kernel
theorem dX12_settle_88 : decode cX12_settle 88 = .ok (.iload_n 2, 1) := by decide +kernel
theorem dX12_settle_89 : decode cX12_settle 89 = .ok (.iaload, 1) := by decide +kernel
theorem dX12_settle_90 : decode cX12_settle 90 = .ok (.aload_n 0, 1) := by decide +kernel
theorem dX12_settle_91 : decode cX12_settle 91 = .ok (.getfield 20, 3) := by decide +kernel
theorem dX12_settle_94 : decode cX12_settle 94 = .ok (.iload_n 1, 1) := by decide +kernel
theorem dX12_settle_95 : decode cX12_settle 95 = .ok (.iaload, 1) := by decide +kernel
theorem dX12_settle_96 : decode cX12_settle 96 = .ok (.invokestatic 411, 3) := by decide +kernel
theorem dX12_settle_99 : decode cX12_settle 99 = .ok (.iastore, 1) := by decide +kernel
theorem dX12_settle_100 : decode cX12_settle 100 = .ok (.aload_n 0, 1) := by decide +kernel
theorem dX12_settle_101 : decode cX12_settle 101 = .ok (.getfield 87, 3) := by decide +kernel
theorem dX12_settle_104 : decode cX12_settle 104 = .ok (.iload_n 3, 1) := by decide +kernel
theorem dX12_settle_105 : decode cX12_settle 105 = .ok (.aload_n 0, 1) := by decide +kernel
theorem dX12_settle_106 : decode cX12_settle 106 = .ok (.getfield 87, 3) := by decide +kernel
theorem dX12_settle_109 : decode cX12_settle 109 = .ok (.iload_n 2, 1) := by decide +kernel
theorem dX12_settle_110 : decode cX12_settle 110 = .ok (.iaload, 1) := by decide +kernel
theorem dX12_settle_111 : decode cX12_settle 111 = .ok (.iastore, 1) := by decide +kernel
theorem dX12_settle_112 : decode cX12_settle 112 = .ok (.iinc 1 1, 3) := by decide +kernel
theorem dX12_settle_115 : decode cX12_settle 115 = .ok (.goto (-78), 3) := by decide +kernel
theorem dX12_settle_118 : decode cX12_settle 118 = .ok (.iconst 0, 1) := by decide +kernel
theorem dX12_settle_119 : decode cX12_settle 119 = .ok (.istore_n 1, 1) := by decide +kernel
theorem dX12_settle_120 : decode cX12_settle 120 = .ok (.iload_n 1, 1) := by decide +kernel
theorem dX12_settle_121 : decode cX12_settle 121 = .ok (.aload_n 0, 1) := by decide +kernel
theorem dX12_settle_122 : decode cX12_settle 122 = .ok (.getfield 156, 3) := by decide +kernel
theorem dX12_settle_125 : decode cX12_settle 125 = .ok (.if_icmp .ge 89, 3) := by decide +kernel
theorem dX12_settle_128 : decode cX12_settle 128 = .ok (.iconst 0, 1) := by decide +kernel
theorem dX12_settle_129 : decode cX12_settle 129 = .ok (.istore_n 2, 1) := by decide +kernel
theorem dX12_settle_130 : decode cX12_settle 130 = .ok (.iload_n 2, 1) := by decide +kernel
theorem dX12_settle_131 : decode cX12_settle 131 = .ok (.aload_n 0, 1) := by decide +kernel
theorem dX12_settle_132 : decode cX12_settle 132 = .ok (.getfield 156, 3) := by decide +kernel
theorem dX12_settle_135 : decode cX12_settle 135 = .ok (.if_icmp .ge 73, 3) := by decide +kernel
theorem dX12_settle_138 : decode cX12_settle 138 = .ok (.iconst 0, 1) := by decide +kernel
theorem dX12_settle_139 : decode cX12_settle 139 = .ok (.istore_n 3, 1) := by decide +kernel
theorem dX12_settle_140 : decode cX12_settle 140 = .ok (.iload_n 3, 1) := by decide +kernel
theorem dX12_settle_141 : decode cX12_settle 141 = .ok (.aload_n 0, 1) := by decide +kernel
theorem dX12_settle_142 : decode cX12_settle 142 = .ok (.getfield 156, 3) := by decide +kernel
theorem dX12_settle_145 : decode cX12_settle 145 = .ok (.if_icmp .ge 57, 3) := by decide +kernel
theorem dX12_settle_148 : decode cX12_settle 148 = .ok (.aload_n 0, 1) := by decide +kernel
theorem dX12_settle_149 : decode cX12_settle 149 = .ok (.getfield 87, 3) := by decide +kernel
theorem dX12_settle_152 : decode cX12_settle 152 = .ok (.bipush 12, 2) := by decide +kernel
theorem dX12_settle_154 : decode cX12_settle 154 = .ok (.iload_n 2, 1) := by decide +kernel
theorem dX12_settle_155 : decode cX12_settle 155 = .ok (.imul, 1) := by decide +kernel
theorem dX12_settle_156 : decode cX12_settle 156 = .ok (.iload_n 3, 1) := by decide +kernel
theorem dX12_settle_157 : decode cX12_settle 157 = .ok (.iadd, 1) := by decide +kernel
theorem dX12_settle_158 : decode cX12_settle 158 = .ok (.aload_n 0, 1) := by decide +kernel
theorem dX12_settle_159 : decode cX12_settle 159 = .ok (.getfield 87, 3) := by decide +kernel
theorem dX12_settle_162 : decode cX12_settle 162 = .ok (.bipush 12, 2) := by decide +kernel
theorem dX12_settle_164 : decode cX12_settle 164 = .ok (.iload_n 2, 1) := by decide +kernel
theorem dX12_settle_165 : decode cX12_settle 165 = .ok (.imul, 1) := by decide +kernel
theorem dX12_settle_166 : decode cX12_settle 166 = .ok (.iload_n 3, 1) := by decide +kernel
theorem dX12_settle_167 : decode cX12_settle 167 = .ok (.iadd, 1) := by decide +kernel
theorem dX12_settle_168 : decode cX12_settle 168 = .ok (.iaload, 1) := by decide +kernel
theorem dX12_settle_169 : decode cX12_settle 169 = .ok (.aload_n 0, 1) := by decide +kernel
theorem dX12_settle_170 : decode cX12_settle 170 = .ok (.getfield 87, 3) := by decide +kernel
theorem dX12_settle_173 : decode cX12_settle 173 = .ok (.bipush 12, 2) := by decide +kernel
theorem dX12_settle_175 : decode cX12_settle 175 = .ok (.iload_n 2, 1) := by decide +kernel
theorem dX12_settle_176 : decode cX12_settle 176 = .ok (.imul, 1) := by decide +kernel
theorem dX12_settle_177 : decode cX12_settle 177 = .ok (.iload_n 1, 1) := by decide +kernel
theorem dX12_settle_178 : decode cX12_settle 178 = .ok (.iadd, 1) := by decide +kernel
theorem dX12_settle_179 : decode cX12_settle 179 = .ok (.iaload, 1) := by decide +kernel
theorem dX12_settle_180 : decode cX12_settle 180 = .ok (.aload_n 0, 1) := by decide +kernel
theorem dX12_settle_181 : decode cX12_settle 181 = .ok (.getfield 87, 3) := by decide +kernel
theorem dX12_settle_184 : decode cX12_settle 184 = .ok (.bipush 12, 2) := by decide +kernel
theorem dX12_settle_186 : decode cX12_settle 186 = .ok (.iload_n 1, 1) := by decide +kernel
theorem dX12_settle_187 : decode cX12_settle 187 = .ok (.imul, 1) := by decide +kernel
theorem dX12_settle_188 : decode cX12_settle 188 = .ok (.iload_n 3, 1) := by decide +kernel
theorem dX12_settle_189 : decode cX12_settle 189 = .ok (.iadd, 1) := by decide +kernel
theorem dX12_settle_190 : decode cX12_settle 190 = .ok (.iaload, 1) := by decide +kernel
theorem dX12_settle_191 : decode cX12_settle 191 = .ok (.iadd, 1) := by decide +kernel
theorem dX12_settle_192 : decode cX12_settle 192 = .ok (.invokestatic 411, 3) := by decide +kernel
theorem dX12_settle_195 : decode cX12_settle 195 = .ok (.iastore, 1) := by decide +kernel
theorem dX12_settle_196 : decode cX12_settle 196 = .ok (.iinc 3 1, 3) := by decide +kernel
theorem dX12_settle_199 : decode cX12_settle 199 = .ok (.goto (-59), 3) := by decide +kernel
theorem dX12_settle_202 : decode cX12_settle 202 = .ok (.iinc 2 1, 3) := by decide +kernel
theorem dX12_settle_205 : decode cX12_settle 205 = .ok (.goto (-75), 3) := by decide +kernel
theorem dX12_settle_208 : decode cX12_settle 208 = .ok (.iinc 1 1, 3) := by decide +kernel
theorem dX12_settle_211 : decode cX12_settle 211 = .ok (.goto (-91), 3) := by decide +kernel
theorem dX12_settle_214 : decode cX12_settle 214 = .ok (.aload_n 0, 1) := by decide +kernel
theorem dX12_settle_215 : decode cX12_settle 215 = .ok (.iconst 1, 1) := by decide +kernel
theorem dX12_settle_216 : decode cX12_settle 216 = .ok (.aload_n 0, 1) := by decide +kernel
theorem dX12_settle_217 : decode cX12_settle 217 = .ok (.getfield 165, 3) := by decide +kernel
theorem dX12_settle_220 : decode cX12_settle 220 = .ok (.ishl, 1) := by decide +kernel
theorem dX12_settle_221 : decode cX12_settle 221 = .ok (.iconst 1, 1) := by decide +kernel
theorem dX12_settle_222 : decode cX12_settle 222 = .ok (.isub, 1) := by decide +kernel
theorem dX12_settle_223 : decode cX12_settle 223 = .ok (.putfield 417, 3) := by decide +kernel
theorem dX12_settle_226 : decode cX12_settle 226 = .ok (.iconst 0, 1) := by decide +kernel
theorem dX12_settle_227 : decode cX12_settle 227 = .ok (.istore_n 1, 1) := by decide +kernel
theorem dX12_settle_228 : decode cX12_settle 228 = .ok (.iload_n 1, 1) := by decide +kernel
theorem dX12_settle_229 : decode cX12_settle 229 = .ok (.sipush 1024, 3) := by decide +kernel
theorem dX12_settle_232 : decode cX12_settle 232 = .ok (.if_icmp .ge 16, 3) := by decide +kernel
theorem dX12_settle_235 : decode cX12_settle 235 = .ok (.aload_n 0, 1) := by decide +kernel
theorem dX12_settle_236 : decode cX12_settle 236 = .ok (.getfield 90, 3) := by decide +kernel
theorem dX12_settle_239 : decode cX12_settle 239 = .ok (.iload_n 1, 1) := by decide +kernel
theorem dX12_settle_240 : decode cX12_settle 240 = .ok (.iconst (-1), 1) := by decide +kernel
theorem dX12_settle_241 : decode cX12_settle 241 = .ok (.iastore, 1) := by decide +kernel
theorem dX12_settle_242 : decode cX12_settle 242 = .ok (.iinc 1 1, 3) := by decide +kernel
theorem dX12_settle_245 : decode cX12_settle 245 = .ok (.goto (-17), 3) := by decide +kernel
theorem dX12_settle_248 : decode cX12_settle 248 = .ok (.iconst 0, 1) := by decide +kernel
theorem dX12_settle_249 : decode cX12_settle 249 = .ok (.istore_n 1, 1) := by decide +kernel
theorem dX12_settle_250 : decode cX12_settle 250 = .ok (.iload_n 1, 1) := by decide +kernel
theorem dX12_settle_251 : decode cX12_settle 251 = .ok (.iconst 5, 1) := by decide +kernel
theorem dX12_settle_252 : decode cX12_settle 252 = .ok (.if_icmp .ge 16, 3) := by decide +kernel
theorem dX12_settle_255 : decode cX12_settle 255 = .ok (.aload_n 0, 1) := by decide +kernel
theorem dX12_settle_256 : decode cX12_settle 256 = .ok (.getfield 68, 3) := by decide +kernel
theorem dX12_settle_259 : decode cX12_settle 259 = .ok (.iload_n 1, 1) := by decide +kernel
theorem dX12_settle_260 : decode cX12_settle 260 = .ok (.iconst (-1), 1) := by decide +kernel
theorem dX12_settle_261 : decode cX12_settle 261 = .ok (.iastore, 1) := by decide +kernel
theorem dX12_settle_262 : decode cX12_settle 262 = .ok (.iinc 1 1, 3) := by decide +kernel
theorem dX12_settle_265 : decode cX12_settle 265 = .ok (.goto (-15), 3) := by decide +kernel
theorem dX12_settle_268 : decode cX12_settle 268 = .ok (.aload_n 0, 1) := by decide +kernel
theorem dX12_settle_269 : decode cX12_settle 269 = .ok (.iconst 0, 1) := by decide +kernel
theorem dX12_settle_270 : decode cX12_settle 270 = .ok (.putfield 420, 3) := by decide +kernel
theorem dX12_settle_273 : decode cX12_settle 273 = .ok (.aload_n 0, 1) := by decide +kernel
theorem dX12_settle_274 : decode cX12_settle 274 = .ok (.iconst 0, 1) := by decide +kernel
theorem dX12_settle_275 : decode cX12_settle 275 = .ok (.putfield 423, 3) := by decide +kernel
theorem dX12_settle_278 : decode cX12_settle 278 = .ok (.aload_n 0, 1) := by decide +kernel
theorem dX12_settle_279 : decode cX12_settle 279 = .ok (.aload_n 0, 1) := by decide +kernel
theorem dX12_settle_280 : decode cX12_settle 280 = .ok (.getfield 174, 3) := by decide +kernel
theorem dX12_settle_283 : decode cX12_settle 283 = .ok (.putfield 426, 3) := by decide +kernel
theorem dX12_settle_286 : decode cX12_settle 286 = .ok (.aload_n 0, 1) := by decide +kernel
theorem dX12_settle_287 : decode cX12_settle 287 = .ok (.aload_n 0, 1) := by decide +kernel
theorem dX12_settle_288 : decode cX12_settle 288 = .ok (.getfield 180, 3) := by decide +kernel
theorem dX12_settle_291 : decode cX12_settle 291 = .ok (.putfield 429, 3) := by decide +kernel
theorem dX12_settle_294 : decode cX12_settle 294 = .ok (.return_, 1) := by decide +kernel
theorem dX12_between_0 : decode cX12_between 0 = .ok (.aload_n 0, 1) := by decide +kernel
theorem dX12_between_1 : decode cX12_between 1 = .ok (.getfield 87, 3) := by decide +kernel
theorem dX12_between_4 : decode cX12_between 4 = .ok (.bipush 12, 2) := by decide +kernel
theorem dX12_between_6 : decode cX12_between 6 = .ok (.iload_n 1, 1) := by decide +kernel
theorem dX12_between_7 : decode cX12_between 7 = .ok (.imul, 1) := by decide +kernel
theorem dX12_between_8 : decode cX12_between 8 = .ok (.iload_n 2, 1) := by decide +kernel
theorem dX12_between_9 : decode cX12_between 9 = .ok (.iadd, 1) := by decide +kernel
theorem dX12_between_10 : decode cX12_between 10 = .ok (.iaload, 1) := by decide +kernel
theorem dX12_between_11 : decode cX12_between 11 = .ok (.ireturn, 1) := by decide +kernel
theorem dX12_minutesTo_0 : decode cX12_minutesTo 0 = .ok (.aload_n 0, 1) := by decide +kernel
theorem dX12_minutesTo_1 : decode cX12_minutesTo 1 = .ok (.aload_n 0, 1) := by decide +kernel
theorem dX12_minutesTo_2 : decode cX12_minutesTo 2 = .ok (.getfield 26, 3) := by decide +kernel
theorem dX12_minutesTo_5 : decode cX12_minutesTo 5 = .ok (.aload_n 0, 1) := by decide +kernel
theorem dX12_minutesTo_6 : decode cX12_minutesTo 6 = .ok (.getfield 35, 3) := by decide +kernel
theorem dX12_minutesTo_9 : decode cX12_minutesTo 9 = .ok (.iload_n 1, 1) := by decide +kernel
theorem dX12_minutesTo_10 : decode cX12_minutesTo 10 = .ok (.iaload, 1) := by decide +kernel
theorem dX12_minutesTo_11 : decode cX12_minutesTo 11 = .ok (.iaload, 1) := by decide +kernel
theorem dX12_minutesTo_12 : decode cX12_minutesTo 12 = .ok (.aload_n 0, 1) := by decide +kernel
theorem dX12_minutesTo_13 : decode cX12_minutesTo 13 = .ok (.getfield 50, 3) := by decide +kernel
theorem dX12_minutesTo_16 : decode cX12_minutesTo 16 = .ok (.iload_n 2, 1) := by decide +kernel
theorem dX12_minutesTo_17 : decode cX12_minutesTo 17 = .ok (.iaload, 1) := by decide +kernel
theorem dX12_minutesTo_18 : decode cX12_minutesTo 18 = .ok (.invokevirtual 432, 3) := by decide +kernel
theorem dX12_minutesTo_21 : decode cX12_minutesTo 21 = .ok (.ireturn, 1) := by decide +kernel
theorem dX12_slotsTo_0 : decode cX12_slotsTo 0 = .ok (.aload_n 0, 1) := by decide +kernel
theorem dX12_slotsTo_1 : decode cX12_slotsTo 1 = .ok (.iload_n 1, 1) := by decide +kernel
theorem dX12_slotsTo_2 : decode cX12_slotsTo 2 = .ok (.iload_n 2, 1) := by decide +kernel
theorem dX12_slotsTo_3 : decode cX12_slotsTo 3 = .ok (.invokevirtual 435, 3) := by decide +kernel
theorem dX12_slotsTo_6 : decode cX12_slotsTo 6 = .ok (.istore_n 3, 1) := by decide +kernel
theorem dX12_slotsTo_7 : decode cX12_slotsTo 7 = .ok (.iload_n 3, 1) := by decide +kernel
theorem dX12_slotsTo_8 : decode cX12_slotsTo 8 = .ok (.ldc_w 410, 3) := by decide +kernel
theorem dX12_slotsTo_11 : decode cX12_slotsTo 11 = .ok (.if_icmp .lt 9, 3) := by decide +kernel
theorem dX12_slotsTo_14 : decode cX12_slotsTo 14 = .ok (.ldc_w 410, 3) := by decide +kernel
theorem dX12_slotsTo_17 : decode cX12_slotsTo 17 = .ok (.goto 16, 3) := by decide +kernel
theorem dX12_slotsTo_20 : decode cX12_slotsTo 20 = .ok (.iload_n 3, 1) := by decide +kernel
theorem dX12_slotsTo_21 : decode cX12_slotsTo 21 = .ok (.aload_n 0, 1) := by decide +kernel
theorem dX12_slotsTo_22 : decode cX12_slotsTo 22 = .ok (.getfield 153, 3) := by decide +kernel
theorem dX12_slotsTo_25 : decode cX12_slotsTo 25 = .ok (.iadd, 1) := by decide +kernel
theorem dX12_slotsTo_26 : decode cX12_slotsTo 26 = .ok (.iconst 1, 1) := by decide +kernel
theorem dX12_slotsTo_27 : decode cX12_slotsTo 27 = .ok (.isub, 1) := by decide +kernel
theorem dX12_slotsTo_28 : decode cX12_slotsTo 28 = .ok (.aload_n 0, 1) := by decide +kernel
theorem dX12_slotsTo_29 : decode cX12_slotsTo 29 = .ok (.getfield 153, 3) := by decide +kernel
theorem dX12_slotsTo_32 : decode cX12_slotsTo 32 = .ok (.idiv, 1) := by decide +kernel
theorem dX12_slotsTo_33 : decode cX12_slotsTo 33 = .ok (.ireturn, 1) := by decide +kernel
theorem dX12_nodes_0 : decode cX12_nodes 0 = .ok (.aload_n 0, 1) := by decide +kernel
theorem dX12_nodes_1 : decode cX12_nodes 1 = .ok (.iconst 0, 1) := by decide +kernel
theorem dX12_nodes_2 : decode cX12_nodes 2 = .ok (.putfield 150, 3) := by decide +kernel
theorem dX12_nodes_5 : decode cX12_nodes 5 = .ok (.aload_n 0, 1) := by decide +kernel
theorem dX12_nodes_6 : decode cX12_nodes 6 = .ok (.getfield 156, 3) := by decide +kernel
theorem dX12_nodes_9 : decode cX12_nodes 9 = .ok (.ireturn, 1) := by decide +kernel
theorem dX12_stations_0 : decode cX12_stations 0 = .ok (.aload_n 0, 1) := by decide +kernel
theorem dX12_stations_1 : decode cX12_stations 1 = .ok (.iconst 0, 1) := by decide +kernel
theorem dX12_stations_2 : decode cX12_stations 2 = .ok (.putfield 150, 3) := by decide +kernel
theorem dX12_stations_5 : decode cX12_stations 5 = .ok (.aload_n 0, 1) := by decide +kernel
theorem dX12_stations_6 : decode cX12_stations 6 = .ok (.getfield 162, 3) := by decide +kernel
theorem dX12_stations_9 : decode cX12_stations 9 = .ok (.ireturn, 1) := by decide +kernel
theorem dX12_engines_0 : decode cX12_engines 0 = .ok (.aload_n 0, 1) := by decide +kernel
theorem dX12_engines_1 : decode cX12_engines 1 = .ok (.iconst 0, 1) := by decide +kernel
theorem dX12_engines_2 : decode cX12_engines 2 = .ok (.putfield 150, 3) := by decide +kernel
theorem dX12_engines_5 : decode cX12_engines 5 = .ok (.aload_n 0, 1) := by decide +kernel
theorem dX12_engines_6 : decode cX12_engines 6 = .ok (.getfield 165, 3) := by decide +kernel
theorem dX12_engines_9 : decode cX12_engines 9 = .ok (.ireturn, 1) := by decide +kernel
theorem dX12_streets_0 : decode cX12_streets 0 = .ok (.aload_n 0, 1) := by decide +kernel
theorem dX12_streets_1 : decode cX12_streets 1 = .ok (.iconst 0, 1) := by decide +kernel
theorem dX12_streets_2 : decode cX12_streets 2 = .ok (.putfield 150, 3) := by decide +kernel
theorem dX12_streets_5 : decode cX12_streets 5 = .ok (.aload_n 0, 1) := by decide +kernel
theorem dX12_streets_6 : decode cX12_streets 6 = .ok (.getfield 168, 3) := by decide +kernel
theorem dX12_streets_9 : decode cX12_streets 9 = .ok (.ireturn, 1) := by decide +kernel
theorem dX12_drills_0 : decode cX12_drills 0 = .ok (.aload_n 0, 1) := by decide +kernel
theorem dX12_drills_1 : decode cX12_drills 1 = .ok (.iconst 0, 1) := by decide +kernel
theorem dX12_drills_2 : decode cX12_drills 2 = .ok (.putfield 150, 3) := by decide +kernel
theorem dX12_drills_5 : decode cX12_drills 5 = .ok (.aload_n 0, 1) := by decide +kernel
theorem dX12_drills_6 : decode cX12_drills 6 = .ok (.getfield 171, 3) := by decide +kernel
theorem dX12_drills_9 : decode cX12_drills 9 = .ok (.ireturn, 1) := by decide +kernel
theorem dX12_noNode_0 : decode cX12_noNode 0 = .ok (.aload_n 0, 1) := by decide +kernel
theorem dX12_noNode_1 : decode cX12_noNode 1 = .ok (.iload_n 1, 1) := by decide +kernel
theorem dX12_noNode_2 : decode cX12_noNode 2 = .ok (.iconst 0, 1) := by decide +kernel
theorem dX12_noNode_3 : decode cX12_noNode 3 = .ok (.aload_n 0, 1) := by decide +kernel
theorem dX12_noNode_4 : decode cX12_noNode 4 = .ok (.getfield 156, 3) := by decide +kernel
theorem dX12_noNode_7 : decode cX12_noNode 7 = .ok (.iconst 1, 1) := by decide +kernel
theorem dX12_noNode_8 : decode cX12_noNode 8 = .ok (.isub, 1) := by decide +kernel
theorem dX12_noNode_9 : decode cX12_noNode 9 = .ok (.invokestatic 210, 3) := by decide +kernel
theorem dX12_noNode_12 : decode cX12_noNode 12 = .ok (.ifCond .ne 7, 3) := by decide +kernel
theorem dX12_noNode_15 : decode cX12_noNode 15 = .ok (.iconst 1, 1) := by decide +kernel
theorem dX12_noNode_16 : decode cX12_noNode 16 = .ok (.goto 4, 3) := by decide +kernel
theorem dX12_noNode_19 : decode cX12_noNode 19 = .ok (.iconst 0, 1) := by decide +kernel
theorem dX12_noNode_20 : decode cX12_noNode 20 = .ok (.iconst 1, 1) := by decide +kernel
theorem dX12_noNode_21 : decode cX12_noNode 21 = .ok (.invokevirtual 438, 3) := by decide +kernel
theorem dX12_noNode_24 : decode cX12_noNode 24 = .ok (.ireturn, 1) := by decide +kernel
theorem dX12_noEngine_0 : decode cX12_noEngine 0 = .ok (.aload_n 0, 1) := by decide +kernel
theorem dX12_noEngine_1 : decode cX12_noEngine 1 = .ok (.iload_n 1, 1) := by decide +kernel
theorem dX12_noEngine_2 : decode cX12_noEngine 2 = .ok (.iconst 0, 1) := by decide +kernel
theorem dX12_noEngine_3 : decode cX12_noEngine 3 = .ok (.aload_n 0, 1) := by decide +kernel
theorem dX12_noEngine_4 : decode cX12_noEngine 4 = .ok (.getfield 165, 3) := by decide +kernel
theorem dX12_noEngine_7 : decode cX12_noEngine 7 = .ok (.iconst 1, 1) := by decide +kernel
theorem dX12_noEngine_8 : decode cX12_noEngine 8 = .ok (.isub, 1) := by decide +kernel
theorem dX12_noEngine_9 : decode cX12_noEngine 9 = .ok (.invokestatic 210, 3) := by decide +kernel
theorem dX12_noEngine_12 : decode cX12_noEngine 12 = .ok (.ifCond .ne 7, 3) := by decide +kernel
theorem dX12_noEngine_15 : decode cX12_noEngine 15 = .ok (.iconst 1, 1) := by decide +kernel
theorem dX12_noEngine_16 : decode cX12_noEngine 16 = .ok (.goto 4, 3) := by decide +kernel
theorem dX12_noEngine_19 : decode cX12_noEngine 19 = .ok (.iconst 0, 1) := by decide +kernel
theorem dX12_noEngine_20 : decode cX12_noEngine 20 = .ok (.iconst 1, 1) := by decide +kernel
theorem dX12_noEngine_21 : decode cX12_noEngine 21 = .ok (.invokevirtual 438, 3) := by decide +kernel
theorem dX12_noEngine_24 : decode cX12_noEngine 24 = .ok (.ireturn, 1) := by decide +kernel
theorem dX12_noStreet_0 : decode cX12_noStreet 0 = .ok (.aload_n 0, 1) := by decide +kernel
theorem dX12_noStreet_1 : decode cX12_noStreet 1 = .ok (.iload_n 1, 1) := by decide +kernel
theorem dX12_noStreet_2 : decode cX12_noStreet 2 = .ok (.iconst 0, 1) := by decide +kernel
theorem dX12_noStreet_3 : decode cX12_noStreet 3 = .ok (.aload_n 0, 1) := by decide +kernel
theorem dX12_noStreet_4 : decode cX12_noStreet 4 = .ok (.getfield 168, 3) := by decide +kernel
theorem dX12_noStreet_7 : decode cX12_noStreet 7 = .ok (.iconst 1, 1) := by decide +kernel
theorem dX12_noStreet_8 : decode cX12_noStreet 8 = .ok (.isub, 1) := by decide +kernel
theorem dX12_noStreet_9 : decode cX12_noStreet 9 = .ok (.invokestatic 210, 3) := by decide +kernel
theorem dX12_noStreet_12 : decode cX12_noStreet 12 = .ok (.ifCond .ne 7, 3) := by decide +kernel
theorem dX12_noStreet_15 : decode cX12_noStreet 15 = .ok (.iconst 1, 1) := by decide +kernel
theorem dX12_noStreet_16 : decode cX12_noStreet 16 = .ok (.goto 4, 3) := by decide +kernel
theorem dX12_noStreet_19 : decode cX12_noStreet 19 = .ok (.iconst 0, 1) := by decide +kernel
theorem dX12_noStreet_20 : decode cX12_noStreet 20 = .ok (.iconst 1, 1) := by decide +kernel
theorem dX12_noStreet_21 : decode cX12_noStreet 21 = .ok (.invokevirtual 438, 3) := by decide +kernel
theorem dX12_noStreet_24 : decode cX12_noStreet 24 = .ok (.ireturn, 1) := by decide +kernel
theorem dX12_noDrill_0 : decode cX12_noDrill 0 = .ok (.aload_n 0, 1) := by decide +kernel
theorem dX12_noDrill_1 : decode cX12_noDrill 1 = .ok (.iload_n 1, 1) := by decide +kernel
theorem dX12_noDrill_2 : decode cX12_noDrill 2 = .ok (.iconst 0, 1) := by decide +kernel
theorem dX12_noDrill_3 : decode cX12_noDrill 3 = .ok (.aload_n 0, 1) := by decide +kernel
theorem dX12_noDrill_4 : decode cX12_noDrill 4 = .ok (.getfield 171, 3) := by decide +kernel
theorem dX12_noDrill_7 : decode cX12_noDrill 7 = .ok (.iconst 1, 1) := by decide +kernel
theorem dX12_noDrill_8 : decode cX12_noDrill 8 = .ok (.isub, 1) := by decide +kernel
theorem dX12_noDrill_9 : decode cX12_noDrill 9 = .ok (.invokestatic 210, 3) := by decide +kernel
theorem dX12_noDrill_12 : decode cX12_noDrill 12 = .ok (.ifCond .ne 7, 3) := by decide +kernel
theorem dX12_noDrill_15 : decode cX12_noDrill 15 = .ok (.iconst 1, 1) := by decide +kernel
theorem dX12_noDrill_16 : decode cX12_noDrill 16 = .ok (.goto 4, 3) := by decide +kernel
theorem dX12_noDrill_19 : decode cX12_noDrill 19 = .ok (.iconst 0, 1) := by decide +kernel
theorem dX12_noDrill_20 : decode cX12_noDrill 20 = .ok (.iconst 1, 1) := by decide +kernel
theorem dX12_noDrill_21 : decode cX12_noDrill 21 = .ok (.invokevirtual 438, 3) := by decide +kernel
theorem dX12_noDrill_24 : decode cX12_noDrill 24 = .ok (.ireturn, 1) := by decide +kernel
theorem dX12_noSlot_0 : decode cX12_noSlot 0 = .ok (.aload_n 0, 1) := by decide +kernel
theorem dX12_noSlot_1 : decode cX12_noSlot 1 = .ok (.iload_n 1, 1) := by decide +kernel
theorem dX12_noSlot_2 : decode cX12_noSlot 2 = .ok (.iconst 0, 1) := by decide +kernel
theorem dX12_noSlot_3 : decode cX12_noSlot 3 = .ok (.bipush 47, 2) := by decide +kernel
theorem dX12_noSlot_5 : decode cX12_noSlot 5 = .ok (.invokestatic 210, 3) := by decide +kernel
theorem dX12_noSlot_8 : decode cX12_noSlot 8 = .ok (.ifCond .ne 7, 3) := by decide +kernel
theorem dX12_noSlot_11 : decode cX12_noSlot 11 = .ok (.iconst 1, 1) := by decide +kernel
theorem dX12_noSlot_12 : decode cX12_noSlot 12 = .ok (.goto 4, 3) := by decide +kernel
theorem dX12_noSlot_15 : decode cX12_noSlot 15 = .ok (.iconst 0, 1) := by decide +kernel
theorem dX12_noSlot_16 : decode cX12_noSlot 16 = .ok (.iconst 1, 1) := by decide +kernel
theorem dX12_noSlot_17 : decode cX12_noSlot 17 = .ok (.invokevirtual 438, 3) := by decide +kernel
theorem dX12_noSlot_20 : decode cX12_noSlot 20 = .ok (.ireturn, 1) := by decide +kernel
theorem dX12_noSet_0 : decode cX12_noSet 0 = .ok (.aload_n 0, 1) := by decide +kernel
theorem dX12_noSet_1 : decode cX12_noSet 1 = .ok (.iload_n 1, 1) := by decide +kernel
theorem dX12_noSet_2 : decode cX12_noSet 2 = .ok (.aload_n 0, 1) := by decide +kernel
theorem dX12_noSet_3 : decode cX12_noSet 3 = .ok (.getfield 417, 3) := by decide +kernel
theorem dX12_noSet_6 : decode cX12_noSet 6 = .ok (.iconst (-1), 1) := by decide +kernel
theorem dX12_noSet_7 : decode cX12_noSet 7 = .ok (.ixor, 1) := by decide +kernel
theorem dX12_noSet_8 : decode cX12_noSet 8 = .ok (.iand, 1) := by decide +kernel
theorem dX12_noSet_9 : decode cX12_noSet 9 = .ok (.ifCond .eq 7, 3) := by decide +kernel
theorem dX12_noSet_12 : decode cX12_noSet 12 = .ok (.iconst 1, 1) := by decide +kernel
theorem dX12_noSet_13 : decode cX12_noSet 13 = .ok (.goto 4, 3) := by decide +kernel
theorem dX12_noSet_16 : decode cX12_noSet 16 = .ok (.iconst 0, 1) := by decide +kernel
theorem dX12_noSet_17 : decode cX12_noSet 17 = .ok (.iload_n 2, 1) := by decide +kernel
theorem dX12_noSet_18 : decode cX12_noSet 18 = .ok (.invokevirtual 438, 3) := by decide +kernel
theorem dX12_noSet_21 : decode cX12_noSet 21 = .ok (.ireturn, 1) := by decide +kernel
theorem dX12_travelMinutes_0 : decode cX12_travelMinutes 0 = .ok (.aload_n 0, 1) := by decide +kernel
theorem dX12_travelMinutes_1 : decode cX12_travelMinutes 1 = .ok (.iconst 0, 1) := by decide +kernel
theorem dX12_travelMinutes_2 : decode cX12_travelMinutes 2 = .ok (.putfield 150, 3) := by decide +kernel
theorem dX12_travelMinutes_5 : decode cX12_travelMinutes 5 = .ok (.aload_n 0, 1) := by decide +kernel
theorem dX12_travelMinutes_6 : decode cX12_travelMinutes 6 = .ok (.iload_n 1, 1) := by decide +kernel
theorem dX12_travelMinutes_7 : decode cX12_travelMinutes 7 = .ok (.invokevirtual 441, 3) := by decide +kernel
theorem dX12_travelMinutes_10 : decode cX12_travelMinutes 10 = .ok (.ifCond .ne 11, 3) := by decide +kernel
theorem dX12_travelMinutes_13 : decode cX12_travelMinutes 13 = .ok (.aload_n 0, 1) := by decide +kernel
theorem dX12_travelMinutes_14 : decode cX12_travelMinutes 14 = .ok (.iload_n 2, 1) := by decide +kernel
theorem dX12_travelMinutes_15 : decode cX12_travelMinutes 15 = .ok (.invokevirtual 441, 3) := by decide +kernel
theorem dX12_travelMinutes_18 : decode cX12_travelMinutes 18 = .ok (.ifCond .eq 5, 3) := by decide +kernel
theorem dX12_travelMinutes_21 : decode cX12_travelMinutes 21 = .ok (.iconst 0, 1) := by decide +kernel
theorem dX12_travelMinutes_22 : decode cX12_travelMinutes 22 = .ok (.ireturn, 1) := by decide +kernel
theorem dX12_travelMinutes_23 : decode cX12_travelMinutes 23 = .ok (.aload_n 0, 1) := by decide +kernel
theorem dX12_travelMinutes_24 : decode cX12_travelMinutes 24 = .ok (.iload_n 1, 1) := by decide +kernel
theorem dX12_travelMinutes_25 : decode cX12_travelMinutes 25 = .ok (.iload_n 2, 1) := by decide +kernel
theorem dX12_travelMinutes_26 : decode cX12_travelMinutes 26 = .ok (.invokevirtual 432, 3) := by decide +kernel
theorem dX12_travelMinutes_29 : decode cX12_travelMinutes 29 = .ok (.ldc_w 410, 3) := by decide +kernel
theorem dX12_travelMinutes_32 : decode cX12_travelMinutes 32 = .ok (.if_icmp .lt 7, 3) := by decide +kernel
theorem dX12_travelMinutes_35 : decode cX12_travelMinutes 35 = .ok (.iconst (-1), 1) := by decide +kernel
theorem dX12_travelMinutes_36 : decode cX12_travelMinutes 36 = .ok (.goto 9, 3) := by decide +kernel
theorem dX12_travelMinutes_39 : decode cX12_travelMinutes 39 = .ok (.aload_n 0, 1) := by decide +kernel
theorem dX12_travelMinutes_40 : decode cX12_travelMinutes 40 = .ok (.iload_n 1, 1) := by decide +kernel
theorem dX12_travelMinutes_41 : decode cX12_travelMinutes 41 = .ok (.iload_n 2, 1) := by decide +kernel
theorem dX12_travelMinutes_42 : decode cX12_travelMinutes 42 = .ok (.invokevirtual 432, 3) := by decide +kernel
theorem dX12_travelMinutes_45 : decode cX12_travelMinutes 45 = .ok (.ireturn, 1) := by decide +kernel
theorem dX12_travelSlots_0 : decode cX12_travelSlots 0 = .ok (.aload_n 0, 1) := by decide +kernel
theorem dX12_travelSlots_1 : decode cX12_travelSlots 1 = .ok (.iconst 0, 1) := by decide +kernel
theorem dX12_travelSlots_2 : decode cX12_travelSlots 2 = .ok (.putfield 150, 3) := by decide +kernel
theorem dX12_travelSlots_5 : decode cX12_travelSlots 5 = .ok (.aload_n 0, 1) := by decide +kernel
theorem dX12_travelSlots_6 : decode cX12_travelSlots 6 = .ok (.iload_n 1, 1) := by decide +kernel
theorem dX12_travelSlots_7 : decode cX12_travelSlots 7 = .ok (.invokevirtual 444, 3) := by decide +kernel
theorem dX12_travelSlots_10 : decode cX12_travelSlots 10 = .ok (.ifCond .ne 11, 3) := by decide +kernel
theorem dX12_travelSlots_13 : decode cX12_travelSlots 13 = .ok (.aload_n 0, 1) := by decide +kernel
theorem dX12_travelSlots_14 : decode cX12_travelSlots 14 = .ok (.iload_n 2, 1) := by decide +kernel
theorem dX12_travelSlots_15 : decode cX12_travelSlots 15 = .ok (.invokevirtual 447, 3) := by decide +kernel
theorem dX12_travelSlots_18 : decode cX12_travelSlots 18 = .ok (.ifCond .eq 5, 3) := by decide +kernel
theorem dX12_travelSlots_21 : decode cX12_travelSlots 21 = .ok (.iconst 0, 1) := by decide +kernel
theorem dX12_travelSlots_22 : decode cX12_travelSlots 22 = .ok (.ireturn, 1) := by decide +kernel
theorem dX12_travelSlots_23 : decode cX12_travelSlots 23 = .ok (.aload_n 0, 1) := by decide +kernel
theorem dX12_travelSlots_24 : decode cX12_travelSlots 24 = .ok (.iload_n 1, 1) := by decide +kernel
theorem dX12_travelSlots_25 : decode cX12_travelSlots 25 = .ok (.iload_n 2, 1) := by decide +kernel
theorem dX12_travelSlots_26 : decode cX12_travelSlots 26 = .ok (.invokevirtual 450, 3) := by decide +kernel
theorem dX12_travelSlots_29 : decode cX12_travelSlots 29 = .ok (.ldc_w 410, 3) := by decide +kernel
theorem dX12_travelSlots_32 : decode cX12_travelSlots 32 = .ok (.if_icmp .lt 7, 3) := by decide +kernel
theorem dX12_travelSlots_35 : decode cX12_travelSlots 35 = .ok (.iconst (-1), 1) := by decide +kernel
theorem dX12_travelSlots_36 : decode cX12_travelSlots 36 = .ok (.goto 9, 3) := by decide +kernel
theorem dX12_travelSlots_39 : decode cX12_travelSlots 39 = .ok (.aload_n 0, 1) := by decide +kernel
theorem dX12_travelSlots_40 : decode cX12_travelSlots 40 = .ok (.iload_n 1, 1) := by decide +kernel
theorem dX12_travelSlots_41 : decode cX12_travelSlots 41 = .ok (.iload_n 2, 1) := by decide +kernel
theorem dX12_travelSlots_42 : decode cX12_travelSlots 42 = .ok (.invokevirtual 450, 3) := by decide +kernel
theorem dX12_travelSlots_45 : decode cX12_travelSlots 45 = .ok (.ireturn, 1) := by decide +kernel
theorem dX12_homeStation_0 : decode cX12_homeStation 0 = .ok (.aload_n 0, 1) := by decide +kernel
theorem dX12_homeStation_1 : decode cX12_homeStation 1 = .ok (.iconst 0, 1) := by decide +kernel
theorem dX12_homeStation_2 : decode cX12_homeStation 2 = .ok (.putfield 150, 3) := by decide +kernel
theorem dX12_homeStation_5 : decode cX12_homeStation 5 = .ok (.aload_n 0, 1) := by decide +kernel
theorem dX12_homeStation_6 : decode cX12_homeStation 6 = .ok (.iload_n 1, 1) := by decide +kernel
theorem dX12_homeStation_7 : decode cX12_homeStation 7 = .ok (.invokevirtual 444, 3) := by decide +kernel
theorem dX12_homeStation_10 : decode cX12_homeStation 10 = .ok (.ifCond .eq 7, 3) := by decide +kernel
theorem dX12_homeStation_13 : decode cX12_homeStation 13 = .ok (.iconst 0, 1) := by decide +kernel
theorem dX12_homeStation_14 : decode cX12_homeStation 14 = .ok (.goto 9, 3) := by decide +kernel
theorem dX12_homeStation_17 : decode cX12_homeStation 17 = .ok (.aload_n 0, 1) := by decide +kernel
theorem dX12_homeStation_18 : decode cX12_homeStation 18 = .ok (.getfield 35, 3) := by decide +kernel
theorem dX12_homeStation_21 : decode cX12_homeStation 21 = .ok (.iload_n 1, 1) := by decide +kernel
theorem dX12_homeStation_22 : decode cX12_homeStation 22 = .ok (.iaload, 1) := by decide +kernel
theorem dX12_homeStation_23 : decode cX12_homeStation 23 = .ok (.ireturn, 1) := by decide +kernel
theorem dX12_engineKind_0 : decode cX12_engineKind 0 = .ok (.aload_n 0, 1) := by decide +kernel
theorem dX12_engineKind_1 : decode cX12_engineKind 1 = .ok (.iconst 0, 1) := by decide +kernel
theorem dX12_engineKind_2 : decode cX12_engineKind 2 = .ok (.putfield 150, 3) := by decide +kernel
theorem dX12_engineKind_5 : decode cX12_engineKind 5 = .ok (.aload_n 0, 1) := by decide +kernel
theorem dX12_engineKind_6 : decode cX12_engineKind 6 = .ok (.iload_n 1, 1) := by decide +kernel
theorem dX12_engineKind_7 : decode cX12_engineKind 7 = .ok (.invokevirtual 444, 3) := by decide +kernel
theorem dX12_engineKind_10 : decode cX12_engineKind 10 = .ok (.ifCond .eq 7, 3) := by decide +kernel
theorem dX12_engineKind_13 : decode cX12_engineKind 13 = .ok (.iconst 0, 1) := by decide +kernel
theorem dX12_engineKind_14 : decode cX12_engineKind 14 = .ok (.goto 9, 3) := by decide +kernel
theorem dX12_engineKind_17 : decode cX12_engineKind 17 = .ok (.aload_n 0, 1) := by decide +kernel
theorem dX12_engineKind_18 : decode cX12_engineKind 18 = .ok (.getfield 32, 3) := by decide +kernel
theorem dX12_engineKind_21 : decode cX12_engineKind 21 = .ok (.iload_n 1, 1) := by decide +kernel
theorem dX12_engineKind_22 : decode cX12_engineKind 22 = .ok (.iaload, 1) := by decide +kernel
theorem dX12_engineKind_23 : decode cX12_engineKind 23 = .ok (.ireturn, 1) := by decide +kernel
theorem dX12_layHome_0 : decode cX12_layHome 0 = .ok (.iconst 0, 1) := by decide +kernel
theorem dX12_layHome_1 : decode cX12_layHome 1 = .ok (.istore_n 2, 1) := by decide +kernel
theorem dX12_layHome_2 : decode cX12_layHome 2 = .ok (.iload_n 2, 1) := by decide +kernel
theorem dX12_layHome_3 : decode cX12_layHome 3 = .ok (.aload_n 0, 1) := by decide +kernel
theorem dX12_layHome_4 : decode cX12_layHome 4 = .ok (.getfield 162, 3) := by decide +kernel
theorem dX12_layHome_7 : decode cX12_layHome 7 = .ok (.if_icmp .ge 16, 3) := by decide +kernel
theorem dX12_layHome_10 : decode cX12_layHome 10 = .ok (.aload_n 0, 1) := by decide +kernel
theorem dX12_layHome_11 : decode cX12_layHome 11 = .ok (.getfield 96, 3) := by decide +kernel
theorem dX12_layHome_14 : decode cX12_layHome 14 = .ok (.iload_n 2, 1) := by decide +kernel
theorem dX12_layHome_15 : decode cX12_layHome 15 = .ok (.iconst 0, 1) := by decide +kernel
theorem dX12_layHome_16 : decode cX12_layHome 16 = .ok (.iastore, 1) := by decide +kernel
theorem dX12_layHome_17 : decode cX12_layHome 17 = .ok (.iinc 2 1, 3) := by decide +kernel
theorem dX12_layHome_20 : decode cX12_layHome 20 = .ok (.goto (-18), 3) := by decide +kernel
theorem dX12_layHome_23 : decode cX12_layHome 23 = .ok (.iconst 0, 1) := by decide +kernel
theorem dX12_layHome_24 : decode cX12_layHome 24 = .ok (.istore_n 2, 1) := by decide +kernel
theorem dX12_layHome_25 : decode cX12_layHome 25 = .ok (.iload_n 2, 1) := by decide +kernel
theorem dX12_layHome_26 : decode cX12_layHome 26 = .ok (.aload_n 0, 1) := by decide +kernel
theorem dX12_layHome_27 : decode cX12_layHome 27 = .ok (.getfield 165, 3) := by decide +kernel
theorem dX12_layHome_30 : decode cX12_layHome 30 = .ok (.if_icmp .ge 43, 3) := by decide +kernel
theorem dX12_layHome_33 : decode cX12_layHome 33 = .ok (.aload_n 0, 1) := by decide +kernel
theorem dX12_layHome_34 : decode cX12_layHome 34 = .ok (.getfield 93, 3) := by decide +kernel
theorem dX12_layHome_37 : decode cX12_layHome 37 = .ok (.iload_n 2, 1) := by decide +kernel
theorem dX12_layHome_38 : decode cX12_layHome 38 = .ok (.aload_n 0, 1) := by decide +kernel
theorem dX12_layHome_39 : decode cX12_layHome 39 = .ok (.getfield 35, 3) := by decide +kernel
theorem dX12_layHome_42 : decode cX12_layHome 42 = .ok (.iload_n 2, 1) := by decide +kernel
theorem dX12_layHome_43 : decode cX12_layHome 43 = .ok (.iaload, 1) := by decide +kernel
theorem dX12_layHome_44 : decode cX12_layHome 44 = .ok (.iastore, 1) := by decide +kernel
theorem dX12_layHome_45 : decode cX12_layHome 45 = .ok (.aload_n 0, 1) := by decide +kernel
theorem dX12_layHome_46 : decode cX12_layHome 46 = .ok (.getfield 96, 3) := by decide +kernel
theorem dX12_layHome_49 : decode cX12_layHome 49 = .ok (.aload_n 0, 1) := by decide +kernel
theorem dX12_layHome_50 : decode cX12_layHome 50 = .ok (.getfield 35, 3) := by decide +kernel
theorem dX12_layHome_53 : decode cX12_layHome 53 = .ok (.iload_n 2, 1) := by decide +kernel
theorem dX12_layHome_54 : decode cX12_layHome 54 = .ok (.iaload, 1) := by decide +kernel
theorem dX12_layHome_55 : decode cX12_layHome 55 = .ok (.dup2, 1) := by decide +kernel
theorem dX12_layHome_56 : decode cX12_layHome 56 = .ok (.iaload, 1) := by decide +kernel
theorem dX12_layHome_57 : decode cX12_layHome 57 = .ok (.iload_n 1, 1) := by decide +kernel
theorem dX12_layHome_58 : decode cX12_layHome 58 = .ok (.iload_n 2, 1) := by decide +kernel
theorem dX12_layHome_59 : decode cX12_layHome 59 = .ok (.invokestatic 363, 3) := by decide +kernel
theorem dX12_layHome_62 : decode cX12_layHome 62 = .ok (.invokestatic 453, 3) := by decide +kernel
theorem dX12_layHome_65 : decode cX12_layHome 65 = .ok (.iadd, 1) := by decide +kernel
theorem dX12_layHome_66 : decode cX12_layHome 66 = .ok (.iastore, 1) := by decide +kernel
theorem dX12_layHome_67 : decode cX12_layHome 67 = .ok (.iinc 2 1, 3) := by decide +kernel
theorem dX12_layHome_70 : decode cX12_layHome 70 = .ok (.goto (-45), 3) := by decide +kernel
theorem dX12_layHome_73 : decode cX12_layHome 73 = .ok (.return_, 1) := by decide +kernel
theorem dX12_layMoved_0 : decode cX12_layMoved 0 = .ok (.aload_n 0, 1) := by decide +kernel
theorem dX12_layMoved_1 : decode cX12_layMoved 1 = .ok (.iload_n 1, 1) := by decide +kernel
theorem dX12_layMoved_2 : decode cX12_layMoved 2 = .ok (.invokevirtual 457, 3) := by decide +kernel
theorem dX12_layMoved_5 : decode cX12_layMoved 5 = .ok (.iconst 0, 1) := by decide +kernel
theorem dX12_layMoved_6 : decode cX12_layMoved 6 = .ok (.istore_n 2, 1) := by decide +kernel
theorem dX12_layMoved_7 : decode cX12_layMoved 7 = .ok (.iload_n 2, 1) := by decide +kernel
theorem dX12_layMoved_8 : decode cX12_layMoved 8 = .ok (.aload_n 0, 1) := by decide +kernel
theorem dX12_layMoved_9 : decode cX12_layMoved 9 = .ok (.getfield 162, 3) := by decide +kernel
theorem dX12_layMoved_12 : decode cX12_layMoved 12 = .ok (.if_icmp .ge 155, 3) := by decide +kernel
theorem dX12_layMoved_15 : decode cX12_layMoved 15 = .ok (.aload_n 0, 1) := by decide +kernel
theorem dX12_layMoved_16 : decode cX12_layMoved 16 = .ok (.getfield 96, 3) := by decide +kernel
theorem dX12_layMoved_19 : decode cX12_layMoved 19 = .ok (.iload_n 2, 1) := by decide +kernel
theorem dX12_layMoved_20 : decode cX12_layMoved 20 = .ok (.iaload, 1) := by decide +kernel
theorem dX12_layMoved_21 : decode cX12_layMoved 21 = .ok (.ifCond .le 6, 3) := by decide +kernel
theorem dX12_layMoved_24 : decode cX12_layMoved 24 = .ok (.goto 137, 3) := by decide +kernel
theorem dX12_layMoved_27 : decode cX12_layMoved 27 = .ok (.iconst (-1), 1) := by decide +kernel
theorem dX12_layMoved_28 : decode cX12_layMoved 28 = .ok (.istore_n 3, 1) := by decide +kernel
theorem dX12_layMoved_29 : decode cX12_layMoved 29 = .ok (.iconst 1, 1) := by decide +kernel
theorem dX12_layMoved_30 : decode cX12_layMoved 30 = .ok (.istore 4, 2) := by decide +kernel
theorem dX12_layMoved_32 : decode cX12_layMoved 32 = .ok (.iload 4, 2) := by decide +kernel
theorem dX12_layMoved_34 : decode cX12_layMoved 34 = .ok (.aload_n 0, 1) := by decide +kernel
theorem dX12_layMoved_35 : decode cX12_layMoved 35 = .ok (.getfield 162, 3) := by decide +kernel
theorem dX12_layMoved_38 : decode cX12_layMoved 38 = .ok (.if_icmp .ge 42, 3) := by decide +kernel
theorem dX12_layMoved_41 : decode cX12_layMoved 41 = .ok (.iload_n 3, 1) := by decide +kernel
theorem dX12_layMoved_42 : decode cX12_layMoved 42 = .ok (.iconst (-1), 1) := by decide +kernel
theorem dX12_layMoved_43 : decode cX12_layMoved 43 = .ok (.if_icmp .ne 37, 3) := by decide +kernel
theorem dX12_layMoved_46 : decode cX12_layMoved 46 = .ok (.aload_n 0, 1) := by decide +kernel
theorem dX12_layMoved_47 : decode cX12_layMoved 47 = .ok (.getfield 96, 3) := by decide +kernel
theorem dX12_layMoved_50 : decode cX12_layMoved 50 = .ok (.iload_n 2, 1) := by decide +kernel
theorem dX12_layMoved_51 : decode cX12_layMoved 51 = .ok (.iload 4, 2) := by decide +kernel
theorem dX12_layMoved_53 : decode cX12_layMoved 53 = .ok (.iadd, 1) := by decide +kernel
theorem dX12_layMoved_54 : decode cX12_layMoved 54 = .ok (.aload_n 0, 1) := by decide +kernel
theorem dX12_layMoved_55 : decode cX12_layMoved 55 = .ok (.getfield 162, 3) := by decide +kernel
theorem dX12_layMoved_58 : decode cX12_layMoved 58 = .ok (.irem, 1) := by decide +kernel
theorem dX12_layMoved_59 : decode cX12_layMoved 59 = .ok (.iaload, 1) := by decide +kernel
theorem dX12_layMoved_60 : decode cX12_layMoved 60 = .ok (.iconst 1, 1) := by decide +kernel
theorem dX12_layMoved_61 : decode cX12_layMoved 61 = .ok (.if_icmp .le 13, 3) := by decide +kernel
theorem dX12_layMoved_64 : decode cX12_layMoved 64 = .ok (.iload_n 2, 1) := by decide +kernel
theorem dX12_layMoved_65 : decode cX12_layMoved 65 = .ok (.iload 4, 2) := by decide +kernel
theorem dX12_layMoved_67 : decode cX12_layMoved 67 = .ok (.iadd, 1) := by decide +kernel
theorem dX12_layMoved_68 : decode cX12_layMoved 68 = .ok (.aload_n 0, 1) := by decide +kernel
theorem dX12_layMoved_69 : decode cX12_layMoved 69 = .ok (.getfield 162, 3) := by decide +kernel
theorem dX12_layMoved_72 : decode cX12_layMoved 72 = .ok (.irem, 1) := by decide +kernel
theorem dX12_layMoved_73 : decode cX12_layMoved 73 = .ok (.istore_n 3, 1) := by decide +kernel
theorem dX12_layMoved_74 : decode cX12_layMoved 74 = .ok (.iinc 4 1, 3) := by decide +kernel
theorem dX12_layMoved_77 : decode cX12_layMoved 77 = .ok (.goto (-45), 3) := by decide +kernel
theorem dX12_layMoved_80 : decode cX12_layMoved 80 = .ok (.iload_n 3, 1) := by decide +kernel
theorem dX12_layMoved_81 : decode cX12_layMoved 81 = .ok (.iconst (-1), 1) := by decide +kernel
theorem dX12_layMoved_82 : decode cX12_layMoved 82 = .ok (.if_icmp .ne 6, 3) := by decide +kernel
theorem dX12_layMoved_85 : decode cX12_layMoved 85 = .ok (.goto 76, 3) := by decide +kernel
theorem dX12_layMoved_88 : decode cX12_layMoved 88 = .ok (.iconst (-1), 1) := by decide +kernel
theorem dX12_layMoved_89 : decode cX12_layMoved 89 = .ok (.istore 4, 2) := by decide +kernel
theorem dX12_layMoved_91 : decode cX12_layMoved 91 = .ok (.iconst 0, 1) := by decide +kernel
theorem dX12_layMoved_92 : decode cX12_layMoved 92 = .ok (.istore 5, 2) := by decide +kernel
theorem dX12_layMoved_94 : decode cX12_layMoved 94 = .ok (.iload 5, 2) := by decide +kernel
theorem dX12_layMoved_96 : decode cX12_layMoved 96 = .ok (.aload_n 0, 1) := by decide +kernel
theorem dX12_layMoved_97 : decode cX12_layMoved 97 = .ok (.getfield 165, 3) := by decide +kernel
theorem dX12_layMoved_100 : decode cX12_layMoved 100 = .ok (.if_icmp .ge 33, 3) := by decide +kernel
theorem dX12_layMoved_103 : decode cX12_layMoved 103 = .ok (.iload_n 1, 1) := by decide +kernel
theorem dX12_layMoved_104 : decode cX12_layMoved 104 = .ok (.iload 5, 2) := by decide +kernel
theorem dX12_layMoved_106 : decode cX12_layMoved 106 = .ok (.invokestatic 363, 3) := by decide +kernel
theorem dX12_layMoved_109 : decode cX12_layMoved 109 = .ok (.ifCond .eq 18, 3) := by decide +kernel
theorem dX12_layMoved_112 : decode cX12_layMoved 112 = .ok (.aload_n 0, 1) := by decide +kernel
theorem dX12_layMoved_113 : decode cX12_layMoved 113 = .ok (.getfield 93, 3) := by decide +kernel
theorem dX12_layMoved_116 : decode cX12_layMoved 116 = .ok (.iload 5, 2) := by decide +kernel
theorem dX12_layMoved_118 : decode cX12_layMoved 118 = .ok (.iaload, 1) := by decide +kernel
theorem dX12_layMoved_119 : decode cX12_layMoved 119 = .ok (.iload_n 3, 1) := by decide +kernel
theorem dX12_layMoved_120 : decode cX12_layMoved 120 = .ok (.if_icmp .ne 7, 3) := by decide +kernel
theorem dX12_layMoved_123 : decode cX12_layMoved 123 = .ok (.iload 5, 2) := by decide +kernel
theorem dX12_layMoved_125 : decode cX12_layMoved 125 = .ok (.istore 4, 2) := by decide +kernel
theorem dX12_layMoved_127 : decode cX12_layMoved 127 = .ok (.iinc 5 1, 3) := by decide +kernel
theorem dX12_layMoved_130 : decode cX12_layMoved 130 = .ok (.goto (-36), 3) := by decide +kernel
theorem dX12_layMoved_133 : decode cX12_layMoved 133 = .ok (.aload_n 0, 1) := by decide +kernel
theorem dX12_layMoved_134 : decode cX12_layMoved 134 = .ok (.getfield 93, 3) := by decide +kernel
theorem dX12_layMoved_137 : decode cX12_layMoved 137 = .ok (.iload 4, 2) := by decide +kernel
theorem dX12_layMoved_139 : decode cX12_layMoved 139 = .ok (.iload_n 2, 1) := by decide +kernel
theorem dX12_layMoved_140 : decode cX12_layMoved 140 = .ok (.iastore, 1) := by decide +kernel
theorem dX12_layMoved_141 : decode cX12_layMoved 141 = .ok (.aload_n 0, 1) := by decide +kernel
theorem dX12_layMoved_142 : decode cX12_layMoved 142 = .ok (.getfield 96, 3) := by decide +kernel
theorem dX12_layMoved_145 : decode cX12_layMoved 145 = .ok (.iload_n 3, 1) := by decide +kernel
theorem dX12_layMoved_146 : decode cX12_layMoved 146 = .ok (.dup2, 1) := by decide +kernel
theorem dX12_layMoved_147 : decode cX12_layMoved 147 = .ok (.iaload, 1) := by decide +kernel
theorem dX12_layMoved_148 : decode cX12_layMoved 148 = .ok (.iconst 1, 1) := by decide +kernel
theorem dX12_layMoved_149 : decode cX12_layMoved 149 = .ok (.isub, 1) := by decide +kernel
theorem dX12_layMoved_150 : decode cX12_layMoved 150 = .ok (.iastore, 1) := by decide +kernel
theorem dX12_layMoved_151 : decode cX12_layMoved 151 = .ok (.aload_n 0, 1) := by decide +kernel
theorem dX12_layMoved_152 : decode cX12_layMoved 152 = .ok (.getfield 96, 3) := by decide +kernel
theorem dX12_layMoved_155 : decode cX12_layMoved 155 = .ok (.iload_n 2, 1) := by decide +kernel
theorem dX12_layMoved_156 : decode cX12_layMoved 156 = .ok (.dup2, 1) := by decide +kernel
theorem dX12_layMoved_157 : decode cX12_layMoved 157 = .ok (.iaload, 1) := by decide +kernel
theorem dX12_layMoved_158 : decode cX12_layMoved 158 = .ok (.iconst 1, 1) := by decide +kernel
theorem dX12_layMoved_159 : decode cX12_layMoved 159 = .ok (.iadd, 1) := by decide +kernel
theorem dX12_layMoved_160 : decode cX12_layMoved 160 = .ok (.iastore, 1) := by decide +kernel
theorem dX12_layMoved_161 : decode cX12_layMoved 161 = .ok (.iinc 2 1, 3) := by decide +kernel
theorem dX12_layMoved_164 : decode cX12_layMoved 164 = .ok (.goto (-157), 3) := by decide +kernel
theorem dX12_layMoved_167 : decode cX12_layMoved 167 = .ok (.return_, 1) := by decide +kernel
theorem dX12_serves_0 : decode cX12_serves 0 = .ok (.iload_n 1, 1) := by decide +kernel
theorem dX12_serves_1 : decode cX12_serves 1 = .ok (.iload_n 2, 1) := by decide +kernel
theorem dX12_serves_2 : decode cX12_serves 2 = .ok (.invokestatic 363, 3) := by decide +kernel
theorem dX12_serves_5 : decode cX12_serves 5 = .ok (.ifCond .eq 32, 3) := by decide +kernel
theorem dX12_serves_8 : decode cX12_serves 8 = .ok (.aload_n 0, 1) := by decide +kernel
theorem dX12_serves_9 : decode cX12_serves 9 = .ok (.getfield 44, 3) := by decide +kernel
theorem dX12_serves_12 : decode cX12_serves 12 = .ok (.iload_n 3, 1) := by decide +kernel
theorem dX12_serves_13 : decode cX12_serves 13 = .ok (.iaload, 1) := by decide +kernel
theorem dX12_serves_14 : decode cX12_serves 14 = .ok (.iconst (-1), 1) := by decide +kernel
theorem dX12_serves_15 : decode cX12_serves 15 = .ok (.if_icmp .eq 18, 3) := by decide +kernel
theorem dX12_serves_18 : decode cX12_serves 18 = .ok (.aload_n 0, 1) := by decide +kernel
theorem dX12_serves_19 : decode cX12_serves 19 = .ok (.getfield 32, 3) := by decide +kernel
theorem dX12_serves_22 : decode cX12_serves 22 = .ok (.iload_n 2, 1) := by decide +kernel
theorem dX12_serves_23 : decode cX12_serves 23 = .ok (.iaload, 1) := by decide +kernel
theorem dX12_serves_24 : decode cX12_serves 24 = .ok (.aload_n 0, 1) := by decide +kernel
theorem dX12_serves_25 : decode cX12_serves 25 = .ok (.getfield 44, 3) := by decide +kernel
theorem dX12_serves_28 : decode cX12_serves 28 = .ok (.iload_n 3, 1) := by decide +kernel
theorem dX12_serves_29 : decode cX12_serves 29 = .ok (.iaload, 1) := by decide +kernel
theorem dX12_serves_30 : decode cX12_serves 30 = .ok (.if_icmp .ne 7, 3) := by decide +kernel
theorem dX12_serves_33 : decode cX12_serves 33 = .ok (.iconst 1, 1) := by decide +kernel
theorem dX12_serves_34 : decode cX12_serves 34 = .ok (.goto 4, 3) := by decide +kernel
theorem dX12_serves_37 : decode cX12_serves 37 = .ok (.iconst 0, 1) := by decide +kernel
theorem dX12_serves_38 : decode cX12_serves 38 = .ok (.ireturn, 1) := by decide +kernel
theorem dX12_nearest_0 : decode cX12_nearest 0 = .ok (.ldc_w 410, 3) := by decide +kernel
theorem dX12_nearest_3 : decode cX12_nearest 3 = .ok (.istore_n 3, 1) := by decide +kernel
theorem dX12_nearest_4 : decode cX12_nearest 4 = .ok (.iconst 0, 1) := by decide +kernel
theorem dX12_nearest_5 : decode cX12_nearest 5 = .ok (.istore 4, 2) := by decide +kernel
theorem dX12_nearest_7 : decode cX12_nearest 7 = .ok (.iload 4, 2) := by decide +kernel
theorem dX12_nearest_9 : decode cX12_nearest 9 = .ok (.aload_n 0, 1) := by decide +kernel
theorem dX12_nearest_10 : decode cX12_nearest 10 = .ok (.getfield 165, 3) := by decide +kernel
theorem dX12_nearest_13 : decode cX12_nearest 13 = .ok (.if_icmp .ge 47, 3) := by decide +kernel
theorem dX12_nearest_16 : decode cX12_nearest 16 = .ok (.aload_n 0, 1) := by decide +kernel
theorem dX12_nearest_17 : decode cX12_nearest 17 = .ok (.iload_n 1, 1) := by decide +kernel
theorem dX12_nearest_18 : decode cX12_nearest 18 = .ok (.iload 4, 2) := by decide +kernel
theorem dX12_nearest_20 : decode cX12_nearest 20 = .ok (.iload_n 2, 1) := by decide +kernel
theorem dX12_nearest_21 : decode cX12_nearest 21 = .ok (.invokevirtual 460, 3) := by decide +kernel
theorem dX12_nearest_24 : decode cX12_nearest 24 = .ok (.ifCond .eq 30, 3) := by decide +kernel
theorem dX12_nearest_27 : decode cX12_nearest 27 = .ok (.iload_n 3, 1) := by decide +kernel
theorem dX12_nearest_28 : decode cX12_nearest 28 = .ok (.aload_n 0, 1) := by decide +kernel
theorem dX12_nearest_29 : decode cX12_nearest 29 = .ok (.aload_n 0, 1) := by decide +kernel
theorem dX12_nearest_30 : decode cX12_nearest 30 = .ok (.getfield 26, 3) := by decide +kernel
theorem dX12_nearest_33 : decode cX12_nearest 33 = .ok (.aload_n 0, 1) := by decide +kernel
theorem dX12_nearest_34 : decode cX12_nearest 34 = .ok (.getfield 93, 3) := by decide +kernel
theorem dX12_nearest_37 : decode cX12_nearest 37 = .ok (.iload 4, 2) := by decide +kernel
theorem dX12_nearest_39 : decode cX12_nearest 39 = .ok (.iaload, 1) := by decide +kernel
theorem dX12_nearest_40 : decode cX12_nearest 40 = .ok (.iaload, 1) := by decide +kernel
theorem dX12_nearest_41 : decode cX12_nearest 41 = .ok (.aload_n 0, 1) := by decide +kernel
theorem dX12_nearest_42 : decode cX12_nearest 42 = .ok (.getfield 38, 3) := by decide +kernel
theorem dX12_nearest_45 : decode cX12_nearest 45 = .ok (.iload_n 2, 1) := by decide +kernel
theorem dX12_nearest_46 : decode cX12_nearest 46 = .ok (.iaload, 1) := by decide +kernel
theorem dX12_nearest_47 : decode cX12_nearest 47 = .ok (.invokevirtual 432, 3) := by decide +kernel
theorem dX12_nearest_50 : decode cX12_nearest 50 = .ok (.invokestatic 411, 3) := by decide +kernel
theorem dX12_nearest_53 : decode cX12_nearest 53 = .ok (.istore_n 3, 1) := by decide +kernel
theorem dX12_nearest_54 : decode cX12_nearest 54 = .ok (.iinc 4 1, 3) := by decide +kernel
theorem dX12_nearest_57 : decode cX12_nearest 57 = .ok (.goto (-50), 3) := by decide +kernel
theorem dX12_nearest_60 : decode cX12_nearest 60 = .ok (.iload_n 3, 1) := by decide +kernel
theorem dX12_nearest_61 : decode cX12_nearest 61 = .ok (.ireturn, 1) := by decide +kernel
theorem dX12_open_0 : decode cX12_open 0 = .ok (.iconst 0, 1) := by decide +kernel
theorem dX12_open_1 : decode cX12_open 1 = .ok (.istore_n 2, 1) := by decide +kernel
theorem dX12_open_2 : decode cX12_open 2 = .ok (.iconst 0, 1) := by decide +kernel
theorem dX12_open_3 : decode cX12_open 3 = .ok (.istore_n 3, 1) := by decide +kernel
theorem dX12_open_4 : decode cX12_open 4 = .ok (.iload_n 3, 1) := by decide +kernel
theorem dX12_open_5 : decode cX12_open 5 = .ok (.aload_n 0, 1) := by decide +kernel
theorem dX12_open_6 : decode cX12_open 6 = .ok (.getfield 168, 3) := by decide +kernel
theorem dX12_open_9 : decode cX12_open 9 = .ok (.if_icmp .ge 30, 3) := by decide +kernel
theorem dX12_open_12 : decode cX12_open 12 = .ok (.aload_n 0, 1) := by decide +kernel
theorem dX12_open_13 : decode cX12_open 13 = .ok (.iload_n 1, 1) := by decide +kernel
theorem dX12_open_14 : decode cX12_open 14 = .ok (.iload_n 3, 1) := by decide +kernel
theorem dX12_open_15 : decode cX12_open 15 = .ok (.invokevirtual 463, 3) := by decide +kernel
theorem dX12_open_18 : decode cX12_open 18 = .ok (.aload_n 0, 1) := by decide +kernel
theorem dX12_open_19 : decode cX12_open 19 = .ok (.getfield 41, 3) := by decide +kernel
theorem dX12_open_22 : decode cX12_open 22 = .ok (.iload_n 3, 1) := by decide +kernel
theorem dX12_open_23 : decode cX12_open 23 = .ok (.iaload, 1) := by decide +kernel
theorem dX12_open_24 : decode cX12_open 24 = .ok (.if_icmp .le 9, 3) := by decide +kernel
theorem dX12_open_27 : decode cX12_open 27 = .ok (.iload_n 2, 1) := by decide +kernel
theorem dX12_open_28 : decode cX12_open 28 = .ok (.iconst 1, 1) := by decide +kernel
theorem dX12_open_29 : decode cX12_open 29 = .ok (.iload_n 3, 1) := by decide +kernel
theorem dX12_open_30 : decode cX12_open 30 = .ok (.ishl, 1) := by decide +kernel
theorem dX12_open_31 : decode cX12_open 31 = .ok (.ior, 1) := by decide +kernel
theorem dX12_open_32 : decode cX12_open 32 = .ok (.istore_n 2, 1) := by decide +kernel
theorem dX12_open_33 : decode cX12_open 33 = .ok (.iinc 3 1, 3) := by decide +kernel
theorem dX12_open_36 : decode cX12_open 36 = .ok (.goto (-32), 3) := by decide +kernel
theorem dX12_open_39 : decode cX12_open 39 = .ok (.iload_n 2, 1) := by decide +kernel
theorem dX12_open_40 : decode cX12_open 40 = .ok (.ireturn, 1) := by decide +kernel
theorem dX12_gapsOf_0 : decode cX12_gapsOf 0 = .ok (.aload_n 0, 1) := by decide +kernel
theorem dX12_gapsOf_1 : decode cX12_gapsOf 1 = .ok (.getfield 90, 3) := by decide +kernel
theorem dX12_gapsOf_4 : decode cX12_gapsOf 4 = .ok (.iload_n 1, 1) := by decide +kernel
theorem dX12_gapsOf_5 : decode cX12_gapsOf 5 = .ok (.iaload, 1) := by decide +kernel
theorem dX12_gapsOf_6 : decode cX12_gapsOf 6 = .ok (.iconst (-1), 1) := by decide +kernel
theorem dX12_gapsOf_7 : decode cX12_gapsOf 7 = .ok (.if_icmp .ne 19, 3) := by decide +kernel
theorem dX12_gapsOf_10 : decode cX12_gapsOf 10 = .ok (.aload_n 0, 1) := by decide +kernel
theorem dX12_gapsOf_11 : decode cX12_gapsOf 11 = .ok (.iload_n 1, 1) := by decide +kernel
theorem dX12_gapsOf_12 : decode cX12_gapsOf 12 = .ok (.invokevirtual 466, 3) := by decide +kernel
theorem dX12_gapsOf_15 : decode cX12_gapsOf 15 = .ok (.aload_n 0, 1) := by decide +kernel
theorem dX12_gapsOf_16 : decode cX12_gapsOf 16 = .ok (.getfield 90, 3) := by decide +kernel
theorem dX12_gapsOf_19 : decode cX12_gapsOf 19 = .ok (.iload_n 1, 1) := by decide +kernel
theorem dX12_gapsOf_20 : decode cX12_gapsOf 20 = .ok (.aload_n 0, 1) := by decide +kernel
theorem dX12_gapsOf_21 : decode cX12_gapsOf 21 = .ok (.iload_n 1, 1) := by decide +kernel
theorem dX12_gapsOf_22 : decode cX12_gapsOf 22 = .ok (.invokevirtual 469, 3) := by decide +kernel
theorem dX12_gapsOf_25 : decode cX12_gapsOf 25 = .ok (.iastore, 1) := by decide +kernel
theorem dX12_gapsOf_26 : decode cX12_gapsOf 26 = .ok (.aload_n 0, 1) := by decide +kernel
theorem dX12_gapsOf_27 : decode cX12_gapsOf 27 = .ok (.getfield 90, 3) := by decide +kernel
theorem dX12_gapsOf_30 : decode cX12_gapsOf 30 = .ok (.iload_n 1, 1) := by decide +kernel
theorem dX12_gapsOf_31 : decode cX12_gapsOf 31 = .ok (.iaload, 1) := by decide +kernel
theorem dX12_gapsOf_32 : decode cX12_gapsOf 32 = .ok (.ireturn, 1) := by decide +kernel
theorem dX12_coverStation_0 : decode cX12_coverStation 0 = .ok (.aload_n 0, 1) := by decide +kernel
theorem dX12_coverStation_1 : decode cX12_coverStation 1 = .ok (.iconst 0, 1) := by decide +kernel
theorem dX12_coverStation_2 : decode cX12_coverStation 2 = .ok (.putfield 150, 3) := by decide +kernel
theorem dX12_coverStation_5 : decode cX12_coverStation 5 = .ok (.aload_n 0, 1) := by decide +kernel
theorem dX12_coverStation_6 : decode cX12_coverStation 6 = .ok (.iload_n 2, 1) := by decide +kernel
theorem dX12_coverStation_7 : decode cX12_coverStation 7 = .ok (.invokevirtual 444, 3) := by decide +kernel
theorem dX12_coverStation_10 : decode cX12_coverStation 10 = .ok (.ifCond .ne 12, 3) := by decide +kernel
theorem dX12_coverStation_13 : decode cX12_coverStation 13 = .ok (.aload_n 0, 1) := by decide +kernel
theorem dX12_coverStation_14 : decode cX12_coverStation 14 = .ok (.iload_n 1, 1) := by decide +kernel
theorem dX12_coverStation_15 : decode cX12_coverStation 15 = .ok (.iconst 2, 1) := by decide +kernel
theorem dX12_coverStation_16 : decode cX12_coverStation 16 = .ok (.invokevirtual 472, 3) := by decide +kernel
theorem dX12_coverStation_19 : decode cX12_coverStation 19 = .ok (.ifCond .eq 5, 3) := by decide +kernel
theorem dX12_coverStation_22 : decode cX12_coverStation 22 = .ok (.iconst 0, 1) := by decide +kernel
theorem dX12_coverStation_23 : decode cX12_coverStation 23 = .ok (.ireturn, 1) := by decide +kernel
theorem dX12_coverStation_24 : decode cX12_coverStation 24 = .ok (.aload_n 0, 1) := by decide +kernel
theorem dX12_coverStation_25 : decode cX12_coverStation 25 = .ok (.iload_n 1, 1) := by decide +kernel
theorem dX12_coverStation_26 : decode cX12_coverStation 26 = .ok (.invokevirtual 466, 3) := by decide +kernel
theorem dX12_coverStation_29 : decode cX12_coverStation 29 = .ok (.iload_n 1, 1) := by decide +kernel
theorem dX12_coverStation_30 : decode cX12_coverStation 30 = .ok (.iload_n 2, 1) := by decide +kernel
theorem dX12_coverStation_31 : decode cX12_coverStation 31 = .ok (.invokestatic 363, 3) := by decide +kernel
theorem dX12_coverStation_34 : decode cX12_coverStation 34 = .ok (.ifCond .eq 12, 3) := by decide +kernel
theorem dX12_coverStation_37 : decode cX12_coverStation 37 = .ok (.aload_n 0, 1) := by decide +kernel
theorem dX12_coverStation_38 : decode cX12_coverStation 38 = .ok (.getfield 93, 3) := by decide +kernel
theorem dX12_coverStation_41 : decode cX12_coverStation 41 = .ok (.iload_n 2, 1) := by decide +kernel
theorem dX12_coverStation_42 : decode cX12_coverStation 42 = .ok (.iaload, 1) := by decide +kernel
theorem dX12_coverStation_43 : decode cX12_coverStation 43 = .ok (.goto 4, 3) := by decide +kernel
theorem dX12_coverStation_46 : decode cX12_coverStation 46 = .ok (.iconst (-1), 1) := by decide +kernel
theorem dX12_coverStation_47 : decode cX12_coverStation 47 = .ok (.ireturn, 1) := by decide +kernel
theorem dX12_uncovered_0 : decode cX12_uncovered 0 = .ok (.aload_n 0, 1) := by decide +kernel
theorem dX12_uncovered_1 : decode cX12_uncovered 1 = .ok (.iconst 0, 1) := by decide +kernel
theorem dX12_uncovered_2 : decode cX12_uncovered 2 = .ok (.putfield 150, 3) := by decide +kernel
theorem dX12_uncovered_5 : decode cX12_uncovered 5 = .ok (.aload_n 0, 1) := by decide +kernel
theorem dX12_uncovered_6 : decode cX12_uncovered 6 = .ok (.iload_n 1, 1) := by decide +kernel
theorem dX12_uncovered_7 : decode cX12_uncovered 7 = .ok (.iconst 1, 1) := by decide +kernel
theorem dX12_uncovered_8 : decode cX12_uncovered 8 = .ok (.invokevirtual 472, 3) := by decide +kernel
theorem dX12_uncovered_11 : decode cX12_uncovered 11 = .ok (.ifCond .eq 7, 3) := by decide +kernel
theorem dX12_uncovered_14 : decode cX12_uncovered 14 = .ok (.iconst 0, 1) := by decide +kernel
theorem dX12_uncovered_15 : decode cX12_uncovered 15 = .ok (.goto 8, 3) := by decide +kernel
theorem dX12_uncovered_18 : decode cX12_uncovered 18 = .ok (.aload_n 0, 1) := by decide +kernel
theorem dX12_uncovered_19 : decode cX12_uncovered 19 = .ok (.iload_n 1, 1) := by decide +kernel
theorem dX12_uncovered_20 : decode cX12_uncovered 20 = .ok (.invokevirtual 475, 3) := by decide +kernel
theorem dX12_uncovered_23 : decode cX12_uncovered 23 = .ok (.ireturn, 1) := by decide +kernel
theorem dX12_uncoveredWithoutMoves_0 : decode cX12_uncoveredWithoutMoves 0 = .ok (.aload_n 0, 1) := by decide +kernel
theorem dX12_uncoveredWithoutMoves_1 : decode cX12_uncoveredWithoutMoves 1 = .ok (.iconst 0, 1) := by decide +kernel
theorem dX12_uncoveredWithoutMoves_2 : decode cX12_uncoveredWithoutMoves 2 = .ok (.putfield 150, 3) := by decide +kernel
theorem dX12_uncoveredWithoutMoves_5 : decode cX12_uncoveredWithoutMoves 5 = .ok (.aload_n 0, 1) := by decide +kernel
theorem dX12_uncoveredWithoutMoves_6 : decode cX12_uncoveredWithoutMoves 6 = .ok (.iload_n 1, 1) := by decide +kernel
theorem dX12_uncoveredWithoutMoves_7 : decode cX12_uncoveredWithoutMoves 7 = .ok (.iconst 1, 1) := by decide +kernel
theorem dX12_uncoveredWithoutMoves_8 : decode cX12_uncoveredWithoutMoves 8 = .ok (.invokevirtual 472, 3) := by decide +kernel
theorem dX12_uncoveredWithoutMoves_11 : decode cX12_uncoveredWithoutMoves 11 = .ok (.ifCond .eq 5, 3) := by decide +kernel
theorem dX12_uncoveredWithoutMoves_14 : decode cX12_uncoveredWithoutMoves 14 = .ok (.iconst 0, 1) := by decide +kernel
theorem dX12_uncoveredWithoutMoves_15 : decode cX12_uncoveredWithoutMoves 15 = .ok (.ireturn, 1) := by decide +kernel
theorem dX12_uncoveredWithoutMoves_16 : decode cX12_uncoveredWithoutMoves 16 = .ok (.aload_n 0, 1) := by decide +kernel
theorem dX12_uncoveredWithoutMoves_17 : decode cX12_uncoveredWithoutMoves 17 = .ok (.iload_n 1, 1) := by decide +kernel
theorem dX12_uncoveredWithoutMoves_18 : decode cX12_uncoveredWithoutMoves 18 = .ok (.invokevirtual 457, 3) := by decide +kernel
theorem dX12_uncoveredWithoutMoves_21 : decode cX12_uncoveredWithoutMoves 21 = .ok (.aload_n 0, 1) := by decide +kernel
theorem dX12_uncoveredWithoutMoves_22 : decode cX12_uncoveredWithoutMoves 22 = .ok (.iload_n 1, 1) := by decide +kernel
theorem dX12_uncoveredWithoutMoves_23 : decode cX12_uncoveredWithoutMoves 23 = .ok (.invokevirtual 469, 3) := by decide +kernel
theorem dX12_uncoveredWithoutMoves_26 : decode cX12_uncoveredWithoutMoves 26 = .ok (.ireturn, 1) := by decide +kernel
theorem dX12_nearestMinutes_0 : decode cX12_nearestMinutes 0 = .ok (.aload_n 0, 1) := by decide +kernel
theorem dX12_nearestMinutes_1 : decode cX12_nearestMinutes 1 = .ok (.iconst 0, 1) := by decide +kernel
theorem dX12_nearestMinutes_2 : decode cX12_nearestMinutes 2 = .ok (.putfield 150, 3) := by decide +kernel
theorem dX12_nearestMinutes_5 : decode cX12_nearestMinutes 5 = .ok (.aload_n 0, 1) := by decide +kernel
theorem dX12_nearestMinutes_6 : decode cX12_nearestMinutes 6 = .ok (.iload_n 2, 1) := by decide +kernel
theorem dX12_nearestMinutes_7 : decode cX12_nearestMinutes 7 = .ok (.invokevirtual 478, 3) := by decide +kernel
theorem dX12_nearestMinutes_10 : decode cX12_nearestMinutes 10 = .ok (.ifCond .ne 12, 3) := by decide +kernel
theorem dX12_nearestMinutes_13 : decode cX12_nearestMinutes 13 = .ok (.aload_n 0, 1) := by decide +kernel
theorem dX12_nearestMinutes_14 : decode cX12_nearestMinutes 14 = .ok (.iload_n 1, 1) := by decide +kernel
theorem dX12_nearestMinutes_15 : decode cX12_nearestMinutes 15 = .ok (.iconst 2, 1) := by decide +kernel
theorem dX12_nearestMinutes_16 : decode cX12_nearestMinutes 16 = .ok (.invokevirtual 472, 3) := by decide +kernel
theorem dX12_nearestMinutes_19 : decode cX12_nearestMinutes 19 = .ok (.ifCond .eq 5, 3) := by decide +kernel
theorem dX12_nearestMinutes_22 : decode cX12_nearestMinutes 22 = .ok (.iconst 0, 1) := by decide +kernel
theorem dX12_nearestMinutes_23 : decode cX12_nearestMinutes 23 = .ok (.ireturn, 1) := by decide +kernel
theorem dX12_nearestMinutes_24 : decode cX12_nearestMinutes 24 = .ok (.aload_n 0, 1) := by decide +kernel
theorem dX12_nearestMinutes_25 : decode cX12_nearestMinutes 25 = .ok (.iload_n 1, 1) := by decide +kernel
theorem dX12_nearestMinutes_26 : decode cX12_nearestMinutes 26 = .ok (.invokevirtual 466, 3) := by decide +kernel
theorem dX12_nearestMinutes_29 : decode cX12_nearestMinutes 29 = .ok (.aload_n 0, 1) := by decide +kernel
theorem dX12_nearestMinutes_30 : decode cX12_nearestMinutes 30 = .ok (.iload_n 1, 1) := by decide +kernel
theorem dX12_nearestMinutes_31 : decode cX12_nearestMinutes 31 = .ok (.iload_n 2, 1) := by decide +kernel
theorem dX12_nearestMinutes_32 : decode cX12_nearestMinutes 32 = .ok (.invokevirtual 463, 3) := by decide +kernel
theorem dX12_nearestMinutes_35 : decode cX12_nearestMinutes 35 = .ok (.istore_n 3, 1) := by decide +kernel
theorem dX12_nearestMinutes_36 : decode cX12_nearestMinutes 36 = .ok (.iload_n 3, 1) := by decide +kernel
theorem dX12_nearestMinutes_37 : decode cX12_nearestMinutes 37 = .ok (.ldc_w 410, 3) := by decide +kernel
theorem dX12_nearestMinutes_40 : decode cX12_nearestMinutes 40 = .ok (.if_icmp .lt 7, 3) := by decide +kernel
theorem dX12_nearestMinutes_43 : decode cX12_nearestMinutes 43 = .ok (.iconst (-1), 1) := by decide +kernel
theorem dX12_nearestMinutes_44 : decode cX12_nearestMinutes 44 = .ok (.goto 4, 3) := by decide +kernel
theorem dX12_nearestMinutes_47 : decode cX12_nearestMinutes 47 = .ok (.iload_n 3, 1) := by decide +kernel
theorem dX12_nearestMinutes_48 : decode cX12_nearestMinutes 48 = .ok (.ireturn, 1) := by decide +kernel
theorem dX12_coveringEngines_0 : decode cX12_coveringEngines 0 = .ok (.aload_n 0, 1) := by decide +kernel
theorem dX12_coveringEngines_1 : decode cX12_coveringEngines 1 = .ok (.iconst 0, 1) := by decide +kernel
theorem dX12_coveringEngines_2 : decode cX12_coveringEngines 2 = .ok (.putfield 150, 3) := by decide +kernel
theorem dX12_coveringEngines_5 : decode cX12_coveringEngines 5 = .ok (.aload_n 0, 1) := by decide +kernel
theorem dX12_coveringEngines_6 : decode cX12_coveringEngines 6 = .ok (.iload_n 2, 1) := by decide +kernel
theorem dX12_coveringEngines_7 : decode cX12_coveringEngines 7 = .ok (.invokevirtual 478, 3) := by decide +kernel
theorem dX12_coveringEngines_10 : decode cX12_coveringEngines 10 = .ok (.ifCond .ne 12, 3) := by decide +kernel
theorem dX12_coveringEngines_13 : decode cX12_coveringEngines 13 = .ok (.aload_n 0, 1) := by decide +kernel
theorem dX12_coveringEngines_14 : decode cX12_coveringEngines 14 = .ok (.iload_n 1, 1) := by decide +kernel
theorem dX12_coveringEngines_15 : decode cX12_coveringEngines 15 = .ok (.iconst 2, 1) := by decide +kernel
theorem dX12_coveringEngines_16 : decode cX12_coveringEngines 16 = .ok (.invokevirtual 472, 3) := by decide +kernel
theorem dX12_coveringEngines_19 : decode cX12_coveringEngines 19 = .ok (.ifCond .eq 5, 3) := by decide +kernel
theorem dX12_coveringEngines_22 : decode cX12_coveringEngines 22 = .ok (.iconst 0, 1) := by decide +kernel
theorem dX12_coveringEngines_23 : decode cX12_coveringEngines 23 = .ok (.ireturn, 1) := by decide +kernel
theorem dX12_coveringEngines_24 : decode cX12_coveringEngines 24 = .ok (.aload_n 0, 1) := by decide +kernel
theorem dX12_coveringEngines_25 : decode cX12_coveringEngines 25 = .ok (.iload_n 1, 1) := by decide +kernel
theorem dX12_coveringEngines_26 : decode cX12_coveringEngines 26 = .ok (.invokevirtual 466, 3) := by decide +kernel
theorem dX12_coveringEngines_29 : decode cX12_coveringEngines 29 = .ok (.iconst 0, 1) := by decide +kernel
theorem dX12_coveringEngines_30 : decode cX12_coveringEngines 30 = .ok (.istore_n 3, 1) := by decide +kernel
theorem dX12_coveringEngines_31 : decode cX12_coveringEngines 31 = .ok (.iconst 0, 1) := by decide +kernel
theorem dX12_coveringEngines_32 : decode cX12_coveringEngines 32 = .ok (.istore 4, 2) := by decide +kernel
theorem dX12_coveringEngines_34 : decode cX12_coveringEngines 34 = .ok (.iload 4, 2) := by decide +kernel
theorem dX12_coveringEngines_36 : decode cX12_coveringEngines 36 = .ok (.aload_n 0, 1) := by decide +kernel
theorem dX12_coveringEngines_37 : decode cX12_coveringEngines 37 = .ok (.getfield 165, 3) := by decide +kernel
theorem dX12_coveringEngines_40 : decode cX12_coveringEngines 40 = .ok (.if_icmp .ge 58, 3) := by decide +kernel
theorem dX12_coveringEngines_43 : decode cX12_coveringEngines 43 = .ok (.aload_n 0, 1) := by decide +kernel
theorem dX12_coveringEngines_44 : decode cX12_coveringEngines 44 = .ok (.iload_n 1, 1) := by decide +kernel
theorem dX12_coveringEngines_45 : decode cX12_coveringEngines 45 = .ok (.iload 4, 2) := by decide +kernel
theorem dX12_coveringEngines_47 : decode cX12_coveringEngines 47 = .ok (.iload_n 2, 1) := by decide +kernel
theorem dX12_coveringEngines_48 : decode cX12_coveringEngines 48 = .ok (.invokevirtual 460, 3) := by decide +kernel
theorem dX12_coveringEngines_51 : decode cX12_coveringEngines 51 = .ok (.ifCond .eq 41, 3) := by decide +kernel
theorem dX12_coveringEngines_54 : decode cX12_coveringEngines 54 = .ok (.aload_n 0, 1) := by decide +kernel
theorem dX12_coveringEngines_55 : decode cX12_coveringEngines 55 = .ok (.aload_n 0, 1) := by decide +kernel
theorem dX12_coveringEngines_56 : decode cX12_coveringEngines 56 = .ok (.getfield 26, 3) := by decide +kernel
theorem dX12_coveringEngines_59 : decode cX12_coveringEngines 59 = .ok (.aload_n 0, 1) := by decide +kernel
theorem dX12_coveringEngines_60 : decode cX12_coveringEngines 60 = .ok (.getfield 93, 3) := by decide +kernel
theorem dX12_coveringEngines_63 : decode cX12_coveringEngines 63 = .ok (.iload 4, 2) := by decide +kernel
theorem dX12_coveringEngines_65 : decode cX12_coveringEngines 65 = .ok (.iaload, 1) := by decide +kernel
theorem dX12_coveringEngines_66 : decode cX12_coveringEngines 66 = .ok (.iaload, 1) := by decide +kernel
theorem dX12_coveringEngines_67 : decode cX12_coveringEngines 67 = .ok (.aload_n 0, 1) := by decide +kernel
theorem dX12_coveringEngines_68 : decode cX12_coveringEngines 68 = .ok (.getfield 38, 3) := by decide +kernel
theorem dX12_coveringEngines_71 : decode cX12_coveringEngines 71 = .ok (.iload_n 2, 1) := by decide +kernel
theorem dX12_coveringEngines_72 : decode cX12_coveringEngines 72 = .ok (.iaload, 1) := by decide +kernel
theorem dX12_coveringEngines_73 : decode cX12_coveringEngines 73 = .ok (.invokevirtual 432, 3) := by decide +kernel
theorem dX12_coveringEngines_76 : decode cX12_coveringEngines 76 = .ok (.aload_n 0, 1) := by decide +kernel
theorem dX12_coveringEngines_77 : decode cX12_coveringEngines 77 = .ok (.getfield 41, 3) := by decide +kernel
theorem dX12_coveringEngines_80 : decode cX12_coveringEngines 80 = .ok (.iload_n 2, 1) := by decide +kernel
theorem dX12_coveringEngines_81 : decode cX12_coveringEngines 81 = .ok (.iaload, 1) := by decide +kernel
theorem dX12_coveringEngines_82 : decode cX12_coveringEngines 82 = .ok (.if_icmp .gt 10, 3) := by decide +kernel
theorem dX12_coveringEngines_85 : decode cX12_coveringEngines 85 = .ok (.iload_n 3, 1) := by decide +kernel
theorem dX12_coveringEngines_86 : decode cX12_coveringEngines 86 = .ok (.iconst 1, 1) := by decide +kernel
theorem dX12_coveringEngines_87 : decode cX12_coveringEngines 87 = .ok (.iload 4, 2) := by decide +kernel
theorem dX12_coveringEngines_89 : decode cX12_coveringEngines 89 = .ok (.ishl, 1) := by decide +kernel
theorem dX12_coveringEngines_90 : decode cX12_coveringEngines 90 = .ok (.ior, 1) := by decide +kernel
theorem dX12_coveringEngines_91 : decode cX12_coveringEngines 91 = .ok (.istore_n 3, 1) := by decide +kernel
theorem dX12_coveringEngines_92 : decode cX12_coveringEngines 92 = .ok (.iinc 4 1, 3) := by decide +kernel
theorem dX12_coveringEngines_95 : decode cX12_coveringEngines 95 = .ok (.goto (-61), 3) := by decide +kernel
theorem dX12_coveringEngines_98 : decode cX12_coveringEngines 98 = .ok (.iload_n 3, 1) := by decide +kernel
theorem dX12_coveringEngines_99 : decode cX12_coveringEngines 99 = .ok (.ireturn, 1) := by decide +kernel
theorem dX12_weakestStreet_0 : decode cX12_weakestStreet 0 = .ok (.aload_n 0, 1) := by decide +kernel
theorem dX12_weakestStreet_1 : decode cX12_weakestStreet 1 = .ok (.iconst 0, 1) := by decide +kernel
theorem dX12_weakestStreet_2 : decode cX12_weakestStreet 2 = .ok (.putfield 150, 3) := by decide +kernel
theorem dX12_weakestStreet_5 : decode cX12_weakestStreet 5 = .ok (.aload_n 0, 1) := by decide +kernel
theorem dX12_weakestStreet_6 : decode cX12_weakestStreet 6 = .ok (.iload_n 1, 1) := by decide +kernel
theorem dX12_weakestStreet_7 : decode cX12_weakestStreet 7 = .ok (.iconst 1, 1) := by decide +kernel
theorem dX12_weakestStreet_8 : decode cX12_weakestStreet 8 = .ok (.invokevirtual 472, 3) := by decide +kernel
theorem dX12_weakestStreet_11 : decode cX12_weakestStreet 11 = .ok (.ifCond .eq 5, 3) := by decide +kernel
theorem dX12_weakestStreet_14 : decode cX12_weakestStreet 14 = .ok (.iconst 0, 1) := by decide +kernel
theorem dX12_weakestStreet_15 : decode cX12_weakestStreet 15 = .ok (.ireturn, 1) := by decide +kernel
theorem dX12_weakestStreet_16 : decode cX12_weakestStreet 16 = .ok (.aload_n 0, 1) := by decide +kernel
theorem dX12_weakestStreet_17 : decode cX12_weakestStreet 17 = .ok (.iload_n 1, 1) := by decide +kernel
theorem dX12_weakestStreet_18 : decode cX12_weakestStreet 18 = .ok (.invokevirtual 466, 3) := by decide +kernel
theorem dX12_weakestStreet_21 : decode cX12_weakestStreet 21 = .ok (.iconst (-1), 1) := by decide +kernel
theorem dX12_weakestStreet_22 : decode cX12_weakestStreet 22 = .ok (.istore_n 2, 1) := by decide +kernel
theorem dX12_weakestStreet_23 : decode cX12_weakestStreet 23 = .ok (.iconst 0, 1) := by decide +kernel
theorem dX12_weakestStreet_24 : decode cX12_weakestStreet 24 = .ok (.istore_n 3, 1) := by decide +kernel
theorem dX12_weakestStreet_25 : decode cX12_weakestStreet 25 = .ok (.iconst 0, 1) := by decide +kernel
theorem dX12_weakestStreet_26 : decode cX12_weakestStreet 26 = .ok (.istore 4, 2) := by decide +kernel
theorem dX12_weakestStreet_28 : decode cX12_weakestStreet 28 = .ok (.iload 4, 2) := by decide +kernel
theorem dX12_weakestStreet_30 : decode cX12_weakestStreet 30 = .ok (.aload_n 0, 1) := by decide +kernel
theorem dX12_weakestStreet_31 : decode cX12_weakestStreet 31 = .ok (.getfield 168, 3) := by decide +kernel
theorem dX12_weakestStreet_34 : decode cX12_weakestStreet 34 = .ok (.if_icmp .ge 64, 3) := by decide +kernel
theorem dX12_weakestStreet_37 : decode cX12_weakestStreet 37 = .ok (.aload_n 0, 1) := by decide +kernel
theorem dX12_weakestStreet_38 : decode cX12_weakestStreet 38 = .ok (.iload_n 1, 1) := by decide +kernel
theorem dX12_weakestStreet_39 : decode cX12_weakestStreet 39 = .ok (.iload 4, 2) := by decide +kernel
theorem dX12_weakestStreet_41 : decode cX12_weakestStreet 41 = .ok (.invokevirtual 463, 3) := by decide +kernel
theorem dX12_weakestStreet_44 : decode cX12_weakestStreet 44 = .ok (.istore 5, 2) := by decide +kernel
theorem dX12_weakestStreet_46 : decode cX12_weakestStreet 46 = .ok (.iload 5, 2) := by decide +kernel
theorem dX12_weakestStreet_48 : decode cX12_weakestStreet 48 = .ok (.ldc_w 410, 3) := by decide +kernel
theorem dX12_weakestStreet_51 : decode cX12_weakestStreet 51 = .ok (.if_icmp .lt 9, 3) := by decide +kernel
theorem dX12_weakestStreet_54 : decode cX12_weakestStreet 54 = .ok (.ldc_w 481, 3) := by decide +kernel
theorem dX12_weakestStreet_57 : decode cX12_weakestStreet 57 = .ok (.goto 13, 3) := by decide +kernel
theorem dX12_weakestStreet_60 : decode cX12_weakestStreet 60 = .ok (.aload_n 0, 1) := by decide +kernel
theorem dX12_weakestStreet_61 : decode cX12_weakestStreet 61 = .ok (.getfield 41, 3) := by decide +kernel
theorem dX12_weakestStreet_64 : decode cX12_weakestStreet 64 = .ok (.iload 4, 2) := by decide +kernel
theorem dX12_weakestStreet_66 : decode cX12_weakestStreet 66 = .ok (.iaload, 1) := by decide +kernel
theorem dX12_weakestStreet_67 : decode cX12_weakestStreet 67 = .ok (.iload 5, 2) := by decide +kernel
theorem dX12_weakestStreet_69 : decode cX12_weakestStreet 69 = .ok (.isub, 1) := by decide +kernel
theorem dX12_weakestStreet_70 : decode cX12_weakestStreet 70 = .ok (.istore 6, 2) := by decide +kernel
theorem dX12_weakestStreet_72 : decode cX12_weakestStreet 72 = .ok (.iload_n 2, 1) := by decide +kernel
theorem dX12_weakestStreet_73 : decode cX12_weakestStreet 73 = .ok (.iconst (-1), 1) := by decide +kernel
theorem dX12_weakestStreet_74 : decode cX12_weakestStreet 74 = .ok (.if_icmp .eq 12, 3) := by decide +kernel
theorem dX12_weakestStreet_77 : decode cX12_weakestStreet 77 = .ok (.iload 6, 2) := by decide +kernel
theorem dX12_weakestStreet_79 : decode cX12_weakestStreet 79 = .ok (.iload_n 3, 1) := by decide +kernel
theorem dX12_weakestStreet_80 : decode cX12_weakestStreet 80 = .ok (.if_icmp .lt 6, 3) := by decide +kernel
theorem dX12_weakestStreet_83 : decode cX12_weakestStreet 83 = .ok (.goto 9, 3) := by decide +kernel
theorem dX12_weakestStreet_86 : decode cX12_weakestStreet 86 = .ok (.iload 4, 2) := by decide +kernel
theorem dX12_weakestStreet_88 : decode cX12_weakestStreet 88 = .ok (.istore_n 2, 1) := by decide +kernel
theorem dX12_weakestStreet_89 : decode cX12_weakestStreet 89 = .ok (.iload 6, 2) := by decide +kernel
theorem dX12_weakestStreet_91 : decode cX12_weakestStreet 91 = .ok (.istore_n 3, 1) := by decide +kernel
theorem dX12_weakestStreet_92 : decode cX12_weakestStreet 92 = .ok (.iinc 4 1, 3) := by decide +kernel
theorem dX12_weakestStreet_95 : decode cX12_weakestStreet 95 = .ok (.goto (-67), 3) := by decide +kernel
theorem dX12_weakestStreet_98 : decode cX12_weakestStreet 98 = .ok (.iload_n 2, 1) := by decide +kernel
theorem dX12_weakestStreet_99 : decode cX12_weakestStreet 99 = .ok (.ireturn, 1) := by decide +kernel
theorem dX12_criticalEngine_0 : decode cX12_criticalEngine 0 = .ok (.aload_n 0, 1) := by decide +kernel
theorem dX12_criticalEngine_1 : decode cX12_criticalEngine 1 = .ok (.iconst 0, 1) := by decide +kernel
theorem dX12_criticalEngine_2 : decode cX12_criticalEngine 2 = .ok (.putfield 150, 3) := by decide +kernel
theorem dX12_criticalEngine_5 : decode cX12_criticalEngine 5 = .ok (.iconst (-1), 1) := by decide +kernel
theorem dX12_criticalEngine_6 : decode cX12_criticalEngine 6 = .ok (.istore_n 1, 1) := by decide +kernel
theorem dX12_criticalEngine_7 : decode cX12_criticalEngine 7 = .ok (.iconst 0, 1) := by decide +kernel
theorem dX12_criticalEngine_8 : decode cX12_criticalEngine 8 = .ok (.istore_n 2, 1) := by decide +kernel
theorem dX12_criticalEngine_9 : decode cX12_criticalEngine 9 = .ok (.iconst 0, 1) := by decide +kernel
theorem dX12_criticalEngine_10 : decode cX12_criticalEngine 10 = .ok (.istore_n 3, 1) := by decide +kernel
theorem dX12_criticalEngine_11 : decode cX12_criticalEngine 11 = .ok (.iload_n 3, 1) := by decide +kernel
theorem dX12_criticalEngine_12 : decode cX12_criticalEngine 12 = .ok (.aload_n 0, 1) := by decide +kernel
theorem dX12_criticalEngine_13 : decode cX12_criticalEngine 13 = .ok (.getfield 165, 3) := by decide +kernel
theorem dX12_criticalEngine_16 : decode cX12_criticalEngine 16 = .ok (.if_icmp .ge 47, 3) := by decide +kernel
theorem dX12_criticalEngine_19 : decode cX12_criticalEngine 19 = .ok (.aload_n 0, 1) := by decide +kernel
theorem dX12_criticalEngine_20 : decode cX12_criticalEngine 20 = .ok (.aload_n 0, 1) := by decide +kernel
theorem dX12_criticalEngine_21 : decode cX12_criticalEngine 21 = .ok (.getfield 417, 3) := by decide +kernel
theorem dX12_criticalEngine_24 : decode cX12_criticalEngine 24 = .ok (.iconst 1, 1) := by decide +kernel
theorem dX12_criticalEngine_25 : decode cX12_criticalEngine 25 = .ok (.iload_n 3, 1) := by decide +kernel
theorem dX12_criticalEngine_26 : decode cX12_criticalEngine 26 = .ok (.ishl, 1) := by decide +kernel
theorem dX12_criticalEngine_27 : decode cX12_criticalEngine 27 = .ok (.iconst (-1), 1) := by decide +kernel
theorem dX12_criticalEngine_28 : decode cX12_criticalEngine 28 = .ok (.ixor, 1) := by decide +kernel
theorem dX12_criticalEngine_29 : decode cX12_criticalEngine 29 = .ok (.iand, 1) := by decide +kernel
theorem dX12_criticalEngine_30 : decode cX12_criticalEngine 30 = .ok (.invokevirtual 475, 3) := by decide +kernel
theorem dX12_criticalEngine_33 : decode cX12_criticalEngine 33 = .ok (.invokestatic 482, 3) := by decide +kernel
theorem dX12_criticalEngine_36 : decode cX12_criticalEngine 36 = .ok (.istore 4, 2) := by decide +kernel
theorem dX12_criticalEngine_38 : decode cX12_criticalEngine 38 = .ok (.iload_n 1, 1) := by decide +kernel
theorem dX12_criticalEngine_39 : decode cX12_criticalEngine 39 = .ok (.iconst (-1), 1) := by decide +kernel
theorem dX12_criticalEngine_40 : decode cX12_criticalEngine 40 = .ok (.if_icmp .eq 12, 3) := by decide +kernel
theorem dX12_criticalEngine_43 : decode cX12_criticalEngine 43 = .ok (.iload 4, 2) := by decide +kernel
theorem dX12_criticalEngine_45 : decode cX12_criticalEngine 45 = .ok (.iload_n 2, 1) := by decide +kernel
theorem dX12_criticalEngine_46 : decode cX12_criticalEngine 46 = .ok (.if_icmp .gt 6, 3) := by decide +kernel
theorem dX12_criticalEngine_49 : decode cX12_criticalEngine 49 = .ok (.goto 8, 3) := by decide +kernel
theorem dX12_criticalEngine_52 : decode cX12_criticalEngine 52 = .ok (.iload_n 3, 1) := by decide +kernel
theorem dX12_criticalEngine_53 : decode cX12_criticalEngine 53 = .ok (.istore_n 1, 1) := by decide +kernel
theorem dX12_criticalEngine_54 : decode cX12_criticalEngine 54 = .ok (.iload 4, 2) := by decide +kernel
theorem dX12_criticalEngine_56 : decode cX12_criticalEngine 56 = .ok (.istore_n 2, 1) := by decide +kernel
theorem dX12_criticalEngine_57 : decode cX12_criticalEngine 57 = .ok (.iinc 3 1, 3) := by decide +kernel
theorem dX12_criticalEngine_60 : decode cX12_criticalEngine 60 = .ok (.goto (-49), 3) := by decide +kernel
theorem dX12_criticalEngine_63 : decode cX12_criticalEngine 63 = .ok (.iload_n 1, 1) := by decide +kernel
theorem dX12_criticalEngine_64 : decode cX12_criticalEngine 64 = .ok (.ireturn, 1) := by decide +kernel
theorem dX12_safeAbsences_0 : decode cX12_safeAbsences 0 = .ok (.aload_n 0, 1) := by decide +kernel
theorem dX12_safeAbsences_1 : decode cX12_safeAbsences 1 = .ok (.iconst 0, 1) := by decide +kernel
theorem dX12_safeAbsences_2 : decode cX12_safeAbsences 2 = .ok (.putfield 150, 3) := by decide +kernel
theorem dX12_safeAbsences_5 : decode cX12_safeAbsences 5 = .ok (.aload_n 0, 1) := by decide +kernel
theorem dX12_safeAbsences_6 : decode cX12_safeAbsences 6 = .ok (.getfield 165, 3) := by decide +kernel
theorem dX12_safeAbsences_9 : decode cX12_safeAbsences 9 = .ok (.iconst 1, 1) := by decide +kernel
theorem dX12_safeAbsences_10 : decode cX12_safeAbsences 10 = .ok (.iadd, 1) := by decide +kernel
theorem dX12_safeAbsences_11 : decode cX12_safeAbsences 11 = .ok (.istore_n 1, 1) := by decide +kernel
theorem dX12_safeAbsences_12 : decode cX12_safeAbsences 12 = .ok (.iconst 0, 1) := by decide +kernel
theorem dX12_safeAbsences_13 : decode cX12_safeAbsences 13 = .ok (.istore_n 2, 1) := by decide +kernel
theorem dX12_safeAbsences_14 : decode cX12_safeAbsences 14 = .ok (.iload_n 2, 1) := by decide +kernel
theorem dX12_safeAbsences_15 : decode cX12_safeAbsences 15 = .ok (.aload_n 0, 1) := by decide +kernel
theorem dX12_safeAbsences_16 : decode cX12_safeAbsences 16 = .ok (.getfield 417, 3) := by decide +kernel
theorem dX12_safeAbsences_19 : decode cX12_safeAbsences 19 = .ok (.if_icmp .gt 31, 3) := by decide +kernel
theorem dX12_safeAbsences_22 : decode cX12_safeAbsences 22 = .ok (.aload_n 0, 1) := by decide +kernel
theorem dX12_safeAbsences_23 : decode cX12_safeAbsences 23 = .ok (.iload_n 2, 1) := by decide +kernel
theorem dX12_safeAbsences_24 : decode cX12_safeAbsences 24 = .ok (.invokevirtual 475, 3) := by decide +kernel
theorem dX12_safeAbsences_27 : decode cX12_safeAbsences 27 = .ok (.ifCond .eq 17, 3) := by decide +kernel
theorem dX12_safeAbsences_30 : decode cX12_safeAbsences 30 = .ok (.iload_n 1, 1) := by decide +kernel
theorem dX12_safeAbsences_31 : decode cX12_safeAbsences 31 = .ok (.aload_n 0, 1) := by decide +kernel
theorem dX12_safeAbsences_32 : decode cX12_safeAbsences 32 = .ok (.getfield 165, 3) := by decide +kernel
theorem dX12_safeAbsences_35 : decode cX12_safeAbsences 35 = .ok (.iload_n 2, 1) := by decide +kernel
theorem dX12_safeAbsences_36 : decode cX12_safeAbsences 36 = .ok (.invokestatic 482, 3) := by decide +kernel
theorem dX12_safeAbsences_39 : decode cX12_safeAbsences 39 = .ok (.isub, 1) := by decide +kernel
theorem dX12_safeAbsences_40 : decode cX12_safeAbsences 40 = .ok (.invokestatic 411, 3) := by decide +kernel
theorem dX12_safeAbsences_43 : decode cX12_safeAbsences 43 = .ok (.istore_n 1, 1) := by decide +kernel
theorem dX12_safeAbsences_44 : decode cX12_safeAbsences 44 = .ok (.iinc 2 1, 3) := by decide +kernel
theorem dX12_safeAbsences_47 : decode cX12_safeAbsences 47 = .ok (.goto (-33), 3) := by decide +kernel
theorem dX12_safeAbsences_50 : decode cX12_safeAbsences 50 = .ok (.iload_n 1, 1) := by decide +kernel
theorem dX12_safeAbsences_51 : decode cX12_safeAbsences 51 = .ok (.iconst 1, 1) := by decide +kernel
theorem dX12_safeAbsences_52 : decode cX12_safeAbsences 52 = .ok (.isub, 1) := by decide +kernel
theorem dX12_safeAbsences_53 : decode cX12_safeAbsences 53 = .ok (.ireturn, 1) := by decide +kernel
theorem dX12_hang_0 : decode cX12_hang 0 = .ok (.aload_n 0, 1) := by decide +kernel
theorem dX12_hang_1 : decode cX12_hang 1 = .ok (.dup, 1) := by decide +kernel
theorem dX12_hang_2 : decode cX12_hang 2 = .ok (.getfield 485, 3) := by decide +kernel
theorem dX12_hang_5 : decode cX12_hang 5 = .ok (.aload_n 0, 1) := by decide +kernel
theorem dX12_hang_6 : decode cX12_hang 6 = .ok (.getfield 129, 3) := by decide +kernel
theorem dX12_hang_9 : decode cX12_hang 9 = .ok (.iload_n 1, 1) := by decide +kernel
theorem dX12_hang_10 : decode cX12_hang 10 = .ok (.iaload, 1) := by decide +kernel
theorem dX12_hang_11 : decode cX12_hang 11 = .ok (.iadd, 1) := by decide +kernel
theorem dX12_hang_12 : decode cX12_hang 12 = .ok (.putfield 485, 3) := by decide +kernel
theorem dX12_hang_15 : decode cX12_hang 15 = .ok (.aload_n 0, 1) := by decide +kernel
theorem dX12_hang_16 : decode cX12_hang 16 = .ok (.dup, 1) := by decide +kernel
theorem dX12_hang_17 : decode cX12_hang 17 = .ok (.getfield 490, 3) := by decide +kernel
theorem dX12_hang_20 : decode cX12_hang 20 = .ok (.aload_n 0, 1) := by decide +kernel
theorem dX12_hang_21 : decode cX12_hang 21 = .ok (.getfield 129, 3) := by decide +kernel
theorem dX12_hang_24 : decode cX12_hang 24 = .ok (.iload_n 1, 1) := by decide +kernel
theorem dX12_hang_25 : decode cX12_hang 25 = .ok (.iaload, 1) := by decide +kernel
theorem dX12_hang_26 : decode cX12_hang 26 = .ok (.isub, 1) := by decide +kernel
theorem dX12_hang_27 : decode cX12_hang 27 = .ok (.putfield 490, 3) := by decide +kernel
theorem dX12_hang_30 : decode cX12_hang 30 = .ok (.iconst 0, 1) := by decide +kernel
theorem dX12_hang_31 : decode cX12_hang 31 = .ok (.istore_n 2, 1) := by decide +kernel
theorem dX12_hang_32 : decode cX12_hang 32 = .ok (.iload_n 2, 1) := by decide +kernel
theorem dX12_hang_33 : decode cX12_hang 33 = .ok (.aload_n 0, 1) := by decide +kernel
theorem dX12_hang_34 : decode cX12_hang 34 = .ok (.getfield 171, 3) := by decide +kernel
theorem dX12_hang_37 : decode cX12_hang 37 = .ok (.if_icmp .ge 34, 3) := by decide +kernel
theorem dX12_hang_40 : decode cX12_hang 40 = .ok (.aload_n 0, 1) := by decide +kernel
theorem dX12_hang_41 : decode cX12_hang 41 = .ok (.getfield 108, 3) := by decide +kernel
theorem dX12_hang_44 : decode cX12_hang 44 = .ok (.iload_n 2, 1) := by decide +kernel
theorem dX12_hang_45 : decode cX12_hang 45 = .ok (.iaload, 1) := by decide +kernel
theorem dX12_hang_46 : decode cX12_hang 46 = .ok (.iload_n 1, 1) := by decide +kernel
theorem dX12_hang_47 : decode cX12_hang 47 = .ok (.if_icmp .ne 18, 3) := by decide +kernel
theorem dX12_hang_50 : decode cX12_hang 50 = .ok (.aload_n 0, 1) := by decide +kernel
theorem dX12_hang_51 : decode cX12_hang 51 = .ok (.dup, 1) := by decide +kernel
theorem dX12_hang_52 : decode cX12_hang 52 = .ok (.getfield 487, 3) := by decide +kernel
theorem dX12_hang_55 : decode cX12_hang 55 = .ok (.aload_n 0, 1) := by decide +kernel
theorem dX12_hang_56 : decode cX12_hang 56 = .ok (.getfield 59, 3) := by decide +kernel
theorem dX12_hang_59 : decode cX12_hang 59 = .ok (.iload_n 2, 1) := by decide +kernel
theorem dX12_hang_60 : decode cX12_hang 60 = .ok (.iaload, 1) := by decide +kernel
theorem dX12_hang_61 : decode cX12_hang 61 = .ok (.iadd, 1) := by decide +kernel
theorem dX12_hang_62 : decode cX12_hang 62 = .ok (.putfield 487, 3) := by decide +kernel
theorem dX12_hang_65 : decode cX12_hang 65 = .ok (.iinc 2 1, 3) := by decide +kernel
theorem dX12_hang_68 : decode cX12_hang 68 = .ok (.goto (-36), 3) := by decide +kernel
theorem dX12_hang_71 : decode cX12_hang 71 = .ok (.aload_n 0, 1) := by decide +kernel
theorem dX12_hang_72 : decode cX12_hang 72 = .ok (.getfield 487, 3) := by decide +kernel
theorem dX12_hang_75 : decode cX12_hang 75 = .ok (.aload_n 0, 1) := by decide +kernel
theorem dX12_hang_76 : decode cX12_hang 76 = .ok (.getfield 429, 3) := by decide +kernel
theorem dX12_hang_79 : decode cX12_hang 79 = .ok (.aload_n 0, 1) := by decide +kernel
theorem dX12_hang_80 : decode cX12_hang 80 = .ok (.getfield 490, 3) := by decide +kernel
theorem dX12_hang_83 : decode cX12_hang 83 = .ok (.isub, 1) := by decide +kernel
theorem dX12_hang_84 : decode cX12_hang 84 = .ok (.invokestatic 411, 3) := by decide +kernel
theorem dX12_hang_87 : decode cX12_hang 87 = .ok (.istore_n 2, 1) := by decide +kernel
theorem dX12_hang_88 : decode cX12_hang 88 = .ok (.aload_n 0, 1) := by decide +kernel
theorem dX12_hang_89 : decode cX12_hang 89 = .ok (.dup, 1) := by decide +kernel
theorem dX12_hang_90 : decode cX12_hang 90 = .ok (.getfield 487, 3) := by decide +kernel
theorem dX12_hang_93 : decode cX12_hang 93 = .ok (.iload_n 2, 1) := by decide +kernel
theorem dX12_hang_94 : decode cX12_hang 94 = .ok (.isub, 1) := by decide +kernel
theorem dX12_hang_95 : decode cX12_hang 95 = .ok (.putfield 487, 3) := by decide +kernel
theorem dX12_hang_98 : decode cX12_hang 98 = .ok (.aload_n 0, 1) := by decide +kernel
theorem dX12_hang_99 : decode cX12_hang 99 = .ok (.dup, 1) := by decide +kernel
theorem dX12_hang_100 : decode cX12_hang 100 = .ok (.getfield 490, 3) := by decide +kernel
theorem dX12_hang_103 : decode cX12_hang 103 = .ok (.iload_n 2, 1) := by decide +kernel
theorem dX12_hang_104 : decode cX12_hang 104 = .ok (.iadd, 1) := by decide +kernel
theorem dX12_hang_105 : decode cX12_hang 105 = .ok (.putfield 490, 3) := by decide +kernel
theorem dX12_hang_108 : decode cX12_hang 108 = .ok (.aload_n 0, 1) := by decide +kernel
theorem dX12_hang_109 : decode cX12_hang 109 = .ok (.getfield 129, 3) := by decide +kernel
theorem dX12_hang_112 : decode cX12_hang 112 = .ok (.iload_n 1, 1) := by decide +kernel
theorem dX12_hang_113 : decode cX12_hang 113 = .ok (.aload_n 0, 1) := by decide +kernel
theorem dX12_hang_114 : decode cX12_hang 114 = .ok (.getfield 177, 3) := by decide +kernel
theorem dX12_hang_117 : decode cX12_hang 117 = .ok (.iadd, 1) := by decide +kernel
theorem dX12_hang_118 : decode cX12_hang 118 = .ok (.dup2, 1) := by decide +kernel
theorem dX12_hang_119 : decode cX12_hang 119 = .ok (.iaload, 1) := by decide +kernel
theorem dX12_hang_120 : decode cX12_hang 120 = .ok (.iload_n 2, 1) := by decide +kernel
theorem dX12_hang_121 : decode cX12_hang 121 = .ok (.iadd, 1) := by decide +kernel
theorem dX12_hang_122 : decode cX12_hang 122 = .ok (.iastore, 1) := by decide +kernel
theorem dX12_hang_123 : decode cX12_hang 123 = .ok (.return_, 1) := by decide +kernel
theorem dX12_chosen_0 : decode cX12_chosen 0 = .ok (.iload 4, 2) := by decide +kernel
theorem dX12_chosen_2 : decode cX12_chosen 2 = .ok (.istore 5, 2) := by decide +kernel
theorem dX12_chosen_4 : decode cX12_chosen 4 = .ok (.iconst 0, 1) := by decide +kernel
theorem dX12_chosen_5 : decode cX12_chosen 5 = .ok (.istore 6, 2) := by decide +kernel
theorem dX12_chosen_7 : decode cX12_chosen 7 = .ok (.iload 6, 2) := by decide +kernel
theorem dX12_chosen_9 : decode cX12_chosen 9 = .ok (.aload_n 0, 1) := by decide +kernel
theorem dX12_chosen_10 : decode cX12_chosen 10 = .ok (.getfield 56, 3) := by decide +kernel
theorem dX12_chosen_13 : decode cX12_chosen 13 = .ok (.iconst 3, 1) := by decide +kernel
theorem dX12_chosen_14 : decode cX12_chosen 14 = .ok (.iload_n 1, 1) := by decide +kernel
theorem dX12_chosen_15 : decode cX12_chosen 15 = .ok (.imul, 1) := by decide +kernel
theorem dX12_chosen_16 : decode cX12_chosen 16 = .ok (.iload_n 3, 1) := by decide +kernel
theorem dX12_chosen_17 : decode cX12_chosen 17 = .ok (.iadd, 1) := by decide +kernel
theorem dX12_chosen_18 : decode cX12_chosen 18 = .ok (.iaload, 1) := by decide +kernel
theorem dX12_chosen_19 : decode cX12_chosen 19 = .ok (.if_icmp .ge 133, 3) := by decide +kernel
theorem dX12_chosen_22 : decode cX12_chosen 22 = .ok (.iconst (-1), 1) := by decide +kernel
theorem dX12_chosen_23 : decode cX12_chosen 23 = .ok (.istore 7, 2) := by decide +kernel
theorem dX12_chosen_25 : decode cX12_chosen 25 = .ok (.iconst 0, 1) := by decide +kernel
theorem dX12_chosen_26 : decode cX12_chosen 26 = .ok (.istore 8, 2) := by decide +kernel
theorem dX12_chosen_28 : decode cX12_chosen 28 = .ok (.iload 8, 2) := by decide +kernel
theorem dX12_chosen_30 : decode cX12_chosen 30 = .ok (.aload_n 0, 1) := by decide +kernel
theorem dX12_chosen_31 : decode cX12_chosen 31 = .ok (.getfield 165, 3) := by decide +kernel
theorem dX12_chosen_34 : decode cX12_chosen 34 = .ok (.if_icmp .ge 95, 3) := by decide +kernel
theorem dX12_chosen_37 : decode cX12_chosen 37 = .ok (.aload_n 0, 1) := by decide +kernel
theorem dX12_chosen_38 : decode cX12_chosen 38 = .ok (.getfield 32, 3) := by decide +kernel
theorem dX12_chosen_41 : decode cX12_chosen 41 = .ok (.iload 8, 2) := by decide +kernel
theorem dX12_chosen_43 : decode cX12_chosen 43 = .ok (.iaload, 1) := by decide +kernel
theorem dX12_chosen_44 : decode cX12_chosen 44 = .ok (.iload_n 3, 1) := by decide +kernel
theorem dX12_chosen_45 : decode cX12_chosen 45 = .ok (.if_icmp .ne 78, 3) := by decide +kernel
theorem dX12_chosen_48 : decode cX12_chosen 48 = .ok (.iload 5, 2) := by decide +kernel
theorem dX12_chosen_50 : decode cX12_chosen 50 = .ok (.iload 8, 2) := by decide +kernel
theorem dX12_chosen_52 : decode cX12_chosen 52 = .ok (.invokestatic 363, 3) := by decide +kernel
theorem dX12_chosen_55 : decode cX12_chosen 55 = .ok (.ifCond .ne 68, 3) := by decide +kernel
theorem dX12_chosen_58 : decode cX12_chosen 58 = .ok (.aload_n 0, 1) := by decide +kernel
theorem dX12_chosen_59 : decode cX12_chosen 59 = .ok (.getfield 423, 3) := by decide +kernel
theorem dX12_chosen_62 : decode cX12_chosen 62 = .ok (.iload 8, 2) := by decide +kernel
theorem dX12_chosen_64 : decode cX12_chosen 64 = .ok (.invokestatic 363, 3) := by decide +kernel
theorem dX12_chosen_67 : decode cX12_chosen 67 = .ok (.ifCond .ne 56, 3) := by decide +kernel
theorem dX12_chosen_70 : decode cX12_chosen 70 = .ok (.aload_n 0, 1) := by decide +kernel
theorem dX12_chosen_71 : decode cX12_chosen 71 = .ok (.getfield 114, 3) := by decide +kernel
theorem dX12_chosen_74 : decode cX12_chosen 74 = .ok (.iload 8, 2) := by decide +kernel
theorem dX12_chosen_76 : decode cX12_chosen 76 = .ok (.iaload, 1) := by decide +kernel
theorem dX12_chosen_77 : decode cX12_chosen 77 = .ok (.iload_n 2, 1) := by decide +kernel
theorem dX12_chosen_78 : decode cX12_chosen 78 = .ok (.if_icmp .gt 45, 3) := by decide +kernel
theorem dX12_chosen_81 : decode cX12_chosen 81 = .ok (.aload_n 0, 1) := by decide +kernel
theorem dX12_chosen_82 : decode cX12_chosen 82 = .ok (.iload 8, 2) := by decide +kernel
theorem dX12_chosen_84 : decode cX12_chosen 84 = .ok (.iload_n 1, 1) := by decide +kernel
theorem dX12_chosen_85 : decode cX12_chosen 85 = .ok (.invokevirtual 450, 3) := by decide +kernel
theorem dX12_chosen_88 : decode cX12_chosen 88 = .ok (.bipush 6, 2) := by decide +kernel
theorem dX12_chosen_90 : decode cX12_chosen 90 = .ok (.if_icmp .le 6, 3) := by decide +kernel
theorem dX12_chosen_93 : decode cX12_chosen 93 = .ok (.goto 30, 3) := by decide +kernel
theorem dX12_chosen_96 : decode cX12_chosen 96 = .ok (.iload 7, 2) := by decide +kernel
theorem dX12_chosen_98 : decode cX12_chosen 98 = .ok (.iconst (-1), 1) := by decide +kernel
theorem dX12_chosen_99 : decode cX12_chosen 99 = .ok (.if_icmp .eq 20, 3) := by decide +kernel
theorem dX12_chosen_102 : decode cX12_chosen 102 = .ok (.aload_n 0, 1) := by decide +kernel
theorem dX12_chosen_103 : decode cX12_chosen 103 = .ok (.iload 8, 2) := by decide +kernel
theorem dX12_chosen_105 : decode cX12_chosen 105 = .ok (.iload_n 1, 1) := by decide +kernel
theorem dX12_chosen_106 : decode cX12_chosen 106 = .ok (.invokevirtual 435, 3) := by decide +kernel
theorem dX12_chosen_109 : decode cX12_chosen 109 = .ok (.aload_n 0, 1) := by decide +kernel
theorem dX12_chosen_110 : decode cX12_chosen 110 = .ok (.iload 7, 2) := by decide +kernel
theorem dX12_chosen_112 : decode cX12_chosen 112 = .ok (.iload_n 1, 1) := by decide +kernel
theorem dX12_chosen_113 : decode cX12_chosen 113 = .ok (.invokevirtual 435, 3) := by decide +kernel
theorem dX12_chosen_116 : decode cX12_chosen 116 = .ok (.if_icmp .ge 7, 3) := by decide +kernel
theorem dX12_chosen_119 : decode cX12_chosen 119 = .ok (.iload 8, 2) := by decide +kernel
theorem dX12_chosen_121 : decode cX12_chosen 121 = .ok (.istore 7, 2) := by decide +kernel
theorem dX12_chosen_123 : decode cX12_chosen 123 = .ok (.iinc 8 1, 3) := by decide +kernel
theorem dX12_chosen_126 : decode cX12_chosen 126 = .ok (.goto (-98), 3) := by decide +kernel
theorem dX12_chosen_129 : decode cX12_chosen 129 = .ok (.iload 7, 2) := by decide +kernel
theorem dX12_chosen_131 : decode cX12_chosen 131 = .ok (.iconst (-1), 1) := by decide +kernel
theorem dX12_chosen_132 : decode cX12_chosen 132 = .ok (.if_icmp .ne 5, 3) := by decide +kernel
theorem dX12_chosen_135 : decode cX12_chosen 135 = .ok (.iconst (-1), 1) := by decide +kernel
theorem dX12_chosen_136 : decode cX12_chosen 136 = .ok (.ireturn, 1) := by decide +kernel
theorem dX12_chosen_137 : decode cX12_chosen 137 = .ok (.iload 5, 2) := by decide +kernel
theorem dX12_chosen_139 : decode cX12_chosen 139 = .ok (.iconst 1, 1) := by decide +kernel
theorem dX12_chosen_140 : decode cX12_chosen 140 = .ok (.iload 7, 2) := by decide +kernel
theorem dX12_chosen_142 : decode cX12_chosen 142 = .ok (.ishl, 1) := by decide +kernel
theorem dX12_chosen_143 : decode cX12_chosen 143 = .ok (.ior, 1) := by decide +kernel
theorem dX12_chosen_144 : decode cX12_chosen 144 = .ok (.istore 5, 2) := by decide +kernel
theorem dX12_chosen_146 : decode cX12_chosen 146 = .ok (.iinc 6 1, 3) := by decide +kernel
theorem dX12_chosen_149 : decode cX12_chosen 149 = .ok (.goto (-142), 3) := by decide +kernel
theorem dX12_chosen_152 : decode cX12_chosen 152 = .ok (.iload 5, 2) := by decide +kernel
theorem dX12_chosen_154 : decode cX12_chosen 154 = .ok (.ireturn, 1) := by decide +kernel
theorem dX12_setsOff_0 : decode cX12_setsOff 0 = .ok (.iconst 0, 1) := by decide +kernel
theorem dX12_setsOff_1 : decode cX12_setsOff 1 = .ok (.istore 4, 2) := by decide +kernel
theorem dX12_setsOff_3 : decode cX12_setsOff 3 = .ok (.iconst 0, 1) := by decide +kernel
theorem dX12_setsOff_4 : decode cX12_setsOff 4 = .ok (.istore 5, 2) := by decide +kernel
theorem dX12_setsOff_6 : decode cX12_setsOff 6 = .ok (.iload 5, 2) := by decide +kernel
theorem dX12_setsOff_8 : decode cX12_setsOff 8 = .ok (.aload_n 0, 1) := by decide +kernel
theorem dX12_setsOff_9 : decode cX12_setsOff 9 = .ok (.getfield 165, 3) := by decide +kernel
theorem dX12_setsOff_12 : decode cX12_setsOff 12 = .ok (.if_icmp .ge 32, 3) := by decide +kernel
theorem dX12_setsOff_15 : decode cX12_setsOff 15 = .ok (.iload_n 3, 1) := by decide +kernel
theorem dX12_setsOff_16 : decode cX12_setsOff 16 = .ok (.iload 5, 2) := by decide +kernel
theorem dX12_setsOff_18 : decode cX12_setsOff 18 = .ok (.invokestatic 363, 3) := by decide +kernel
theorem dX12_setsOff_21 : decode cX12_setsOff 21 = .ok (.ifCond .eq 17, 3) := by decide +kernel
theorem dX12_setsOff_24 : decode cX12_setsOff 24 = .ok (.iload 4, 2) := by decide +kernel
theorem dX12_setsOff_26 : decode cX12_setsOff 26 = .ok (.aload_n 0, 1) := by decide +kernel
theorem dX12_setsOff_27 : decode cX12_setsOff 27 = .ok (.iload 5, 2) := by decide +kernel
theorem dX12_setsOff_29 : decode cX12_setsOff 29 = .ok (.iload_n 1, 1) := by decide +kernel
theorem dX12_setsOff_30 : decode cX12_setsOff 30 = .ok (.invokevirtual 450, 3) := by decide +kernel
theorem dX12_setsOff_33 : decode cX12_setsOff 33 = .ok (.invokestatic 508, 3) := by decide +kernel
theorem dX12_setsOff_36 : decode cX12_setsOff 36 = .ok (.istore 4, 2) := by decide +kernel
theorem dX12_setsOff_38 : decode cX12_setsOff 38 = .ok (.iinc 5 1, 3) := by decide +kernel
theorem dX12_setsOff_41 : decode cX12_setsOff 41 = .ok (.goto (-35), 3) := by decide +kernel
theorem dX12_setsOff_44 : decode cX12_setsOff 44 = .ok (.aload_n 0, 1) := by decide +kernel
theorem dX12_setsOff_45 : decode cX12_setsOff 45 = .ok (.getfield 99, 3) := by decide +kernel
theorem dX12_setsOff_48 : decode cX12_setsOff 48 = .ok (.iload_n 1, 1) := by decide +kernel
theorem dX12_setsOff_49 : decode cX12_setsOff 49 = .ok (.iconst 1, 1) := by decide +kernel
theorem dX12_setsOff_50 : decode cX12_setsOff 50 = .ok (.iastore, 1) := by decide +kernel
theorem dX12_setsOff_51 : decode cX12_setsOff 51 = .ok (.aload_n 0, 1) := by decide +kernel
theorem dX12_setsOff_52 : decode cX12_setsOff 52 = .ok (.getfield 102, 3) := by decide +kernel
theorem dX12_setsOff_55 : decode cX12_setsOff 55 = .ok (.iload_n 1, 1) := by decide +kernel
theorem dX12_setsOff_56 : decode cX12_setsOff 56 = .ok (.iload_n 3, 1) := by decide +kernel
theorem dX12_setsOff_57 : decode cX12_setsOff 57 = .ok (.iastore, 1) := by decide +kernel
theorem dX12_setsOff_58 : decode cX12_setsOff 58 = .ok (.aload_n 0, 1) := by decide +kernel
theorem dX12_setsOff_59 : decode cX12_setsOff 59 = .ok (.getfield 105, 3) := by decide +kernel
theorem dX12_setsOff_62 : decode cX12_setsOff 62 = .ok (.iload_n 1, 1) := by decide +kernel
theorem dX12_setsOff_63 : decode cX12_setsOff 63 = .ok (.iload_n 2, 1) := by decide +kernel
theorem dX12_setsOff_64 : decode cX12_setsOff 64 = .ok (.iload 4, 2) := by decide +kernel
theorem dX12_setsOff_66 : decode cX12_setsOff 66 = .ok (.iadd, 1) := by decide +kernel
theorem dX12_setsOff_67 : decode cX12_setsOff 67 = .ok (.iastore, 1) := by decide +kernel
theorem dX12_setsOff_68 : decode cX12_setsOff 68 = .ok (.aload_n 0, 1) := by decide +kernel
theorem dX12_setsOff_69 : decode cX12_setsOff 69 = .ok (.getfield 108, 3) := by decide +kernel
theorem dX12_setsOff_72 : decode cX12_setsOff 72 = .ok (.iload_n 1, 1) := by decide +kernel
theorem dX12_setsOff_73 : decode cX12_setsOff 73 = .ok (.aload_n 0, 1) := by decide +kernel
theorem dX12_setsOff_74 : decode cX12_setsOff 74 = .ok (.getfield 105, 3) := by decide +kernel
theorem dX12_setsOff_77 : decode cX12_setsOff 77 = .ok (.iload_n 1, 1) := by decide +kernel
theorem dX12_setsOff_78 : decode cX12_setsOff 78 = .ok (.iaload, 1) := by decide +kernel
theorem dX12_setsOff_79 : decode cX12_setsOff 79 = .ok (.aload_n 0, 1) := by decide +kernel
theorem dX12_setsOff_80 : decode cX12_setsOff 80 = .ok (.getfield 53, 3) := by decide +kernel
theorem dX12_setsOff_83 : decode cX12_setsOff 83 = .ok (.iload_n 1, 1) := by decide +kernel
theorem dX12_setsOff_84 : decode cX12_setsOff 84 = .ok (.iaload, 1) := by decide +kernel
theorem dX12_setsOff_85 : decode cX12_setsOff 85 = .ok (.iadd, 1) := by decide +kernel
theorem dX12_setsOff_86 : decode cX12_setsOff 86 = .ok (.iastore, 1) := by decide +kernel
theorem dX12_setsOff_87 : decode cX12_setsOff 87 = .ok (.iconst 0, 1) := by decide +kernel
theorem dX12_setsOff_88 : decode cX12_setsOff 88 = .ok (.istore 5, 2) := by decide +kernel
theorem dX12_setsOff_90 : decode cX12_setsOff 90 = .ok (.iload 5, 2) := by decide +kernel
theorem dX12_setsOff_92 : decode cX12_setsOff 92 = .ok (.aload_n 0, 1) := by decide +kernel
theorem dX12_setsOff_93 : decode cX12_setsOff 93 = .ok (.getfield 165, 3) := by decide +kernel
theorem dX12_setsOff_96 : decode cX12_setsOff 96 = .ok (.if_icmp .ge 64, 3) := by decide +kernel
theorem dX12_setsOff_99 : decode cX12_setsOff 99 = .ok (.iload_n 3, 1) := by decide +kernel
theorem dX12_setsOff_100 : decode cX12_setsOff 100 = .ok (.iload 5, 2) := by decide +kernel
theorem dX12_setsOff_102 : decode cX12_setsOff 102 = .ok (.invokestatic 363, 3) := by decide +kernel
theorem dX12_setsOff_105 : decode cX12_setsOff 105 = .ok (.ifCond .ne 6, 3) := by decide +kernel
theorem dX12_setsOff_108 : decode cX12_setsOff 108 = .ok (.goto 46, 3) := by decide +kernel
theorem dX12_setsOff_111 : decode cX12_setsOff 111 = .ok (.aload_n 0, 1) := by decide +kernel
theorem dX12_setsOff_112 : decode cX12_setsOff 112 = .ok (.getfield 114, 3) := by decide +kernel
theorem dX12_setsOff_115 : decode cX12_setsOff 115 = .ok (.iload 5, 2) := by decide +kernel
theorem dX12_setsOff_117 : decode cX12_setsOff 117 = .ok (.aload_n 0, 1) := by decide +kernel
theorem dX12_setsOff_118 : decode cX12_setsOff 118 = .ok (.getfield 108, 3) := by decide +kernel
theorem dX12_setsOff_121 : decode cX12_setsOff 121 = .ok (.iload_n 1, 1) := by decide +kernel
theorem dX12_setsOff_122 : decode cX12_setsOff 122 = .ok (.iaload, 1) := by decide +kernel
theorem dX12_setsOff_123 : decode cX12_setsOff 123 = .ok (.aload_n 0, 1) := by decide +kernel
theorem dX12_setsOff_124 : decode cX12_setsOff 124 = .ok (.iload 5, 2) := by decide +kernel
theorem dX12_setsOff_126 : decode cX12_setsOff 126 = .ok (.iload_n 1, 1) := by decide +kernel
theorem dX12_setsOff_127 : decode cX12_setsOff 127 = .ok (.invokevirtual 450, 3) := by decide +kernel
theorem dX12_setsOff_130 : decode cX12_setsOff 130 = .ok (.iadd, 1) := by decide +kernel
theorem dX12_setsOff_131 : decode cX12_setsOff 131 = .ok (.iastore, 1) := by decide +kernel
theorem dX12_setsOff_132 : decode cX12_setsOff 132 = .ok (.aload_n 0, 1) := by decide +kernel
theorem dX12_setsOff_133 : decode cX12_setsOff 133 = .ok (.getfield 111, 3) := by decide +kernel
theorem dX12_setsOff_136 : decode cX12_setsOff 136 = .ok (.iload_n 1, 1) := by decide +kernel
theorem dX12_setsOff_137 : decode cX12_setsOff 137 = .ok (.aload_n 0, 1) := by decide +kernel
theorem dX12_setsOff_138 : decode cX12_setsOff 138 = .ok (.getfield 111, 3) := by decide +kernel
theorem dX12_setsOff_141 : decode cX12_setsOff 141 = .ok (.iload_n 1, 1) := by decide +kernel
theorem dX12_setsOff_142 : decode cX12_setsOff 142 = .ok (.iaload, 1) := by decide +kernel
theorem dX12_setsOff_143 : decode cX12_setsOff 143 = .ok (.aload_n 0, 1) := by decide +kernel
theorem dX12_setsOff_144 : decode cX12_setsOff 144 = .ok (.getfield 114, 3) := by decide +kernel
theorem dX12_setsOff_147 : decode cX12_setsOff 147 = .ok (.iload 5, 2) := by decide +kernel
theorem dX12_setsOff_149 : decode cX12_setsOff 149 = .ok (.iaload, 1) := by decide +kernel
theorem dX12_setsOff_150 : decode cX12_setsOff 150 = .ok (.invokestatic 508, 3) := by decide +kernel
theorem dX12_setsOff_153 : decode cX12_setsOff 153 = .ok (.iastore, 1) := by decide +kernel
theorem dX12_setsOff_154 : decode cX12_setsOff 154 = .ok (.iinc 5 1, 3) := by decide +kernel
theorem dX12_setsOff_157 : decode cX12_setsOff 157 = .ok (.goto (-67), 3) := by decide +kernel
theorem dX12_setsOff_160 : decode cX12_setsOff 160 = .ok (.aload_n 0, 1) := by decide +kernel
theorem dX12_setsOff_161 : decode cX12_setsOff 161 = .ok (.dup, 1) := by decide +kernel
theorem dX12_setsOff_162 : decode cX12_setsOff 162 = .ok (.getfield 485, 3) := by decide +kernel
theorem dX12_setsOff_165 : decode cX12_setsOff 165 = .ok (.aload_n 0, 1) := by decide +kernel
theorem dX12_setsOff_166 : decode cX12_setsOff 166 = .ok (.getfield 59, 3) := by decide +kernel
theorem dX12_setsOff_169 : decode cX12_setsOff 169 = .ok (.iload_n 1, 1) := by decide +kernel
theorem dX12_setsOff_170 : decode cX12_setsOff 170 = .ok (.iaload, 1) := by decide +kernel
theorem dX12_setsOff_171 : decode cX12_setsOff 171 = .ok (.isub, 1) := by decide +kernel
theorem dX12_setsOff_172 : decode cX12_setsOff 172 = .ok (.putfield 485, 3) := by decide +kernel
theorem dX12_setsOff_175 : decode cX12_setsOff 175 = .ok (.return_, 1) := by decide +kernel
theorem dX12_finished_0 : decode cX12_finished 0 = .ok (.iconst 0, 1) := by decide +kernel
theorem dX12_finished_1 : decode cX12_finished 1 = .ok (.istore_n 1, 1) := by decide +kernel
theorem dX12_finished_2 : decode cX12_finished 2 = .ok (.iconst 0, 1) := by decide +kernel
theorem dX12_finished_3 : decode cX12_finished 3 = .ok (.istore_n 2, 1) := by decide +kernel
theorem dX12_finished_4 : decode cX12_finished 4 = .ok (.iload_n 2, 1) := by decide +kernel
theorem dX12_finished_5 : decode cX12_finished 5 = .ok (.aload_n 0, 1) := by decide +kernel
theorem dX12_finished_6 : decode cX12_finished 6 = .ok (.getfield 171, 3) := by decide +kernel
theorem dX12_finished_9 : decode cX12_finished 9 = .ok (.if_icmp .ge 20, 3) := by decide +kernel
theorem dX12_finished_12 : decode cX12_finished 12 = .ok (.iload_n 1, 1) := by decide +kernel
theorem dX12_finished_13 : decode cX12_finished 13 = .ok (.aload_n 0, 1) := by decide +kernel
theorem dX12_finished_14 : decode cX12_finished 14 = .ok (.getfield 108, 3) := by decide +kernel
theorem dX12_finished_17 : decode cX12_finished 17 = .ok (.iload_n 2, 1) := by decide +kernel
theorem dX12_finished_18 : decode cX12_finished 18 = .ok (.iaload, 1) := by decide +kernel
theorem dX12_finished_19 : decode cX12_finished 19 = .ok (.invokestatic 508, 3) := by decide +kernel
theorem dX12_finished_22 : decode cX12_finished 22 = .ok (.istore_n 1, 1) := by decide +kernel
theorem dX12_finished_23 : decode cX12_finished 23 = .ok (.iinc 2 1, 3) := by decide +kernel
theorem dX12_finished_26 : decode cX12_finished 26 = .ok (.goto (-22), 3) := by decide +kernel
theorem dX12_finished_29 : decode cX12_finished 29 = .ok (.iload_n 1, 1) := by decide +kernel
theorem dX12_finished_30 : decode cX12_finished 30 = .ok (.ireturn, 1) := by decide +kernel
theorem dX12_remember_0 : decode cX12_remember 0 = .ok (.aload_n 0, 1) := by decide +kernel
theorem dX12_remember_1 : decode cX12_remember 1 = .ok (.getfield 420, 3) := by decide +kernel
theorem dX12_remember_4 : decode cX12_remember 4 = .ok (.bipush 8, 2) := by decide +kernel
theorem dX12_remember_6 : decode cX12_remember 6 = .ok (.if_icmp .ne 41, 3) := by decide +kernel
theorem dX12_remember_9 : decode cX12_remember 9 = .ok (.iconst 0, 1) := by decide +kernel
theorem dX12_remember_10 : decode cX12_remember 10 = .ok (.istore_n 1, 1) := by decide +kernel
theorem dX12_remember_11 : decode cX12_remember 11 = .ok (.iload_n 1, 1) := by decide +kernel
theorem dX12_remember_12 : decode cX12_remember 12 = .ok (.bipush 35, 2) := by decide +kernel
theorem dX12_remember_14 : decode cX12_remember 14 = .ok (.if_icmp .ge 23, 3) := by decide +kernel
theorem dX12_remember_17 : decode cX12_remember 17 = .ok (.aload_n 0, 1) := by decide +kernel
theorem dX12_remember_18 : decode cX12_remember 18 = .ok (.getfield 132, 3) := by decide +kernel
theorem dX12_remember_21 : decode cX12_remember 21 = .ok (.iload_n 1, 1) := by decide +kernel
theorem dX12_remember_22 : decode cX12_remember 22 = .ok (.aload_n 0, 1) := by decide +kernel
theorem dX12_remember_23 : decode cX12_remember 23 = .ok (.getfield 132, 3) := by decide +kernel
theorem dX12_remember_26 : decode cX12_remember 26 = .ok (.iload_n 1, 1) := by decide +kernel
theorem dX12_remember_27 : decode cX12_remember 27 = .ok (.iconst 5, 1) := by decide +kernel
theorem dX12_remember_28 : decode cX12_remember 28 = .ok (.iadd, 1) := by decide +kernel
theorem dX12_remember_29 : decode cX12_remember 29 = .ok (.iaload, 1) := by decide +kernel
theorem dX12_remember_30 : decode cX12_remember 30 = .ok (.iastore, 1) := by decide +kernel
theorem dX12_remember_31 : decode cX12_remember 31 = .ok (.iinc 1 1, 3) := by decide +kernel
theorem dX12_remember_34 : decode cX12_remember 34 = .ok (.goto (-23), 3) := by decide +kernel
theorem dX12_remember_37 : decode cX12_remember 37 = .ok (.aload_n 0, 1) := by decide +kernel
theorem dX12_remember_38 : decode cX12_remember 38 = .ok (.dup, 1) := by decide +kernel
theorem dX12_remember_39 : decode cX12_remember 39 = .ok (.getfield 420, 3) := by decide +kernel
theorem dX12_remember_42 : decode cX12_remember 42 = .ok (.iconst 1, 1) := by decide +kernel
theorem dX12_remember_43 : decode cX12_remember 43 = .ok (.isub, 1) := by decide +kernel
theorem dX12_remember_44 : decode cX12_remember 44 = .ok (.putfield 420, 3) := by decide +kernel
theorem dX12_remember_47 : decode cX12_remember 47 = .ok (.iconst 0, 1) := by decide +kernel
theorem dX12_remember_48 : decode cX12_remember 48 = .ok (.istore_n 1, 1) := by decide +kernel
theorem dX12_remember_49 : decode cX12_remember 49 = .ok (.iload_n 1, 1) := by decide +kernel
theorem dX12_remember_50 : decode cX12_remember 50 = .ok (.iconst 5, 1) := by decide +kernel
theorem dX12_remember_51 : decode cX12_remember 51 = .ok (.if_icmp .ge 28, 3) := by decide +kernel
theorem dX12_remember_54 : decode cX12_remember 54 = .ok (.aload_n 0, 1) := by decide +kernel
theorem dX12_remember_55 : decode cX12_remember 55 = .ok (.getfield 132, 3) := by decide +kernel
theorem dX12_remember_58 : decode cX12_remember 58 = .ok (.iconst 5, 1) := by decide +kernel
theorem dX12_remember_59 : decode cX12_remember 59 = .ok (.aload_n 0, 1) := by decide +kernel
theorem dX12_remember_60 : decode cX12_remember 60 = .ok (.getfield 420, 3) := by decide +kernel
theorem dX12_remember_63 : decode cX12_remember 63 = .ok (.imul, 1) := by decide +kernel
theorem dX12_remember_64 : decode cX12_remember 64 = .ok (.iload_n 1, 1) := by decide +kernel
theorem dX12_remember_65 : decode cX12_remember 65 = .ok (.iadd, 1) := by decide +kernel
theorem dX12_remember_66 : decode cX12_remember 66 = .ok (.aload_n 0, 1) := by decide +kernel
theorem dX12_remember_67 : decode cX12_remember 67 = .ok (.getfield 68, 3) := by decide +kernel
theorem dX12_remember_70 : decode cX12_remember 70 = .ok (.iload_n 1, 1) := by decide +kernel
theorem dX12_remember_71 : decode cX12_remember 71 = .ok (.iaload, 1) := by decide +kernel
theorem dX12_remember_72 : decode cX12_remember 72 = .ok (.iastore, 1) := by decide +kernel
theorem dX12_remember_73 : decode cX12_remember 73 = .ok (.iinc 1 1, 3) := by decide +kernel
theorem dX12_remember_76 : decode cX12_remember 76 = .ok (.goto (-27), 3) := by decide +kernel
theorem dX12_remember_79 : decode cX12_remember 79 = .ok (.aload_n 0, 1) := by decide +kernel
theorem dX12_remember_80 : decode cX12_remember 80 = .ok (.dup, 1) := by decide +kernel
theorem dX12_remember_81 : decode cX12_remember 81 = .ok (.getfield 420, 3) := by decide +kernel
theorem dX12_remember_84 : decode cX12_remember 84 = .ok (.iconst 1, 1) := by decide +kernel
theorem dX12_remember_85 : decode cX12_remember 85 = .ok (.iadd, 1) := by decide +kernel
theorem dX12_remember_86 : decode cX12_remember 86 = .ok (.putfield 420, 3) := by decide +kernel
theorem dX12_remember_89 : decode cX12_remember 89 = .ok (.return_, 1) := by decide +kernel
theorem dX12_setStart_0 : decode cX12_setStart 0 = .ok (.aload_n 0, 1) := by decide +kernel
theorem dX12_setStart_1 : decode cX12_setStart 1 = .ok (.iconst 0, 1) := by decide +kernel
theorem dX12_setStart_2 : decode cX12_setStart 2 = .ok (.putfield 150, 3) := by decide +kernel
theorem dX12_setStart_5 : decode cX12_setStart 5 = .ok (.aload_n 0, 1) := by decide +kernel
theorem dX12_setStart_6 : decode cX12_setStart 6 = .ok (.iload_n 1, 1) := by decide +kernel
theorem dX12_setStart_7 : decode cX12_setStart 7 = .ok (.invokevirtual 447, 3) := by decide +kernel
theorem dX12_setStart_10 : decode cX12_setStart 10 = .ok (.ifCond .ne 26, 3) := by decide +kernel
theorem dX12_setStart_13 : decode cX12_setStart 13 = .ok (.aload_n 0, 1) := by decide +kernel
theorem dX12_setStart_14 : decode cX12_setStart 14 = .ok (.iload_n 2, 1) := by decide +kernel
theorem dX12_setStart_15 : decode cX12_setStart 15 = .ok (.iconst (-1), 1) := by decide +kernel
theorem dX12_setStart_16 : decode cX12_setStart 16 = .ok (.bipush 23, 2) := by decide +kernel
theorem dX12_setStart_18 : decode cX12_setStart 18 = .ok (.invokestatic 210, 3) := by decide +kernel
theorem dX12_setStart_21 : decode cX12_setStart 21 = .ok (.ifCond .ne 7, 3) := by decide +kernel
theorem dX12_setStart_24 : decode cX12_setStart 24 = .ok (.iconst 1, 1) := by decide +kernel
theorem dX12_setStart_25 : decode cX12_setStart 25 = .ok (.goto 4, 3) := by decide +kernel
theorem dX12_setStart_28 : decode cX12_setStart 28 = .ok (.iconst 0, 1) := by decide +kernel
theorem dX12_setStart_29 : decode cX12_setStart 29 = .ok (.iconst 2, 1) := by decide +kernel
theorem dX12_setStart_30 : decode cX12_setStart 30 = .ok (.invokevirtual 438, 3) := by decide +kernel
theorem dX12_setStart_33 : decode cX12_setStart 33 = .ok (.ifCond .eq 5, 3) := by decide +kernel
theorem dX12_setStart_36 : decode cX12_setStart 36 = .ok (.iconst 0, 1) := by decide +kernel
theorem dX12_setStart_37 : decode cX12_setStart 37 = .ok (.ireturn, 1) := by decide +kernel
theorem dX12_setStart_38 : decode cX12_setStart 38 = .ok (.aload_n 0, 1) := by decide +kernel
theorem dX12_setStart_39 : decode cX12_setStart 39 = .ok (.invokevirtual 514, 3) := by decide +kernel
theorem dX12_setStart_42 : decode cX12_setStart 42 = .ok (.aload_n 0, 1) := by decide +kernel
theorem dX12_setStart_43 : decode cX12_setStart 43 = .ok (.getfield 68, 3) := by decide +kernel
theorem dX12_setStart_46 : decode cX12_setStart 46 = .ok (.iload_n 1, 1) := by decide +kernel
theorem dX12_setStart_47 : decode cX12_setStart 47 = .ok (.iaload, 1) := by decide +kernel
theorem dX12_setStart_48 : decode cX12_setStart 48 = .ok (.istore_n 3, 1) := by decide +kernel
theorem dX12_setStart_49 : decode cX12_setStart 49 = .ok (.aload_n 0, 1) := by decide +kernel
theorem dX12_setStart_50 : decode cX12_setStart 50 = .ok (.getfield 68, 3) := by decide +kernel
theorem dX12_setStart_53 : decode cX12_setStart 53 = .ok (.iload_n 1, 1) := by decide +kernel
theorem dX12_setStart_54 : decode cX12_setStart 54 = .ok (.iload_n 2, 1) := by decide +kernel
theorem dX12_setStart_55 : decode cX12_setStart 55 = .ok (.iastore, 1) := by decide +kernel
theorem dX12_setStart_56 : decode cX12_setStart 56 = .ok (.iload_n 3, 1) := by decide +kernel
theorem dX12_setStart_57 : decode cX12_setStart 57 = .ok (.ireturn, 1) := by decide +kernel
theorem dX12_start_0 : decode cX12_start 0 = .ok (.aload_n 0, 1) := by decide +kernel
theorem dX12_start_1 : decode cX12_start 1 = .ok (.iconst 0, 1) := by decide +kernel
theorem dX12_start_2 : decode cX12_start 2 = .ok (.putfield 150, 3) := by decide +kernel
theorem dX12_start_5 : decode cX12_start 5 = .ok (.aload_n 0, 1) := by decide +kernel
theorem dX12_start_6 : decode cX12_start 6 = .ok (.iload_n 1, 1) := by decide +kernel
theorem dX12_start_7 : decode cX12_start 7 = .ok (.invokevirtual 447, 3) := by decide +kernel
theorem dX12_start_10 : decode cX12_start 10 = .ok (.ifCond .eq 7, 3) := by decide +kernel
theorem dX12_start_13 : decode cX12_start 13 = .ok (.iconst 0, 1) := by decide +kernel
theorem dX12_start_14 : decode cX12_start 14 = .ok (.goto 9, 3) := by decide +kernel
theorem dX12_start_17 : decode cX12_start 17 = .ok (.aload_n 0, 1) := by decide +kernel
theorem dX12_start_18 : decode cX12_start 18 = .ok (.getfield 68, 3) := by decide +kernel
theorem dX12_start_21 : decode cX12_start 21 = .ok (.iload_n 1, 1) := by decide +kernel
theorem dX12_start_22 : decode cX12_start 22 = .ok (.iaload, 1) := by decide +kernel
theorem dX12_start_23 : decode cX12_start 23 = .ok (.ireturn, 1) := by decide +kernel
theorem dX12_clearStarts_0 : decode cX12_clearStarts 0 = .ok (.aload_n 0, 1) := by decide +kernel
theorem dX12_clearStarts_1 : decode cX12_clearStarts 1 = .ok (.iconst 0, 1) := by decide +kernel
theorem dX12_clearStarts_2 : decode cX12_clearStarts 2 = .ok (.putfield 150, 3) := by decide +kernel
theorem dX12_clearStarts_5 : decode cX12_clearStarts 5 = .ok (.aload_n 0, 1) := by decide +kernel
theorem dX12_clearStarts_6 : decode cX12_clearStarts 6 = .ok (.invokevirtual 514, 3) := by decide +kernel
theorem dX12_clearStarts_9 : decode cX12_clearStarts 9 = .ok (.iconst 0, 1) := by decide +kernel
theorem dX12_clearStarts_10 : decode cX12_clearStarts 10 = .ok (.istore_n 1, 1) := by decide +kernel
theorem dX12_clearStarts_11 : decode cX12_clearStarts 11 = .ok (.iconst 0, 1) := by decide +kernel
theorem dX12_clearStarts_12 : decode cX12_clearStarts 12 = .ok (.istore_n 2, 1) := by decide +kernel
theorem dX12_clearStarts_13 : decode cX12_clearStarts 13 = .ok (.iload_n 2, 1) := by decide +kernel
theorem dX12_clearStarts_14 : decode cX12_clearStarts 14 = .ok (.iconst 5, 1) := by decide +kernel
theorem dX12_clearStarts_15 : decode cX12_clearStarts 15 = .ok (.if_icmp .ge 37, 3) := by decide +kernel
theorem dX12_clearStarts_18 : decode cX12_clearStarts 18 = .ok (.iload_n 1, 1) := by decide +kernel
theorem dX12_clearStarts_19 : decode cX12_clearStarts 19 = .ok (.aload_n 0, 1) := by decide +kernel
theorem dX12_clearStarts_20 : decode cX12_clearStarts 20 = .ok (.getfield 68, 3) := by decide +kernel
theorem dX12_clearStarts_23 : decode cX12_clearStarts 23 = .ok (.iload_n 2, 1) := by decide +kernel
theorem dX12_clearStarts_24 : decode cX12_clearStarts 24 = .ok (.iaload, 1) := by decide +kernel
theorem dX12_clearStarts_25 : decode cX12_clearStarts 25 = .ok (.iconst (-1), 1) := by decide +kernel
theorem dX12_clearStarts_26 : decode cX12_clearStarts 26 = .ok (.if_icmp .eq 7, 3) := by decide +kernel
theorem dX12_clearStarts_29 : decode cX12_clearStarts 29 = .ok (.iconst 1, 1) := by decide +kernel
theorem dX12_clearStarts_30 : decode cX12_clearStarts 30 = .ok (.goto 4, 3) := by decide +kernel
theorem dX12_clearStarts_33 : decode cX12_clearStarts 33 = .ok (.iconst 0, 1) := by decide +kernel
theorem dX12_clearStarts_34 : decode cX12_clearStarts 34 = .ok (.invokestatic 453, 3) := by decide +kernel
theorem dX12_clearStarts_37 : decode cX12_clearStarts 37 = .ok (.iadd, 1) := by decide +kernel
theorem dX12_clearStarts_38 : decode cX12_clearStarts 38 = .ok (.istore_n 1, 1) := by decide +kernel
theorem dX12_clearStarts_39 : decode cX12_clearStarts 39 = .ok (.aload_n 0, 1) := by decide +kernel
theorem dX12_clearStarts_40 : decode cX12_clearStarts 40 = .ok (.getfield 68, 3) := by decide +kernel
theorem dX12_clearStarts_43 : decode cX12_clearStarts 43 = .ok (.iload_n 2, 1) := by decide +kernel
theorem dX12_clearStarts_44 : decode cX12_clearStarts 44 = .ok (.iconst (-1), 1) := by decide +kernel
theorem dX12_clearStarts_45 : decode cX12_clearStarts 45 = .ok (.iastore, 1) := by decide +kernel
theorem dX12_clearStarts_46 : decode cX12_clearStarts 46 = .ok (.iinc 2 1, 3) := by decide +kernel
theorem dX12_clearStarts_49 : decode cX12_clearStarts 49 = .ok (.goto (-36), 3) := by decide +kernel
theorem dX12_clearStarts_52 : decode cX12_clearStarts 52 = .ok (.iload_n 1, 1) := by decide +kernel
theorem dX12_clearStarts_53 : decode cX12_clearStarts 53 = .ok (.ireturn, 1) := by decide +kernel
theorem dX12_undo_0 : decode cX12_undo 0 = .ok (.aload_n 0, 1) := by decide +kernel
theorem dX12_undo_1 : decode cX12_undo 1 = .ok (.iconst 0, 1) := by decide +kernel
theorem dX12_undo_2 : decode cX12_undo 2 = .ok (.putfield 150, 3) := by decide +kernel
theorem dX12_undo_5 : decode cX12_undo 5 = .ok (.aload_n 0, 1) := by decide +kernel
theorem dX12_undo_6 : decode cX12_undo 6 = .ok (.getfield 420, 3) := by decide +kernel
theorem dX12_undo_9 : decode cX12_undo 9 = .ok (.ifCond .ne 5, 3) := by decide +kernel
theorem dX12_undo_12 : decode cX12_undo 12 = .ok (.iconst (-1), 1) := by decide +kernel
theorem dX12_undo_13 : decode cX12_undo 13 = .ok (.ireturn, 1) := by decide +kernel
theorem dX12_undo_14 : decode cX12_undo 14 = .ok (.aload_n 0, 1) := by decide +kernel
theorem dX12_undo_15 : decode cX12_undo 15 = .ok (.dup, 1) := by decide +kernel
theorem dX12_undo_16 : decode cX12_undo 16 = .ok (.getfield 420, 3) := by decide +kernel
theorem dX12_undo_19 : decode cX12_undo 19 = .ok (.iconst 1, 1) := by decide +kernel
theorem dX12_undo_20 : decode cX12_undo 20 = .ok (.isub, 1) := by decide +kernel
theorem dX12_undo_21 : decode cX12_undo 21 = .ok (.putfield 420, 3) := by decide +kernel
theorem dX12_undo_24 : decode cX12_undo 24 = .ok (.iconst 0, 1) := by decide +kernel
theorem dX12_undo_25 : decode cX12_undo 25 = .ok (.istore_n 1, 1) := by decide +kernel
theorem dX12_undo_26 : decode cX12_undo 26 = .ok (.iload_n 1, 1) := by decide +kernel
theorem dX12_undo_27 : decode cX12_undo 27 = .ok (.iconst 5, 1) := by decide +kernel
theorem dX12_undo_28 : decode cX12_undo 28 = .ok (.if_icmp .ge 28, 3) := by decide +kernel
theorem dX12_undo_31 : decode cX12_undo 31 = .ok (.aload_n 0, 1) := by decide +kernel
theorem dX12_undo_32 : decode cX12_undo 32 = .ok (.getfield 68, 3) := by decide +kernel
theorem dX12_undo_35 : decode cX12_undo 35 = .ok (.iload_n 1, 1) := by decide +kernel
theorem dX12_undo_36 : decode cX12_undo 36 = .ok (.aload_n 0, 1) := by decide +kernel
theorem dX12_undo_37 : decode cX12_undo 37 = .ok (.getfield 132, 3) := by decide +kernel
theorem dX12_undo_40 : decode cX12_undo 40 = .ok (.iconst 5, 1) := by decide +kernel
theorem dX12_undo_41 : decode cX12_undo 41 = .ok (.aload_n 0, 1) := by decide +kernel
theorem dX12_undo_42 : decode cX12_undo 42 = .ok (.getfield 420, 3) := by decide +kernel
theorem dX12_undo_45 : decode cX12_undo 45 = .ok (.imul, 1) := by decide +kernel
theorem dX12_undo_46 : decode cX12_undo 46 = .ok (.iload_n 1, 1) := by decide +kernel
theorem dX12_undo_47 : decode cX12_undo 47 = .ok (.iadd, 1) := by decide +kernel
theorem dX12_undo_48 : decode cX12_undo 48 = .ok (.iaload, 1) := by decide +kernel
theorem dX12_undo_49 : decode cX12_undo 49 = .ok (.iastore, 1) := by decide +kernel
theorem dX12_undo_50 : decode cX12_undo 50 = .ok (.iinc 1 1, 3) := by decide +kernel
theorem dX12_undo_53 : decode cX12_undo 53 = .ok (.goto (-27), 3) := by decide +kernel
theorem dX12_undo_56 : decode cX12_undo 56 = .ok (.aload_n 0, 1) := by decide +kernel
theorem dX12_undo_57 : decode cX12_undo 57 = .ok (.getfield 420, 3) := by decide +kernel
theorem dX12_undo_60 : decode cX12_undo 60 = .ok (.ireturn, 1) := by decide +kernel
theorem dX12_violation_0 : decode cX12_violation 0 = .ok (.aload_n 0, 1) := by decide +kernel
theorem dX12_violation_1 : decode cX12_violation 1 = .ok (.getfield 517, 3) := by decide +kernel
theorem dX12_violation_4 : decode cX12_violation 4 = .ok (.iload_n 1, 1) := by decide +kernel
theorem dX12_violation_5 : decode cX12_violation 5 = .ok (.if_icmp .ne 19, 3) := by decide +kernel
theorem dX12_violation_8 : decode cX12_violation 8 = .ok (.aload_n 0, 1) := by decide +kernel
theorem dX12_violation_9 : decode cX12_violation 9 = .ok (.iload_n 2, 1) := by decide +kernel
theorem dX12_violation_10 : decode cX12_violation 10 = .ok (.putfield 520, 3) := by decide +kernel
theorem dX12_violation_13 : decode cX12_violation 13 = .ok (.aload_n 0, 1) := by decide +kernel
theorem dX12_violation_14 : decode cX12_violation 14 = .ok (.iload_n 3, 1) := by decide +kernel
theorem dX12_violation_15 : decode cX12_violation 15 = .ok (.putfield 523, 3) := by decide +kernel
theorem dX12_violation_18 : decode cX12_violation 18 = .ok (.aload_n 0, 1) := by decide +kernel
theorem dX12_violation_19 : decode cX12_violation 19 = .ok (.iload 4, 2) := by decide +kernel
theorem dX12_violation_21 : decode cX12_violation 21 = .ok (.putfield 526, 3) := by decide +kernel
theorem dX12_violation_24 : decode cX12_violation 24 = .ok (.aload_n 0, 1) := by decide +kernel
theorem dX12_violation_25 : decode cX12_violation 25 = .ok (.dup, 1) := by decide +kernel
theorem dX12_violation_26 : decode cX12_violation 26 = .ok (.getfield 517, 3) := by decide +kernel
theorem dX12_violation_29 : decode cX12_violation 29 = .ok (.iconst 1, 1) := by decide +kernel
theorem dX12_violation_30 : decode cX12_violation 30 = .ok (.iadd, 1) := by decide +kernel
theorem dX12_violation_31 : decode cX12_violation 31 = .ok (.putfield 517, 3) := by decide +kernel
theorem dX12_violation_34 : decode cX12_violation 34 = .ok (.return_, 1) := by decide +kernel
theorem dX12_lowest_0 : decode cX12_lowest 0 = .ok (.iconst 0, 1) := by decide +kernel
theorem dX12_lowest_1 : decode cX12_lowest 1 = .ok (.istore_n 1, 1) := by decide +kernel
theorem dX12_lowest_2 : decode cX12_lowest 2 = .ok (.iload_n 0, 1) := by decide +kernel
theorem dX12_lowest_3 : decode cX12_lowest 3 = .ok (.iload_n 1, 1) := by decide +kernel
theorem dX12_lowest_4 : decode cX12_lowest 4 = .ok (.invokestatic 363, 3) := by decide +kernel
theorem dX12_lowest_7 : decode cX12_lowest 7 = .ok (.ifCond .ne 9, 3) := by decide +kernel
theorem dX12_lowest_10 : decode cX12_lowest 10 = .ok (.iinc 1 1, 3) := by decide +kernel
theorem dX12_lowest_13 : decode cX12_lowest 13 = .ok (.goto (-11), 3) := by decide +kernel
theorem dX12_lowest_16 : decode cX12_lowest 16 = .ok (.iload_n 1, 1) := by decide +kernel
theorem dX12_lowest_17 : decode cX12_lowest 17 = .ok (.ireturn, 1) := by decide +kernel
theorem dX12_keepStarts_0 : decode cX12_keepStarts 0 = .ok (.iconst 0, 1) := by decide +kernel
theorem dX12_keepStarts_1 : decode cX12_keepStarts 1 = .ok (.istore_n 1, 1) := by decide +kernel
theorem dX12_keepStarts_2 : decode cX12_keepStarts 2 = .ok (.iload_n 1, 1) := by decide +kernel
theorem dX12_keepStarts_3 : decode cX12_keepStarts 3 = .ok (.iconst 5, 1) := by decide +kernel
theorem dX12_keepStarts_4 : decode cX12_keepStarts 4 = .ok (.if_icmp .ge 28, 3) := by decide +kernel
theorem dX12_keepStarts_7 : decode cX12_keepStarts 7 = .ok (.aload_n 0, 1) := by decide +kernel
theorem dX12_keepStarts_8 : decode cX12_keepStarts 8 = .ok (.getfield 138, 3) := by decide +kernel
theorem dX12_keepStarts_11 : decode cX12_keepStarts 11 = .ok (.iload_n 1, 1) := by decide +kernel
theorem dX12_keepStarts_12 : decode cX12_keepStarts 12 = .ok (.aload_n 0, 1) := by decide +kernel
theorem dX12_keepStarts_13 : decode cX12_keepStarts 13 = .ok (.getfield 68, 3) := by decide +kernel
theorem dX12_keepStarts_16 : decode cX12_keepStarts 16 = .ok (.iload_n 1, 1) := by decide +kernel
theorem dX12_keepStarts_17 : decode cX12_keepStarts 17 = .ok (.iaload, 1) := by decide +kernel
theorem dX12_keepStarts_18 : decode cX12_keepStarts 18 = .ok (.iastore, 1) := by decide +kernel
theorem dX12_keepStarts_19 : decode cX12_keepStarts 19 = .ok (.aload_n 0, 1) := by decide +kernel
theorem dX12_keepStarts_20 : decode cX12_keepStarts 20 = .ok (.getfield 68, 3) := by decide +kernel
theorem dX12_keepStarts_23 : decode cX12_keepStarts 23 = .ok (.iload_n 1, 1) := by decide +kernel
theorem dX12_keepStarts_24 : decode cX12_keepStarts 24 = .ok (.iconst (-1), 1) := by decide +kernel
theorem dX12_keepStarts_25 : decode cX12_keepStarts 25 = .ok (.iastore, 1) := by decide +kernel
theorem dX12_keepStarts_26 : decode cX12_keepStarts 26 = .ok (.iinc 1 1, 3) := by decide +kernel
theorem dX12_keepStarts_29 : decode cX12_keepStarts 29 = .ok (.goto (-27), 3) := by decide +kernel
theorem dX12_keepStarts_32 : decode cX12_keepStarts 32 = .ok (.return_, 1) := by decide +kernel
theorem dX12_putBack_0 : decode cX12_putBack 0 = .ok (.iconst 0, 1) := by decide +kernel
theorem dX12_putBack_1 : decode cX12_putBack 1 = .ok (.istore_n 1, 1) := by decide +kernel
theorem dX12_putBack_2 : decode cX12_putBack 2 = .ok (.iload_n 1, 1) := by decide +kernel
theorem dX12_putBack_3 : decode cX12_putBack 3 = .ok (.iconst 5, 1) := by decide +kernel
theorem dX12_putBack_4 : decode cX12_putBack 4 = .ok (.if_icmp .ge 21, 3) := by decide +kernel
theorem dX12_putBack_7 : decode cX12_putBack 7 = .ok (.aload_n 0, 1) := by decide +kernel
theorem dX12_putBack_8 : decode cX12_putBack 8 = .ok (.getfield 68, 3) := by decide +kernel
theorem dX12_putBack_11 : decode cX12_putBack 11 = .ok (.iload_n 1, 1) := by decide +kernel
theorem dX12_putBack_12 : decode cX12_putBack 12 = .ok (.aload_n 0, 1) := by decide +kernel
theorem dX12_putBack_13 : decode cX12_putBack 13 = .ok (.getfield 138, 3) := by decide +kernel
theorem dX12_putBack_16 : decode cX12_putBack 16 = .ok (.iload_n 1, 1) := by decide +kernel
theorem dX12_putBack_17 : decode cX12_putBack 17 = .ok (.iaload, 1) := by decide +kernel
theorem dX12_putBack_18 : decode cX12_putBack 18 = .ok (.iastore, 1) := by decide +kernel
theorem dX12_putBack_19 : decode cX12_putBack 19 = .ok (.iinc 1 1, 3) := by decide +kernel
theorem dX12_putBack_22 : decode cX12_putBack 22 = .ok (.goto (-20), 3) := by decide +kernel
theorem dX12_putBack_25 : decode cX12_putBack 25 = .ok (.return_, 1) := by decide +kernel
theorem dX12_readOrder_0 : decode cX12_readOrder 0 = .ok (.iconst 0, 1) := by decide +kernel
theorem dX12_readOrder_1 : decode cX12_readOrder 1 = .ok (.istore_n 2, 1) := by decide +kernel
theorem dX12_readOrder_2 : decode cX12_readOrder 2 = .ok (.iconst 0, 1) := by decide +kernel
theorem dX12_readOrder_3 : decode cX12_readOrder 3 = .ok (.istore_n 3, 1) := by decide +kernel
theorem dX12_readOrder_4 : decode cX12_readOrder 4 = .ok (.iload_n 1, 1) := by decide +kernel
theorem dX12_readOrder_5 : decode cX12_readOrder 5 = .ok (.istore 4, 2) := by decide +kernel
theorem dX12_readOrder_7 : decode cX12_readOrder 7 = .ok (.iload 4, 2) := by decide +kernel
theorem dX12_readOrder_9 : decode cX12_readOrder 9 = .ok (.ifCond .le 66, 3) := by decide +kernel
theorem dX12_readOrder_12 : decode cX12_readOrder 12 = .ok (.iload 4, 2) := by decide +kernel
theorem dX12_readOrder_14 : decode cX12_readOrder 14 = .ok (.bipush 10, 2) := by decide +kernel
theorem dX12_readOrder_16 : decode cX12_readOrder 16 = .ok (.irem, 1) := by decide +kernel
theorem dX12_readOrder_17 : decode cX12_readOrder 17 = .ok (.iconst 1, 1) := by decide +kernel
theorem dX12_readOrder_18 : decode cX12_readOrder 18 = .ok (.isub, 1) := by decide +kernel
theorem dX12_readOrder_19 : decode cX12_readOrder 19 = .ok (.istore 5, 2) := by decide +kernel
theorem dX12_readOrder_21 : decode cX12_readOrder 21 = .ok (.iload 5, 2) := by decide +kernel
theorem dX12_readOrder_23 : decode cX12_readOrder 23 = .ok (.iconst 0, 1) := by decide +kernel
theorem dX12_readOrder_24 : decode cX12_readOrder 24 = .ok (.aload_n 0, 1) := by decide +kernel
theorem dX12_readOrder_25 : decode cX12_readOrder 25 = .ok (.getfield 171, 3) := by decide +kernel
theorem dX12_readOrder_28 : decode cX12_readOrder 28 = .ok (.iconst 1, 1) := by decide +kernel
theorem dX12_readOrder_29 : decode cX12_readOrder 29 = .ok (.isub, 1) := by decide +kernel
theorem dX12_readOrder_30 : decode cX12_readOrder 30 = .ok (.invokestatic 210, 3) := by decide +kernel
theorem dX12_readOrder_33 : decode cX12_readOrder 33 = .ok (.ifCond .eq 12, 3) := by decide +kernel
theorem dX12_readOrder_36 : decode cX12_readOrder 36 = .ok (.iload_n 3, 1) := by decide +kernel
theorem dX12_readOrder_37 : decode cX12_readOrder 37 = .ok (.iload 5, 2) := by decide +kernel
theorem dX12_readOrder_39 : decode cX12_readOrder 39 = .ok (.invokestatic 363, 3) := by decide +kernel
theorem dX12_readOrder_42 : decode cX12_readOrder 42 = .ok (.ifCond .eq 5, 3) := by decide +kernel
theorem dX12_readOrder_45 : decode cX12_readOrder 45 = .ok (.iconst (-1), 1) := by decide +kernel
theorem dX12_readOrder_46 : decode cX12_readOrder 46 = .ok (.ireturn, 1) := by decide +kernel
theorem dX12_readOrder_47 : decode cX12_readOrder 47 = .ok (.iload_n 3, 1) := by decide +kernel
theorem dX12_readOrder_48 : decode cX12_readOrder 48 = .ok (.iconst 1, 1) := by decide +kernel
theorem dX12_readOrder_49 : decode cX12_readOrder 49 = .ok (.iload 5, 2) := by decide +kernel
theorem dX12_readOrder_51 : decode cX12_readOrder 51 = .ok (.ishl, 1) := by decide +kernel
theorem dX12_readOrder_52 : decode cX12_readOrder 52 = .ok (.ior, 1) := by decide +kernel
theorem dX12_readOrder_53 : decode cX12_readOrder 53 = .ok (.istore_n 3, 1) := by decide +kernel
theorem dX12_readOrder_54 : decode cX12_readOrder 54 = .ok (.aload_n 0, 1) := by decide +kernel
theorem dX12_readOrder_55 : decode cX12_readOrder 55 = .ok (.getfield 135, 3) := by decide +kernel
theorem dX12_readOrder_58 : decode cX12_readOrder 58 = .ok (.iload_n 2, 1) := by decide +kernel
theorem dX12_readOrder_59 : decode cX12_readOrder 59 = .ok (.iload 5, 2) := by decide +kernel
theorem dX12_readOrder_61 : decode cX12_readOrder 61 = .ok (.iastore, 1) := by decide +kernel
theorem dX12_readOrder_62 : decode cX12_readOrder 62 = .ok (.iinc 2 1, 3) := by decide +kernel
theorem dX12_readOrder_65 : decode cX12_readOrder 65 = .ok (.iload 4, 2) := by decide +kernel
theorem dX12_readOrder_67 : decode cX12_readOrder 67 = .ok (.bipush 10, 2) := by decide +kernel
theorem dX12_readOrder_69 : decode cX12_readOrder 69 = .ok (.idiv, 1) := by decide +kernel
theorem dX12_readOrder_70 : decode cX12_readOrder 70 = .ok (.istore 4, 2) := by decide +kernel
theorem dX12_readOrder_72 : decode cX12_readOrder 72 = .ok (.goto (-65), 3) := by decide +kernel
theorem dX12_readOrder_75 : decode cX12_readOrder 75 = .ok (.iload_n 2, 1) := by decide +kernel
theorem dX12_readOrder_76 : decode cX12_readOrder 76 = .ok (.ireturn, 1) := by decide +kernel
theorem dJ6_bitCount_0f7a4_0 : decode cJ6_bitCount_0f7a4 0 = .ok (.iload_n 0, 1) := by decide +kernel
theorem dJ6_bitCount_0f7a4_1 : decode cJ6_bitCount_0f7a4 1 = .ok (.iload_n 0, 1) := by decide +kernel
theorem dJ6_bitCount_0f7a4_2 : decode cJ6_bitCount_0f7a4 2 = .ok (.iconst 1, 1) := by decide +kernel
theorem dJ6_bitCount_0f7a4_3 : decode cJ6_bitCount_0f7a4 3 = .ok (.iushr, 1) := by decide +kernel
theorem dJ6_bitCount_0f7a4_4 : decode cJ6_bitCount_0f7a4 4 = .ok (.ldc_w 265, 3) := by decide +kernel
theorem dJ6_bitCount_0f7a4_7 : decode cJ6_bitCount_0f7a4 7 = .ok (.iand, 1) := by decide +kernel
theorem dJ6_bitCount_0f7a4_8 : decode cJ6_bitCount_0f7a4 8 = .ok (.isub, 1) := by decide +kernel
theorem dJ6_bitCount_0f7a4_9 : decode cJ6_bitCount_0f7a4 9 = .ok (.istore_n 0, 1) := by decide +kernel
theorem dJ6_bitCount_0f7a4_10 : decode cJ6_bitCount_0f7a4 10 = .ok (.iload_n 0, 1) := by decide +kernel
theorem dJ6_bitCount_0f7a4_11 : decode cJ6_bitCount_0f7a4 11 = .ok (.ldc_w 266, 3) := by decide +kernel
theorem dJ6_bitCount_0f7a4_14 : decode cJ6_bitCount_0f7a4 14 = .ok (.iand, 1) := by decide +kernel
theorem dJ6_bitCount_0f7a4_15 : decode cJ6_bitCount_0f7a4 15 = .ok (.iload_n 0, 1) := by decide +kernel
theorem dJ6_bitCount_0f7a4_16 : decode cJ6_bitCount_0f7a4 16 = .ok (.iconst 2, 1) := by decide +kernel
theorem dJ6_bitCount_0f7a4_17 : decode cJ6_bitCount_0f7a4 17 = .ok (.iushr, 1) := by decide +kernel
theorem dJ6_bitCount_0f7a4_18 : decode cJ6_bitCount_0f7a4 18 = .ok (.ldc_w 266, 3) := by decide +kernel
theorem dJ6_bitCount_0f7a4_21 : decode cJ6_bitCount_0f7a4 21 = .ok (.iand, 1) := by decide +kernel
theorem dJ6_bitCount_0f7a4_22 : decode cJ6_bitCount_0f7a4 22 = .ok (.iadd, 1) := by decide +kernel
theorem dJ6_bitCount_0f7a4_23 : decode cJ6_bitCount_0f7a4 23 = .ok (.istore_n 0, 1) := by decide +kernel
theorem dJ6_bitCount_0f7a4_24 : decode cJ6_bitCount_0f7a4 24 = .ok (.iload_n 0, 1) := by decide +kernel
theorem dJ6_bitCount_0f7a4_25 : decode cJ6_bitCount_0f7a4 25 = .ok (.iload_n 0, 1) := by decide +kernel
theorem dJ6_bitCount_0f7a4_26 : decode cJ6_bitCount_0f7a4 26 = .ok (.iconst 4, 1) := by decide +kernel
theorem dJ6_bitCount_0f7a4_27 : decode cJ6_bitCount_0f7a4 27 = .ok (.iushr, 1) := by decide +kernel
theorem dJ6_bitCount_0f7a4_28 : decode cJ6_bitCount_0f7a4 28 = .ok (.iadd, 1) := by decide +kernel
theorem dJ6_bitCount_0f7a4_29 : decode cJ6_bitCount_0f7a4 29 = .ok (.ldc_w 267, 3) := by decide +kernel
theorem dJ6_bitCount_0f7a4_32 : decode cJ6_bitCount_0f7a4 32 = .ok (.iand, 1) := by decide +kernel
theorem dJ6_bitCount_0f7a4_33 : decode cJ6_bitCount_0f7a4 33 = .ok (.istore_n 0, 1) := by decide +kernel
theorem dJ6_bitCount_0f7a4_34 : decode cJ6_bitCount_0f7a4 34 = .ok (.iload_n 0, 1) := by decide +kernel
theorem dJ6_bitCount_0f7a4_35 : decode cJ6_bitCount_0f7a4 35 = .ok (.iload_n 0, 1) := by decide +kernel
theorem dJ6_bitCount_0f7a4_36 : decode cJ6_bitCount_0f7a4 36 = .ok (.bipush 8, 2) := by decide +kernel
theorem dJ6_bitCount_0f7a4_38 : decode cJ6_bitCount_0f7a4 38 = .ok (.iushr, 1) := by decide +kernel
theorem dJ6_bitCount_0f7a4_39 : decode cJ6_bitCount_0f7a4 39 = .ok (.iadd, 1) := by decide +kernel
theorem dJ6_bitCount_0f7a4_40 : decode cJ6_bitCount_0f7a4 40 = .ok (.istore_n 0, 1) := by decide +kernel
theorem dJ6_bitCount_0f7a4_41 : decode cJ6_bitCount_0f7a4 41 = .ok (.iload_n 0, 1) := by decide +kernel
theorem dJ6_bitCount_0f7a4_42 : decode cJ6_bitCount_0f7a4 42 = .ok (.iload_n 0, 1) := by decide +kernel
theorem dJ6_bitCount_0f7a4_43 : decode cJ6_bitCount_0f7a4 43 = .ok (.bipush 16, 2) := by decide +kernel
theorem dJ6_bitCount_0f7a4_45 : decode cJ6_bitCount_0f7a4 45 = .ok (.iushr, 1) := by decide +kernel
theorem dJ6_bitCount_0f7a4_46 : decode cJ6_bitCount_0f7a4 46 = .ok (.iadd, 1) := by decide +kernel
theorem dJ6_bitCount_0f7a4_47 : decode cJ6_bitCount_0f7a4 47 = .ok (.istore_n 0, 1) := by decide +kernel
theorem dJ6_bitCount_0f7a4_48 : decode cJ6_bitCount_0f7a4 48 = .ok (.iload_n 0, 1) := by decide +kernel
theorem dJ6_bitCount_0f7a4_49 : decode cJ6_bitCount_0f7a4 49 = .ok (.bipush 63, 2) := by decide +kernel
theorem dJ6_bitCount_0f7a4_51 : decode cJ6_bitCount_0f7a4 51 = .ok (.iand, 1) := by decide +kernel
theorem dJ6_bitCount_0f7a4_52 : decode cJ6_bitCount_0f7a4 52 = .ok (.ireturn, 1) := by decide +kernel
theorem dJ0_coder_7d493_0 : decode cJ0_coder_7d493 0 = .ok (.getstatic 38, 3) := by decide +kernel
theorem dJ0_coder_7d493_3 : decode cJ0_coder_7d493 3 = .ok (.ifCond .eq 10, 3) := by decide +kernel
theorem dJ0_coder_7d493_6 : decode cJ0_coder_7d493 6 = .ok (.aload_n 0, 1) := by decide +kernel
theorem dJ0_coder_7d493_7 : decode cJ0_coder_7d493 7 = .ok (.getfield 15, 3) := by decide +kernel
theorem dJ0_coder_7d493_10 : decode cJ0_coder_7d493 10 = .ok (.goto 4, 3) := by decide +kernel
theorem dJ0_coder_7d493_13 : decode cJ0_coder_7d493 13 = .ok (.iconst 1, 1) := by decide +kernel
theorem dJ0_coder_7d493_14 : decode cJ0_coder_7d493 14 = .ok (.ireturn, 1) := by decide +kernel
theorem dJ0_isLatin1_aae02_0 : decode cJ0_isLatin1_aae02 0 = .ok (.getstatic 38, 3) := by decide +kernel
theorem dJ0_isLatin1_aae02_3 : decode cJ0_isLatin1_aae02 3 = .ok (.ifCond .eq 14, 3) := by decide +kernel
theorem dJ0_isLatin1_aae02_6 : decode cJ0_isLatin1_aae02 6 = .ok (.aload_n 0, 1) := by decide +kernel
theorem dJ0_isLatin1_aae02_7 : decode cJ0_isLatin1_aae02 7 = .ok (.getfield 15, 3) := by decide +kernel
theorem dJ0_isLatin1_aae02_10 : decode cJ0_isLatin1_aae02 10 = .ok (.ifCond .ne 7, 3) := by decide +kernel
theorem dJ0_isLatin1_aae02_13 : decode cJ0_isLatin1_aae02 13 = .ok (.iconst 1, 1) := by decide +kernel
theorem dJ0_isLatin1_aae02_14 : decode cJ0_isLatin1_aae02 14 = .ok (.goto 4, 3) := by decide +kernel
theorem dJ0_isLatin1_aae02_17 : decode cJ0_isLatin1_aae02 17 = .ok (.iconst 0, 1) := by decide +kernel
theorem dJ0_isLatin1_aae02_18 : decode cJ0_isLatin1_aae02 18 = .ok (.ireturn, 1) := by decide +kernel
theorem dJ1_charAt_3b067_0 : decode cJ1_charAt_3b067 0 = .ok (.iload_n 1, 1) := by decide +kernel
theorem dJ1_charAt_3b067_1 : decode cJ1_charAt_3b067 1 = .ok (.aload_n 0, 1) := by decide +kernel
theorem dJ1_charAt_3b067_2 : decode cJ1_charAt_3b067 2 = .ok (.arraylength, 1) := by decide +kernel
theorem dJ1_charAt_3b067_3 : decode cJ1_charAt_3b067 3 = .ok (.invokestatic 9, 3) := by decide +kernel
theorem dJ1_charAt_3b067_6 : decode cJ1_charAt_3b067 6 = .ok (.aload_n 0, 1) := by decide +kernel
theorem dJ1_charAt_3b067_7 : decode cJ1_charAt_3b067 7 = .ok (.iload_n 1, 1) := by decide +kernel
theorem dJ1_charAt_3b067_8 : decode cJ1_charAt_3b067 8 = .ok (.baload, 1) := by decide +kernel
theorem dJ1_charAt_3b067_9 : decode cJ1_charAt_3b067 9 = .ok (.sipush 255, 3) := by decide +kernel
theorem dJ1_charAt_3b067_12 : decode cJ1_charAt_3b067 12 = .ok (.iand, 1) := by decide +kernel
theorem dJ1_charAt_3b067_13 : decode cJ1_charAt_3b067 13 = .ok (.i2c, 1) := by decide +kernel
theorem dJ1_charAt_3b067_14 : decode cJ1_charAt_3b067 14 = .ok (.ireturn, 1) := by decide +kernel
theorem dJ7_fill_53178_0 : decode cJ7_fill_53178 0 = .ok (.iconst 0, 1) := by decide +kernel
theorem dJ7_fill_53178_1 : decode cJ7_fill_53178 1 = .ok (.istore_n 2, 1) := by decide +kernel
theorem dJ7_fill_53178_2 : decode cJ7_fill_53178 2 = .ok (.aload_n 0, 1) := by decide +kernel
theorem dJ7_fill_53178_3 : decode cJ7_fill_53178 3 = .ok (.arraylength, 1) := by decide +kernel
theorem dJ7_fill_53178_4 : decode cJ7_fill_53178 4 = .ok (.istore_n 3, 1) := by decide +kernel
theorem dJ7_fill_53178_5 : decode cJ7_fill_53178 5 = .ok (.iload_n 2, 1) := by decide +kernel
theorem dJ7_fill_53178_6 : decode cJ7_fill_53178 6 = .ok (.iload_n 3, 1) := by decide +kernel
theorem dJ7_fill_53178_7 : decode cJ7_fill_53178 7 = .ok (.if_icmp .ge 13, 3) := by decide +kernel
theorem dJ7_fill_53178_10 : decode cJ7_fill_53178 10 = .ok (.aload_n 0, 1) := by decide +kernel
theorem dJ7_fill_53178_11 : decode cJ7_fill_53178 11 = .ok (.iload_n 2, 1) := by decide +kernel
theorem dJ7_fill_53178_12 : decode cJ7_fill_53178 12 = .ok (.iload_n 1, 1) := by decide +kernel
theorem dJ7_fill_53178_13 : decode cJ7_fill_53178 13 = .ok (.iastore, 1) := by decide +kernel
theorem dJ7_fill_53178_14 : decode cJ7_fill_53178 14 = .ok (.iinc 2 1, 3) := by decide +kernel
theorem dJ7_fill_53178_17 : decode cJ7_fill_53178 17 = .ok (.goto (-12), 3) := by decide +kernel
theorem dJ7_fill_53178_20 : decode cJ7_fill_53178 20 = .ok (.return_, 1) := by decide +kernel
theorem dX0_clear_0 : decode cX0_clear 0 = .ok (.aload_n 0, 1) := by decide +kernel
theorem dX0_clear_1 : decode cX0_clear 1 = .ok (.getfield 12, 3) := by decide +kernel
theorem dX0_clear_4 : decode cX0_clear 4 = .ok (.iconst 0, 1) := by decide +kernel
theorem dX0_clear_5 : decode cX0_clear 5 = .ok (.putfield 47, 3) := by decide +kernel
theorem dX0_clear_8 : decode cX0_clear 8 = .ok (.aload_n 0, 1) := by decide +kernel
theorem dX0_clear_9 : decode cX0_clear 9 = .ok (.getfield 21, 3) := by decide +kernel
theorem dX0_clear_12 : decode cX0_clear 12 = .ok (.iconst 0, 1) := by decide +kernel
theorem dX0_clear_13 : decode cX0_clear 13 = .ok (.putfield 51, 3) := by decide +kernel
theorem dX0_clear_16 : decode cX0_clear 16 = .ok (.aload_n 0, 1) := by decide +kernel
theorem dX0_clear_17 : decode cX0_clear 17 = .ok (.iconst 0, 1) := by decide +kernel
theorem dX0_clear_18 : decode cX0_clear 18 = .ok (.putfield 52, 3) := by decide +kernel
theorem dX0_clear_21 : decode cX0_clear 21 = .ok (.aload_n 0, 1) := by decide +kernel
theorem dX0_clear_22 : decode cX0_clear 22 = .ok (.iconst 0, 1) := by decide +kernel
theorem dX0_clear_23 : decode cX0_clear 23 = .ok (.putfield 55, 3) := by decide +kernel
theorem dX0_clear_26 : decode cX0_clear 26 = .ok (.aload_n 0, 1) := by decide +kernel
theorem dX0_clear_27 : decode cX0_clear 27 = .ok (.iconst 0, 1) := by decide +kernel
theorem dX0_clear_28 : decode cX0_clear 28 = .ok (.putfield 58, 3) := by decide +kernel
theorem dX0_clear_31 : decode cX0_clear 31 = .ok (.aload_n 0, 1) := by decide +kernel
theorem dX0_clear_32 : decode cX0_clear 32 = .ok (.iconst 0, 1) := by decide +kernel
theorem dX0_clear_33 : decode cX0_clear 33 = .ok (.putfield 61, 3) := by decide +kernel
theorem dX0_clear_36 : decode cX0_clear 36 = .ok (.aload_n 0, 1) := by decide +kernel
theorem dX0_clear_37 : decode cX0_clear 37 = .ok (.iconst 0, 1) := by decide +kernel
theorem dX0_clear_38 : decode cX0_clear 38 = .ok (.putfield 64, 3) := by decide +kernel
theorem dX0_clear_41 : decode cX0_clear 41 = .ok (.aload_n 0, 1) := by decide +kernel
theorem dX0_clear_42 : decode cX0_clear 42 = .ok (.bipush 30, 2) := by decide +kernel
theorem dX0_clear_44 : decode cX0_clear 44 = .ok (.putfield 67, 3) := by decide +kernel
theorem dX0_clear_47 : decode cX0_clear 47 = .ok (.aload_n 0, 1) := by decide +kernel
theorem dX0_clear_48 : decode cX0_clear 48 = .ok (.iconst 0, 1) := by decide +kernel
theorem dX0_clear_49 : decode cX0_clear 49 = .ok (.putfield 70, 3) := by decide +kernel
theorem dX0_clear_52 : decode cX0_clear 52 = .ok (.aload_n 0, 1) := by decide +kernel
theorem dX0_clear_53 : decode cX0_clear 53 = .ok (.iconst 1, 1) := by decide +kernel
theorem dX0_clear_54 : decode cX0_clear 54 = .ok (.putfield 73, 3) := by decide +kernel
theorem dX0_clear_57 : decode cX0_clear 57 = .ok (.aload_n 0, 1) := by decide +kernel
theorem dX0_clear_58 : decode cX0_clear 58 = .ok (.iconst 1, 1) := by decide +kernel
theorem dX0_clear_59 : decode cX0_clear 59 = .ok (.putfield 76, 3) := by decide +kernel
theorem dX0_clear_62 : decode cX0_clear 62 = .ok (.aload_n 0, 1) := by decide +kernel
theorem dX0_clear_63 : decode cX0_clear 63 = .ok (.getfield 32, 3) := by decide +kernel
theorem dX0_clear_66 : decode cX0_clear 66 = .ok (.ldc 79, 2) := by decide +kernel
theorem dX0_clear_68 : decode cX0_clear 68 = .ok (.invokestatic 80, 3) := by decide +kernel
theorem dX0_clear_71 : decode cX0_clear 71 = .ok (.iconst 0, 1) := by decide +kernel
theorem dX0_clear_72 : decode cX0_clear 72 = .ok (.istore_n 1, 1) := by decide +kernel
theorem dX0_clear_73 : decode cX0_clear 73 = .ok (.iload_n 1, 1) := by decide +kernel
theorem dX0_clear_74 : decode cX0_clear 74 = .ok (.bipush 12, 2) := by decide +kernel
theorem dX0_clear_76 : decode cX0_clear 76 = .ok (.if_icmp .ge 23, 3) := by decide +kernel
theorem dX0_clear_79 : decode cX0_clear 79 = .ok (.aload_n 0, 1) := by decide +kernel
theorem dX0_clear_80 : decode cX0_clear 80 = .ok (.getfield 32, 3) := by decide +kernel
theorem dX0_clear_83 : decode cX0_clear 83 = .ok (.iload_n 1, 1) := by decide +kernel
theorem dX0_clear_84 : decode cX0_clear 84 = .ok (.bipush 12, 2) := by decide +kernel
theorem dX0_clear_86 : decode cX0_clear 86 = .ok (.imul, 1) := by decide +kernel
theorem dX0_clear_87 : decode cX0_clear 87 = .ok (.iload_n 1, 1) := by decide +kernel
theorem dX0_clear_88 : decode cX0_clear 88 = .ok (.iadd, 1) := by decide +kernel
theorem dX0_clear_89 : decode cX0_clear 89 = .ok (.iconst 0, 1) := by decide +kernel
theorem dX0_clear_90 : decode cX0_clear 90 = .ok (.invokestatic 86, 3) := by decide +kernel
theorem dX0_clear_93 : decode cX0_clear 93 = .ok (.iinc 1 1, 3) := by decide +kernel
theorem dX0_clear_96 : decode cX0_clear 96 = .ok (.goto (-23), 3) := by decide +kernel
theorem dX0_clear_99 : decode cX0_clear 99 = .ok (.return_, 1) := by decide +kernel
theorem dX0_addRoad_0 : decode cX0_addRoad 0 = .ok (.aload_n 0, 1) := by decide +kernel
theorem dX0_addRoad_1 : decode cX0_addRoad 1 = .ok (.dup, 1) := by decide +kernel
theorem dX0_addRoad_2 : decode cX0_addRoad 2 = .ok (.getfield 55, 3) := by decide +kernel
theorem dX0_addRoad_5 : decode cX0_addRoad 5 = .ok (.iconst 1, 1) := by decide +kernel
theorem dX0_addRoad_6 : decode cX0_addRoad 6 = .ok (.iadd, 1) := by decide +kernel
theorem dX0_addRoad_7 : decode cX0_addRoad 7 = .ok (.putfield 55, 3) := by decide +kernel
theorem dX0_addRoad_10 : decode cX0_addRoad 10 = .ok (.iload_n 3, 1) := by decide +kernel
theorem dX0_addRoad_11 : decode cX0_addRoad 11 = .ok (.aload_n 0, 1) := by decide +kernel
theorem dX0_addRoad_12 : decode cX0_addRoad 12 = .ok (.iload_n 1, 1) := by decide +kernel
theorem dX0_addRoad_13 : decode cX0_addRoad 13 = .ok (.iload_n 2, 1) := by decide +kernel
theorem dX0_addRoad_14 : decode cX0_addRoad 14 = .ok (.invokevirtual 94, 3) := by decide +kernel
theorem dX0_addRoad_17 : decode cX0_addRoad 17 = .ok (.if_icmp .ge 17, 3) := by decide +kernel
theorem dX0_addRoad_20 : decode cX0_addRoad 20 = .ok (.aload_n 0, 1) := by decide +kernel
theorem dX0_addRoad_21 : decode cX0_addRoad 21 = .ok (.iload_n 1, 1) := by decide +kernel
theorem dX0_addRoad_22 : decode cX0_addRoad 22 = .ok (.iload_n 2, 1) := by decide +kernel
theorem dX0_addRoad_23 : decode cX0_addRoad 23 = .ok (.iload_n 3, 1) := by decide +kernel
theorem dX0_addRoad_24 : decode cX0_addRoad 24 = .ok (.invokevirtual 98, 3) := by decide +kernel
theorem dX0_addRoad_27 : decode cX0_addRoad 27 = .ok (.aload_n 0, 1) := by decide +kernel
theorem dX0_addRoad_28 : decode cX0_addRoad 28 = .ok (.iload_n 2, 1) := by decide +kernel
theorem dX0_addRoad_29 : decode cX0_addRoad 29 = .ok (.iload_n 1, 1) := by decide +kernel
theorem dX0_addRoad_30 : decode cX0_addRoad 30 = .ok (.iload_n 3, 1) := by decide +kernel
theorem dX0_addRoad_31 : decode cX0_addRoad 31 = .ok (.invokevirtual 98, 3) := by decide +kernel
theorem dX0_addRoad_34 : decode cX0_addRoad 34 = .ok (.return_, 1) := by decide +kernel
theorem dX0_homeOf_0 : decode cX0_homeOf 0 = .ok (.aload_n 0, 1) := by decide +kernel
theorem dX0_homeOf_1 : decode cX0_homeOf 1 = .ok (.getfield 41, 3) := by decide +kernel
theorem dX0_homeOf_4 : decode cX0_homeOf 4 = .ok (.iload_n 1, 1) := by decide +kernel
theorem dX0_homeOf_5 : decode cX0_homeOf 5 = .ok (.invokestatic 109, 3) := by decide +kernel
theorem dX0_homeOf_8 : decode cX0_homeOf 8 = .ok (.ireturn, 1) := by decide +kernel
theorem dX0_kindOf_0 : decode cX0_kindOf 0 = .ok (.aload_n 0, 1) := by decide +kernel
theorem dX0_kindOf_1 : decode cX0_kindOf 1 = .ok (.getfield 38, 3) := by decide +kernel
theorem dX0_kindOf_4 : decode cX0_kindOf 4 = .ok (.iload_n 1, 1) := by decide +kernel
theorem dX0_kindOf_5 : decode cX0_kindOf 5 = .ok (.invokestatic 109, 3) := by decide +kernel
theorem dX0_kindOf_8 : decode cX0_kindOf 8 = .ok (.ireturn, 1) := by decide +kernel
theorem dX0_addName_0 : decode cX0_addName 0 = .ok (.aload_n 0, 1) := by decide +kernel
theorem dX0_addName_1 : decode cX0_addName 1 = .ok (.getfield 25, 3) := by decide +kernel
theorem dX0_addName_4 : decode cX0_addName 4 = .ok (.aload_n 0, 1) := by decide +kernel
theorem dX0_addName_5 : decode cX0_addName 5 = .ok (.getfield 64, 3) := by decide +kernel
theorem dX0_addName_8 : decode cX0_addName 8 = .ok (.iload_n 1, 1) := by decide +kernel
theorem dX0_addName_9 : decode cX0_addName 9 = .ok (.invokestatic 86, 3) := by decide +kernel
theorem dX0_addName_12 : decode cX0_addName 12 = .ok (.aload_n 0, 1) := by decide +kernel
theorem dX0_addName_13 : decode cX0_addName 13 = .ok (.getfield 29, 3) := by decide +kernel
theorem dX0_addName_16 : decode cX0_addName 16 = .ok (.aload_n 0, 1) := by decide +kernel
theorem dX0_addName_17 : decode cX0_addName 17 = .ok (.getfield 64, 3) := by decide +kernel
theorem dX0_addName_20 : decode cX0_addName 20 = .ok (.bipush 100, 2) := by decide +kernel
theorem dX0_addName_22 : decode cX0_addName 22 = .ok (.iload_n 2, 1) := by decide +kernel
theorem dX0_addName_23 : decode cX0_addName 23 = .ok (.imul, 1) := by decide +kernel
theorem dX0_addName_24 : decode cX0_addName 24 = .ok (.iload_n 3, 1) := by decide +kernel
theorem dX0_addName_25 : decode cX0_addName 25 = .ok (.iadd, 1) := by decide +kernel
theorem dX0_addName_26 : decode cX0_addName 26 = .ok (.invokestatic 86, 3) := by decide +kernel
theorem dX0_addName_29 : decode cX0_addName 29 = .ok (.aload_n 0, 1) := by decide +kernel
theorem dX0_addName_30 : decode cX0_addName 30 = .ok (.dup, 1) := by decide +kernel
theorem dX0_addName_31 : decode cX0_addName 31 = .ok (.getfield 64, 3) := by decide +kernel
theorem dX0_addName_34 : decode cX0_addName 34 = .ok (.iconst 1, 1) := by decide +kernel
theorem dX0_addName_35 : decode cX0_addName 35 = .ok (.iadd, 1) := by decide +kernel
theorem dX0_addName_36 : decode cX0_addName 36 = .ok (.putfield 64, 3) := by decide +kernel
theorem dX0_addName_39 : decode cX0_addName 39 = .ok (.return_, 1) := by decide +kernel
theorem dX1_takeFirstWord_0 : decode cX1_takeFirstWord 0 = .ok (.aload_n 1, 1) := by decide +kernel
theorem dX1_takeFirstWord_1 : decode cX1_takeFirstWord 1 = .ok (.getfield 67, 3) := by decide +kernel
theorem dX1_takeFirstWord_4 : decode cX1_takeFirstWord 4 = .ok (.ifCond .ne 13, 3) := by decide +kernel
theorem dX1_takeFirstWord_7 : decode cX1_takeFirstWord 7 = .ok (.aload_n 0, 1) := by decide +kernel
theorem dX1_takeFirstWord_8 : decode cX1_takeFirstWord 8 = .ok (.iconst 1, 1) := by decide +kernel
theorem dX1_takeFirstWord_9 : decode cX1_takeFirstWord 9 = .ok (.aload_n 0, 1) := by decide +kernel
theorem dX1_takeFirstWord_10 : decode cX1_takeFirstWord 10 = .ok (.getfield 24, 3) := by decide +kernel
theorem dX1_takeFirstWord_13 : decode cX1_takeFirstWord 13 = .ok (.invokevirtual 63, 3) := by decide +kernel
theorem dX1_takeFirstWord_16 : decode cX1_takeFirstWord 16 = .ok (.ireturn, 1) := by decide +kernel
theorem dX1_takeFirstWord_17 : decode cX1_takeFirstWord 17 = .ok (.aload_n 0, 1) := by decide +kernel
theorem dX1_takeFirstWord_18 : decode cX1_takeFirstWord 18 = .ok (.aload_n 1, 1) := by decide +kernel
theorem dX1_takeFirstWord_19 : decode cX1_takeFirstWord 19 = .ok (.invokevirtual 70, 3) := by decide +kernel
theorem dX1_takeFirstWord_22 : decode cX1_takeFirstWord 22 = .ok (.aload_n 1, 1) := by decide +kernel
theorem dX1_takeFirstWord_23 : decode cX1_takeFirstWord 23 = .ok (.getfield 67, 3) := by decide +kernel
theorem dX1_takeFirstWord_26 : decode cX1_takeFirstWord 26 = .ok (.if_icmp .lt 13, 3) := by decide +kernel
theorem dX1_takeFirstWord_29 : decode cX1_takeFirstWord 29 = .ok (.aload_n 0, 1) := by decide +kernel
theorem dX1_takeFirstWord_30 : decode cX1_takeFirstWord 30 = .ok (.iconst 4, 1) := by decide +kernel
theorem dX1_takeFirstWord_31 : decode cX1_takeFirstWord 31 = .ok (.aload_n 0, 1) := by decide +kernel
theorem dX1_takeFirstWord_32 : decode cX1_takeFirstWord 32 = .ok (.getfield 24, 3) := by decide +kernel
theorem dX1_takeFirstWord_35 : decode cX1_takeFirstWord 35 = .ok (.invokevirtual 63, 3) := by decide +kernel
theorem dX1_takeFirstWord_38 : decode cX1_takeFirstWord 38 = .ok (.ireturn, 1) := by decide +kernel
theorem dX1_takeFirstWord_39 : decode cX1_takeFirstWord 39 = .ok (.aload_n 0, 1) := by decide +kernel
theorem dX1_takeFirstWord_40 : decode cX1_takeFirstWord 40 = .ok (.dup, 1) := by decide +kernel
theorem dX1_takeFirstWord_41 : decode cX1_takeFirstWord 41 = .ok (.getfield 24, 3) := by decide +kernel
theorem dX1_takeFirstWord_44 : decode cX1_takeFirstWord 44 = .ok (.iconst 1, 1) := by decide +kernel
theorem dX1_takeFirstWord_45 : decode cX1_takeFirstWord 45 = .ok (.iadd, 1) := by decide +kernel
theorem dX1_takeFirstWord_46 : decode cX1_takeFirstWord 46 = .ok (.putfield 24, 3) := by decide +kernel
theorem dX1_takeFirstWord_49 : decode cX1_takeFirstWord 49 = .ok (.iconst 1, 1) := by decide +kernel
theorem dX1_takeFirstWord_50 : decode cX1_takeFirstWord 50 = .ok (.ireturn, 1) := by decide +kernel
theorem dX1_take_0 : decode cX1_take 0 = .ok (.aload_n 0, 1) := by decide +kernel
theorem dX1_take_1 : decode cX1_take 1 = .ok (.getfield 9, 3) := by decide +kernel
theorem dX1_take_4 : decode cX1_take 4 = .ok (.aload_n 0, 1) := by decide +kernel
theorem dX1_take_5 : decode cX1_take 5 = .ok (.getfield 24, 3) := by decide +kernel
theorem dX1_take_8 : decode cX1_take 8 = .ok (.invokevirtual 35, 3) := by decide +kernel
theorem dX1_take_11 : decode cX1_take 11 = .ok (.aload_n 1, 1) := by decide +kernel
theorem dX1_take_12 : decode cX1_take 12 = .ok (.if_acmp .eq 13, 3) := by decide +kernel
theorem dX1_take_15 : decode cX1_take 15 = .ok (.aload_n 0, 1) := by decide +kernel
theorem dX1_take_16 : decode cX1_take 16 = .ok (.iconst 1, 1) := by decide +kernel
theorem dX1_take_17 : decode cX1_take 17 = .ok (.aload_n 0, 1) := by decide +kernel
theorem dX1_take_18 : decode cX1_take 18 = .ok (.getfield 24, 3) := by decide +kernel
theorem dX1_take_21 : decode cX1_take 21 = .ok (.invokevirtual 63, 3) := by decide +kernel
theorem dX1_take_24 : decode cX1_take 24 = .ok (.ireturn, 1) := by decide +kernel
theorem dX1_take_25 : decode cX1_take 25 = .ok (.aload_n 0, 1) := by decide +kernel
theorem dX1_take_26 : decode cX1_take 26 = .ok (.dup, 1) := by decide +kernel
theorem dX1_take_27 : decode cX1_take 27 = .ok (.getfield 24, 3) := by decide +kernel
theorem dX1_take_30 : decode cX1_take 30 = .ok (.iconst 1, 1) := by decide +kernel
theorem dX1_take_31 : decode cX1_take 31 = .ok (.iadd, 1) := by decide +kernel
theorem dX1_take_32 : decode cX1_take 32 = .ok (.putfield 24, 3) := by decide +kernel
theorem dX1_take_35 : decode cX1_take 35 = .ok (.iconst 1, 1) := by decide +kernel
theorem dX1_take_36 : decode cX1_take 36 = .ok (.ireturn, 1) := by decide +kernel
theorem dX1_takeIfThere_0 : decode cX1_takeIfThere 0 = .ok (.aload_n 0, 1) := by decide +kernel
theorem dX1_takeIfThere_1 : decode cX1_takeIfThere 1 = .ok (.getfield 9, 3) := by decide +kernel
theorem dX1_takeIfThere_4 : decode cX1_takeIfThere 4 = .ok (.aload_n 0, 1) := by decide +kernel
theorem dX1_takeIfThere_5 : decode cX1_takeIfThere 5 = .ok (.getfield 24, 3) := by decide +kernel
theorem dX1_takeIfThere_8 : decode cX1_takeIfThere 8 = .ok (.invokevirtual 35, 3) := by decide +kernel
theorem dX1_takeIfThere_11 : decode cX1_takeIfThere 11 = .ok (.aload_n 1, 1) := by decide +kernel
theorem dX1_takeIfThere_12 : decode cX1_takeIfThere 12 = .ok (.if_acmp .eq 5, 3) := by decide +kernel
theorem dX1_takeIfThere_15 : decode cX1_takeIfThere 15 = .ok (.iconst 0, 1) := by decide +kernel
theorem dX1_takeIfThere_16 : decode cX1_takeIfThere 16 = .ok (.ireturn, 1) := by decide +kernel
theorem dX1_takeIfThere_17 : decode cX1_takeIfThere 17 = .ok (.aload_n 0, 1) := by decide +kernel
theorem dX1_takeIfThere_18 : decode cX1_takeIfThere 18 = .ok (.dup, 1) := by decide +kernel
theorem dX1_takeIfThere_19 : decode cX1_takeIfThere 19 = .ok (.getfield 24, 3) := by decide +kernel
theorem dX1_takeIfThere_22 : decode cX1_takeIfThere 22 = .ok (.iconst 1, 1) := by decide +kernel
theorem dX1_takeIfThere_23 : decode cX1_takeIfThere 23 = .ok (.iadd, 1) := by decide +kernel
theorem dX1_takeIfThere_24 : decode cX1_takeIfThere 24 = .ok (.putfield 24, 3) := by decide +kernel
theorem dX1_takeIfThere_27 : decode cX1_takeIfThere 27 = .ok (.iconst 1, 1) := by decide +kernel
theorem dX1_takeIfThere_28 : decode cX1_takeIfThere 28 = .ok (.ireturn, 1) := by decide +kernel
theorem dX1_takeKind_0 : decode cX1_takeKind 0 = .ok (.aload_n 0, 1) := by decide +kernel
theorem dX1_takeKind_1 : decode cX1_takeKind 1 = .ok (.aload_n 0, 1) := by decide +kernel
theorem dX1_takeKind_2 : decode cX1_takeKind 2 = .ok (.getfield 9, 3) := by decide +kernel
theorem dX1_takeKind_5 : decode cX1_takeKind 5 = .ok (.aload_n 0, 1) := by decide +kernel
theorem dX1_takeKind_6 : decode cX1_takeKind 6 = .ok (.getfield 24, 3) := by decide +kernel
theorem dX1_takeKind_9 : decode cX1_takeKind 9 = .ok (.invokevirtual 35, 3) := by decide +kernel
theorem dX1_takeKind_12 : decode cX1_takeKind 12 = .ok (.invokestatic 197, 3) := by decide +kernel
theorem dX1_takeKind_15 : decode cX1_takeKind 15 = .ok (.putfield 188, 3) := by decide +kernel
theorem dX1_takeKind_18 : decode cX1_takeKind 18 = .ok (.aload_n 0, 1) := by decide +kernel
theorem dX1_takeKind_19 : decode cX1_takeKind 19 = .ok (.getfield 188, 3) := by decide +kernel
theorem dX1_takeKind_22 : decode cX1_takeKind 22 = .ok (.iconst (-1), 1) := by decide +kernel
theorem dX1_takeKind_23 : decode cX1_takeKind 23 = .ok (.if_icmp .ne 13, 3) := by decide +kernel
theorem dX1_takeKind_26 : decode cX1_takeKind 26 = .ok (.aload_n 0, 1) := by decide +kernel
theorem dX1_takeKind_27 : decode cX1_takeKind 27 = .ok (.iconst 1, 1) := by decide +kernel
theorem dX1_takeKind_28 : decode cX1_takeKind 28 = .ok (.aload_n 0, 1) := by decide +kernel
theorem dX1_takeKind_29 : decode cX1_takeKind 29 = .ok (.getfield 24, 3) := by decide +kernel
theorem dX1_takeKind_32 : decode cX1_takeKind 32 = .ok (.invokevirtual 63, 3) := by decide +kernel
theorem dX1_takeKind_35 : decode cX1_takeKind 35 = .ok (.ireturn, 1) := by decide +kernel
theorem dX1_takeKind_36 : decode cX1_takeKind 36 = .ok (.aload_n 0, 1) := by decide +kernel
theorem dX1_takeKind_37 : decode cX1_takeKind 37 = .ok (.dup, 1) := by decide +kernel
theorem dX1_takeKind_38 : decode cX1_takeKind 38 = .ok (.getfield 24, 3) := by decide +kernel
theorem dX1_takeKind_41 : decode cX1_takeKind 41 = .ok (.iconst 1, 1) := by decide +kernel
theorem dX1_takeKind_42 : decode cX1_takeKind 42 = .ok (.iadd, 1) := by decide +kernel
theorem dX1_takeKind_43 : decode cX1_takeKind 43 = .ok (.putfield 24, 3) := by decide +kernel
theorem dX1_takeKind_46 : decode cX1_takeKind 46 = .ok (.iconst 1, 1) := by decide +kernel
theorem dX1_takeKind_47 : decode cX1_takeKind 47 = .ok (.ireturn, 1) := by decide +kernel
theorem dX2_standAtHome_0 : decode cX2_standAtHome 0 = .ok (.aload_n 0, 1) := by decide +kernel
theorem dX2_standAtHome_1 : decode cX2_standAtHome 1 = .ok (.getfield 21, 3) := by decide +kernel
theorem dX2_standAtHome_4 : decode cX2_standAtHome 4 = .ok (.iconst 0, 1) := by decide +kernel
theorem dX2_standAtHome_5 : decode cX2_standAtHome 5 = .ok (.invokestatic 28, 3) := by decide +kernel
theorem dX2_standAtHome_8 : decode cX2_standAtHome 8 = .ok (.iconst 0, 1) := by decide +kernel
theorem dX2_standAtHome_9 : decode cX2_standAtHome 9 = .ok (.istore_n 2, 1) := by decide +kernel
theorem dX2_standAtHome_10 : decode cX2_standAtHome 10 = .ok (.iload_n 2, 1) := by decide +kernel
theorem dX2_standAtHome_11 : decode cX2_standAtHome 11 = .ok (.bipush 10, 2) := by decide +kernel
theorem dX2_standAtHome_13 : decode cX2_standAtHome 13 = .ok (.if_icmp .ge 61, 3) := by decide +kernel
theorem dX2_standAtHome_16 : decode cX2_standAtHome 16 = .ok (.aload_n 0, 1) := by decide +kernel
theorem dX2_standAtHome_17 : decode cX2_standAtHome 17 = .ok (.getfield 24, 3) := by decide +kernel
theorem dX2_standAtHome_20 : decode cX2_standAtHome 20 = .ok (.getfield 56, 3) := by decide +kernel
theorem dX2_standAtHome_23 : decode cX2_standAtHome 23 = .ok (.iload_n 2, 1) := by decide +kernel
theorem dX2_standAtHome_24 : decode cX2_standAtHome 24 = .ok (.iaload, 1) := by decide +kernel
theorem dX2_standAtHome_25 : decode cX2_standAtHome 25 = .ok (.istore_n 3, 1) := by decide +kernel
theorem dX2_standAtHome_26 : decode cX2_standAtHome 26 = .ok (.aload_n 0, 1) := by decide +kernel
theorem dX2_standAtHome_27 : decode cX2_standAtHome 27 = .ok (.getfield 18, 3) := by decide +kernel
theorem dX2_standAtHome_30 : decode cX2_standAtHome 30 = .ok (.iload_n 2, 1) := by decide +kernel
theorem dX2_standAtHome_31 : decode cX2_standAtHome 31 = .ok (.iconst (-1), 1) := by decide +kernel
theorem dX2_standAtHome_32 : decode cX2_standAtHome 32 = .ok (.iastore, 1) := by decide +kernel
theorem dX2_standAtHome_33 : decode cX2_standAtHome 33 = .ok (.iload_n 1, 1) := by decide +kernel
theorem dX2_standAtHome_34 : decode cX2_standAtHome 34 = .ok (.iload_n 2, 1) := by decide +kernel
theorem dX2_standAtHome_35 : decode cX2_standAtHome 35 = .ok (.ishr, 1) := by decide +kernel
theorem dX2_standAtHome_36 : decode cX2_standAtHome 36 = .ok (.iconst 1, 1) := by decide +kernel
theorem dX2_standAtHome_37 : decode cX2_standAtHome 37 = .ok (.iand, 1) := by decide +kernel
theorem dX2_standAtHome_38 : decode cX2_standAtHome 38 = .ok (.ifCond .eq 30, 3) := by decide +kernel
theorem dX2_standAtHome_41 : decode cX2_standAtHome 41 = .ok (.iload_n 3, 1) := by decide +kernel
theorem dX2_standAtHome_42 : decode cX2_standAtHome 42 = .ok (.ifCond .lt 26, 3) := by decide +kernel
theorem dX2_standAtHome_45 : decode cX2_standAtHome 45 = .ok (.iload_n 3, 1) := by decide +kernel
theorem dX2_standAtHome_46 : decode cX2_standAtHome 46 = .ok (.bipush 6, 2) := by decide +kernel
theorem dX2_standAtHome_48 : decode cX2_standAtHome 48 = .ok (.if_icmp .ge 20, 3) := by decide +kernel
theorem dX2_standAtHome_51 : decode cX2_standAtHome 51 = .ok (.aload_n 0, 1) := by decide +kernel
theorem dX2_standAtHome_52 : decode cX2_standAtHome 52 = .ok (.getfield 18, 3) := by decide +kernel
theorem dX2_standAtHome_55 : decode cX2_standAtHome 55 = .ok (.iload_n 2, 1) := by decide +kernel
theorem dX2_standAtHome_56 : decode cX2_standAtHome 56 = .ok (.iload_n 3, 1) := by decide +kernel
theorem dX2_standAtHome_57 : decode cX2_standAtHome 57 = .ok (.iastore, 1) := by decide +kernel
theorem dX2_standAtHome_58 : decode cX2_standAtHome 58 = .ok (.aload_n 0, 1) := by decide +kernel
theorem dX2_standAtHome_59 : decode cX2_standAtHome 59 = .ok (.getfield 21, 3) := by decide +kernel
theorem dX2_standAtHome_62 : decode cX2_standAtHome 62 = .ok (.iload_n 3, 1) := by decide +kernel
theorem dX2_standAtHome_63 : decode cX2_standAtHome 63 = .ok (.dup2, 1) := by decide +kernel
theorem dX2_standAtHome_64 : decode cX2_standAtHome 64 = .ok (.iaload, 1) := by decide +kernel
theorem dX2_standAtHome_65 : decode cX2_standAtHome 65 = .ok (.iconst 1, 1) := by decide +kernel
theorem dX2_standAtHome_66 : decode cX2_standAtHome 66 = .ok (.iadd, 1) := by decide +kernel
theorem dX2_standAtHome_67 : decode cX2_standAtHome 67 = .ok (.iastore, 1) := by decide +kernel
theorem dX2_standAtHome_68 : decode cX2_standAtHome 68 = .ok (.iinc 2 1, 3) := by decide +kernel
theorem dX2_standAtHome_71 : decode cX2_standAtHome 71 = .ok (.goto (-61), 3) := by decide +kernel
theorem dX2_standAtHome_74 : decode cX2_standAtHome 74 = .ok (.return_, 1) := by decide +kernel
theorem dX2_moveUp_0 : decode cX2_moveUp 0 = .ok (.aload_n 0, 1) := by decide +kernel
theorem dX2_moveUp_1 : decode cX2_moveUp 1 = .ok (.iload_n 1, 1) := by decide +kernel
theorem dX2_moveUp_2 : decode cX2_moveUp 2 = .ok (.invokevirtual 59, 3) := by decide +kernel
theorem dX2_moveUp_5 : decode cX2_moveUp 5 = .ok (.iconst 0, 1) := by decide +kernel
theorem dX2_moveUp_6 : decode cX2_moveUp 6 = .ok (.istore_n 2, 1) := by decide +kernel
theorem dX2_moveUp_7 : decode cX2_moveUp 7 = .ok (.iload_n 2, 1) := by decide +kernel
theorem dX2_moveUp_8 : decode cX2_moveUp 8 = .ok (.aload_n 0, 1) := by decide +kernel
theorem dX2_moveUp_9 : decode cX2_moveUp 9 = .ok (.getfield 24, 3) := by decide +kernel
theorem dX2_moveUp_12 : decode cX2_moveUp 12 = .ok (.getfield 34, 3) := by decide +kernel
theorem dX2_moveUp_15 : decode cX2_moveUp 15 = .ok (.if_icmp .ge 70, 3) := by decide +kernel
theorem dX2_moveUp_18 : decode cX2_moveUp 18 = .ok (.iload_n 2, 1) := by decide +kernel
theorem dX2_moveUp_19 : decode cX2_moveUp 19 = .ok (.bipush 6, 2) := by decide +kernel
theorem dX2_moveUp_21 : decode cX2_moveUp 21 = .ok (.if_icmp .ge 64, 3) := by decide +kernel
theorem dX2_moveUp_24 : decode cX2_moveUp 24 = .ok (.aload_n 0, 1) := by decide +kernel
theorem dX2_moveUp_25 : decode cX2_moveUp 25 = .ok (.getfield 21, 3) := by decide +kernel
theorem dX2_moveUp_28 : decode cX2_moveUp 28 = .ok (.iload_n 2, 1) := by decide +kernel
theorem dX2_moveUp_29 : decode cX2_moveUp 29 = .ok (.iaload, 1) := by decide +kernel
theorem dX2_moveUp_30 : decode cX2_moveUp 30 = .ok (.ifCond .ne 11, 3) := by decide +kernel
theorem dX2_moveUp_33 : decode cX2_moveUp 33 = .ok (.aload_n 0, 1) := by decide +kernel
theorem dX2_moveUp_34 : decode cX2_moveUp 34 = .ok (.iload_n 2, 1) := by decide +kernel
theorem dX2_moveUp_35 : decode cX2_moveUp 35 = .ok (.invokevirtual 62, 3) := by decide +kernel
theorem dX2_moveUp_38 : decode cX2_moveUp 38 = .ok (.goto 4, 3) := by decide +kernel
theorem dX2_moveUp_41 : decode cX2_moveUp 41 = .ok (.iconst (-1), 1) := by decide +kernel
theorem dX2_moveUp_42 : decode cX2_moveUp 42 = .ok (.istore_n 3, 1) := by decide +kernel
theorem dX2_moveUp_43 : decode cX2_moveUp 43 = .ok (.iload_n 3, 1) := by decide +kernel
theorem dX2_moveUp_44 : decode cX2_moveUp 44 = .ok (.ifCond .lt 35, 3) := by decide +kernel
theorem dX2_moveUp_47 : decode cX2_moveUp 47 = .ok (.iload_n 3, 1) := by decide +kernel
theorem dX2_moveUp_48 : decode cX2_moveUp 48 = .ok (.bipush 6, 2) := by decide +kernel
theorem dX2_moveUp_50 : decode cX2_moveUp 50 = .ok (.if_icmp .ge 29, 3) := by decide +kernel
theorem dX2_moveUp_53 : decode cX2_moveUp 53 = .ok (.aload_n 0, 1) := by decide +kernel
theorem dX2_moveUp_54 : decode cX2_moveUp 54 = .ok (.iload_n 3, 1) := by decide +kernel
theorem dX2_moveUp_55 : decode cX2_moveUp 55 = .ok (.iload_n 2, 1) := by decide +kernel
theorem dX2_moveUp_56 : decode cX2_moveUp 56 = .ok (.invokevirtual 66, 3) := by decide +kernel
theorem dX2_moveUp_59 : decode cX2_moveUp 59 = .ok (.aload_n 0, 1) := by decide +kernel
theorem dX2_moveUp_60 : decode cX2_moveUp 60 = .ok (.getfield 21, 3) := by decide +kernel
theorem dX2_moveUp_63 : decode cX2_moveUp 63 = .ok (.iload_n 3, 1) := by decide +kernel
theorem dX2_moveUp_64 : decode cX2_moveUp 64 = .ok (.dup2, 1) := by decide +kernel
theorem dX2_moveUp_65 : decode cX2_moveUp 65 = .ok (.iaload, 1) := by decide +kernel
theorem dX2_moveUp_66 : decode cX2_moveUp 66 = .ok (.iconst 1, 1) := by decide +kernel
theorem dX2_moveUp_67 : decode cX2_moveUp 67 = .ok (.isub, 1) := by decide +kernel
theorem dX2_moveUp_68 : decode cX2_moveUp 68 = .ok (.iastore, 1) := by decide +kernel
theorem dX2_moveUp_69 : decode cX2_moveUp 69 = .ok (.aload_n 0, 1) := by decide +kernel
theorem dX2_moveUp_70 : decode cX2_moveUp 70 = .ok (.getfield 21, 3) := by decide +kernel
theorem dX2_moveUp_73 : decode cX2_moveUp 73 = .ok (.iload_n 2, 1) := by decide +kernel
theorem dX2_moveUp_74 : decode cX2_moveUp 74 = .ok (.dup2, 1) := by decide +kernel
theorem dX2_moveUp_75 : decode cX2_moveUp 75 = .ok (.iaload, 1) := by decide +kernel
theorem dX2_moveUp_76 : decode cX2_moveUp 76 = .ok (.iconst 1, 1) := by decide +kernel
theorem dX2_moveUp_77 : decode cX2_moveUp 77 = .ok (.iadd, 1) := by decide +kernel
theorem dX2_moveUp_78 : decode cX2_moveUp 78 = .ok (.iastore, 1) := by decide +kernel
theorem dX2_moveUp_79 : decode cX2_moveUp 79 = .ok (.iinc 2 1, 3) := by decide +kernel
theorem dX2_moveUp_82 : decode cX2_moveUp 82 = .ok (.goto (-75), 3) := by decide +kernel
theorem dX2_moveUp_85 : decode cX2_moveUp 85 = .ok (.return_, 1) := by decide +kernel
theorem dX2_postOf_0 : decode cX2_postOf 0 = .ok (.aload_n 0, 1) := by decide +kernel
theorem dX2_postOf_1 : decode cX2_postOf 1 = .ok (.getfield 18, 3) := by decide +kernel
theorem dX2_postOf_4 : decode cX2_postOf 4 = .ok (.iload_n 1, 1) := by decide +kernel
theorem dX2_postOf_5 : decode cX2_postOf 5 = .ok (.invokestatic 70, 3) := by decide +kernel
theorem dX2_postOf_8 : decode cX2_postOf 8 = .ok (.ireturn, 1) := by decide +kernel
theorem dX2_openStreetsNow_0 : decode cX2_openStreetsNow 0 = .ok (.iconst 0, 1) := by decide +kernel
theorem dX2_openStreetsNow_1 : decode cX2_openStreetsNow 1 = .ok (.istore_n 1, 1) := by decide +kernel
theorem dX2_openStreetsNow_2 : decode cX2_openStreetsNow 2 = .ok (.iconst 0, 1) := by decide +kernel
theorem dX2_openStreetsNow_3 : decode cX2_openStreetsNow 3 = .ok (.istore_n 2, 1) := by decide +kernel
theorem dX2_openStreetsNow_4 : decode cX2_openStreetsNow 4 = .ok (.iload_n 2, 1) := by decide +kernel
theorem dX2_openStreetsNow_5 : decode cX2_openStreetsNow 5 = .ok (.bipush 10, 2) := by decide +kernel
theorem dX2_openStreetsNow_7 : decode cX2_openStreetsNow 7 = .ok (.if_icmp .ge 17, 3) := by decide +kernel
theorem dX2_openStreetsNow_10 : decode cX2_openStreetsNow 10 = .ok (.iload_n 1, 1) := by decide +kernel
theorem dX2_openStreetsNow_11 : decode cX2_openStreetsNow 11 = .ok (.aload_n 0, 1) := by decide +kernel
theorem dX2_openStreetsNow_12 : decode cX2_openStreetsNow 12 = .ok (.iload_n 2, 1) := by decide +kernel
theorem dX2_openStreetsNow_13 : decode cX2_openStreetsNow 13 = .ok (.invokevirtual 74, 3) := by decide +kernel
theorem dX2_openStreetsNow_16 : decode cX2_openStreetsNow 16 = .ok (.ior, 1) := by decide +kernel
theorem dX2_openStreetsNow_17 : decode cX2_openStreetsNow 17 = .ok (.istore_n 1, 1) := by decide +kernel
theorem dX2_openStreetsNow_18 : decode cX2_openStreetsNow 18 = .ok (.iinc 2 1, 3) := by decide +kernel
theorem dX2_openStreetsNow_21 : decode cX2_openStreetsNow 21 = .ok (.goto (-17), 3) := by decide +kernel
theorem dX2_openStreetsNow_24 : decode cX2_openStreetsNow 24 = .ok (.iconst 1, 1) := by decide +kernel
theorem dX2_openStreetsNow_25 : decode cX2_openStreetsNow 25 = .ok (.aload_n 0, 1) := by decide +kernel
theorem dX2_openStreetsNow_26 : decode cX2_openStreetsNow 26 = .ok (.getfield 24, 3) := by decide +kernel
theorem dX2_openStreetsNow_29 : decode cX2_openStreetsNow 29 = .ok (.getfield 77, 3) := by decide +kernel
theorem dX2_openStreetsNow_32 : decode cX2_openStreetsNow 32 = .ok (.getfield 81, 3) := by decide +kernel
theorem dX2_openStreetsNow_35 : decode cX2_openStreetsNow 35 = .ok (.ishl, 1) := by decide +kernel
theorem dX2_openStreetsNow_36 : decode cX2_openStreetsNow 36 = .ok (.iconst 1, 1) := by decide +kernel
theorem dX2_openStreetsNow_37 : decode cX2_openStreetsNow 37 = .ok (.isub, 1) := by decide +kernel
theorem dX2_openStreetsNow_38 : decode cX2_openStreetsNow 38 = .ok (.iload_n 1, 1) := by decide +kernel
theorem dX2_openStreetsNow_39 : decode cX2_openStreetsNow 39 = .ok (.iconst (-1), 1) := by decide +kernel
theorem dX2_openStreetsNow_40 : decode cX2_openStreetsNow 40 = .ok (.ixor, 1) := by decide +kernel
theorem dX2_openStreetsNow_41 : decode cX2_openStreetsNow 41 = .ok (.iand, 1) := by decide +kernel
theorem dX2_openStreetsNow_42 : decode cX2_openStreetsNow 42 = .ok (.ireturn, 1) := by decide +kernel
theorem dX2_enginesCovering_0 : decode cX2_enginesCovering 0 = .ok (.iconst 0, 1) := by decide +kernel
theorem dX2_enginesCovering_1 : decode cX2_enginesCovering 1 = .ok (.istore_n 2, 1) := by decide +kernel
theorem dX2_enginesCovering_2 : decode cX2_enginesCovering 2 = .ok (.iconst 0, 1) := by decide +kernel
theorem dX2_enginesCovering_3 : decode cX2_enginesCovering 3 = .ok (.istore_n 3, 1) := by decide +kernel
theorem dX2_enginesCovering_4 : decode cX2_enginesCovering 4 = .ok (.iload_n 3, 1) := by decide +kernel
theorem dX2_enginesCovering_5 : decode cX2_enginesCovering 5 = .ok (.bipush 10, 2) := by decide +kernel
theorem dX2_enginesCovering_7 : decode cX2_enginesCovering 7 = .ok (.if_icmp .ge 27, 3) := by decide +kernel
theorem dX2_enginesCovering_10 : decode cX2_enginesCovering 10 = .ok (.aload_n 0, 1) := by decide +kernel
theorem dX2_enginesCovering_11 : decode cX2_enginesCovering 11 = .ok (.iload_n 3, 1) := by decide +kernel
theorem dX2_enginesCovering_12 : decode cX2_enginesCovering 12 = .ok (.invokevirtual 74, 3) := by decide +kernel
theorem dX2_enginesCovering_15 : decode cX2_enginesCovering 15 = .ok (.iload_n 1, 1) := by decide +kernel
theorem dX2_enginesCovering_16 : decode cX2_enginesCovering 16 = .ok (.ishr, 1) := by decide +kernel
theorem dX2_enginesCovering_17 : decode cX2_enginesCovering 17 = .ok (.iconst 1, 1) := by decide +kernel
theorem dX2_enginesCovering_18 : decode cX2_enginesCovering 18 = .ok (.iand, 1) := by decide +kernel
theorem dX2_enginesCovering_19 : decode cX2_enginesCovering 19 = .ok (.ifCond .eq 9, 3) := by decide +kernel
theorem dX2_enginesCovering_22 : decode cX2_enginesCovering 22 = .ok (.iload_n 2, 1) := by decide +kernel
theorem dX2_enginesCovering_23 : decode cX2_enginesCovering 23 = .ok (.iconst 1, 1) := by decide +kernel
theorem dX2_enginesCovering_24 : decode cX2_enginesCovering 24 = .ok (.iload_n 3, 1) := by decide +kernel
theorem dX2_enginesCovering_25 : decode cX2_enginesCovering 25 = .ok (.ishl, 1) := by decide +kernel
theorem dX2_enginesCovering_26 : decode cX2_enginesCovering 26 = .ok (.ior, 1) := by decide +kernel
theorem dX2_enginesCovering_27 : decode cX2_enginesCovering 27 = .ok (.istore_n 2, 1) := by decide +kernel
theorem dX2_enginesCovering_28 : decode cX2_enginesCovering 28 = .ok (.iinc 3 1, 3) := by decide +kernel
theorem dX2_enginesCovering_31 : decode cX2_enginesCovering 31 = .ok (.goto (-27), 3) := by decide +kernel
theorem dX2_enginesCovering_34 : decode cX2_enginesCovering 34 = .ok (.iload_n 2, 1) := by decide +kernel
theorem dX2_enginesCovering_35 : decode cX2_enginesCovering 35 = .ok (.ireturn, 1) := by decide +kernel
theorem dX3_open_0 : decode cX3_open 0 = .ok (.aload_n 0, 1) := by decide +kernel
theorem dX3_open_1 : decode cX3_open 1 = .ok (.getfield 9, 3) := by decide +kernel
theorem dX3_open_4 : decode cX3_open 4 = .ok (.aload_n 0, 1) := by decide +kernel
theorem dX3_open_5 : decode cX3_open 5 = .ok (.getfield 39, 3) := by decide +kernel
theorem dX3_open_8 : decode cX3_open 8 = .ok (.iload_n 1, 1) := by decide +kernel
theorem dX3_open_9 : decode cX3_open 9 = .ok (.invokestatic 43, 3) := by decide +kernel
theorem dX3_open_12 : decode cX3_open 12 = .ok (.aload_n 0, 1) := by decide +kernel
theorem dX3_open_13 : decode cX3_open 13 = .ok (.getfield 15, 3) := by decide +kernel
theorem dX3_open_16 : decode cX3_open 16 = .ok (.aload_n 0, 1) := by decide +kernel
theorem dX3_open_17 : decode cX3_open 17 = .ok (.getfield 39, 3) := by decide +kernel
theorem dX3_open_20 : decode cX3_open 20 = .ok (.iload_n 2, 1) := by decide +kernel
theorem dX3_open_21 : decode cX3_open 21 = .ok (.invokestatic 43, 3) := by decide +kernel
theorem dX3_open_24 : decode cX3_open 24 = .ok (.aload_n 0, 1) := by decide +kernel
theorem dX3_open_25 : decode cX3_open 25 = .ok (.getfield 18, 3) := by decide +kernel
theorem dX3_open_28 : decode cX3_open 28 = .ok (.aload_n 0, 1) := by decide +kernel
theorem dX3_open_29 : decode cX3_open 29 = .ok (.getfield 39, 3) := by decide +kernel
theorem dX3_open_32 : decode cX3_open 32 = .ok (.iconst 0, 1) := by decide +kernel
theorem dX3_open_33 : decode cX3_open 33 = .ok (.invokestatic 43, 3) := by decide +kernel
theorem dX3_open_36 : decode cX3_open 36 = .ok (.aload_n 0, 1) := by decide +kernel
theorem dX3_open_37 : decode cX3_open 37 = .ok (.getfield 21, 3) := by decide +kernel
theorem dX3_open_40 : decode cX3_open 40 = .ok (.aload_n 0, 1) := by decide +kernel
theorem dX3_open_41 : decode cX3_open 41 = .ok (.getfield 39, 3) := by decide +kernel
theorem dX3_open_44 : decode cX3_open 44 = .ok (.iconst 0, 1) := by decide +kernel
theorem dX3_open_45 : decode cX3_open 45 = .ok (.invokestatic 43, 3) := by decide +kernel
theorem dX3_open_48 : decode cX3_open 48 = .ok (.aload_n 0, 1) := by decide +kernel
theorem dX3_open_49 : decode cX3_open 49 = .ok (.getfield 24, 3) := by decide +kernel
theorem dX3_open_52 : decode cX3_open 52 = .ok (.aload_n 0, 1) := by decide +kernel
theorem dX3_open_53 : decode cX3_open 53 = .ok (.getfield 39, 3) := by decide +kernel
theorem dX3_open_56 : decode cX3_open 56 = .ok (.iconst 0, 1) := by decide +kernel
theorem dX3_open_57 : decode cX3_open 57 = .ok (.invokestatic 43, 3) := by decide +kernel
theorem dX3_open_60 : decode cX3_open 60 = .ok (.iconst 0, 1) := by decide +kernel
theorem dX3_open_61 : decode cX3_open 61 = .ok (.istore_n 3, 1) := by decide +kernel
theorem dX3_open_62 : decode cX3_open 62 = .ok (.iload_n 3, 1) := by decide +kernel
theorem dX3_open_63 : decode cX3_open 63 = .ok (.iconst 3, 1) := by decide +kernel
theorem dX3_open_64 : decode cX3_open 64 = .ok (.if_icmp .ge 25, 3) := by decide +kernel
theorem dX3_open_67 : decode cX3_open 67 = .ok (.aload_n 0, 1) := by decide +kernel
theorem dX3_open_68 : decode cX3_open 68 = .ok (.getfield 27, 3) := by decide +kernel
theorem dX3_open_71 : decode cX3_open 71 = .ok (.aload_n 0, 1) := by decide +kernel
theorem dX3_open_72 : decode cX3_open 72 = .ok (.getfield 39, 3) := by decide +kernel
theorem dX3_open_75 : decode cX3_open 75 = .ok (.iconst 3, 1) := by decide +kernel
theorem dX3_open_76 : decode cX3_open 76 = .ok (.imul, 1) := by decide +kernel
theorem dX3_open_77 : decode cX3_open 77 = .ok (.iload_n 3, 1) := by decide +kernel
theorem dX3_open_78 : decode cX3_open 78 = .ok (.iadd, 1) := by decide +kernel
theorem dX3_open_79 : decode cX3_open 79 = .ok (.iconst 0, 1) := by decide +kernel
theorem dX3_open_80 : decode cX3_open 80 = .ok (.invokestatic 43, 3) := by decide +kernel
theorem dX3_open_83 : decode cX3_open 83 = .ok (.iinc 3 1, 3) := by decide +kernel
theorem dX3_open_86 : decode cX3_open 86 = .ok (.goto (-24), 3) := by decide +kernel
theorem dX3_open_89 : decode cX3_open 89 = .ok (.return_, 1) := by decide +kernel
theorem dX3_addNeed_0 : decode cX3_addNeed 0 = .ok (.aload_n 0, 1) := by decide +kernel
theorem dX3_addNeed_1 : decode cX3_addNeed 1 = .ok (.getfield 27, 3) := by decide +kernel
theorem dX3_addNeed_4 : decode cX3_addNeed 4 = .ok (.aload_n 0, 1) := by decide +kernel
theorem dX3_addNeed_5 : decode cX3_addNeed 5 = .ok (.getfield 39, 3) := by decide +kernel
theorem dX3_addNeed_8 : decode cX3_addNeed 8 = .ok (.iconst 3, 1) := by decide +kernel
theorem dX3_addNeed_9 : decode cX3_addNeed 9 = .ok (.imul, 1) := by decide +kernel
theorem dX3_addNeed_10 : decode cX3_addNeed 10 = .ok (.iload_n 1, 1) := by decide +kernel
theorem dX3_addNeed_11 : decode cX3_addNeed 11 = .ok (.iadd, 1) := by decide +kernel
theorem dX3_addNeed_12 : decode cX3_addNeed 12 = .ok (.invokestatic 47, 3) := by decide +kernel
theorem dX3_addNeed_15 : decode cX3_addNeed 15 = .ok (.ifCond .le 5, 3) := by decide +kernel
theorem dX3_addNeed_18 : decode cX3_addNeed 18 = .ok (.iconst 0, 1) := by decide +kernel
theorem dX3_addNeed_19 : decode cX3_addNeed 19 = .ok (.ireturn, 1) := by decide +kernel
theorem dX3_addNeed_20 : decode cX3_addNeed 20 = .ok (.aload_n 0, 1) := by decide +kernel
theorem dX3_addNeed_21 : decode cX3_addNeed 21 = .ok (.getfield 27, 3) := by decide +kernel
theorem dX3_addNeed_24 : decode cX3_addNeed 24 = .ok (.aload_n 0, 1) := by decide +kernel
theorem dX3_addNeed_25 : decode cX3_addNeed 25 = .ok (.getfield 39, 3) := by decide +kernel
theorem dX3_addNeed_28 : decode cX3_addNeed 28 = .ok (.iconst 3, 1) := by decide +kernel
theorem dX3_addNeed_29 : decode cX3_addNeed 29 = .ok (.imul, 1) := by decide +kernel
theorem dX3_addNeed_30 : decode cX3_addNeed 30 = .ok (.iload_n 1, 1) := by decide +kernel
theorem dX3_addNeed_31 : decode cX3_addNeed 31 = .ok (.iadd, 1) := by decide +kernel
theorem dX3_addNeed_32 : decode cX3_addNeed 32 = .ok (.iload_n 2, 1) := by decide +kernel
theorem dX3_addNeed_33 : decode cX3_addNeed 33 = .ok (.invokestatic 43, 3) := by decide +kernel
theorem dX3_addNeed_36 : decode cX3_addNeed 36 = .ok (.iconst 1, 1) := by decide +kernel
theorem dX3_addNeed_37 : decode cX3_addNeed 37 = .ok (.ireturn, 1) := by decide +kernel
theorem dX3_addAfter_0 : decode cX3_addAfter 0 = .ok (.aload_n 0, 1) := by decide +kernel
theorem dX3_addAfter_1 : decode cX3_addAfter 1 = .ok (.getfield 21, 3) := by decide +kernel
theorem dX3_addAfter_4 : decode cX3_addAfter 4 = .ok (.aload_n 0, 1) := by decide +kernel
theorem dX3_addAfter_5 : decode cX3_addAfter 5 = .ok (.getfield 39, 3) := by decide +kernel
theorem dX3_addAfter_8 : decode cX3_addAfter 8 = .ok (.invokestatic 47, 3) := by decide +kernel
theorem dX3_addAfter_11 : decode cX3_addAfter 11 = .ok (.istore_n 2, 1) := by decide +kernel
theorem dX3_addAfter_12 : decode cX3_addAfter 12 = .ok (.iload_n 2, 1) := by decide +kernel
theorem dX3_addAfter_13 : decode cX3_addAfter 13 = .ok (.iload_n 1, 1) := by decide +kernel
theorem dX3_addAfter_14 : decode cX3_addAfter 14 = .ok (.ishr, 1) := by decide +kernel
theorem dX3_addAfter_15 : decode cX3_addAfter 15 = .ok (.iconst 1, 1) := by decide +kernel
theorem dX3_addAfter_16 : decode cX3_addAfter 16 = .ok (.iand, 1) := by decide +kernel
theorem dX3_addAfter_17 : decode cX3_addAfter 17 = .ok (.ifCond .eq 5, 3) := by decide +kernel
theorem dX3_addAfter_20 : decode cX3_addAfter 20 = .ok (.iconst 0, 1) := by decide +kernel
theorem dX3_addAfter_21 : decode cX3_addAfter 21 = .ok (.ireturn, 1) := by decide +kernel
theorem dX3_addAfter_22 : decode cX3_addAfter 22 = .ok (.aload_n 0, 1) := by decide +kernel
theorem dX3_addAfter_23 : decode cX3_addAfter 23 = .ok (.getfield 21, 3) := by decide +kernel
theorem dX3_addAfter_26 : decode cX3_addAfter 26 = .ok (.aload_n 0, 1) := by decide +kernel
theorem dX3_addAfter_27 : decode cX3_addAfter 27 = .ok (.getfield 39, 3) := by decide +kernel
theorem dX3_addAfter_30 : decode cX3_addAfter 30 = .ok (.iload_n 2, 1) := by decide +kernel
theorem dX3_addAfter_31 : decode cX3_addAfter 31 = .ok (.iconst 1, 1) := by decide +kernel
theorem dX3_addAfter_32 : decode cX3_addAfter 32 = .ok (.iload_n 1, 1) := by decide +kernel
theorem dX3_addAfter_33 : decode cX3_addAfter 33 = .ok (.ishl, 1) := by decide +kernel
theorem dX3_addAfter_34 : decode cX3_addAfter 34 = .ok (.ior, 1) := by decide +kernel
theorem dX3_addAfter_35 : decode cX3_addAfter 35 = .ok (.invokestatic 43, 3) := by decide +kernel
theorem dX3_addAfter_38 : decode cX3_addAfter 38 = .ok (.iconst 1, 1) := by decide +kernel
theorem dX3_addAfter_39 : decode cX3_addAfter 39 = .ok (.ireturn, 1) := by decide +kernel
theorem dX3_setHoses_0 : decode cX3_setHoses 0 = .ok (.aload_n 0, 1) := by decide +kernel
theorem dX3_setHoses_1 : decode cX3_setHoses 1 = .ok (.getfield 18, 3) := by decide +kernel
theorem dX3_setHoses_4 : decode cX3_setHoses 4 = .ok (.aload_n 0, 1) := by decide +kernel
theorem dX3_setHoses_5 : decode cX3_setHoses 5 = .ok (.getfield 39, 3) := by decide +kernel
theorem dX3_setHoses_8 : decode cX3_setHoses 8 = .ok (.iload_n 1, 1) := by decide +kernel
theorem dX3_setHoses_9 : decode cX3_setHoses 9 = .ok (.invokestatic 43, 3) := by decide +kernel
theorem dX3_setHoses_12 : decode cX3_setHoses 12 = .ok (.return_, 1) := by decide +kernel
theorem dX3_setFirstSlot_0 : decode cX3_setFirstSlot 0 = .ok (.aload_n 0, 1) := by decide +kernel
theorem dX3_setFirstSlot_1 : decode cX3_setFirstSlot 1 = .ok (.getfield 24, 3) := by decide +kernel
theorem dX3_setFirstSlot_4 : decode cX3_setFirstSlot 4 = .ok (.aload_n 0, 1) := by decide +kernel
theorem dX3_setFirstSlot_5 : decode cX3_setFirstSlot 5 = .ok (.getfield 39, 3) := by decide +kernel
theorem dX3_setFirstSlot_8 : decode cX3_setFirstSlot 8 = .ok (.iload_n 1, 1) := by decide +kernel
theorem dX3_setFirstSlot_9 : decode cX3_setFirstSlot 9 = .ok (.invokestatic 43, 3) := by decide +kernel
theorem dX3_setFirstSlot_12 : decode cX3_setFirstSlot 12 = .ok (.return_, 1) := by decide +kernel
theorem dX3_rankAmong_0 : decode cX3_rankAmong 0 = .ok (.aload_n 0, 1) := by decide +kernel
theorem dX3_rankAmong_1 : decode cX3_rankAmong 1 = .ok (.getfield 9, 3) := by decide +kernel
theorem dX3_rankAmong_4 : decode cX3_rankAmong 4 = .ok (.iload_n 1, 1) := by decide +kernel
theorem dX3_rankAmong_5 : decode cX3_rankAmong 5 = .ok (.invokestatic 47, 3) := by decide +kernel
theorem dX3_rankAmong_8 : decode cX3_rankAmong 8 = .ok (.istore 5, 2) := by decide +kernel
theorem dX3_rankAmong_10 : decode cX3_rankAmong 10 = .ok (.iconst 0, 1) := by decide +kernel
theorem dX3_rankAmong_11 : decode cX3_rankAmong 11 = .ok (.istore 6, 2) := by decide +kernel
theorem dX3_rankAmong_13 : decode cX3_rankAmong 13 = .ok (.iconst 0, 1) := by decide +kernel
theorem dX3_rankAmong_14 : decode cX3_rankAmong 14 = .ok (.istore 7, 2) := by decide +kernel
theorem dX3_rankAmong_16 : decode cX3_rankAmong 16 = .ok (.iload 7, 2) := by decide +kernel
theorem dX3_rankAmong_18 : decode cX3_rankAmong 18 = .ok (.iload_n 2, 1) := by decide +kernel
theorem dX3_rankAmong_19 : decode cX3_rankAmong 19 = .ok (.if_icmp .ge 46, 3) := by decide +kernel
theorem dX3_rankAmong_22 : decode cX3_rankAmong 22 = .ok (.aload_n 0, 1) := by decide +kernel
theorem dX3_rankAmong_23 : decode cX3_rankAmong 23 = .ok (.getfield 33, 3) := by decide +kernel
theorem dX3_rankAmong_26 : decode cX3_rankAmong 26 = .ok (.iload_n 1, 1) := by decide +kernel
theorem dX3_rankAmong_27 : decode cX3_rankAmong 27 = .ok (.bipush 10, 2) := by decide +kernel
theorem dX3_rankAmong_29 : decode cX3_rankAmong 29 = .ok (.imul, 1) := by decide +kernel
theorem dX3_rankAmong_30 : decode cX3_rankAmong 30 = .ok (.iload 7, 2) := by decide +kernel
theorem dX3_rankAmong_32 : decode cX3_rankAmong 32 = .ok (.iadd, 1) := by decide +kernel
theorem dX3_rankAmong_33 : decode cX3_rankAmong 33 = .ok (.invokestatic 47, 3) := by decide +kernel
theorem dX3_rankAmong_36 : decode cX3_rankAmong 36 = .ok (.istore 8, 2) := by decide +kernel
theorem dX3_rankAmong_38 : decode cX3_rankAmong 38 = .ok (.aload 4, 2) := by decide +kernel
theorem dX3_rankAmong_40 : decode cX3_rankAmong 40 = .ok (.aload 4, 2) := by decide +kernel
theorem dX3_rankAmong_42 : decode cX3_rankAmong 42 = .ok (.iload 8, 2) := by decide +kernel
theorem dX3_rankAmong_44 : decode cX3_rankAmong 44 = .ok (.invokevirtual 56, 3) := by decide +kernel
theorem dX3_rankAmong_47 : decode cX3_rankAmong 47 = .ok (.iload 5, 2) := by decide +kernel
theorem dX3_rankAmong_49 : decode cX3_rankAmong 49 = .ok (.invokevirtual 60, 3) := by decide +kernel
theorem dX3_rankAmong_52 : decode cX3_rankAmong 52 = .ok (.iload_n 3, 1) := by decide +kernel
theorem dX3_rankAmong_53 : decode cX3_rankAmong 53 = .ok (.if_icmp .gt 6, 3) := by decide +kernel
theorem dX3_rankAmong_56 : decode cX3_rankAmong 56 = .ok (.iinc 6 1, 3) := by decide +kernel
theorem dX3_rankAmong_59 : decode cX3_rankAmong 59 = .ok (.iinc 7 1, 3) := by decide +kernel
theorem dX3_rankAmong_62 : decode cX3_rankAmong 62 = .ok (.goto (-46), 3) := by decide +kernel
theorem dX3_rankAmong_65 : decode cX3_rankAmong 65 = .ok (.iload 6, 2) := by decide +kernel
theorem dX3_rankAmong_67 : decode cX3_rankAmong 67 = .ok (.ireturn, 1) := by decide +kernel
theorem dX3_insertCall_0 : decode cX3_insertCall 0 = .ok (.iload_n 2, 1) := by decide +kernel
theorem dX3_insertCall_1 : decode cX3_insertCall 1 = .ok (.istore 4, 2) := by decide +kernel
theorem dX3_insertCall_3 : decode cX3_insertCall 3 = .ok (.iload 4, 2) := by decide +kernel
theorem dX3_insertCall_5 : decode cX3_insertCall 5 = .ok (.iload_n 1, 1) := by decide +kernel
theorem dX3_insertCall_6 : decode cX3_insertCall 6 = .ok (.if_icmp .le 29, 3) := by decide +kernel
theorem dX3_insertCall_9 : decode cX3_insertCall 9 = .ok (.aload_n 0, 1) := by decide +kernel
theorem dX3_insertCall_10 : decode cX3_insertCall 10 = .ok (.getfield 33, 3) := by decide +kernel
theorem dX3_insertCall_13 : decode cX3_insertCall 13 = .ok (.iload 4, 2) := by decide +kernel
theorem dX3_insertCall_15 : decode cX3_insertCall 15 = .ok (.aload_n 0, 1) := by decide +kernel
theorem dX3_insertCall_16 : decode cX3_insertCall 16 = .ok (.getfield 33, 3) := by decide +kernel
theorem dX3_insertCall_19 : decode cX3_insertCall 19 = .ok (.iload 4, 2) := by decide +kernel
theorem dX3_insertCall_21 : decode cX3_insertCall 21 = .ok (.iconst 1, 1) := by decide +kernel
theorem dX3_insertCall_22 : decode cX3_insertCall 22 = .ok (.isub, 1) := by decide +kernel
theorem dX3_insertCall_23 : decode cX3_insertCall 23 = .ok (.invokestatic 47, 3) := by decide +kernel
theorem dX3_insertCall_26 : decode cX3_insertCall 26 = .ok (.invokestatic 43, 3) := by decide +kernel
theorem dX3_insertCall_29 : decode cX3_insertCall 29 = .ok (.iinc 4 (-1), 3) := by decide +kernel
theorem dX3_insertCall_32 : decode cX3_insertCall 32 = .ok (.goto (-29), 3) := by decide +kernel
theorem dX3_insertCall_35 : decode cX3_insertCall 35 = .ok (.aload_n 0, 1) := by decide +kernel
theorem dX3_insertCall_36 : decode cX3_insertCall 36 = .ok (.getfield 33, 3) := by decide +kernel
theorem dX3_insertCall_39 : decode cX3_insertCall 39 = .ok (.iload_n 1, 1) := by decide +kernel
theorem dX3_insertCall_40 : decode cX3_insertCall 40 = .ok (.iload_n 3, 1) := by decide +kernel
theorem dX3_insertCall_41 : decode cX3_insertCall 41 = .ok (.invokestatic 43, 3) := by decide +kernel
theorem dX3_insertCall_44 : decode cX3_insertCall 44 = .ok (.return_, 1) := by decide +kernel
theorem dX4_remember_0 : decode cX4_remember 0 = .ok (.aload_n 0, 1) := by decide +kernel
theorem dX4_remember_1 : decode cX4_remember 1 = .ok (.getfield 15, 3) := by decide +kernel
theorem dX4_remember_4 : decode cX4_remember 4 = .ok (.bipush 8, 2) := by decide +kernel
theorem dX4_remember_6 : decode cX4_remember 6 = .ok (.if_icmp .lt 24, 3) := by decide +kernel
theorem dX4_remember_9 : decode cX4_remember 9 = .ok (.aload_n 0, 1) := by decide +kernel
theorem dX4_remember_10 : decode cX4_remember 10 = .ok (.getfield 11, 3) := by decide +kernel
theorem dX4_remember_13 : decode cX4_remember 13 = .ok (.iconst 5, 1) := by decide +kernel
theorem dX4_remember_14 : decode cX4_remember 14 = .ok (.aload_n 0, 1) := by decide +kernel
theorem dX4_remember_15 : decode cX4_remember 15 = .ok (.getfield 11, 3) := by decide +kernel
theorem dX4_remember_18 : decode cX4_remember 18 = .ok (.iconst 0, 1) := by decide +kernel
theorem dX4_remember_19 : decode cX4_remember 19 = .ok (.bipush 35, 2) := by decide +kernel
theorem dX4_remember_21 : decode cX4_remember 21 = .ok (.invokestatic 19, 3) := by decide +kernel
theorem dX4_remember_24 : decode cX4_remember 24 = .ok (.aload_n 0, 1) := by decide +kernel
theorem dX4_remember_25 : decode cX4_remember 25 = .ok (.bipush 7, 2) := by decide +kernel
theorem dX4_remember_27 : decode cX4_remember 27 = .ok (.putfield 15, 3) := by decide +kernel
theorem dX4_remember_30 : decode cX4_remember 30 = .ok (.iconst 0, 1) := by decide +kernel
theorem dX4_remember_31 : decode cX4_remember 31 = .ok (.istore_n 2, 1) := by decide +kernel
theorem dX4_remember_32 : decode cX4_remember 32 = .ok (.iload_n 2, 1) := by decide +kernel
theorem dX4_remember_33 : decode cX4_remember 33 = .ok (.iconst 5, 1) := by decide +kernel
theorem dX4_remember_34 : decode cX4_remember 34 = .ok (.if_icmp .ge 29, 3) := by decide +kernel
theorem dX4_remember_37 : decode cX4_remember 37 = .ok (.aload_n 0, 1) := by decide +kernel
theorem dX4_remember_38 : decode cX4_remember 38 = .ok (.getfield 11, 3) := by decide +kernel
theorem dX4_remember_41 : decode cX4_remember 41 = .ok (.aload_n 0, 1) := by decide +kernel
theorem dX4_remember_42 : decode cX4_remember 42 = .ok (.getfield 15, 3) := by decide +kernel
theorem dX4_remember_45 : decode cX4_remember 45 = .ok (.iconst 5, 1) := by decide +kernel
theorem dX4_remember_46 : decode cX4_remember 46 = .ok (.imul, 1) := by decide +kernel
theorem dX4_remember_47 : decode cX4_remember 47 = .ok (.iload_n 2, 1) := by decide +kernel
theorem dX4_remember_48 : decode cX4_remember 48 = .ok (.iadd, 1) := by decide +kernel
theorem dX4_remember_49 : decode cX4_remember 49 = .ok (.aload_n 1, 1) := by decide +kernel
theorem dX4_remember_50 : decode cX4_remember 50 = .ok (.iload_n 2, 1) := by decide +kernel
theorem dX4_remember_51 : decode cX4_remember 51 = .ok (.invokestatic 25, 3) := by decide +kernel
theorem dX4_remember_54 : decode cX4_remember 54 = .ok (.invokestatic 29, 3) := by decide +kernel
theorem dX4_remember_57 : decode cX4_remember 57 = .ok (.iinc 2 1, 3) := by decide +kernel
theorem dX4_remember_60 : decode cX4_remember 60 = .ok (.goto (-28), 3) := by decide +kernel
theorem dX4_remember_63 : decode cX4_remember 63 = .ok (.aload_n 0, 1) := by decide +kernel
theorem dX4_remember_64 : decode cX4_remember 64 = .ok (.dup, 1) := by decide +kernel
theorem dX4_remember_65 : decode cX4_remember 65 = .ok (.getfield 15, 3) := by decide +kernel
theorem dX4_remember_68 : decode cX4_remember 68 = .ok (.iconst 1, 1) := by decide +kernel
theorem dX4_remember_69 : decode cX4_remember 69 = .ok (.iadd, 1) := by decide +kernel
theorem dX4_remember_70 : decode cX4_remember 70 = .ok (.putfield 15, 3) := by decide +kernel
theorem dX4_remember_73 : decode cX4_remember 73 = .ok (.return_, 1) := by decide +kernel
theorem dX4_restore_0 : decode cX4_restore 0 = .ok (.aload_n 0, 1) := by decide +kernel
theorem dX4_restore_1 : decode cX4_restore 1 = .ok (.getfield 15, 3) := by decide +kernel
theorem dX4_restore_4 : decode cX4_restore 4 = .ok (.ifCond .gt 4, 3) := by decide +kernel
theorem dX4_restore_7 : decode cX4_restore 7 = .ok (.return_, 1) := by decide +kernel
theorem dX4_restore_8 : decode cX4_restore 8 = .ok (.aload_n 0, 1) := by decide +kernel
theorem dX4_restore_9 : decode cX4_restore 9 = .ok (.dup, 1) := by decide +kernel
theorem dX4_restore_10 : decode cX4_restore 10 = .ok (.getfield 15, 3) := by decide +kernel
theorem dX4_restore_13 : decode cX4_restore 13 = .ok (.iconst 1, 1) := by decide +kernel
theorem dX4_restore_14 : decode cX4_restore 14 = .ok (.isub, 1) := by decide +kernel
theorem dX4_restore_15 : decode cX4_restore 15 = .ok (.putfield 15, 3) := by decide +kernel
theorem dX4_restore_18 : decode cX4_restore 18 = .ok (.iconst 0, 1) := by decide +kernel
theorem dX4_restore_19 : decode cX4_restore 19 = .ok (.istore_n 2, 1) := by decide +kernel
theorem dX4_restore_20 : decode cX4_restore 20 = .ok (.iload_n 2, 1) := by decide +kernel
theorem dX4_restore_21 : decode cX4_restore 21 = .ok (.iconst 5, 1) := by decide +kernel
theorem dX4_restore_22 : decode cX4_restore 22 = .ok (.if_icmp .ge 29, 3) := by decide +kernel
theorem dX4_restore_25 : decode cX4_restore 25 = .ok (.aload_n 1, 1) := by decide +kernel
theorem dX4_restore_26 : decode cX4_restore 26 = .ok (.iload_n 2, 1) := by decide +kernel
theorem dX4_restore_27 : decode cX4_restore 27 = .ok (.aload_n 0, 1) := by decide +kernel
theorem dX4_restore_28 : decode cX4_restore 28 = .ok (.getfield 11, 3) := by decide +kernel
theorem dX4_restore_31 : decode cX4_restore 31 = .ok (.aload_n 0, 1) := by decide +kernel
theorem dX4_restore_32 : decode cX4_restore 32 = .ok (.getfield 15, 3) := by decide +kernel
theorem dX4_restore_35 : decode cX4_restore 35 = .ok (.iconst 5, 1) := by decide +kernel
theorem dX4_restore_36 : decode cX4_restore 36 = .ok (.imul, 1) := by decide +kernel
theorem dX4_restore_37 : decode cX4_restore 37 = .ok (.iload_n 2, 1) := by decide +kernel
theorem dX4_restore_38 : decode cX4_restore 38 = .ok (.iadd, 1) := by decide +kernel
theorem dX4_restore_39 : decode cX4_restore 39 = .ok (.invokestatic 25, 3) := by decide +kernel
theorem dX4_restore_42 : decode cX4_restore 42 = .ok (.invokestatic 29, 3) := by decide +kernel
theorem dX4_restore_45 : decode cX4_restore 45 = .ok (.iinc 2 1, 3) := by decide +kernel
theorem dX4_restore_48 : decode cX4_restore 48 = .ok (.goto (-28), 3) := by decide +kernel
theorem dX4_restore_51 : decode cX4_restore 51 = .ok (.return_, 1) := by decide +kernel
theorem dX5_refill_0 : decode cX5_refill 0 = .ok (.aload_n 0, 1) := by decide +kernel
theorem dX5_refill_1 : decode cX5_refill 1 = .ok (.iload_n 1, 1) := by decide +kernel
theorem dX5_refill_2 : decode cX5_refill 2 = .ok (.putfield 27, 3) := by decide +kernel
theorem dX5_refill_5 : decode cX5_refill 5 = .ok (.aload_n 0, 1) := by decide +kernel
theorem dX5_refill_6 : decode cX5_refill 6 = .ok (.iconst 0, 1) := by decide +kernel
theorem dX5_refill_7 : decode cX5_refill 7 = .ok (.putfield 31, 3) := by decide +kernel
theorem dX5_refill_10 : decode cX5_refill 10 = .ok (.aload_n 0, 1) := by decide +kernel
theorem dX5_refill_11 : decode cX5_refill 11 = .ok (.iconst 0, 1) := by decide +kernel
theorem dX5_refill_12 : decode cX5_refill 12 = .ok (.putfield 34, 3) := by decide +kernel
theorem dX5_refill_15 : decode cX5_refill 15 = .ok (.aload_n 0, 1) := by decide +kernel
theorem dX5_refill_16 : decode cX5_refill 16 = .ok (.iload_n 2, 1) := by decide +kernel
theorem dX5_refill_17 : decode cX5_refill 17 = .ok (.putfield 37, 3) := by decide +kernel
theorem dX5_refill_20 : decode cX5_refill 20 = .ok (.aload_n 0, 1) := by decide +kernel
theorem dX5_refill_21 : decode cX5_refill 21 = .ok (.iload_n 3, 1) := by decide +kernel
theorem dX5_refill_22 : decode cX5_refill 22 = .ok (.putfield 40, 3) := by decide +kernel
theorem dX5_refill_25 : decode cX5_refill 25 = .ok (.aload_n 0, 1) := by decide +kernel
theorem dX5_refill_26 : decode cX5_refill 26 = .ok (.getfield 21, 3) := by decide +kernel
theorem dX5_refill_29 : decode cX5_refill 29 = .ok (.iconst 0, 1) := by decide +kernel
theorem dX5_refill_30 : decode cX5_refill 30 = .ok (.invokestatic 43, 3) := by decide +kernel
theorem dX5_refill_33 : decode cX5_refill 33 = .ok (.aload_n 0, 1) := by decide +kernel
theorem dX5_refill_34 : decode cX5_refill 34 = .ok (.getfield 24, 3) := by decide +kernel
theorem dX5_refill_37 : decode cX5_refill 37 = .ok (.iconst 0, 1) := by decide +kernel
theorem dX5_refill_38 : decode cX5_refill 38 = .ok (.invokestatic 43, 3) := by decide +kernel
theorem dX5_refill_41 : decode cX5_refill 41 = .ok (.return_, 1) := by decide +kernel
theorem dX5_advance_0 : decode cX5_advance 0 = .ok (.aload_n 0, 1) := by decide +kernel
theorem dX5_advance_1 : decode cX5_advance 1 = .ok (.getfield 21, 3) := by decide +kernel
theorem dX5_advance_4 : decode cX5_advance 4 = .ok (.iload_n 1, 1) := by decide +kernel
theorem dX5_advance_5 : decode cX5_advance 5 = .ok (.invokestatic 49, 3) := by decide +kernel
theorem dX5_advance_8 : decode cX5_advance 8 = .ok (.istore_n 2, 1) := by decide +kernel
theorem dX5_advance_9 : decode cX5_advance 9 = .ok (.aload_n 0, 1) := by decide +kernel
theorem dX5_advance_10 : decode cX5_advance 10 = .ok (.dup, 1) := by decide +kernel
theorem dX5_advance_11 : decode cX5_advance 11 = .ok (.getfield 27, 3) := by decide +kernel
theorem dX5_advance_14 : decode cX5_advance 14 = .ok (.iload_n 2, 1) := by decide +kernel
theorem dX5_advance_15 : decode cX5_advance 15 = .ok (.iadd, 1) := by decide +kernel
theorem dX5_advance_16 : decode cX5_advance 16 = .ok (.putfield 27, 3) := by decide +kernel
theorem dX5_advance_19 : decode cX5_advance 19 = .ok (.aload_n 0, 1) := by decide +kernel
theorem dX5_advance_20 : decode cX5_advance 20 = .ok (.dup, 1) := by decide +kernel
theorem dX5_advance_21 : decode cX5_advance 21 = .ok (.getfield 34, 3) := by decide +kernel
theorem dX5_advance_24 : decode cX5_advance 24 = .ok (.iload_n 2, 1) := by decide +kernel
theorem dX5_advance_25 : decode cX5_advance 25 = .ok (.isub, 1) := by decide +kernel
theorem dX5_advance_26 : decode cX5_advance 26 = .ok (.putfield 34, 3) := by decide +kernel
theorem dX5_advance_29 : decode cX5_advance 29 = .ok (.aload_n 0, 1) := by decide +kernel
theorem dX5_advance_30 : decode cX5_advance 30 = .ok (.dup, 1) := by decide +kernel
theorem dX5_advance_31 : decode cX5_advance 31 = .ok (.getfield 31, 3) := by decide +kernel
theorem dX5_advance_34 : decode cX5_advance 34 = .ok (.aload_n 0, 1) := by decide +kernel
theorem dX5_advance_35 : decode cX5_advance 35 = .ok (.getfield 24, 3) := by decide +kernel
theorem dX5_advance_38 : decode cX5_advance 38 = .ok (.iload_n 1, 1) := by decide +kernel
theorem dX5_advance_39 : decode cX5_advance 39 = .ok (.invokestatic 49, 3) := by decide +kernel
theorem dX5_advance_42 : decode cX5_advance 42 = .ok (.iadd, 1) := by decide +kernel
theorem dX5_advance_43 : decode cX5_advance 43 = .ok (.putfield 31, 3) := by decide +kernel
theorem dX5_advance_46 : decode cX5_advance 46 = .ok (.aload_n 0, 1) := by decide +kernel
theorem dX5_advance_47 : decode cX5_advance 47 = .ok (.getfield 31, 3) := by decide +kernel
theorem dX5_advance_50 : decode cX5_advance 50 = .ok (.aload_n 0, 1) := by decide +kernel
theorem dX5_advance_51 : decode cX5_advance 51 = .ok (.getfield 37, 3) := by decide +kernel
theorem dX5_advance_54 : decode cX5_advance 54 = .ok (.aload_n 0, 1) := by decide +kernel
theorem dX5_advance_55 : decode cX5_advance 55 = .ok (.getfield 34, 3) := by decide +kernel
theorem dX5_advance_58 : decode cX5_advance 58 = .ok (.isub, 1) := by decide +kernel
theorem dX5_advance_59 : decode cX5_advance 59 = .ok (.invokestatic 53, 3) := by decide +kernel
theorem dX5_advance_62 : decode cX5_advance 62 = .ok (.istore_n 3, 1) := by decide +kernel
theorem dX5_advance_63 : decode cX5_advance 63 = .ok (.aload_n 0, 1) := by decide +kernel
theorem dX5_advance_64 : decode cX5_advance 64 = .ok (.dup, 1) := by decide +kernel
theorem dX5_advance_65 : decode cX5_advance 65 = .ok (.getfield 31, 3) := by decide +kernel
theorem dX5_advance_68 : decode cX5_advance 68 = .ok (.iload_n 3, 1) := by decide +kernel
theorem dX5_advance_69 : decode cX5_advance 69 = .ok (.isub, 1) := by decide +kernel
theorem dX5_advance_70 : decode cX5_advance 70 = .ok (.putfield 31, 3) := by decide +kernel
theorem dX5_advance_73 : decode cX5_advance 73 = .ok (.aload_n 0, 1) := by decide +kernel
theorem dX5_advance_74 : decode cX5_advance 74 = .ok (.dup, 1) := by decide +kernel
theorem dX5_advance_75 : decode cX5_advance 75 = .ok (.getfield 34, 3) := by decide +kernel
theorem dX5_advance_78 : decode cX5_advance 78 = .ok (.iload_n 3, 1) := by decide +kernel
theorem dX5_advance_79 : decode cX5_advance 79 = .ok (.iadd, 1) := by decide +kernel
theorem dX5_advance_80 : decode cX5_advance 80 = .ok (.putfield 34, 3) := by decide +kernel
theorem dX5_advance_83 : decode cX5_advance 83 = .ok (.aload_n 0, 1) := by decide +kernel
theorem dX5_advance_84 : decode cX5_advance 84 = .ok (.getfield 21, 3) := by decide +kernel
theorem dX5_advance_87 : decode cX5_advance 87 = .ok (.iload_n 1, 1) := by decide +kernel
theorem dX5_advance_88 : decode cX5_advance 88 = .ok (.aload_n 0, 1) := by decide +kernel
theorem dX5_advance_89 : decode cX5_advance 89 = .ok (.getfield 40, 3) := by decide +kernel
theorem dX5_advance_92 : decode cX5_advance 92 = .ok (.iadd, 1) := by decide +kernel
theorem dX5_advance_93 : decode cX5_advance 93 = .ok (.iload_n 3, 1) := by decide +kernel
theorem dX5_advance_94 : decode cX5_advance 94 = .ok (.invokestatic 59, 3) := by decide +kernel
theorem dX5_advance_97 : decode cX5_advance 97 = .ok (.return_, 1) := by decide +kernel
theorem dX5_lend_0 : decode cX5_lend 0 = .ok (.aload_n 0, 1) := by decide +kernel
theorem dX5_lend_1 : decode cX5_lend 1 = .ok (.dup, 1) := by decide +kernel
theorem dX5_lend_2 : decode cX5_lend 2 = .ok (.getfield 27, 3) := by decide +kernel
theorem dX5_lend_5 : decode cX5_lend 5 = .ok (.iload_n 1, 1) := by decide +kernel
theorem dX5_lend_6 : decode cX5_lend 6 = .ok (.isub, 1) := by decide +kernel
theorem dX5_lend_7 : decode cX5_lend 7 = .ok (.putfield 27, 3) := by decide +kernel
theorem dX5_lend_10 : decode cX5_lend 10 = .ok (.aload_n 0, 1) := by decide +kernel
theorem dX5_lend_11 : decode cX5_lend 11 = .ok (.getfield 24, 3) := by decide +kernel
theorem dX5_lend_14 : decode cX5_lend 14 = .ok (.iload_n 2, 1) := by decide +kernel
theorem dX5_lend_15 : decode cX5_lend 15 = .ok (.aload_n 0, 1) := by decide +kernel
theorem dX5_lend_16 : decode cX5_lend 16 = .ok (.getfield 24, 3) := by decide +kernel
theorem dX5_lend_19 : decode cX5_lend 19 = .ok (.iload_n 2, 1) := by decide +kernel
theorem dX5_lend_20 : decode cX5_lend 20 = .ok (.invokestatic 49, 3) := by decide +kernel
theorem dX5_lend_23 : decode cX5_lend 23 = .ok (.iload_n 1, 1) := by decide +kernel
theorem dX5_lend_24 : decode cX5_lend 24 = .ok (.iadd, 1) := by decide +kernel
theorem dX5_lend_25 : decode cX5_lend 25 = .ok (.invokestatic 59, 3) := by decide +kernel
theorem dX5_lend_28 : decode cX5_lend 28 = .ok (.return_, 1) := by decide +kernel
theorem dX5_note_0 : decode cX5_note 0 = .ok (.aload_n 0, 1) := by decide +kernel
theorem dX5_note_1 : decode cX5_note 1 = .ok (.getfield 9, 3) := by decide +kernel
theorem dX5_note_4 : decode cX5_note 4 = .ok (.iload_n 1, 1) := by decide +kernel
theorem dX5_note_5 : decode cX5_note 5 = .ok (.aload_n 0, 1) := by decide +kernel
theorem dX5_note_6 : decode cX5_note 6 = .ok (.getfield 27, 3) := by decide +kernel
theorem dX5_note_9 : decode cX5_note 9 = .ok (.invokestatic 59, 3) := by decide +kernel
theorem dX5_note_12 : decode cX5_note 12 = .ok (.aload_n 0, 1) := by decide +kernel
theorem dX5_note_13 : decode cX5_note 13 = .ok (.getfield 15, 3) := by decide +kernel
theorem dX5_note_16 : decode cX5_note 16 = .ok (.iload_n 1, 1) := by decide +kernel
theorem dX5_note_17 : decode cX5_note 17 = .ok (.aload_n 0, 1) := by decide +kernel
theorem dX5_note_18 : decode cX5_note 18 = .ok (.getfield 31, 3) := by decide +kernel
theorem dX5_note_21 : decode cX5_note 21 = .ok (.invokestatic 59, 3) := by decide +kernel
theorem dX5_note_24 : decode cX5_note 24 = .ok (.aload_n 0, 1) := by decide +kernel
theorem dX5_note_25 : decode cX5_note 25 = .ok (.getfield 18, 3) := by decide +kernel
theorem dX5_note_28 : decode cX5_note 28 = .ok (.iload_n 1, 1) := by decide +kernel
theorem dX5_note_29 : decode cX5_note 29 = .ok (.aload_n 0, 1) := by decide +kernel
theorem dX5_note_30 : decode cX5_note 30 = .ok (.getfield 34, 3) := by decide +kernel
theorem dX5_note_33 : decode cX5_note 33 = .ok (.invokestatic 59, 3) := by decide +kernel
theorem dX5_note_36 : decode cX5_note 36 = .ok (.return_, 1) := by decide +kernel
theorem dX7_add_0 : decode cX7_add 0 = .ok (.aload_n 0, 1) := by decide +kernel
theorem dX7_add_1 : decode cX7_add 1 = .ok (.getfield 9, 3) := by decide +kernel
theorem dX7_add_4 : decode cX7_add 4 = .ok (.aload_n 0, 1) := by decide +kernel
theorem dX7_add_5 : decode cX7_add 5 = .ok (.getfield 21, 3) := by decide +kernel
theorem dX7_add_8 : decode cX7_add 8 = .ok (.iload_n 1, 1) := by decide +kernel
theorem dX7_add_9 : decode cX7_add 9 = .ok (.invokestatic 25, 3) := by decide +kernel
theorem dX7_add_12 : decode cX7_add 12 = .ok (.aload_n 0, 1) := by decide +kernel
theorem dX7_add_13 : decode cX7_add 13 = .ok (.getfield 15, 3) := by decide +kernel
theorem dX7_add_16 : decode cX7_add 16 = .ok (.aload_n 0, 1) := by decide +kernel
theorem dX7_add_17 : decode cX7_add 17 = .ok (.getfield 21, 3) := by decide +kernel
theorem dX7_add_20 : decode cX7_add 20 = .ok (.iload_n 2, 1) := by decide +kernel
theorem dX7_add_21 : decode cX7_add 21 = .ok (.invokestatic 25, 3) := by decide +kernel
theorem dX7_add_24 : decode cX7_add 24 = .ok (.aload_n 0, 1) := by decide +kernel
theorem dX7_add_25 : decode cX7_add 25 = .ok (.getfield 18, 3) := by decide +kernel
theorem dX7_add_28 : decode cX7_add 28 = .ok (.aload_n 0, 1) := by decide +kernel
theorem dX7_add_29 : decode cX7_add 29 = .ok (.getfield 21, 3) := by decide +kernel
theorem dX7_add_32 : decode cX7_add 32 = .ok (.iload_n 3, 1) := by decide +kernel
theorem dX7_add_33 : decode cX7_add 33 = .ok (.invokestatic 25, 3) := by decide +kernel
theorem dX7_add_36 : decode cX7_add 36 = .ok (.aload_n 0, 1) := by decide +kernel
theorem dX7_add_37 : decode cX7_add 37 = .ok (.dup, 1) := by decide +kernel
theorem dX7_add_38 : decode cX7_add 38 = .ok (.getfield 21, 3) := by decide +kernel
theorem dX7_add_41 : decode cX7_add 41 = .ok (.iconst 1, 1) := by decide +kernel
theorem dX7_add_42 : decode cX7_add 42 = .ok (.iadd, 1) := by decide +kernel
theorem dX7_add_43 : decode cX7_add 43 = .ok (.putfield 21, 3) := by decide +kernel
theorem dX7_add_46 : decode cX7_add 46 = .ok (.return_, 1) := by decide +kernel
theorem dX7_nodeOf_0 : decode cX7_nodeOf 0 = .ok (.aload_n 0, 1) := by decide +kernel
theorem dX7_nodeOf_1 : decode cX7_nodeOf 1 = .ok (.getfield 9, 3) := by decide +kernel
theorem dX7_nodeOf_4 : decode cX7_nodeOf 4 = .ok (.iload_n 1, 1) := by decide +kernel
theorem dX7_nodeOf_5 : decode cX7_nodeOf 5 = .ok (.invokestatic 29, 3) := by decide +kernel
theorem dX7_nodeOf_8 : decode cX7_nodeOf 8 = .ok (.ireturn, 1) := by decide +kernel
theorem dX7_limitOf_0 : decode cX7_limitOf 0 = .ok (.aload_n 0, 1) := by decide +kernel
theorem dX7_limitOf_1 : decode cX7_limitOf 1 = .ok (.getfield 15, 3) := by decide +kernel
theorem dX7_limitOf_4 : decode cX7_limitOf 4 = .ok (.iload_n 1, 1) := by decide +kernel
theorem dX7_limitOf_5 : decode cX7_limitOf 5 = .ok (.invokestatic 29, 3) := by decide +kernel
theorem dX7_limitOf_8 : decode cX7_limitOf 8 = .ok (.ireturn, 1) := by decide +kernel
theorem dX7_admits_0 : decode cX7_admits 0 = .ok (.aload_n 0, 1) := by decide +kernel
theorem dX7_admits_1 : decode cX7_admits 1 = .ok (.getfield 18, 3) := by decide +kernel
theorem dX7_admits_4 : decode cX7_admits 4 = .ok (.iload_n 1, 1) := by decide +kernel
theorem dX7_admits_5 : decode cX7_admits 5 = .ok (.invokestatic 29, 3) := by decide +kernel
theorem dX7_admits_8 : decode cX7_admits 8 = .ok (.istore_n 3, 1) := by decide +kernel
theorem dX7_admits_9 : decode cX7_admits 9 = .ok (.iload_n 3, 1) := by decide +kernel
theorem dX7_admits_10 : decode cX7_admits 10 = .ok (.iconst (-1), 1) := by decide +kernel
theorem dX7_admits_11 : decode cX7_admits 11 = .ok (.if_icmp .eq 8, 3) := by decide +kernel
theorem dX7_admits_14 : decode cX7_admits 14 = .ok (.iload_n 3, 1) := by decide +kernel
theorem dX7_admits_15 : decode cX7_admits 15 = .ok (.iload_n 2, 1) := by decide +kernel
theorem dX7_admits_16 : decode cX7_admits 16 = .ok (.if_icmp .ne 7, 3) := by decide +kernel
theorem dX7_admits_19 : decode cX7_admits 19 = .ok (.iconst 1, 1) := by decide +kernel
theorem dX7_admits_20 : decode cX7_admits 20 = .ok (.goto 4, 3) := by decide +kernel
theorem dX7_admits_23 : decode cX7_admits 23 = .ok (.iconst 0, 1) := by decide +kernel
theorem dX7_admits_24 : decode cX7_admits 24 = .ok (.ireturn, 1) := by decide +kernel
theorem dX8_equipAs_0 : decode cX8_equipAs 0 = .ok (.aload_n 0, 1) := by decide +kernel
theorem dX8_equipAs_1 : decode cX8_equipAs 1 = .ok (.aload_n 1, 1) := by decide +kernel
theorem dX8_equipAs_2 : decode cX8_equipAs 2 = .ok (.invokevirtual 61, 3) := by decide +kernel
theorem dX8_equipAs_5 : decode cX8_equipAs 5 = .ok (.aload_n 1, 1) := by decide +kernel
theorem dX8_equipAs_6 : decode cX8_equipAs 6 = .ok (.getfield 67, 3) := by decide +kernel
theorem dX8_equipAs_9 : decode cX8_equipAs 9 = .ok (.aload_n 1, 1) := by decide +kernel
theorem dX8_equipAs_10 : decode cX8_equipAs 10 = .ok (.getfield 71, 3) := by decide +kernel
theorem dX8_equipAs_13 : decode cX8_equipAs 13 = .ok (.invokevirtual 74, 3) := by decide +kernel
theorem dX8_equipAs_16 : decode cX8_equipAs 16 = .ok (.return_, 1) := by decide +kernel
theorem dX8_dropStarts_0 : decode cX8_dropStarts 0 = .ok (.aload_n 0, 1) := by decide +kernel
theorem dX8_dropStarts_1 : decode cX8_dropStarts 1 = .ok (.getfield 18, 3) := by decide +kernel
theorem dX8_dropStarts_4 : decode cX8_dropStarts 4 = .ok (.iconst (-1), 1) := by decide +kernel
theorem dX8_dropStarts_5 : decode cX8_dropStarts 5 = .ok (.invokestatic 87, 3) := by decide +kernel
theorem dX8_dropStarts_8 : decode cX8_dropStarts 8 = .ok (.return_, 1) := by decide +kernel
theorem dX8_startOf_0 : decode cX8_startOf 0 = .ok (.aload_n 0, 1) := by decide +kernel
theorem dX8_startOf_1 : decode cX8_startOf 1 = .ok (.getfield 18, 3) := by decide +kernel
theorem dX8_startOf_4 : decode cX8_startOf 4 = .ok (.iload_n 1, 1) := by decide +kernel
theorem dX8_startOf_5 : decode cX8_startOf 5 = .ok (.invokestatic 99, 3) := by decide +kernel
theorem dX8_startOf_8 : decode cX8_startOf 8 = .ok (.ireturn, 1) := by decide +kernel
theorem dX8_putStart_0 : decode cX8_putStart 0 = .ok (.aload_n 0, 1) := by decide +kernel
theorem dX8_putStart_1 : decode cX8_putStart 1 = .ok (.getfield 18, 3) := by decide +kernel
theorem dX8_putStart_4 : decode cX8_putStart 4 = .ok (.iload_n 1, 1) := by decide +kernel
theorem dX8_putStart_5 : decode cX8_putStart 5 = .ok (.iload_n 2, 1) := by decide +kernel
theorem dX8_putStart_6 : decode cX8_putStart 6 = .ok (.invokestatic 103, 3) := by decide +kernel
theorem dX8_putStart_9 : decode cX8_putStart 9 = .ok (.return_, 1) := by decide +kernel
theorem dX8_slotOfViolation_0 : decode cX8_slotOfViolation 0 = .ok (.aload_n 0, 1) := by decide +kernel
theorem dX8_slotOfViolation_1 : decode cX8_slotOfViolation 1 = .ok (.getfield 40, 3) := by decide +kernel
theorem dX8_slotOfViolation_4 : decode cX8_slotOfViolation 4 = .ok (.iload_n 1, 1) := by decide +kernel
theorem dX8_slotOfViolation_5 : decode cX8_slotOfViolation 5 = .ok (.invokestatic 99, 3) := by decide +kernel
theorem dX8_slotOfViolation_8 : decode cX8_slotOfViolation 8 = .ok (.bipush 8, 2) := by decide +kernel
theorem dX8_slotOfViolation_10 : decode cX8_slotOfViolation 10 = .ok (.ishr, 1) := by decide +kernel
theorem dX8_slotOfViolation_11 : decode cX8_slotOfViolation 11 = .ok (.ireturn, 1) := by decide +kernel
theorem dX8_codeOfViolation_0 : decode cX8_codeOfViolation 0 = .ok (.aload_n 0, 1) := by decide +kernel
theorem dX8_codeOfViolation_1 : decode cX8_codeOfViolation 1 = .ok (.getfield 40, 3) := by decide +kernel
theorem dX8_codeOfViolation_4 : decode cX8_codeOfViolation 4 = .ok (.iload_n 1, 1) := by decide +kernel
theorem dX8_codeOfViolation_5 : decode cX8_codeOfViolation 5 = .ok (.invokestatic 99, 3) := by decide +kernel
theorem dX8_codeOfViolation_8 : decode cX8_codeOfViolation 8 = .ok (.iconst 4, 1) := by decide +kernel
theorem dX8_codeOfViolation_9 : decode cX8_codeOfViolation 9 = .ok (.ishr, 1) := by decide +kernel
theorem dX8_codeOfViolation_10 : decode cX8_codeOfViolation 10 = .ok (.bipush 15, 2) := by decide +kernel
theorem dX8_codeOfViolation_12 : decode cX8_codeOfViolation 12 = .ok (.iand, 1) := by decide +kernel
theorem dX8_codeOfViolation_13 : decode cX8_codeOfViolation 13 = .ok (.ireturn, 1) := by decide +kernel
theorem dX8_subjectOfViolation_0 : decode cX8_subjectOfViolation 0 = .ok (.aload_n 0, 1) := by decide +kernel
theorem dX8_subjectOfViolation_1 : decode cX8_subjectOfViolation 1 = .ok (.getfield 40, 3) := by decide +kernel
theorem dX8_subjectOfViolation_4 : decode cX8_subjectOfViolation 4 = .ok (.iload_n 1, 1) := by decide +kernel
theorem dX8_subjectOfViolation_5 : decode cX8_subjectOfViolation 5 = .ok (.invokestatic 99, 3) := by decide +kernel
theorem dX8_subjectOfViolation_8 : decode cX8_subjectOfViolation 8 = .ok (.bipush 15, 2) := by decide +kernel
theorem dX8_subjectOfViolation_10 : decode cX8_subjectOfViolation 10 = .ok (.iand, 1) := by decide +kernel
theorem dX8_subjectOfViolation_11 : decode cX8_subjectOfViolation 11 = .ok (.ireturn, 1) := by decide +kernel
theorem dX8_reset_0 : decode cX8_reset 0 = .ok (.aload_n 0, 1) := by decide +kernel
theorem dX8_reset_1 : decode cX8_reset 1 = .ok (.getfield 12, 3) := by decide +kernel
theorem dX8_reset_4 : decode cX8_reset 4 = .ok (.aload_n 0, 1) := by decide +kernel
theorem dX8_reset_5 : decode cX8_reset 5 = .ok (.getfield 81, 3) := by decide +kernel
theorem dX8_reset_8 : decode cX8_reset 8 = .ok (.aload_n 0, 1) := by decide +kernel
theorem dX8_reset_9 : decode cX8_reset 9 = .ok (.getfield 84, 3) := by decide +kernel
theorem dX8_reset_12 : decode cX8_reset 12 = .ok (.aload_n 0, 1) := by decide +kernel
theorem dX8_reset_13 : decode cX8_reset 13 = .ok (.getfield 46, 3) := by decide +kernel
theorem dX8_reset_16 : decode cX8_reset 16 = .ok (.getfield 159, 3) := by decide +kernel
theorem dX8_reset_19 : decode cX8_reset 19 = .ok (.invokevirtual 162, 3) := by decide +kernel
theorem dX8_reset_22 : decode cX8_reset 22 = .ok (.aload_n 0, 1) := by decide +kernel
theorem dX8_reset_23 : decode cX8_reset 23 = .ok (.getfield 43, 3) := by decide +kernel
theorem dX8_reset_26 : decode cX8_reset 26 = .ok (.iconst 0, 1) := by decide +kernel
theorem dX8_reset_27 : decode cX8_reset 27 = .ok (.invokestatic 87, 3) := by decide +kernel
theorem dX8_reset_30 : decode cX8_reset 30 = .ok (.aload_n 0, 1) := by decide +kernel
theorem dX8_reset_31 : decode cX8_reset 31 = .ok (.getfield 22, 3) := by decide +kernel
theorem dX8_reset_34 : decode cX8_reset 34 = .ok (.iconst 0, 1) := by decide +kernel
theorem dX8_reset_35 : decode cX8_reset 35 = .ok (.invokestatic 87, 3) := by decide +kernel
theorem dX8_reset_38 : decode cX8_reset 38 = .ok (.aload_n 0, 1) := by decide +kernel
theorem dX8_reset_39 : decode cX8_reset 39 = .ok (.getfield 25, 3) := by decide +kernel
theorem dX8_reset_42 : decode cX8_reset 42 = .ok (.iconst 0, 1) := by decide +kernel
theorem dX8_reset_43 : decode cX8_reset 43 = .ok (.invokestatic 87, 3) := by decide +kernel
theorem dX8_reset_46 : decode cX8_reset 46 = .ok (.aload_n 0, 1) := by decide +kernel
theorem dX8_reset_47 : decode cX8_reset 47 = .ok (.getfield 28, 3) := by decide +kernel
theorem dX8_reset_50 : decode cX8_reset 50 = .ok (.iconst (-1), 1) := by decide +kernel
theorem dX8_reset_51 : decode cX8_reset 51 = .ok (.invokestatic 87, 3) := by decide +kernel
theorem dX8_reset_54 : decode cX8_reset 54 = .ok (.aload_n 0, 1) := by decide +kernel
theorem dX8_reset_55 : decode cX8_reset 55 = .ok (.getfield 31, 3) := by decide +kernel
theorem dX8_reset_58 : decode cX8_reset 58 = .ok (.iconst (-1), 1) := by decide +kernel
theorem dX8_reset_59 : decode cX8_reset 59 = .ok (.invokestatic 87, 3) := by decide +kernel
theorem dX8_reset_62 : decode cX8_reset 62 = .ok (.aload_n 0, 1) := by decide +kernel
theorem dX8_reset_63 : decode cX8_reset 63 = .ok (.getfield 34, 3) := by decide +kernel
theorem dX8_reset_66 : decode cX8_reset 66 = .ok (.iconst (-1), 1) := by decide +kernel
theorem dX8_reset_67 : decode cX8_reset 67 = .ok (.invokestatic 87, 3) := by decide +kernel
theorem dX8_reset_70 : decode cX8_reset 70 = .ok (.aload_n 0, 1) := by decide +kernel
theorem dX8_reset_71 : decode cX8_reset 71 = .ok (.iconst 0, 1) := by decide +kernel
theorem dX8_reset_72 : decode cX8_reset 72 = .ok (.putfield 140, 3) := by decide +kernel
theorem dX8_reset_75 : decode cX8_reset 75 = .ok (.aload_n 0, 1) := by decide +kernel
theorem dX8_reset_76 : decode cX8_reset 76 = .ok (.iconst (-1), 1) := by decide +kernel
theorem dX8_reset_77 : decode cX8_reset 77 = .ok (.putfield 156, 3) := by decide +kernel
theorem dX8_reset_80 : decode cX8_reset 80 = .ok (.iconst 0, 1) := by decide +kernel
theorem dX8_reset_81 : decode cX8_reset 81 = .ok (.istore_n 1, 1) := by decide +kernel
theorem dX8_reset_82 : decode cX8_reset 82 = .ok (.iload_n 1, 1) := by decide +kernel
theorem dX8_reset_83 : decode cX8_reset 83 = .ok (.iconst 5, 1) := by decide +kernel
theorem dX8_reset_84 : decode cX8_reset 84 = .ok (.if_icmp .ge 26, 3) := by decide +kernel
theorem dX8_reset_87 : decode cX8_reset 87 = .ok (.aload_n 0, 1) := by decide +kernel
theorem dX8_reset_88 : decode cX8_reset 88 = .ok (.aload_n 0, 1) := by decide +kernel
theorem dX8_reset_89 : decode cX8_reset 89 = .ok (.getfield 156, 3) := by decide +kernel
theorem dX8_reset_92 : decode cX8_reset 92 = .ok (.aload_n 0, 1) := by decide +kernel
theorem dX8_reset_93 : decode cX8_reset 93 = .ok (.getfield 18, 3) := by decide +kernel
theorem dX8_reset_96 : decode cX8_reset 96 = .ok (.iload_n 1, 1) := by decide +kernel
theorem dX8_reset_97 : decode cX8_reset 97 = .ok (.iaload, 1) := by decide +kernel
theorem dX8_reset_98 : decode cX8_reset 98 = .ok (.invokestatic 116, 3) := by decide +kernel
theorem dX8_reset_101 : decode cX8_reset 101 = .ok (.putfield 156, 3) := by decide +kernel
theorem dX8_reset_104 : decode cX8_reset 104 = .ok (.iinc 1 1, 3) := by decide +kernel
theorem dX8_reset_107 : decode cX8_reset 107 = .ok (.goto (-25), 3) := by decide +kernel
theorem dX8_reset_110 : decode cX8_reset 110 = .ok (.return_, 1) := by decide +kernel
theorem dX8_followsOthers_0 : decode cX8_followsOthers 0 = .ok (.aload_n 0, 1) := by decide +kernel
theorem dX8_followsOthers_1 : decode cX8_followsOthers 1 = .ok (.getfield 46, 3) := by decide +kernel
theorem dX8_followsOthers_4 : decode cX8_followsOthers 4 = .ok (.getfield 107, 3) := by decide +kernel
theorem dX8_followsOthers_7 : decode cX8_followsOthers 7 = .ok (.getfield 182, 3) := by decide +kernel
theorem dX8_followsOthers_10 : decode cX8_followsOthers 10 = .ok (.iload_n 1, 1) := by decide +kernel
theorem dX8_followsOthers_11 : decode cX8_followsOthers 11 = .ok (.invokestatic 99, 3) := by decide +kernel
theorem dX8_followsOthers_14 : decode cX8_followsOthers 14 = .ok (.istore_n 3, 1) := by decide +kernel
theorem dX8_followsOthers_15 : decode cX8_followsOthers 15 = .ok (.iconst 0, 1) := by decide +kernel
theorem dX8_followsOthers_16 : decode cX8_followsOthers 16 = .ok (.istore 4, 2) := by decide +kernel
theorem dX8_followsOthers_18 : decode cX8_followsOthers 18 = .ok (.iload 4, 2) := by decide +kernel
theorem dX8_followsOthers_20 : decode cX8_followsOthers 20 = .ok (.iconst 5, 1) := by decide +kernel
theorem dX8_followsOthers_21 : decode cX8_followsOthers 21 = .ok (.if_icmp .ge 42, 3) := by decide +kernel
theorem dX8_followsOthers_24 : decode cX8_followsOthers 24 = .ok (.iload_n 3, 1) := by decide +kernel
theorem dX8_followsOthers_25 : decode cX8_followsOthers 25 = .ok (.iload 4, 2) := by decide +kernel
theorem dX8_followsOthers_27 : decode cX8_followsOthers 27 = .ok (.ishr, 1) := by decide +kernel
theorem dX8_followsOthers_28 : decode cX8_followsOthers 28 = .ok (.iconst 1, 1) := by decide +kernel
theorem dX8_followsOthers_29 : decode cX8_followsOthers 29 = .ok (.iand, 1) := by decide +kernel
theorem dX8_followsOthers_30 : decode cX8_followsOthers 30 = .ok (.ifCond .eq 27, 3) := by decide +kernel
theorem dX8_followsOthers_33 : decode cX8_followsOthers 33 = .ok (.aload_n 0, 1) := by decide +kernel
theorem dX8_followsOthers_34 : decode cX8_followsOthers 34 = .ok (.getfield 22, 3) := by decide +kernel
theorem dX8_followsOthers_37 : decode cX8_followsOthers 37 = .ok (.iload 4, 2) := by decide +kernel
theorem dX8_followsOthers_39 : decode cX8_followsOthers 39 = .ok (.iaload, 1) := by decide +kernel
theorem dX8_followsOthers_40 : decode cX8_followsOthers 40 = .ok (.iconst 1, 1) := by decide +kernel
theorem dX8_followsOthers_41 : decode cX8_followsOthers 41 = .ok (.if_icmp .ne 14, 3) := by decide +kernel
theorem dX8_followsOthers_44 : decode cX8_followsOthers 44 = .ok (.aload_n 0, 1) := by decide +kernel
theorem dX8_followsOthers_45 : decode cX8_followsOthers 45 = .ok (.getfield 31, 3) := by decide +kernel
theorem dX8_followsOthers_48 : decode cX8_followsOthers 48 = .ok (.iload 4, 2) := by decide +kernel
theorem dX8_followsOthers_50 : decode cX8_followsOthers 50 = .ok (.iaload, 1) := by decide +kernel
theorem dX8_followsOthers_51 : decode cX8_followsOthers 51 = .ok (.iload_n 2, 1) := by decide +kernel
theorem dX8_followsOthers_52 : decode cX8_followsOthers 52 = .ok (.if_icmp .le 5, 3) := by decide +kernel
theorem dX8_followsOthers_55 : decode cX8_followsOthers 55 = .ok (.iconst 0, 1) := by decide +kernel
theorem dX8_followsOthers_56 : decode cX8_followsOthers 56 = .ok (.ireturn, 1) := by decide +kernel
theorem dX8_followsOthers_57 : decode cX8_followsOthers 57 = .ok (.iinc 4 1, 3) := by decide +kernel
theorem dX8_followsOthers_60 : decode cX8_followsOthers 60 = .ok (.goto (-42), 3) := by decide +kernel
theorem dX8_followsOthers_63 : decode cX8_followsOthers 63 = .ok (.iconst 1, 1) := by decide +kernel
theorem dX8_followsOthers_64 : decode cX8_followsOthers 64 = .ok (.ireturn, 1) := by decide +kernel
theorem dX8_chooseEngines_0 : decode cX8_chooseEngines 0 = .ok (.aload_n 0, 1) := by decide +kernel
theorem dX8_chooseEngines_1 : decode cX8_chooseEngines 1 = .ok (.getfield 78, 3) := by decide +kernel
theorem dX8_chooseEngines_4 : decode cX8_chooseEngines 4 = .ok (.aload_n 0, 1) := by decide +kernel
theorem dX8_chooseEngines_5 : decode cX8_chooseEngines 5 = .ok (.getfield 140, 3) := by decide +kernel
theorem dX8_chooseEngines_8 : decode cX8_chooseEngines 8 = .ok (.iconst (-1), 1) := by decide +kernel
theorem dX8_chooseEngines_9 : decode cX8_chooseEngines 9 = .ok (.ixor, 1) := by decide +kernel
theorem dX8_chooseEngines_10 : decode cX8_chooseEngines 10 = .ok (.iand, 1) := by decide +kernel
theorem dX8_chooseEngines_11 : decode cX8_chooseEngines 11 = .ok (.istore_n 2, 1) := by decide +kernel
theorem dX8_chooseEngines_12 : decode cX8_chooseEngines 12 = .ok (.iconst 0, 1) := by decide +kernel
theorem dX8_chooseEngines_13 : decode cX8_chooseEngines 13 = .ok (.istore_n 3, 1) := by decide +kernel
theorem dX8_chooseEngines_14 : decode cX8_chooseEngines 14 = .ok (.iconst 0, 1) := by decide +kernel
theorem dX8_chooseEngines_15 : decode cX8_chooseEngines 15 = .ok (.istore 4, 2) := by decide +kernel
theorem dX8_chooseEngines_17 : decode cX8_chooseEngines 17 = .ok (.iload 4, 2) := by decide +kernel
theorem dX8_chooseEngines_19 : decode cX8_chooseEngines 19 = .ok (.iconst 3, 1) := by decide +kernel
theorem dX8_chooseEngines_20 : decode cX8_chooseEngines 20 = .ok (.if_icmp .ge 128, 3) := by decide +kernel
theorem dX8_chooseEngines_23 : decode cX8_chooseEngines 23 = .ok (.aload_n 0, 1) := by decide +kernel
theorem dX8_chooseEngines_24 : decode cX8_chooseEngines 24 = .ok (.getfield 46, 3) := by decide +kernel
theorem dX8_chooseEngines_27 : decode cX8_chooseEngines 27 = .ok (.getfield 107, 3) := by decide +kernel
theorem dX8_chooseEngines_30 : decode cX8_chooseEngines 30 = .ok (.getfield 185, 3) := by decide +kernel
theorem dX8_chooseEngines_33 : decode cX8_chooseEngines 33 = .ok (.iload_n 1, 1) := by decide +kernel
theorem dX8_chooseEngines_34 : decode cX8_chooseEngines 34 = .ok (.iconst 3, 1) := by decide +kernel
theorem dX8_chooseEngines_35 : decode cX8_chooseEngines 35 = .ok (.imul, 1) := by decide +kernel
theorem dX8_chooseEngines_36 : decode cX8_chooseEngines 36 = .ok (.iload 4, 2) := by decide +kernel
theorem dX8_chooseEngines_38 : decode cX8_chooseEngines 38 = .ok (.iadd, 1) := by decide +kernel
theorem dX8_chooseEngines_39 : decode cX8_chooseEngines 39 = .ok (.invokestatic 99, 3) := by decide +kernel
theorem dX8_chooseEngines_42 : decode cX8_chooseEngines 42 = .ok (.istore 5, 2) := by decide +kernel
theorem dX8_chooseEngines_44 : decode cX8_chooseEngines 44 = .ok (.iconst 0, 1) := by decide +kernel
theorem dX8_chooseEngines_45 : decode cX8_chooseEngines 45 = .ok (.istore 6, 2) := by decide +kernel
theorem dX8_chooseEngines_47 : decode cX8_chooseEngines 47 = .ok (.iload 6, 2) := by decide +kernel
theorem dX8_chooseEngines_49 : decode cX8_chooseEngines 49 = .ok (.aload_n 0, 1) := by decide +kernel
theorem dX8_chooseEngines_50 : decode cX8_chooseEngines 50 = .ok (.getfield 46, 3) := by decide +kernel
theorem dX8_chooseEngines_53 : decode cX8_chooseEngines 53 = .ok (.getfield 107, 3) := by decide +kernel
theorem dX8_chooseEngines_56 : decode cX8_chooseEngines 56 = .ok (.getfield 188, 3) := by decide +kernel
theorem dX8_chooseEngines_59 : decode cX8_chooseEngines 59 = .ok (.iload_n 1, 1) := by decide +kernel
theorem dX8_chooseEngines_60 : decode cX8_chooseEngines 60 = .ok (.invokestatic 99, 3) := by decide +kernel
theorem dX8_chooseEngines_63 : decode cX8_chooseEngines 63 = .ok (.if_icmp .ge 72, 3) := by decide +kernel
theorem dX8_chooseEngines_66 : decode cX8_chooseEngines 66 = .ok (.iload 5, 2) := by decide +kernel
theorem dX8_chooseEngines_68 : decode cX8_chooseEngines 68 = .ok (.ifCond .le 67, 3) := by decide +kernel
theorem dX8_chooseEngines_71 : decode cX8_chooseEngines 71 = .ok (.aload_n 0, 1) := by decide +kernel
theorem dX8_chooseEngines_72 : decode cX8_chooseEngines 72 = .ok (.getfield 46, 3) := by decide +kernel
theorem dX8_chooseEngines_75 : decode cX8_chooseEngines 75 = .ok (.getfield 107, 3) := by decide +kernel
theorem dX8_chooseEngines_78 : decode cX8_chooseEngines 78 = .ok (.getfield 191, 3) := by decide +kernel
theorem dX8_chooseEngines_81 : decode cX8_chooseEngines 81 = .ok (.iload_n 1, 1) := by decide +kernel
theorem dX8_chooseEngines_82 : decode cX8_chooseEngines 82 = .ok (.bipush 10, 2) := by decide +kernel
theorem dX8_chooseEngines_84 : decode cX8_chooseEngines 84 = .ok (.imul, 1) := by decide +kernel
theorem dX8_chooseEngines_85 : decode cX8_chooseEngines 85 = .ok (.iload 6, 2) := by decide +kernel
theorem dX8_chooseEngines_87 : decode cX8_chooseEngines 87 = .ok (.iadd, 1) := by decide +kernel
theorem dX8_chooseEngines_88 : decode cX8_chooseEngines 88 = .ok (.invokestatic 99, 3) := by decide +kernel
theorem dX8_chooseEngines_91 : decode cX8_chooseEngines 91 = .ok (.istore 7, 2) := by decide +kernel
theorem dX8_chooseEngines_93 : decode cX8_chooseEngines 93 = .ok (.iload_n 2, 1) := by decide +kernel
theorem dX8_chooseEngines_94 : decode cX8_chooseEngines 94 = .ok (.iload 7, 2) := by decide +kernel
theorem dX8_chooseEngines_96 : decode cX8_chooseEngines 96 = .ok (.ishr, 1) := by decide +kernel
theorem dX8_chooseEngines_97 : decode cX8_chooseEngines 97 = .ok (.iconst 1, 1) := by decide +kernel
theorem dX8_chooseEngines_98 : decode cX8_chooseEngines 98 = .ok (.iand, 1) := by decide +kernel
theorem dX8_chooseEngines_99 : decode cX8_chooseEngines 99 = .ok (.ifCond .eq 30, 3) := by decide +kernel
theorem dX8_chooseEngines_102 : decode cX8_chooseEngines 102 = .ok (.aload_n 0, 1) := by decide +kernel
theorem dX8_chooseEngines_103 : decode cX8_chooseEngines 103 = .ok (.getfield 46, 3) := by decide +kernel
theorem dX8_chooseEngines_106 : decode cX8_chooseEngines 106 = .ok (.getfield 194, 3) := by decide +kernel
theorem dX8_chooseEngines_109 : decode cX8_chooseEngines 109 = .ok (.iload 7, 2) := by decide +kernel
theorem dX8_chooseEngines_111 : decode cX8_chooseEngines 111 = .ok (.invokestatic 99, 3) := by decide +kernel
theorem dX8_chooseEngines_114 : decode cX8_chooseEngines 114 = .ok (.iload 4, 2) := by decide +kernel
theorem dX8_chooseEngines_116 : decode cX8_chooseEngines 116 = .ok (.if_icmp .ne 13, 3) := by decide +kernel
theorem dX8_chooseEngines_119 : decode cX8_chooseEngines 119 = .ok (.iload_n 3, 1) := by decide +kernel
theorem dX8_chooseEngines_120 : decode cX8_chooseEngines 120 = .ok (.iconst 1, 1) := by decide +kernel
theorem dX8_chooseEngines_121 : decode cX8_chooseEngines 121 = .ok (.iload 7, 2) := by decide +kernel
theorem dX8_chooseEngines_123 : decode cX8_chooseEngines 123 = .ok (.ishl, 1) := by decide +kernel
theorem dX8_chooseEngines_124 : decode cX8_chooseEngines 124 = .ok (.ior, 1) := by decide +kernel
theorem dX8_chooseEngines_125 : decode cX8_chooseEngines 125 = .ok (.istore_n 3, 1) := by decide +kernel
theorem dX8_chooseEngines_126 : decode cX8_chooseEngines 126 = .ok (.iinc 5 (-1), 3) := by decide +kernel
theorem dX8_chooseEngines_129 : decode cX8_chooseEngines 129 = .ok (.iinc 6 1, 3) := by decide +kernel
theorem dX8_chooseEngines_132 : decode cX8_chooseEngines 132 = .ok (.goto (-85), 3) := by decide +kernel
theorem dX8_chooseEngines_135 : decode cX8_chooseEngines 135 = .ok (.iload 5, 2) := by decide +kernel
theorem dX8_chooseEngines_137 : decode cX8_chooseEngines 137 = .ok (.ifCond .le 5, 3) := by decide +kernel
theorem dX8_chooseEngines_140 : decode cX8_chooseEngines 140 = .ok (.iconst 0, 1) := by decide +kernel
theorem dX8_chooseEngines_141 : decode cX8_chooseEngines 141 = .ok (.ireturn, 1) := by decide +kernel
theorem dX8_chooseEngines_142 : decode cX8_chooseEngines 142 = .ok (.iinc 4 1, 3) := by decide +kernel
theorem dX8_chooseEngines_145 : decode cX8_chooseEngines 145 = .ok (.goto (-128), 3) := by decide +kernel
theorem dX8_chooseEngines_148 : decode cX8_chooseEngines 148 = .ok (.iload_n 3, 1) := by decide +kernel
theorem dX8_chooseEngines_149 : decode cX8_chooseEngines 149 = .ok (.ireturn, 1) := by decide +kernel
theorem dX8_sendOut_0 : decode cX8_sendOut 0 = .ok (.iconst 0, 1) := by decide +kernel
theorem dX8_sendOut_1 : decode cX8_sendOut 1 = .ok (.istore 4, 2) := by decide +kernel
theorem dX8_sendOut_3 : decode cX8_sendOut 3 = .ok (.iconst 0, 1) := by decide +kernel
theorem dX8_sendOut_4 : decode cX8_sendOut 4 = .ok (.istore 5, 2) := by decide +kernel
theorem dX8_sendOut_6 : decode cX8_sendOut 6 = .ok (.iload 5, 2) := by decide +kernel
theorem dX8_sendOut_8 : decode cX8_sendOut 8 = .ok (.bipush 10, 2) := by decide +kernel
theorem dX8_sendOut_10 : decode cX8_sendOut 10 = .ok (.if_icmp .ge 45, 3) := by decide +kernel
theorem dX8_sendOut_13 : decode cX8_sendOut 13 = .ok (.iload_n 3, 1) := by decide +kernel
theorem dX8_sendOut_14 : decode cX8_sendOut 14 = .ok (.iload 5, 2) := by decide +kernel
theorem dX8_sendOut_16 : decode cX8_sendOut 16 = .ok (.ishr, 1) := by decide +kernel
theorem dX8_sendOut_17 : decode cX8_sendOut 17 = .ok (.iconst 1, 1) := by decide +kernel
theorem dX8_sendOut_18 : decode cX8_sendOut 18 = .ok (.iand, 1) := by decide +kernel
theorem dX8_sendOut_19 : decode cX8_sendOut 19 = .ok (.ifCond .eq 30, 3) := by decide +kernel
theorem dX8_sendOut_22 : decode cX8_sendOut 22 = .ok (.iload 4, 2) := by decide +kernel
theorem dX8_sendOut_24 : decode cX8_sendOut 24 = .ok (.aload_n 0, 1) := by decide +kernel
theorem dX8_sendOut_25 : decode cX8_sendOut 25 = .ok (.getfield 46, 3) := by decide +kernel
theorem dX8_sendOut_28 : decode cX8_sendOut 28 = .ok (.getfield 107, 3) := by decide +kernel
theorem dX8_sendOut_31 : decode cX8_sendOut 31 = .ok (.getfield 197, 3) := by decide +kernel
theorem dX8_sendOut_34 : decode cX8_sendOut 34 = .ok (.iload_n 1, 1) := by decide +kernel
theorem dX8_sendOut_35 : decode cX8_sendOut 35 = .ok (.bipush 10, 2) := by decide +kernel
theorem dX8_sendOut_37 : decode cX8_sendOut 37 = .ok (.imul, 1) := by decide +kernel
theorem dX8_sendOut_38 : decode cX8_sendOut 38 = .ok (.iload 5, 2) := by decide +kernel
theorem dX8_sendOut_40 : decode cX8_sendOut 40 = .ok (.iadd, 1) := by decide +kernel
theorem dX8_sendOut_41 : decode cX8_sendOut 41 = .ok (.invokestatic 99, 3) := by decide +kernel
theorem dX8_sendOut_44 : decode cX8_sendOut 44 = .ok (.invokestatic 116, 3) := by decide +kernel
theorem dX8_sendOut_47 : decode cX8_sendOut 47 = .ok (.istore 4, 2) := by decide +kernel
theorem dX8_sendOut_49 : decode cX8_sendOut 49 = .ok (.iinc 5 1, 3) := by decide +kernel
theorem dX8_sendOut_52 : decode cX8_sendOut 52 = .ok (.goto (-46), 3) := by decide +kernel
theorem dX8_sendOut_55 : decode cX8_sendOut 55 = .ok (.iload_n 2, 1) := by decide +kernel
theorem dX8_sendOut_56 : decode cX8_sendOut 56 = .ok (.iload 4, 2) := by decide +kernel
theorem dX8_sendOut_58 : decode cX8_sendOut 58 = .ok (.iadd, 1) := by decide +kernel
theorem dX8_sendOut_59 : decode cX8_sendOut 59 = .ok (.aload_n 0, 1) := by decide +kernel
theorem dX8_sendOut_60 : decode cX8_sendOut 60 = .ok (.getfield 46, 3) := by decide +kernel
theorem dX8_sendOut_63 : decode cX8_sendOut 63 = .ok (.getfield 107, 3) := by decide +kernel
theorem dX8_sendOut_66 : decode cX8_sendOut 66 = .ok (.getfield 200, 3) := by decide +kernel
theorem dX8_sendOut_69 : decode cX8_sendOut 69 = .ok (.iload_n 1, 1) := by decide +kernel
theorem dX8_sendOut_70 : decode cX8_sendOut 70 = .ok (.invokestatic 99, 3) := by decide +kernel
theorem dX8_sendOut_73 : decode cX8_sendOut 73 = .ok (.iadd, 1) := by decide +kernel
theorem dX8_sendOut_74 : decode cX8_sendOut 74 = .ok (.istore 5, 2) := by decide +kernel
theorem dX8_sendOut_76 : decode cX8_sendOut 76 = .ok (.iconst 0, 1) := by decide +kernel
theorem dX8_sendOut_77 : decode cX8_sendOut 77 = .ok (.istore 6, 2) := by decide +kernel
theorem dX8_sendOut_79 : decode cX8_sendOut 79 = .ok (.iload 6, 2) := by decide +kernel
theorem dX8_sendOut_81 : decode cX8_sendOut 81 = .ok (.bipush 10, 2) := by decide +kernel
theorem dX8_sendOut_83 : decode cX8_sendOut 83 = .ok (.if_icmp .ge 66, 3) := by decide +kernel
theorem dX8_sendOut_86 : decode cX8_sendOut 86 = .ok (.iload_n 3, 1) := by decide +kernel
theorem dX8_sendOut_87 : decode cX8_sendOut 87 = .ok (.iload 6, 2) := by decide +kernel
theorem dX8_sendOut_89 : decode cX8_sendOut 89 = .ok (.ishr, 1) := by decide +kernel
theorem dX8_sendOut_90 : decode cX8_sendOut 90 = .ok (.iconst 1, 1) := by decide +kernel
theorem dX8_sendOut_91 : decode cX8_sendOut 91 = .ok (.iand, 1) := by decide +kernel
theorem dX8_sendOut_92 : decode cX8_sendOut 92 = .ok (.ifCond .eq 51, 3) := by decide +kernel
theorem dX8_sendOut_95 : decode cX8_sendOut 95 = .ok (.iload 5, 2) := by decide +kernel
theorem dX8_sendOut_97 : decode cX8_sendOut 97 = .ok (.aload_n 0, 1) := by decide +kernel
theorem dX8_sendOut_98 : decode cX8_sendOut 98 = .ok (.getfield 46, 3) := by decide +kernel
theorem dX8_sendOut_101 : decode cX8_sendOut 101 = .ok (.getfield 107, 3) := by decide +kernel
theorem dX8_sendOut_104 : decode cX8_sendOut 104 = .ok (.getfield 197, 3) := by decide +kernel
theorem dX8_sendOut_107 : decode cX8_sendOut 107 = .ok (.iload_n 1, 1) := by decide +kernel
theorem dX8_sendOut_108 : decode cX8_sendOut 108 = .ok (.bipush 10, 2) := by decide +kernel
theorem dX8_sendOut_110 : decode cX8_sendOut 110 = .ok (.imul, 1) := by decide +kernel
theorem dX8_sendOut_111 : decode cX8_sendOut 111 = .ok (.iload 6, 2) := by decide +kernel
theorem dX8_sendOut_113 : decode cX8_sendOut 113 = .ok (.iadd, 1) := by decide +kernel
theorem dX8_sendOut_114 : decode cX8_sendOut 114 = .ok (.invokestatic 99, 3) := by decide +kernel
theorem dX8_sendOut_117 : decode cX8_sendOut 117 = .ok (.iadd, 1) := by decide +kernel
theorem dX8_sendOut_118 : decode cX8_sendOut 118 = .ok (.istore 7, 2) := by decide +kernel
theorem dX8_sendOut_120 : decode cX8_sendOut 120 = .ok (.aload_n 0, 1) := by decide +kernel
theorem dX8_sendOut_121 : decode cX8_sendOut 121 = .ok (.getfield 43, 3) := by decide +kernel
theorem dX8_sendOut_124 : decode cX8_sendOut 124 = .ok (.iload 7, 2) := by decide +kernel
theorem dX8_sendOut_126 : decode cX8_sendOut 126 = .ok (.aload_n 0, 1) := by decide +kernel
theorem dX8_sendOut_127 : decode cX8_sendOut 127 = .ok (.getfield 43, 3) := by decide +kernel
theorem dX8_sendOut_130 : decode cX8_sendOut 130 = .ok (.iload 7, 2) := by decide +kernel
theorem dX8_sendOut_132 : decode cX8_sendOut 132 = .ok (.invokestatic 99, 3) := by decide +kernel
theorem dX8_sendOut_135 : decode cX8_sendOut 135 = .ok (.iconst 1, 1) := by decide +kernel
theorem dX8_sendOut_136 : decode cX8_sendOut 136 = .ok (.iload 6, 2) := by decide +kernel
theorem dX8_sendOut_138 : decode cX8_sendOut 138 = .ok (.ishl, 1) := by decide +kernel
theorem dX8_sendOut_139 : decode cX8_sendOut 139 = .ok (.ior, 1) := by decide +kernel
theorem dX8_sendOut_140 : decode cX8_sendOut 140 = .ok (.invokestatic 103, 3) := by decide +kernel
theorem dX8_sendOut_143 : decode cX8_sendOut 143 = .ok (.iinc 6 1, 3) := by decide +kernel
theorem dX8_sendOut_146 : decode cX8_sendOut 146 = .ok (.goto (-67), 3) := by decide +kernel
theorem dX8_sendOut_149 : decode cX8_sendOut 149 = .ok (.aload_n 0, 1) := by decide +kernel
theorem dX8_sendOut_150 : decode cX8_sendOut 150 = .ok (.dup, 1) := by decide +kernel
theorem dX8_sendOut_151 : decode cX8_sendOut 151 = .ok (.getfield 140, 3) := by decide +kernel
theorem dX8_sendOut_154 : decode cX8_sendOut 154 = .ok (.iload_n 3, 1) := by decide +kernel
theorem dX8_sendOut_155 : decode cX8_sendOut 155 = .ok (.ior, 1) := by decide +kernel
theorem dX8_sendOut_156 : decode cX8_sendOut 156 = .ok (.putfield 140, 3) := by decide +kernel
theorem dX8_sendOut_159 : decode cX8_sendOut 159 = .ok (.aload_n 0, 1) := by decide +kernel
theorem dX8_sendOut_160 : decode cX8_sendOut 160 = .ok (.getfield 25, 3) := by decide +kernel
theorem dX8_sendOut_163 : decode cX8_sendOut 163 = .ok (.iload_n 1, 1) := by decide +kernel
theorem dX8_sendOut_164 : decode cX8_sendOut 164 = .ok (.iload_n 3, 1) := by decide +kernel
theorem dX8_sendOut_165 : decode cX8_sendOut 165 = .ok (.invokestatic 103, 3) := by decide +kernel
theorem dX8_sendOut_168 : decode cX8_sendOut 168 = .ok (.aload_n 0, 1) := by decide +kernel
theorem dX8_sendOut_169 : decode cX8_sendOut 169 = .ok (.getfield 28, 3) := by decide +kernel
theorem dX8_sendOut_172 : decode cX8_sendOut 172 = .ok (.iload_n 1, 1) := by decide +kernel
theorem dX8_sendOut_173 : decode cX8_sendOut 173 = .ok (.iload_n 2, 1) := by decide +kernel
theorem dX8_sendOut_174 : decode cX8_sendOut 174 = .ok (.iload 4, 2) := by decide +kernel
theorem dX8_sendOut_176 : decode cX8_sendOut 176 = .ok (.iadd, 1) := by decide +kernel
theorem dX8_sendOut_177 : decode cX8_sendOut 177 = .ok (.invokestatic 103, 3) := by decide +kernel
theorem dX8_sendOut_180 : decode cX8_sendOut 180 = .ok (.aload_n 0, 1) := by decide +kernel
theorem dX8_sendOut_181 : decode cX8_sendOut 181 = .ok (.getfield 31, 3) := by decide +kernel
theorem dX8_sendOut_184 : decode cX8_sendOut 184 = .ok (.iload_n 1, 1) := by decide +kernel
theorem dX8_sendOut_185 : decode cX8_sendOut 185 = .ok (.iload 5, 2) := by decide +kernel
theorem dX8_sendOut_187 : decode cX8_sendOut 187 = .ok (.invokestatic 103, 3) := by decide +kernel
theorem dX8_sendOut_190 : decode cX8_sendOut 190 = .ok (.aload_n 0, 1) := by decide +kernel
theorem dX8_sendOut_191 : decode cX8_sendOut 191 = .ok (.getfield 34, 3) := by decide +kernel
theorem dX8_sendOut_194 : decode cX8_sendOut 194 = .ok (.iload_n 1, 1) := by decide +kernel
theorem dX8_sendOut_195 : decode cX8_sendOut 195 = .ok (.iload 5, 2) := by decide +kernel
theorem dX8_sendOut_197 : decode cX8_sendOut 197 = .ok (.iload 4, 2) := by decide +kernel
theorem dX8_sendOut_199 : decode cX8_sendOut 199 = .ok (.iadd, 1) := by decide +kernel
theorem dX8_sendOut_200 : decode cX8_sendOut 200 = .ok (.invokestatic 103, 3) := by decide +kernel
theorem dX8_sendOut_203 : decode cX8_sendOut 203 = .ok (.return_, 1) := by decide +kernel
theorem dX8_addViolation_0 : decode cX8_addViolation 0 = .ok (.aload_n 0, 1) := by decide +kernel
theorem dX8_addViolation_1 : decode cX8_addViolation 1 = .ok (.getfield 40, 3) := by decide +kernel
theorem dX8_addViolation_4 : decode cX8_addViolation 4 = .ok (.aload_n 0, 1) := by decide +kernel
theorem dX8_addViolation_5 : decode cX8_addViolation 5 = .ok (.getfield 203, 3) := by decide +kernel
theorem dX8_addViolation_8 : decode cX8_addViolation 8 = .ok (.iload_n 1, 1) := by decide +kernel
theorem dX8_addViolation_9 : decode cX8_addViolation 9 = .ok (.bipush 8, 2) := by decide +kernel
theorem dX8_addViolation_11 : decode cX8_addViolation 11 = .ok (.ishl, 1) := by decide +kernel
theorem dX8_addViolation_12 : decode cX8_addViolation 12 = .ok (.iload_n 2, 1) := by decide +kernel
theorem dX8_addViolation_13 : decode cX8_addViolation 13 = .ok (.iconst 4, 1) := by decide +kernel
theorem dX8_addViolation_14 : decode cX8_addViolation 14 = .ok (.ishl, 1) := by decide +kernel
theorem dX8_addViolation_15 : decode cX8_addViolation 15 = .ok (.ior, 1) := by decide +kernel
theorem dX8_addViolation_16 : decode cX8_addViolation 16 = .ok (.iload_n 3, 1) := by decide +kernel
theorem dX8_addViolation_17 : decode cX8_addViolation 17 = .ok (.ior, 1) := by decide +kernel
theorem dX8_addViolation_18 : decode cX8_addViolation 18 = .ok (.invokestatic 103, 3) := by decide +kernel
theorem dX8_addViolation_21 : decode cX8_addViolation 21 = .ok (.aload_n 0, 1) := by decide +kernel
theorem dX8_addViolation_22 : decode cX8_addViolation 22 = .ok (.dup, 1) := by decide +kernel
theorem dX8_addViolation_23 : decode cX8_addViolation 23 = .ok (.getfield 203, 3) := by decide +kernel
theorem dX8_addViolation_26 : decode cX8_addViolation 26 = .ok (.iconst 1, 1) := by decide +kernel
theorem dX8_addViolation_27 : decode cX8_addViolation 27 = .ok (.iadd, 1) := by decide +kernel
theorem dX8_addViolation_28 : decode cX8_addViolation 28 = .ok (.putfield 203, 3) := by decide +kernel
theorem dX8_addViolation_31 : decode cX8_addViolation 31 = .ok (.return_, 1) := by decide +kernel
theorem dX10_offsetAt_0 : decode cX10_offsetAt 0 = .ok (.aload_n 0, 1) := by decide +kernel
theorem dX10_offsetAt_1 : decode cX10_offsetAt 1 = .ok (.getfield 17, 3) := by decide +kernel
theorem dX10_offsetAt_4 : decode cX10_offsetAt 4 = .ok (.iload_n 1, 1) := by decide +kernel
theorem dX10_offsetAt_5 : decode cX10_offsetAt 5 = .ok (.invokestatic 51, 3) := by decide +kernel
theorem dX10_offsetAt_8 : decode cX10_offsetAt 8 = .ok (.ireturn, 1) := by decide +kernel
theorem dX10_valueAt_0 : decode cX10_valueAt 0 = .ok (.aload_n 0, 1) := by decide +kernel
theorem dX10_valueAt_1 : decode cX10_valueAt 1 = .ok (.getfield 21, 3) := by decide +kernel
theorem dX10_valueAt_4 : decode cX10_valueAt 4 = .ok (.iload_n 1, 1) := by decide +kernel
theorem dX10_valueAt_5 : decode cX10_valueAt 5 = .ok (.invokestatic 51, 3) := by decide +kernel
theorem dX10_valueAt_8 : decode cX10_valueAt 8 = .ok (.ireturn, 1) := by decide +kernel
theorem dX11_appendInput_0 : decode cX11_appendInput 0 = .ok (.aload_n 0, 1) := by decide +kernel
theorem dX11_appendInput_1 : decode cX11_appendInput 1 = .ok (.getfield 86, 3) := by decide +kernel
theorem dX11_appendInput_4 : decode cX11_appendInput 4 = .ok (.bipush 20, 2) := by decide +kernel
theorem dX11_appendInput_6 : decode cX11_appendInput 6 = .ok (.iadd, 1) := by decide +kernel
theorem dX11_appendInput_7 : decode cX11_appendInput 7 = .ok (.sipush 1000, 3) := by decide +kernel
theorem dX11_appendInput_10 : decode cX11_appendInput 10 = .ok (.if_icmp .le 5, 3) := by decide +kernel
theorem dX11_appendInput_13 : decode cX11_appendInput 13 = .ok (.iconst (-1), 1) := by decide +kernel
theorem dX11_appendInput_14 : decode cX11_appendInput 14 = .ok (.ireturn, 1) := by decide +kernel
theorem dX11_appendInput_15 : decode cX11_appendInput 15 = .ok (.aload_n 0, 1) := by decide +kernel
theorem dX11_appendInput_16 : decode cX11_appendInput 16 = .ok (.iload_n 1, 1) := by decide +kernel
theorem dX11_appendInput_17 : decode cX11_appendInput 17 = .ok (.invokevirtual 89, 3) := by decide +kernel
theorem dX11_appendInput_20 : decode cX11_appendInput 20 = .ok (.aload_n 0, 1) := by decide +kernel
theorem dX11_appendInput_21 : decode cX11_appendInput 21 = .ok (.iload_n 2, 1) := by decide +kernel
theorem dX11_appendInput_22 : decode cX11_appendInput 22 = .ok (.invokevirtual 89, 3) := by decide +kernel
theorem dX11_appendInput_25 : decode cX11_appendInput 25 = .ok (.aload_n 0, 1) := by decide +kernel
theorem dX11_appendInput_26 : decode cX11_appendInput 26 = .ok (.iload_n 3, 1) := by decide +kernel
theorem dX11_appendInput_27 : decode cX11_appendInput 27 = .ok (.invokevirtual 89, 3) := by decide +kernel
theorem dX11_appendInput_30 : decode cX11_appendInput 30 = .ok (.aload_n 0, 1) := by decide +kernel
theorem dX11_appendInput_31 : decode cX11_appendInput 31 = .ok (.iload 4, 2) := by decide +kernel
theorem dX11_appendInput_33 : decode cX11_appendInput 33 = .ok (.invokevirtual 89, 3) := by decide +kernel
theorem dX11_appendInput_36 : decode cX11_appendInput 36 = .ok (.aload_n 0, 1) := by decide +kernel
theorem dX11_appendInput_37 : decode cX11_appendInput 37 = .ok (.iload 5, 2) := by decide +kernel
theorem dX11_appendInput_39 : decode cX11_appendInput 39 = .ok (.invokevirtual 89, 3) := by decide +kernel
theorem dX11_appendInput_42 : decode cX11_appendInput 42 = .ok (.aload_n 0, 1) := by decide +kernel
theorem dX11_appendInput_43 : decode cX11_appendInput 43 = .ok (.getfield 86, 3) := by decide +kernel
theorem dX11_appendInput_46 : decode cX11_appendInput 46 = .ok (.ireturn, 1) := by decide +kernel
theorem dX11_travelMinutes_0 : decode cX11_travelMinutes 0 = .ok (.iload_n 1, 1) := by decide +kernel
theorem dX11_travelMinutes_1 : decode cX11_travelMinutes 1 = .ok (.aload_n 0, 1) := by decide +kernel
theorem dX11_travelMinutes_2 : decode cX11_travelMinutes 2 = .ok (.getfield 30, 3) := by decide +kernel
theorem dX11_travelMinutes_5 : decode cX11_travelMinutes 5 = .ok (.getfield 120, 3) := by decide +kernel
theorem dX11_travelMinutes_8 : decode cX11_travelMinutes 8 = .ok (.invokestatic 155, 3) := by decide +kernel
theorem dX11_travelMinutes_11 : decode cX11_travelMinutes 11 = .ok (.iload_n 2, 1) := by decide +kernel
theorem dX11_travelMinutes_12 : decode cX11_travelMinutes 12 = .ok (.aload_n 0, 1) := by decide +kernel
theorem dX11_travelMinutes_13 : decode cX11_travelMinutes 13 = .ok (.getfield 30, 3) := by decide +kernel
theorem dX11_travelMinutes_16 : decode cX11_travelMinutes 16 = .ok (.getfield 120, 3) := by decide +kernel
theorem dX11_travelMinutes_19 : decode cX11_travelMinutes 19 = .ok (.invokestatic 155, 3) := by decide +kernel
theorem dX11_travelMinutes_22 : decode cX11_travelMinutes 22 = .ok (.aload_n 0, 1) := by decide +kernel
theorem dX11_travelMinutes_23 : decode cX11_travelMinutes 23 = .ok (.getfield 30, 3) := by decide +kernel
theorem dX11_travelMinutes_26 : decode cX11_travelMinutes 26 = .ok (.iload_n 1, 1) := by decide +kernel
theorem dX11_travelMinutes_27 : decode cX11_travelMinutes 27 = .ok (.iload_n 2, 1) := by decide +kernel
theorem dX11_travelMinutes_28 : decode cX11_travelMinutes 28 = .ok (.invokevirtual 159, 3) := by decide +kernel
theorem dX11_travelMinutes_31 : decode cX11_travelMinutes 31 = .ok (.invokestatic 163, 3) := by decide +kernel
theorem dX11_travelMinutes_34 : decode cX11_travelMinutes 34 = .ok (.ireturn, 1) := by decide +kernel
theorem dX11_travelSlots_0 : decode cX11_travelSlots 0 = .ok (.iload_n 1, 1) := by decide +kernel
theorem dX11_travelSlots_1 : decode cX11_travelSlots 1 = .ok (.aload_n 0, 1) := by decide +kernel
theorem dX11_travelSlots_2 : decode cX11_travelSlots 2 = .ok (.getfield 30, 3) := by decide +kernel
theorem dX11_travelSlots_5 : decode cX11_travelSlots 5 = .ok (.getfield 126, 3) := by decide +kernel
theorem dX11_travelSlots_8 : decode cX11_travelSlots 8 = .ok (.invokestatic 155, 3) := by decide +kernel
theorem dX11_travelSlots_11 : decode cX11_travelSlots 11 = .ok (.iload_n 2, 1) := by decide +kernel
theorem dX11_travelSlots_12 : decode cX11_travelSlots 12 = .ok (.aload_n 0, 1) := by decide +kernel
theorem dX11_travelSlots_13 : decode cX11_travelSlots 13 = .ok (.getfield 30, 3) := by decide +kernel
theorem dX11_travelSlots_16 : decode cX11_travelSlots 16 = .ok (.getfield 111, 3) := by decide +kernel
theorem dX11_travelSlots_19 : decode cX11_travelSlots 19 = .ok (.getfield 115, 3) := by decide +kernel
theorem dX11_travelSlots_22 : decode cX11_travelSlots 22 = .ok (.invokestatic 155, 3) := by decide +kernel
theorem dX11_travelSlots_25 : decode cX11_travelSlots 25 = .ok (.aload_n 0, 1) := by decide +kernel
theorem dX11_travelSlots_26 : decode cX11_travelSlots 26 = .ok (.getfield 30, 3) := by decide +kernel
theorem dX11_travelSlots_29 : decode cX11_travelSlots 29 = .ok (.getfield 111, 3) := by decide +kernel
theorem dX11_travelSlots_32 : decode cX11_travelSlots 32 = .ok (.getfield 166, 3) := by decide +kernel
theorem dX11_travelSlots_35 : decode cX11_travelSlots 35 = .ok (.iload_n 2, 1) := by decide +kernel
theorem dX11_travelSlots_36 : decode cX11_travelSlots 36 = .ok (.bipush 10, 2) := by decide +kernel
theorem dX11_travelSlots_38 : decode cX11_travelSlots 38 = .ok (.imul, 1) := by decide +kernel
theorem dX11_travelSlots_39 : decode cX11_travelSlots 39 = .ok (.iload_n 1, 1) := by decide +kernel
theorem dX11_travelSlots_40 : decode cX11_travelSlots 40 = .ok (.iadd, 1) := by decide +kernel
theorem dX11_travelSlots_41 : decode cX11_travelSlots 41 = .ok (.invokestatic 170, 3) := by decide +kernel
theorem dX11_travelSlots_44 : decode cX11_travelSlots 44 = .ok (.invokestatic 163, 3) := by decide +kernel
theorem dX11_travelSlots_47 : decode cX11_travelSlots 47 = .ok (.ireturn, 1) := by decide +kernel
theorem dX11_homeStation_0 : decode cX11_homeStation 0 = .ok (.iload_n 1, 1) := by decide +kernel
theorem dX11_homeStation_1 : decode cX11_homeStation 1 = .ok (.aload_n 0, 1) := by decide +kernel
theorem dX11_homeStation_2 : decode cX11_homeStation 2 = .ok (.getfield 30, 3) := by decide +kernel
theorem dX11_homeStation_5 : decode cX11_homeStation 5 = .ok (.getfield 126, 3) := by decide +kernel
theorem dX11_homeStation_8 : decode cX11_homeStation 8 = .ok (.invokestatic 155, 3) := by decide +kernel
theorem dX11_homeStation_11 : decode cX11_homeStation 11 = .ok (.aload_n 0, 1) := by decide +kernel
theorem dX11_homeStation_12 : decode cX11_homeStation 12 = .ok (.getfield 30, 3) := by decide +kernel
theorem dX11_homeStation_15 : decode cX11_homeStation 15 = .ok (.iload_n 1, 1) := by decide +kernel
theorem dX11_homeStation_16 : decode cX11_homeStation 16 = .ok (.invokevirtual 174, 3) := by decide +kernel
theorem dX11_homeStation_19 : decode cX11_homeStation 19 = .ok (.ireturn, 1) := by decide +kernel
theorem dX11_engineKind_0 : decode cX11_engineKind 0 = .ok (.iload_n 1, 1) := by decide +kernel
theorem dX11_engineKind_1 : decode cX11_engineKind 1 = .ok (.aload_n 0, 1) := by decide +kernel
theorem dX11_engineKind_2 : decode cX11_engineKind 2 = .ok (.getfield 30, 3) := by decide +kernel
theorem dX11_engineKind_5 : decode cX11_engineKind 5 = .ok (.getfield 126, 3) := by decide +kernel
theorem dX11_engineKind_8 : decode cX11_engineKind 8 = .ok (.invokestatic 155, 3) := by decide +kernel
theorem dX11_engineKind_11 : decode cX11_engineKind 11 = .ok (.aload_n 0, 1) := by decide +kernel
theorem dX11_engineKind_12 : decode cX11_engineKind 12 = .ok (.getfield 30, 3) := by decide +kernel
theorem dX11_engineKind_15 : decode cX11_engineKind 15 = .ok (.iload_n 1, 1) := by decide +kernel
theorem dX11_engineKind_16 : decode cX11_engineKind 16 = .ok (.invokevirtual 177, 3) := by decide +kernel
theorem dX11_engineKind_19 : decode cX11_engineKind 19 = .ok (.ireturn, 1) := by decide +kernel
theorem dX11_coverStation_0 : decode cX11_coverStation 0 = .ok (.iload_n 2, 1) := by decide +kernel
theorem dX11_coverStation_1 : decode cX11_coverStation 1 = .ok (.aload_n 0, 1) := by decide +kernel
theorem dX11_coverStation_2 : decode cX11_coverStation 2 = .ok (.getfield 30, 3) := by decide +kernel
theorem dX11_coverStation_5 : decode cX11_coverStation 5 = .ok (.getfield 126, 3) := by decide +kernel
theorem dX11_coverStation_8 : decode cX11_coverStation 8 = .ok (.invokestatic 155, 3) := by decide +kernel
theorem dX11_coverStation_11 : decode cX11_coverStation 11 = .ok (.aload_n 0, 1) := by decide +kernel
theorem dX11_coverStation_12 : decode cX11_coverStation 12 = .ok (.iload_n 1, 1) := by decide +kernel
theorem dX11_coverStation_13 : decode cX11_coverStation 13 = .ok (.invokevirtual 180, 3) := by decide +kernel
theorem dX11_coverStation_16 : decode cX11_coverStation 16 = .ok (.aload_n 0, 1) := by decide +kernel
theorem dX11_coverStation_17 : decode cX11_coverStation 17 = .ok (.getfield 58, 3) := by decide +kernel
theorem dX11_coverStation_20 : decode cX11_coverStation 20 = .ok (.iload_n 1, 1) := by decide +kernel
theorem dX11_coverStation_21 : decode cX11_coverStation 21 = .ok (.invokevirtual 183, 3) := by decide +kernel
theorem dX11_coverStation_24 : decode cX11_coverStation 24 = .ok (.aload_n 0, 1) := by decide +kernel
theorem dX11_coverStation_25 : decode cX11_coverStation 25 = .ok (.getfield 58, 3) := by decide +kernel
theorem dX11_coverStation_28 : decode cX11_coverStation 28 = .ok (.iload_n 2, 1) := by decide +kernel
theorem dX11_coverStation_29 : decode cX11_coverStation 29 = .ok (.invokevirtual 186, 3) := by decide +kernel
theorem dX11_coverStation_32 : decode cX11_coverStation 32 = .ok (.ireturn, 1) := by decide +kernel
theorem dX11_uncoveredWithoutMoves_0 : decode cX11_uncoveredWithoutMoves 0 = .ok (.aload_n 0, 1) := by decide +kernel
theorem dX11_uncoveredWithoutMoves_1 : decode cX11_uncoveredWithoutMoves 1 = .ok (.iload_n 1, 1) := by decide +kernel
theorem dX11_uncoveredWithoutMoves_2 : decode cX11_uncoveredWithoutMoves 2 = .ok (.invokevirtual 180, 3) := by decide +kernel
theorem dX11_uncoveredWithoutMoves_5 : decode cX11_uncoveredWithoutMoves 5 = .ok (.aload_n 0, 1) := by decide +kernel
theorem dX11_uncoveredWithoutMoves_6 : decode cX11_uncoveredWithoutMoves 6 = .ok (.getfield 58, 3) := by decide +kernel
theorem dX11_uncoveredWithoutMoves_9 : decode cX11_uncoveredWithoutMoves 9 = .ok (.iload_n 1, 1) := by decide +kernel
theorem dX11_uncoveredWithoutMoves_10 : decode cX11_uncoveredWithoutMoves 10 = .ok (.invokevirtual 192, 3) := by decide +kernel
theorem dX11_uncoveredWithoutMoves_13 : decode cX11_uncoveredWithoutMoves 13 = .ok (.aload_n 0, 1) := by decide +kernel
theorem dX11_uncoveredWithoutMoves_14 : decode cX11_uncoveredWithoutMoves 14 = .ok (.getfield 58, 3) := by decide +kernel
theorem dX11_uncoveredWithoutMoves_17 : decode cX11_uncoveredWithoutMoves 17 = .ok (.invokevirtual 195, 3) := by decide +kernel
theorem dX11_uncoveredWithoutMoves_20 : decode cX11_uncoveredWithoutMoves 20 = .ok (.ireturn, 1) := by decide +kernel
theorem dX11_coveringEngines_0 : decode cX11_coveringEngines 0 = .ok (.iload_n 2, 1) := by decide +kernel
theorem dX11_coveringEngines_1 : decode cX11_coveringEngines 1 = .ok (.aload_n 0, 1) := by decide +kernel
theorem dX11_coveringEngines_2 : decode cX11_coveringEngines 2 = .ok (.getfield 30, 3) := by decide +kernel
theorem dX11_coveringEngines_5 : decode cX11_coveringEngines 5 = .ok (.getfield 129, 3) := by decide +kernel
theorem dX11_coveringEngines_8 : decode cX11_coveringEngines 8 = .ok (.getfield 133, 3) := by decide +kernel
theorem dX11_coveringEngines_11 : decode cX11_coveringEngines 11 = .ok (.invokestatic 155, 3) := by decide +kernel
theorem dX11_coveringEngines_14 : decode cX11_coveringEngines 14 = .ok (.aload_n 0, 1) := by decide +kernel
theorem dX11_coveringEngines_15 : decode cX11_coveringEngines 15 = .ok (.iload_n 1, 1) := by decide +kernel
theorem dX11_coveringEngines_16 : decode cX11_coveringEngines 16 = .ok (.invokevirtual 180, 3) := by decide +kernel
theorem dX11_coveringEngines_19 : decode cX11_coveringEngines 19 = .ok (.aload_n 0, 1) := by decide +kernel
theorem dX11_coveringEngines_20 : decode cX11_coveringEngines 20 = .ok (.getfield 58, 3) := by decide +kernel
theorem dX11_coveringEngines_23 : decode cX11_coveringEngines 23 = .ok (.iload_n 1, 1) := by decide +kernel
theorem dX11_coveringEngines_24 : decode cX11_coveringEngines 24 = .ok (.invokevirtual 183, 3) := by decide +kernel
theorem dX11_coveringEngines_27 : decode cX11_coveringEngines 27 = .ok (.aload_n 0, 1) := by decide +kernel
theorem dX11_coveringEngines_28 : decode cX11_coveringEngines 28 = .ok (.getfield 58, 3) := by decide +kernel
theorem dX11_coveringEngines_31 : decode cX11_coveringEngines 31 = .ok (.iload_n 2, 1) := by decide +kernel
theorem dX11_coveringEngines_32 : decode cX11_coveringEngines 32 = .ok (.invokevirtual 202, 3) := by decide +kernel
theorem dX11_coveringEngines_35 : decode cX11_coveringEngines 35 = .ok (.ireturn, 1) := by decide +kernel
theorem dX11_start_0 : decode cX11_start 0 = .ok (.iload_n 1, 1) := by decide +kernel
theorem dX11_start_1 : decode cX11_start 1 = .ok (.aload_n 0, 1) := by decide +kernel
theorem dX11_start_2 : decode cX11_start 2 = .ok (.getfield 30, 3) := by decide +kernel
theorem dX11_start_5 : decode cX11_start 5 = .ok (.getfield 111, 3) := by decide +kernel
theorem dX11_start_8 : decode cX11_start 8 = .ok (.getfield 115, 3) := by decide +kernel
theorem dX11_start_11 : decode cX11_start 11 = .ok (.invokestatic 155, 3) := by decide +kernel
theorem dX11_start_14 : decode cX11_start 14 = .ok (.aload_n 0, 1) := by decide +kernel
theorem dX11_start_15 : decode cX11_start 15 = .ok (.getfield 67, 3) := by decide +kernel
theorem dX11_start_18 : decode cX11_start 18 = .ok (.iload_n 1, 1) := by decide +kernel
theorem dX11_start_19 : decode cX11_start 19 = .ok (.invokevirtual 229, 3) := by decide +kernel
theorem dX11_start_22 : decode cX11_start 22 = .ok (.ireturn, 1) := by decide +kernel
theorem dX11_drillState_0 : decode cX11_drillState 0 = .ok (.iload_n 1, 1) := by decide +kernel
theorem dX11_drillState_1 : decode cX11_drillState 1 = .ok (.aload_n 0, 1) := by decide +kernel
theorem dX11_drillState_2 : decode cX11_drillState 2 = .ok (.getfield 30, 3) := by decide +kernel
theorem dX11_drillState_5 : decode cX11_drillState 5 = .ok (.getfield 111, 3) := by decide +kernel
theorem dX11_drillState_8 : decode cX11_drillState 8 = .ok (.getfield 115, 3) := by decide +kernel
theorem dX11_drillState_11 : decode cX11_drillState 11 = .ok (.invokestatic 155, 3) := by decide +kernel
theorem dX11_drillState_14 : decode cX11_drillState 14 = .ok (.aload_n 0, 1) := by decide +kernel
theorem dX11_drillState_15 : decode cX11_drillState 15 = .ok (.getfield 67, 3) := by decide +kernel
theorem dX11_drillState_18 : decode cX11_drillState 18 = .ok (.getfield 247, 3) := by decide +kernel
theorem dX11_drillState_21 : decode cX11_drillState 21 = .ok (.iload_n 1, 1) := by decide +kernel
theorem dX11_drillState_22 : decode cX11_drillState 22 = .ok (.invokestatic 170, 3) := by decide +kernel
theorem dX11_drillState_25 : decode cX11_drillState 25 = .ok (.ireturn, 1) := by decide +kernel
theorem dX11_drillEngines_0 : decode cX11_drillEngines 0 = .ok (.iload_n 1, 1) := by decide +kernel
theorem dX11_drillEngines_1 : decode cX11_drillEngines 1 = .ok (.aload_n 0, 1) := by decide +kernel
theorem dX11_drillEngines_2 : decode cX11_drillEngines 2 = .ok (.getfield 30, 3) := by decide +kernel
theorem dX11_drillEngines_5 : decode cX11_drillEngines 5 = .ok (.getfield 111, 3) := by decide +kernel
theorem dX11_drillEngines_8 : decode cX11_drillEngines 8 = .ok (.getfield 115, 3) := by decide +kernel
theorem dX11_drillEngines_11 : decode cX11_drillEngines 11 = .ok (.invokestatic 155, 3) := by decide +kernel
theorem dX11_drillEngines_14 : decode cX11_drillEngines 14 = .ok (.aload_n 0, 1) := by decide +kernel
theorem dX11_drillEngines_15 : decode cX11_drillEngines 15 = .ok (.getfield 67, 3) := by decide +kernel
theorem dX11_drillEngines_18 : decode cX11_drillEngines 18 = .ok (.getfield 250, 3) := by decide +kernel
theorem dX11_drillEngines_21 : decode cX11_drillEngines 21 = .ok (.iload_n 1, 1) := by decide +kernel
theorem dX11_drillEngines_22 : decode cX11_drillEngines 22 = .ok (.invokestatic 170, 3) := by decide +kernel
theorem dX11_drillEngines_25 : decode cX11_drillEngines 25 = .ok (.ireturn, 1) := by decide +kernel
theorem dX11_drillBegin_0 : decode cX11_drillBegin 0 = .ok (.iload_n 1, 1) := by decide +kernel
theorem dX11_drillBegin_1 : decode cX11_drillBegin 1 = .ok (.aload_n 0, 1) := by decide +kernel
theorem dX11_drillBegin_2 : decode cX11_drillBegin 2 = .ok (.getfield 30, 3) := by decide +kernel
theorem dX11_drillBegin_5 : decode cX11_drillBegin 5 = .ok (.getfield 111, 3) := by decide +kernel
theorem dX11_drillBegin_8 : decode cX11_drillBegin 8 = .ok (.getfield 115, 3) := by decide +kernel
theorem dX11_drillBegin_11 : decode cX11_drillBegin 11 = .ok (.invokestatic 155, 3) := by decide +kernel
theorem dX11_drillBegin_14 : decode cX11_drillBegin 14 = .ok (.aload_n 0, 1) := by decide +kernel
theorem dX11_drillBegin_15 : decode cX11_drillBegin 15 = .ok (.getfield 67, 3) := by decide +kernel
theorem dX11_drillBegin_18 : decode cX11_drillBegin 18 = .ok (.getfield 253, 3) := by decide +kernel
theorem dX11_drillBegin_21 : decode cX11_drillBegin 21 = .ok (.iload_n 1, 1) := by decide +kernel
theorem dX11_drillBegin_22 : decode cX11_drillBegin 22 = .ok (.invokestatic 170, 3) := by decide +kernel
theorem dX11_drillBegin_25 : decode cX11_drillBegin 25 = .ok (.ireturn, 1) := by decide +kernel
theorem dX11_drillEnd_0 : decode cX11_drillEnd 0 = .ok (.iload_n 1, 1) := by decide +kernel
theorem dX11_drillEnd_1 : decode cX11_drillEnd 1 = .ok (.aload_n 0, 1) := by decide +kernel
theorem dX11_drillEnd_2 : decode cX11_drillEnd 2 = .ok (.getfield 30, 3) := by decide +kernel
theorem dX11_drillEnd_5 : decode cX11_drillEnd 5 = .ok (.getfield 111, 3) := by decide +kernel
theorem dX11_drillEnd_8 : decode cX11_drillEnd 8 = .ok (.getfield 115, 3) := by decide +kernel
theorem dX11_drillEnd_11 : decode cX11_drillEnd 11 = .ok (.invokestatic 155, 3) := by decide +kernel
theorem dX11_drillEnd_14 : decode cX11_drillEnd 14 = .ok (.aload_n 0, 1) := by decide +kernel
theorem dX11_drillEnd_15 : decode cX11_drillEnd 15 = .ok (.getfield 67, 3) := by decide +kernel
theorem dX11_drillEnd_18 : decode cX11_drillEnd 18 = .ok (.getfield 256, 3) := by decide +kernel
theorem dX11_drillEnd_21 : decode cX11_drillEnd 21 = .ok (.iload_n 1, 1) := by decide +kernel
theorem dX11_drillEnd_22 : decode cX11_drillEnd 22 = .ok (.invokestatic 170, 3) := by decide +kernel
theorem dX11_drillEnd_25 : decode cX11_drillEnd 25 = .ok (.ireturn, 1) := by decide +kernel
theorem dX11_drillBack_0 : decode cX11_drillBack 0 = .ok (.iload_n 1, 1) := by decide +kernel
theorem dX11_drillBack_1 : decode cX11_drillBack 1 = .ok (.aload_n 0, 1) := by decide +kernel
theorem dX11_drillBack_2 : decode cX11_drillBack 2 = .ok (.getfield 30, 3) := by decide +kernel
theorem dX11_drillBack_5 : decode cX11_drillBack 5 = .ok (.getfield 111, 3) := by decide +kernel
theorem dX11_drillBack_8 : decode cX11_drillBack 8 = .ok (.getfield 115, 3) := by decide +kernel
theorem dX11_drillBack_11 : decode cX11_drillBack 11 = .ok (.invokestatic 155, 3) := by decide +kernel
theorem dX11_drillBack_14 : decode cX11_drillBack 14 = .ok (.aload_n 0, 1) := by decide +kernel
theorem dX11_drillBack_15 : decode cX11_drillBack 15 = .ok (.getfield 67, 3) := by decide +kernel
theorem dX11_drillBack_18 : decode cX11_drillBack 18 = .ok (.getfield 259, 3) := by decide +kernel
theorem dX11_drillBack_21 : decode cX11_drillBack 21 = .ok (.iload_n 1, 1) := by decide +kernel
theorem dX11_drillBack_22 : decode cX11_drillBack 22 = .ok (.invokestatic 170, 3) := by decide +kernel
theorem dX11_drillBack_25 : decode cX11_drillBack 25 = .ok (.ireturn, 1) := by decide +kernel
theorem dX11_violationCode_0 : decode cX11_violationCode 0 = .ok (.iload_n 1, 1) := by decide +kernel
theorem dX11_violationCode_1 : decode cX11_violationCode 1 = .ok (.aload_n 0, 1) := by decide +kernel
theorem dX11_violationCode_2 : decode cX11_violationCode 2 = .ok (.getfield 67, 3) := by decide +kernel
theorem dX11_violationCode_5 : decode cX11_violationCode 5 = .ok (.getfield 262, 3) := by decide +kernel
theorem dX11_violationCode_8 : decode cX11_violationCode 8 = .ok (.invokestatic 155, 3) := by decide +kernel
theorem dX11_violationCode_11 : decode cX11_violationCode 11 = .ok (.aload_n 0, 1) := by decide +kernel
theorem dX11_violationCode_12 : decode cX11_violationCode 12 = .ok (.getfield 67, 3) := by decide +kernel
theorem dX11_violationCode_15 : decode cX11_violationCode 15 = .ok (.iload_n 1, 1) := by decide +kernel
theorem dX11_violationCode_16 : decode cX11_violationCode 16 = .ok (.invokevirtual 265, 3) := by decide +kernel
theorem dX11_violationCode_19 : decode cX11_violationCode 19 = .ok (.ireturn, 1) := by decide +kernel
theorem dX11_violationSlot_0 : decode cX11_violationSlot 0 = .ok (.iload_n 1, 1) := by decide +kernel
theorem dX11_violationSlot_1 : decode cX11_violationSlot 1 = .ok (.aload_n 0, 1) := by decide +kernel
theorem dX11_violationSlot_2 : decode cX11_violationSlot 2 = .ok (.getfield 67, 3) := by decide +kernel
theorem dX11_violationSlot_5 : decode cX11_violationSlot 5 = .ok (.getfield 262, 3) := by decide +kernel
theorem dX11_violationSlot_8 : decode cX11_violationSlot 8 = .ok (.invokestatic 155, 3) := by decide +kernel
theorem dX11_violationSlot_11 : decode cX11_violationSlot 11 = .ok (.aload_n 0, 1) := by decide +kernel
theorem dX11_violationSlot_12 : decode cX11_violationSlot 12 = .ok (.getfield 67, 3) := by decide +kernel
theorem dX11_violationSlot_15 : decode cX11_violationSlot 15 = .ok (.iload_n 1, 1) := by decide +kernel
theorem dX11_violationSlot_16 : decode cX11_violationSlot 16 = .ok (.invokevirtual 268, 3) := by decide +kernel
theorem dX11_violationSlot_19 : decode cX11_violationSlot 19 = .ok (.ireturn, 1) := by decide +kernel
theorem dX11_violationSubject_0 : decode cX11_violationSubject 0 = .ok (.iload_n 1, 1) := by decide +kernel
theorem dX11_violationSubject_1 : decode cX11_violationSubject 1 = .ok (.aload_n 0, 1) := by decide +kernel
theorem dX11_violationSubject_2 : decode cX11_violationSubject 2 = .ok (.getfield 67, 3) := by decide +kernel
theorem dX11_violationSubject_5 : decode cX11_violationSubject 5 = .ok (.getfield 262, 3) := by decide +kernel
theorem dX11_violationSubject_8 : decode cX11_violationSubject 8 = .ok (.invokestatic 155, 3) := by decide +kernel
theorem dX11_violationSubject_11 : decode cX11_violationSubject 11 = .ok (.aload_n 0, 1) := by decide +kernel
theorem dX11_violationSubject_12 : decode cX11_violationSubject 12 = .ok (.getfield 67, 3) := by decide +kernel
theorem dX11_violationSubject_15 : decode cX11_violationSubject 15 = .ok (.iload_n 1, 1) := by decide +kernel
theorem dX11_violationSubject_16 : decode cX11_violationSubject 16 = .ok (.invokevirtual 271, 3) := by decide +kernel
theorem dX11_violationSubject_19 : decode cX11_violationSubject 19 = .ok (.ireturn, 1) := by decide +kernel
theorem dX11_availableAt_0 : decode cX11_availableAt 0 = .ok (.iload_n 1, 1) := by decide +kernel
theorem dX11_availableAt_1 : decode cX11_availableAt 1 = .ok (.bipush 48, 2) := by decide +kernel
theorem dX11_availableAt_3 : decode cX11_availableAt 3 = .ok (.invokestatic 155, 3) := by decide +kernel
theorem dX11_availableAt_6 : decode cX11_availableAt 6 = .ok (.aload_n 0, 1) := by decide +kernel
theorem dX11_availableAt_7 : decode cX11_availableAt 7 = .ok (.getfield 67, 3) := by decide +kernel
theorem dX11_availableAt_10 : decode cX11_availableAt 10 = .ok (.getfield 274, 3) := by decide +kernel
theorem dX11_availableAt_13 : decode cX11_availableAt 13 = .ok (.iload_n 1, 1) := by decide +kernel
theorem dX11_availableAt_14 : decode cX11_availableAt 14 = .ok (.invokestatic 170, 3) := by decide +kernel
theorem dX11_availableAt_17 : decode cX11_availableAt 17 = .ok (.ireturn, 1) := by decide +kernel
theorem dX11_dryHoses_0 : decode cX11_dryHoses 0 = .ok (.iload_n 1, 1) := by decide +kernel
theorem dX11_dryHoses_1 : decode cX11_dryHoses 1 = .ok (.bipush 48, 2) := by decide +kernel
theorem dX11_dryHoses_3 : decode cX11_dryHoses 3 = .ok (.invokestatic 155, 3) := by decide +kernel
theorem dX11_dryHoses_6 : decode cX11_dryHoses 6 = .ok (.aload_n 0, 1) := by decide +kernel
theorem dX11_dryHoses_7 : decode cX11_dryHoses 7 = .ok (.getfield 67, 3) := by decide +kernel
theorem dX11_dryHoses_10 : decode cX11_dryHoses 10 = .ok (.getfield 277, 3) := by decide +kernel
theorem dX11_dryHoses_13 : decode cX11_dryHoses 13 = .ok (.getfield 281, 3) := by decide +kernel
theorem dX11_dryHoses_16 : decode cX11_dryHoses 16 = .ok (.iload_n 1, 1) := by decide +kernel
theorem dX11_dryHoses_17 : decode cX11_dryHoses 17 = .ok (.invokestatic 170, 3) := by decide +kernel
theorem dX11_dryHoses_20 : decode cX11_dryHoses 20 = .ok (.ireturn, 1) := by decide +kernel
theorem dX11_wetHoses_0 : decode cX11_wetHoses 0 = .ok (.iload_n 1, 1) := by decide +kernel
theorem dX11_wetHoses_1 : decode cX11_wetHoses 1 = .ok (.bipush 48, 2) := by decide +kernel
theorem dX11_wetHoses_3 : decode cX11_wetHoses 3 = .ok (.invokestatic 155, 3) := by decide +kernel
theorem dX11_wetHoses_6 : decode cX11_wetHoses 6 = .ok (.aload_n 0, 1) := by decide +kernel
theorem dX11_wetHoses_7 : decode cX11_wetHoses 7 = .ok (.getfield 67, 3) := by decide +kernel
theorem dX11_wetHoses_10 : decode cX11_wetHoses 10 = .ok (.getfield 277, 3) := by decide +kernel
theorem dX11_wetHoses_13 : decode cX11_wetHoses 13 = .ok (.getfield 286, 3) := by decide +kernel
theorem dX11_wetHoses_16 : decode cX11_wetHoses 16 = .ok (.iload_n 1, 1) := by decide +kernel
theorem dX11_wetHoses_17 : decode cX11_wetHoses 17 = .ok (.invokestatic 170, 3) := by decide +kernel
theorem dX11_wetHoses_20 : decode cX11_wetHoses 20 = .ok (.ireturn, 1) := by decide +kernel
theorem dX11_dryingHoses_0 : decode cX11_dryingHoses 0 = .ok (.iload_n 1, 1) := by decide +kernel
theorem dX11_dryingHoses_1 : decode cX11_dryingHoses 1 = .ok (.bipush 48, 2) := by decide +kernel
theorem dX11_dryingHoses_3 : decode cX11_dryingHoses 3 = .ok (.invokestatic 155, 3) := by decide +kernel
theorem dX11_dryingHoses_6 : decode cX11_dryingHoses 6 = .ok (.aload_n 0, 1) := by decide +kernel
theorem dX11_dryingHoses_7 : decode cX11_dryingHoses 7 = .ok (.getfield 67, 3) := by decide +kernel
theorem dX11_dryingHoses_10 : decode cX11_dryingHoses 10 = .ok (.getfield 277, 3) := by decide +kernel
theorem dX11_dryingHoses_13 : decode cX11_dryingHoses 13 = .ok (.getfield 289, 3) := by decide +kernel
theorem dX11_dryingHoses_16 : decode cX11_dryingHoses 16 = .ok (.iload_n 1, 1) := by decide +kernel
theorem dX11_dryingHoses_17 : decode cX11_dryingHoses 17 = .ok (.invokestatic 170, 3) := by decide +kernel
theorem dX11_dryingHoses_20 : decode cX11_dryingHoses 20 = .ok (.ireturn, 1) := by decide +kernel
theorem dX11_awaySlots_0 : decode cX11_awaySlots 0 = .ok (.iload_n 1, 1) := by decide +kernel
theorem dX11_awaySlots_1 : decode cX11_awaySlots 1 = .ok (.aload_n 0, 1) := by decide +kernel
theorem dX11_awaySlots_2 : decode cX11_awaySlots 2 = .ok (.getfield 30, 3) := by decide +kernel
theorem dX11_awaySlots_5 : decode cX11_awaySlots 5 = .ok (.getfield 126, 3) := by decide +kernel
theorem dX11_awaySlots_8 : decode cX11_awaySlots 8 = .ok (.invokestatic 155, 3) := by decide +kernel
theorem dX11_awaySlots_11 : decode cX11_awaySlots 11 = .ok (.iconst 0, 1) := by decide +kernel
theorem dX11_awaySlots_12 : decode cX11_awaySlots 12 = .ok (.istore_n 2, 1) := by decide +kernel
theorem dX11_awaySlots_13 : decode cX11_awaySlots 13 = .ok (.iconst 0, 1) := by decide +kernel
theorem dX11_awaySlots_14 : decode cX11_awaySlots 14 = .ok (.istore_n 3, 1) := by decide +kernel
theorem dX11_awaySlots_15 : decode cX11_awaySlots 15 = .ok (.iload_n 3, 1) := by decide +kernel
theorem dX11_awaySlots_16 : decode cX11_awaySlots 16 = .ok (.bipush 48, 2) := by decide +kernel
theorem dX11_awaySlots_18 : decode cX11_awaySlots 18 = .ok (.if_icmp .ge 30, 3) := by decide +kernel
theorem dX11_awaySlots_21 : decode cX11_awaySlots 21 = .ok (.aload_n 0, 1) := by decide +kernel
theorem dX11_awaySlots_22 : decode cX11_awaySlots 22 = .ok (.getfield 67, 3) := by decide +kernel
theorem dX11_awaySlots_25 : decode cX11_awaySlots 25 = .ok (.getfield 274, 3) := by decide +kernel
theorem dX11_awaySlots_28 : decode cX11_awaySlots 28 = .ok (.iload_n 3, 1) := by decide +kernel
theorem dX11_awaySlots_29 : decode cX11_awaySlots 29 = .ok (.invokestatic 170, 3) := by decide +kernel
theorem dX11_awaySlots_32 : decode cX11_awaySlots 32 = .ok (.iload_n 1, 1) := by decide +kernel
theorem dX11_awaySlots_33 : decode cX11_awaySlots 33 = .ok (.ishr, 1) := by decide +kernel
theorem dX11_awaySlots_34 : decode cX11_awaySlots 34 = .ok (.iconst 1, 1) := by decide +kernel
theorem dX11_awaySlots_35 : decode cX11_awaySlots 35 = .ok (.iand, 1) := by decide +kernel
theorem dX11_awaySlots_36 : decode cX11_awaySlots 36 = .ok (.ifCond .ne 6, 3) := by decide +kernel
theorem dX11_awaySlots_39 : decode cX11_awaySlots 39 = .ok (.iinc 2 1, 3) := by decide +kernel
theorem dX11_awaySlots_42 : decode cX11_awaySlots 42 = .ok (.iinc 3 1, 3) := by decide +kernel
theorem dX11_awaySlots_45 : decode cX11_awaySlots 45 = .ok (.goto (-30), 3) := by decide +kernel
theorem dX11_awaySlots_48 : decode cX11_awaySlots 48 = .ok (.iload_n 2, 1) := by decide +kernel
theorem dX11_awaySlots_49 : decode cX11_awaySlots 49 = .ok (.ireturn, 1) := by decide +kernel
theorem dX11_busiestSlot_0 : decode cX11_busiestSlot 0 = .ok (.iconst 0, 1) := by decide +kernel
theorem dX11_busiestSlot_1 : decode cX11_busiestSlot 1 = .ok (.istore_n 1, 1) := by decide +kernel
theorem dX11_busiestSlot_2 : decode cX11_busiestSlot 2 = .ok (.bipush 11, 2) := by decide +kernel
theorem dX11_busiestSlot_4 : decode cX11_busiestSlot 4 = .ok (.istore_n 2, 1) := by decide +kernel
theorem dX11_busiestSlot_5 : decode cX11_busiestSlot 5 = .ok (.iconst 0, 1) := by decide +kernel
theorem dX11_busiestSlot_6 : decode cX11_busiestSlot 6 = .ok (.istore_n 3, 1) := by decide +kernel
theorem dX11_busiestSlot_7 : decode cX11_busiestSlot 7 = .ok (.iload_n 3, 1) := by decide +kernel
theorem dX11_busiestSlot_8 : decode cX11_busiestSlot 8 = .ok (.bipush 48, 2) := by decide +kernel
theorem dX11_busiestSlot_10 : decode cX11_busiestSlot 10 = .ok (.if_icmp .ge 36, 3) := by decide +kernel
theorem dX11_busiestSlot_13 : decode cX11_busiestSlot 13 = .ok (.aload_n 0, 1) := by decide +kernel
theorem dX11_busiestSlot_14 : decode cX11_busiestSlot 14 = .ok (.getfield 67, 3) := by decide +kernel
theorem dX11_busiestSlot_17 : decode cX11_busiestSlot 17 = .ok (.getfield 274, 3) := by decide +kernel
theorem dX11_busiestSlot_20 : decode cX11_busiestSlot 20 = .ok (.iload_n 3, 1) := by decide +kernel
theorem dX11_busiestSlot_21 : decode cX11_busiestSlot 21 = .ok (.invokestatic 170, 3) := by decide +kernel
theorem dX11_busiestSlot_24 : decode cX11_busiestSlot 24 = .ok (.invokestatic 213, 3) := by decide +kernel
theorem dX11_busiestSlot_27 : decode cX11_busiestSlot 27 = .ok (.istore 4, 2) := by decide +kernel
theorem dX11_busiestSlot_29 : decode cX11_busiestSlot 29 = .ok (.iload 4, 2) := by decide +kernel
theorem dX11_busiestSlot_31 : decode cX11_busiestSlot 31 = .ok (.iload_n 2, 1) := by decide +kernel
theorem dX11_busiestSlot_32 : decode cX11_busiestSlot 32 = .ok (.if_icmp .ge 8, 3) := by decide +kernel
theorem dX11_busiestSlot_35 : decode cX11_busiestSlot 35 = .ok (.iload_n 3, 1) := by decide +kernel
theorem dX11_busiestSlot_36 : decode cX11_busiestSlot 36 = .ok (.istore_n 1, 1) := by decide +kernel
theorem dX11_busiestSlot_37 : decode cX11_busiestSlot 37 = .ok (.iload 4, 2) := by decide +kernel
theorem dX11_busiestSlot_39 : decode cX11_busiestSlot 39 = .ok (.istore_n 2, 1) := by decide +kernel
theorem dX11_busiestSlot_40 : decode cX11_busiestSlot 40 = .ok (.iinc 3 1, 3) := by decide +kernel
theorem dX11_busiestSlot_43 : decode cX11_busiestSlot 43 = .ok (.goto (-36), 3) := by decide +kernel
theorem dX11_busiestSlot_46 : decode cX11_busiestSlot 46 = .ok (.iload_n 1, 1) := by decide +kernel
theorem dX11_busiestSlot_47 : decode cX11_busiestSlot 47 = .ok (.ireturn, 1) := by decide +kernel
theorem dX12_init_0 : decode cX12_init 0 = .ok (.aload_n 0, 1) := by decide +kernel
theorem dX12_init_1 : decode cX12_init 1 = .ok (.invokespecial 1, 3) := by decide +kernel
theorem dX12_init_4 : decode cX12_init 4 = .ok (.aload_n 0, 1) := by decide +kernel
theorem dX12_init_5 : decode cX12_init 5 = .ok (.bipush 12, 2) := by decide +kernel
theorem dX12_init_7 : decode cX12_init 7 = .ok (.newarray .long, 2) := by decide +kernel
theorem dX12_init_9 : decode cX12_init 9 = .ok (.putfield 7, 3) := by decide +kernel
theorem dX12_init_12 : decode cX12_init 12 = .ok (.aload_n 0, 1) := by decide +kernel
theorem dX12_init_13 : decode cX12_init 13 = .ok (.bipush 20, 2) := by decide +kernel
theorem dX12_init_15 : decode cX12_init 15 = .ok (.newarray .int, 2) := by decide +kernel
theorem dX12_init_17 : decode cX12_init 17 = .ok (.putfield 13, 3) := by decide +kernel
theorem dX12_init_20 : decode cX12_init 20 = .ok (.aload_n 0, 1) := by decide +kernel
theorem dX12_init_21 : decode cX12_init 21 = .ok (.bipush 20, 2) := by decide +kernel
theorem dX12_init_23 : decode cX12_init 23 = .ok (.newarray .int, 2) := by decide +kernel
theorem dX12_init_25 : decode cX12_init 25 = .ok (.putfield 17, 3) := by decide +kernel
theorem dX12_init_28 : decode cX12_init 28 = .ok (.aload_n 0, 1) := by decide +kernel
theorem dX12_init_29 : decode cX12_init 29 = .ok (.bipush 20, 2) := by decide +kernel
theorem dX12_init_31 : decode cX12_init 31 = .ok (.newarray .int, 2) := by decide +kernel
theorem dX12_init_33 : decode cX12_init 33 = .ok (.putfield 20, 3) := by decide +kernel
theorem dX12_init_36 : decode cX12_init 36 = .ok (.aload_n 0, 1) := by decide +kernel
theorem dX12_init_37 : decode cX12_init 37 = .ok (.bipush 6, 2) := by decide +kernel
theorem dX12_init_39 : decode cX12_init 39 = .ok (.newarray .long, 2) := by decide +kernel
theorem dX12_init_41 : decode cX12_init 41 = .ok (.putfield 23, 3) := by decide +kernel
theorem dX12_init_44 : decode cX12_init 44 = .ok (.aload_n 0, 1) := by decide +kernel
theorem dX12_init_45 : decode cX12_init 45 = .ok (.bipush 6, 2) := by decide +kernel
theorem dX12_init_47 : decode cX12_init 47 = .ok (.newarray .int, 2) := by decide +kernel
theorem dX12_init_49 : decode cX12_init 49 = .ok (.putfield 26, 3) := by decide +kernel
theorem dX12_init_52 : decode cX12_init 52 = .ok (.aload_n 0, 1) := by decide +kernel
theorem dX12_init_53 : decode cX12_init 53 = .ok (.bipush 10, 2) := by decide +kernel
theorem dX12_init_55 : decode cX12_init 55 = .ok (.newarray .long, 2) := by decide +kernel
theorem dX12_init_57 : decode cX12_init 57 = .ok (.putfield 29, 3) := by decide +kernel
theorem dX12_init_60 : decode cX12_init 60 = .ok (.aload_n 0, 1) := by decide +kernel
theorem dX12_init_61 : decode cX12_init 61 = .ok (.bipush 10, 2) := by decide +kernel
theorem dX12_init_63 : decode cX12_init 63 = .ok (.newarray .int, 2) := by decide +kernel
theorem dX12_init_65 : decode cX12_init 65 = .ok (.putfield 32, 3) := by decide +kernel
theorem dX12_init_68 : decode cX12_init 68 = .ok (.aload_n 0, 1) := by decide +kernel
theorem dX12_init_69 : decode cX12_init 69 = .ok (.bipush 10, 2) := by decide +kernel
theorem dX12_init_71 : decode cX12_init 71 = .ok (.newarray .int, 2) := by decide +kernel
theorem dX12_init_73 : decode cX12_init 73 = .ok (.putfield 35, 3) := by decide +kernel
theorem dX12_init_76 : decode cX12_init 76 = .ok (.aload_n 0, 1) := by decide +kernel
theorem dX12_init_77 : decode cX12_init 77 = .ok (.bipush 12, 2) := by decide +kernel
theorem dX12_init_79 : decode cX12_init 79 = .ok (.newarray .int, 2) := by decide +kernel
theorem dX12_init_81 : decode cX12_init 81 = .ok (.putfield 38, 3) := by decide +kernel
theorem dX12_init_84 : decode cX12_init 84 = .ok (.aload_n 0, 1) := by decide +kernel
theorem dX12_init_85 : decode cX12_init 85 = .ok (.bipush 12, 2) := by decide +kernel
theorem dX12_init_87 : decode cX12_init 87 = .ok (.newarray .int, 2) := by decide +kernel
theorem dX12_init_89 : decode cX12_init 89 = .ok (.putfield 41, 3) := by decide +kernel
theorem dX12_init_92 : decode cX12_init 92 = .ok (.aload_n 0, 1) := by decide +kernel
theorem dX12_init_93 : decode cX12_init 93 = .ok (.bipush 12, 2) := by decide +kernel
theorem dX12_init_95 : decode cX12_init 95 = .ok (.newarray .int, 2) := by decide +kernel
theorem dX12_init_97 : decode cX12_init 97 = .ok (.putfield 44, 3) := by decide +kernel
theorem dX12_init_100 : decode cX12_init 100 = .ok (.aload_n 0, 1) := by decide +kernel
theorem dX12_init_101 : decode cX12_init 101 = .ok (.iconst 5, 1) := by decide +kernel
theorem dX12_init_102 : decode cX12_init 102 = .ok (.newarray .long, 2) := by decide +kernel
theorem dX12_init_104 : decode cX12_init 104 = .ok (.putfield 47, 3) := by decide +kernel
theorem dX12_init_107 : decode cX12_init 107 = .ok (.aload_n 0, 1) := by decide +kernel
theorem dX12_init_108 : decode cX12_init 108 = .ok (.iconst 5, 1) := by decide +kernel
theorem dX12_init_109 : decode cX12_init 109 = .ok (.newarray .int, 2) := by decide +kernel
theorem dX12_init_111 : decode cX12_init 111 = .ok (.putfield 50, 3) := by decide +kernel
theorem dX12_init_114 : decode cX12_init 114 = .ok (.aload_n 0, 1) := by decide +kernel
theorem dX12_init_115 : decode cX12_init 115 = .ok (.iconst 5, 1) := by decide +kernel
theorem dX12_init_116 : decode cX12_init 116 = .ok (.newarray .int, 2) := by decide +kernel
theorem dX12_init_118 : decode cX12_init 118 = .ok (.putfield 53, 3) := by decide +kernel
theorem dX12_init_121 : decode cX12_init 121 = .ok (.aload_n 0, 1) := by decide +kernel
theorem dX12_init_122 : decode cX12_init 122 = .ok (.bipush 15, 2) := by decide +kernel
theorem dX12_init_124 : decode cX12_init 124 = .ok (.newarray .int, 2) := by decide +kernel
theorem dX12_init_126 : decode cX12_init 126 = .ok (.putfield 56, 3) := by decide +kernel
theorem dX12_init_129 : decode cX12_init 129 = .ok (.aload_n 0, 1) := by decide +kernel
theorem dX12_init_130 : decode cX12_init 130 = .ok (.iconst 5, 1) := by decide +kernel
theorem dX12_init_131 : decode cX12_init 131 = .ok (.newarray .int, 2) := by decide +kernel
theorem dX12_init_133 : decode cX12_init 133 = .ok (.putfield 59, 3) := by decide +kernel
theorem dX12_init_136 : decode cX12_init 136 = .ok (.aload_n 0, 1) := by decide +kernel
theorem dX12_init_137 : decode cX12_init 137 = .ok (.iconst 5, 1) := by decide +kernel
theorem dX12_init_138 : decode cX12_init 138 = .ok (.newarray .int, 2) := by decide +kernel
theorem dX12_init_140 : decode cX12_init 140 = .ok (.putfield 62, 3) := by decide +kernel
theorem dX12_init_143 : decode cX12_init 143 = .ok (.aload_n 0, 1) := by decide +kernel
theorem dX12_init_144 : decode cX12_init 144 = .ok (.iconst 5, 1) := by decide +kernel
theorem dX12_init_145 : decode cX12_init 145 = .ok (.newarray .int, 2) := by decide +kernel
theorem dX12_init_147 : decode cX12_init 147 = .ok (.putfield 65, 3) := by decide +kernel
theorem dX12_init_150 : decode cX12_init 150 = .ok (.aload_n 0, 1) := by decide +kernel
theorem dX12_init_151 : decode cX12_init 151 = .ok (.iconst 5, 1) := by decide +kernel
theorem dX12_init_152 : decode cX12_init 152 = .ok (.newarray .int, 2) := by decide +kernel
theorem dX12_init_154 : decode cX12_init 154 = .ok (.putfield 68, 3) := by decide +kernel
theorem dX12_init_157 : decode cX12_init 157 = .ok (.aload_n 0, 1) := by decide +kernel
theorem dX12_init_158 : decode cX12_init 158 = .ok (.sipush 220, 3) := by decide +kernel
theorem dX12_init_161 : decode cX12_init 161 = .ok (.newarray .int, 2) := by decide +kernel
theorem dX12_init_163 : decode cX12_init 163 = .ok (.putfield 71, 3) := by decide +kernel
theorem dX12_init_166 : decode cX12_init 166 = .ok (.aload_n 0, 1) := by decide +kernel
theorem dX12_init_167 : decode cX12_init 167 = .ok (.bipush 33, 2) := by decide +kernel
theorem dX12_init_169 : decode cX12_init 169 = .ok (.newarray .long, 2) := by decide +kernel
theorem dX12_init_171 : decode cX12_init 171 = .ok (.putfield 74, 3) := by decide +kernel
theorem dX12_init_174 : decode cX12_init 174 = .ok (.aload_n 0, 1) := by decide +kernel
theorem dX12_init_175 : decode cX12_init 175 = .ok (.bipush 10, 2) := by decide +kernel
theorem dX12_init_177 : decode cX12_init 177 = .ok (.newarray .int, 2) := by decide +kernel
theorem dX12_init_179 : decode cX12_init 179 = .ok (.putfield 77, 3) := by decide +kernel
theorem dX12_init_182 : decode cX12_init 182 = .ok (.aload_n 0, 1) := by decide +kernel
theorem dX12_init_183 : decode cX12_init 183 = .ok (.sipush 1000, 3) := by decide +kernel
theorem dX12_init_186 : decode cX12_init 186 = .ok (.newarray .int, 2) := by decide +kernel
theorem dX12_init_188 : decode cX12_init 188 = .ok (.putfield 80, 3) := by decide +kernel
theorem dX12_init_191 : decode cX12_init 191 = .ok (.aload_n 0, 1) := by decide +kernel
theorem dX12_init_192 : decode cX12_init 192 = .ok (.iconst (-1), 1) := by decide +kernel
theorem dX12_init_193 : decode cX12_init 193 = .ok (.putfield 83, 3) := by decide +kernel
theorem dX12_init_196 : decode cX12_init 196 = .ok (.aload_n 0, 1) := by decide +kernel
theorem dX12_init_197 : decode cX12_init 197 = .ok (.sipush 144, 3) := by decide +kernel
theorem dX12_init_200 : decode cX12_init 200 = .ok (.newarray .int, 2) := by decide +kernel
theorem dX12_init_202 : decode cX12_init 202 = .ok (.putfield 87, 3) := by decide +kernel
theorem dX12_init_205 : decode cX12_init 205 = .ok (.aload_n 0, 1) := by decide +kernel
theorem dX12_init_206 : decode cX12_init 206 = .ok (.sipush 1024, 3) := by decide +kernel
theorem dX12_init_209 : decode cX12_init 209 = .ok (.newarray .int, 2) := by decide +kernel
theorem dX12_init_211 : decode cX12_init 211 = .ok (.putfield 90, 3) := by decide +kernel
theorem dX12_init_214 : decode cX12_init 214 = .ok (.aload_n 0, 1) := by decide +kernel
theorem dX12_init_215 : decode cX12_init 215 = .ok (.bipush 10, 2) := by decide +kernel
theorem dX12_init_217 : decode cX12_init 217 = .ok (.newarray .int, 2) := by decide +kernel
theorem dX12_init_219 : decode cX12_init 219 = .ok (.putfield 93, 3) := by decide +kernel
theorem dX12_init_222 : decode cX12_init 222 = .ok (.aload_n 0, 1) := by decide +kernel
theorem dX12_init_223 : decode cX12_init 223 = .ok (.bipush 6, 2) := by decide +kernel
theorem dX12_init_225 : decode cX12_init 225 = .ok (.newarray .int, 2) := by decide +kernel
theorem dX12_init_227 : decode cX12_init 227 = .ok (.putfield 96, 3) := by decide +kernel
theorem dX12_init_230 : decode cX12_init 230 = .ok (.aload_n 0, 1) := by decide +kernel
theorem dX12_init_231 : decode cX12_init 231 = .ok (.iconst 5, 1) := by decide +kernel
theorem dX12_init_232 : decode cX12_init 232 = .ok (.newarray .int, 2) := by decide +kernel
theorem dX12_init_234 : decode cX12_init 234 = .ok (.putfield 99, 3) := by decide +kernel
theorem dX12_init_237 : decode cX12_init 237 = .ok (.aload_n 0, 1) := by decide +kernel
theorem dX12_init_238 : decode cX12_init 238 = .ok (.iconst 5, 1) := by decide +kernel
theorem dX12_init_239 : decode cX12_init 239 = .ok (.newarray .int, 2) := by decide +kernel
theorem dX12_init_241 : decode cX12_init 241 = .ok (.putfield 102, 3) := by decide +kernel
theorem dX12_init_244 : decode cX12_init 244 = .ok (.aload_n 0, 1) := by decide +kernel
theorem dX12_init_245 : decode cX12_init 245 = .ok (.iconst 5, 1) := by decide +kernel
theorem dX12_init_246 : decode cX12_init 246 = .ok (.newarray .int, 2) := by decide +kernel
theorem dX12_init_248 : decode cX12_init 248 = .ok (.putfield 105, 3) := by decide +kernel
theorem dX12_init_251 : decode cX12_init 251 = .ok (.aload_n 0, 1) := by decide +kernel
theorem dX12_init_252 : decode cX12_init 252 = .ok (.iconst 5, 1) := by decide +kernel
theorem dX12_init_253 : decode cX12_init 253 = .ok (.newarray .int, 2) := by decide +kernel
theorem dX12_init_255 : decode cX12_init 255 = .ok (.putfield 108, 3) := by decide +kernel
theorem dX12_init_258 : decode cX12_init 258 = .ok (.aload_n 0, 1) := by decide +kernel
theorem dX12_init_259 : decode cX12_init 259 = .ok (.iconst 5, 1) := by decide +kernel
theorem dX12_init_260 : decode cX12_init 260 = .ok (.newarray .int, 2) := by decide +kernel
theorem dX12_init_262 : decode cX12_init 262 = .ok (.putfield 111, 3) := by decide +kernel
theorem dX12_init_265 : decode cX12_init 265 = .ok (.aload_n 0, 1) := by decide +kernel
theorem dX12_init_266 : decode cX12_init 266 = .ok (.bipush 10, 2) := by decide +kernel
theorem dX12_init_268 : decode cX12_init 268 = .ok (.newarray .int, 2) := by decide +kernel
theorem dX12_init_270 : decode cX12_init 270 = .ok (.putfield 114, 3) := by decide +kernel
theorem dX12_init_273 : decode cX12_init 273 = .ok (.aload_n 0, 1) := by decide +kernel
theorem dX12_init_274 : decode cX12_init 274 = .ok (.bipush 48, 2) := by decide +kernel
theorem dX12_init_276 : decode cX12_init 276 = .ok (.newarray .int, 2) := by decide +kernel
theorem dX12_init_278 : decode cX12_init 278 = .ok (.putfield 117, 3) := by decide +kernel
theorem dX12_init_281 : decode cX12_init 281 = .ok (.aload_n 0, 1) := by decide +kernel
theorem dX12_init_282 : decode cX12_init 282 = .ok (.bipush 48, 2) := by decide +kernel
theorem dX12_init_284 : decode cX12_init 284 = .ok (.newarray .int, 2) := by decide +kernel
theorem dX12_init_286 : decode cX12_init 286 = .ok (.putfield 120, 3) := by decide +kernel
theorem dX12_init_289 : decode cX12_init 289 = .ok (.aload_n 0, 1) := by decide +kernel
theorem dX12_init_290 : decode cX12_init 290 = .ok (.bipush 48, 2) := by decide +kernel
theorem dX12_init_292 : decode cX12_init 292 = .ok (.newarray .int, 2) := by decide +kernel
theorem dX12_init_294 : decode cX12_init 294 = .ok (.putfield 123, 3) := by decide +kernel
theorem dX12_init_297 : decode cX12_init 297 = .ok (.aload_n 0, 1) := by decide +kernel
theorem dX12_init_298 : decode cX12_init 298 = .ok (.bipush 48, 2) := by decide +kernel
theorem dX12_init_300 : decode cX12_init 300 = .ok (.newarray .int, 2) := by decide +kernel
theorem dX12_init_302 : decode cX12_init 302 = .ok (.putfield 126, 3) := by decide +kernel
theorem dX12_init_305 : decode cX12_init 305 = .ok (.aload_n 0, 1) := by decide +kernel
theorem dX12_init_306 : decode cX12_init 306 = .ok (.bipush 64, 2) := by decide +kernel
theorem dX12_init_308 : decode cX12_init 308 = .ok (.newarray .int, 2) := by decide +kernel
theorem dX12_init_310 : decode cX12_init 310 = .ok (.putfield 129, 3) := by decide +kernel
theorem dX12_init_313 : decode cX12_init 313 = .ok (.aload_n 0, 1) := by decide +kernel
theorem dX12_init_314 : decode cX12_init 314 = .ok (.bipush 40, 2) := by decide +kernel
theorem dX12_init_316 : decode cX12_init 316 = .ok (.newarray .int, 2) := by decide +kernel
theorem dX12_init_318 : decode cX12_init 318 = .ok (.putfield 132, 3) := by decide +kernel
theorem dX12_init_321 : decode cX12_init 321 = .ok (.aload_n 0, 1) := by decide +kernel
theorem dX12_init_322 : decode cX12_init 322 = .ok (.iconst 5, 1) := by decide +kernel
theorem dX12_init_323 : decode cX12_init 323 = .ok (.newarray .int, 2) := by decide +kernel
theorem dX12_init_325 : decode cX12_init 325 = .ok (.putfield 135, 3) := by decide +kernel
theorem dX12_init_328 : decode cX12_init 328 = .ok (.aload_n 0, 1) := by decide +kernel
theorem dX12_init_329 : decode cX12_init 329 = .ok (.iconst 5, 1) := by decide +kernel
theorem dX12_init_330 : decode cX12_init 330 = .ok (.newarray .int, 2) := by decide +kernel
theorem dX12_init_332 : decode cX12_init 332 = .ok (.putfield 138, 3) := by decide +kernel
theorem dX12_init_335 : decode cX12_init 335 = .ok (.aload_n 0, 1) := by decide +kernel
theorem dX12_init_336 : decode cX12_init 336 = .ok (.iconst 5, 1) := by decide +kernel
theorem dX12_init_337 : decode cX12_init 337 = .ok (.newarray .int, 2) := by decide +kernel
theorem dX12_init_339 : decode cX12_init 339 = .ok (.dup, 1) := by decide +kernel
theorem dX12_init_340 : decode cX12_init 340 = .ok (.iconst 0, 1) := by decide +kernel
theorem dX12_init_341 : decode cX12_init 341 = .ok (.iconst 1, 1) := by decide +kernel
theorem dX12_init_342 : decode cX12_init 342 = .ok (.iastore, 1) := by decide +kernel
theorem dX12_init_343 : decode cX12_init 343 = .ok (.dup, 1) := by decide +kernel
theorem dX12_init_344 : decode cX12_init 344 = .ok (.iconst 1, 1) := by decide +kernel
theorem dX12_init_345 : decode cX12_init 345 = .ok (.bipush 10, 2) := by decide +kernel
theorem dX12_init_347 : decode cX12_init 347 = .ok (.iastore, 1) := by decide +kernel
theorem dX12_init_348 : decode cX12_init 348 = .ok (.dup, 1) := by decide +kernel
theorem dX12_init_349 : decode cX12_init 349 = .ok (.iconst 2, 1) := by decide +kernel
theorem dX12_init_350 : decode cX12_init 350 = .ok (.bipush 100, 2) := by decide +kernel
theorem dX12_init_352 : decode cX12_init 352 = .ok (.iastore, 1) := by decide +kernel
theorem dX12_init_353 : decode cX12_init 353 = .ok (.dup, 1) := by decide +kernel
theorem dX12_init_354 : decode cX12_init 354 = .ok (.iconst 3, 1) := by decide +kernel
theorem dX12_init_355 : decode cX12_init 355 = .ok (.sipush 1000, 3) := by decide +kernel
theorem dX12_init_358 : decode cX12_init 358 = .ok (.iastore, 1) := by decide +kernel
theorem dX12_init_359 : decode cX12_init 359 = .ok (.dup, 1) := by decide +kernel
theorem dX12_init_360 : decode cX12_init 360 = .ok (.iconst 4, 1) := by decide +kernel
theorem dX12_init_361 : decode cX12_init 361 = .ok (.sipush 10000, 3) := by decide +kernel
theorem dX12_init_364 : decode cX12_init 364 = .ok (.iastore, 1) := by decide +kernel
theorem dX12_init_365 : decode cX12_init 365 = .ok (.putfield 141, 3) := by decide +kernel
theorem dX12_init_368 : decode cX12_init 368 = .ok (.aload_n 0, 1) := by decide +kernel
theorem dX12_init_369 : decode cX12_init 369 = .ok (.invokevirtual 144, 3) := by decide +kernel
theorem dX12_init_372 : decode cX12_init 372 = .ok (.aload_n 0, 1) := by decide +kernel
theorem dX12_init_373 : decode cX12_init 373 = .ok (.invokevirtual 147, 3) := by decide +kernel
theorem dX12_init_376 : decode cX12_init 376 = .ok (.return_, 1) := by decide +kernel
theorem dX12_keep_0 : decode cX12_keep 0 = .ok (.aload_n 0, 1) := by decide +kernel
theorem dX12_keep_1 : decode cX12_keep 1 = .ok (.iconst 0, 1) := by decide +kernel
theorem dX12_keep_2 : decode cX12_keep 2 = .ok (.putfield 183, 3) := by decide +kernel
theorem dX12_keep_5 : decode cX12_keep 5 = .ok (.aload_n 0, 1) := by decide +kernel
theorem dX12_keep_6 : decode cX12_keep 6 = .ok (.iconst 0, 1) := by decide +kernel
theorem dX12_keep_7 : decode cX12_keep 7 = .ok (.putfield 186, 3) := by decide +kernel
theorem dX12_keep_10 : decode cX12_keep 10 = .ok (.iload_n 1, 1) := by decide +kernel
theorem dX12_keep_11 : decode cX12_keep 11 = .ok (.ifCond .ne 7, 3) := by decide +kernel
theorem dX12_keep_14 : decode cX12_keep 14 = .ok (.aload_n 0, 1) := by decide +kernel
theorem dX12_keep_15 : decode cX12_keep 15 = .ok (.invokevirtual 189, 3) := by decide +kernel
theorem dX12_keep_18 : decode cX12_keep 18 = .ok (.aload_n 0, 1) := by decide +kernel
theorem dX12_keep_19 : decode cX12_keep 19 = .ok (.aload_n 0, 1) := by decide +kernel
theorem dX12_keep_20 : decode cX12_keep 20 = .ok (.getfield 77, 3) := by decide +kernel
theorem dX12_keep_23 : decode cX12_keep 23 = .ok (.bipush 10, 2) := by decide +kernel
theorem dX12_keep_25 : decode cX12_keep 25 = .ok (.iload_n 1, 1) := by decide +kernel
theorem dX12_keep_26 : decode cX12_keep 26 = .ok (.invokevirtual 192, 3) := by decide +kernel
theorem dX12_keep_29 : decode cX12_keep 29 = .ok (.iload_n 1, 1) := by decide +kernel
theorem dX12_keep_30 : decode cX12_keep 30 = .ok (.ifCond .eq 7, 3) := by decide +kernel
theorem dX12_keep_33 : decode cX12_keep 33 = .ok (.aload_n 0, 1) := by decide +kernel
theorem dX12_keep_34 : decode cX12_keep 34 = .ok (.invokevirtual 196, 3) := by decide +kernel
theorem dX12_keep_37 : decode cX12_keep 37 = .ok (.aload_n 0, 1) := by decide +kernel
theorem dX12_keep_38 : decode cX12_keep 38 = .ok (.aload_n 0, 1) := by decide +kernel
theorem dX12_keep_39 : decode cX12_keep 39 = .ok (.getfield 13, 3) := by decide +kernel
theorem dX12_keep_42 : decode cX12_keep 42 = .ok (.bipush 20, 2) := by decide +kernel
theorem dX12_keep_44 : decode cX12_keep 44 = .ok (.iload_n 1, 1) := by decide +kernel
theorem dX12_keep_45 : decode cX12_keep 45 = .ok (.invokevirtual 192, 3) := by decide +kernel
theorem dX12_keep_48 : decode cX12_keep 48 = .ok (.aload_n 0, 1) := by decide +kernel
theorem dX12_keep_49 : decode cX12_keep 49 = .ok (.aload_n 0, 1) := by decide +kernel
theorem dX12_keep_50 : decode cX12_keep 50 = .ok (.getfield 17, 3) := by decide +kernel
theorem dX12_keep_53 : decode cX12_keep 53 = .ok (.bipush 20, 2) := by decide +kernel
theorem dX12_keep_55 : decode cX12_keep 55 = .ok (.iload_n 1, 1) := by decide +kernel
theorem dX12_keep_56 : decode cX12_keep 56 = .ok (.invokevirtual 192, 3) := by decide +kernel
theorem dX12_keep_59 : decode cX12_keep 59 = .ok (.aload_n 0, 1) := by decide +kernel
theorem dX12_keep_60 : decode cX12_keep 60 = .ok (.aload_n 0, 1) := by decide +kernel
theorem dX12_keep_61 : decode cX12_keep 61 = .ok (.getfield 20, 3) := by decide +kernel
theorem dX12_keep_64 : decode cX12_keep 64 = .ok (.bipush 20, 2) := by decide +kernel
theorem dX12_keep_66 : decode cX12_keep 66 = .ok (.iload_n 1, 1) := by decide +kernel
theorem dX12_keep_67 : decode cX12_keep 67 = .ok (.invokevirtual 192, 3) := by decide +kernel
theorem dX12_keep_70 : decode cX12_keep 70 = .ok (.aload_n 0, 1) := by decide +kernel
theorem dX12_keep_71 : decode cX12_keep 71 = .ok (.aload_n 0, 1) := by decide +kernel
theorem dX12_keep_72 : decode cX12_keep 72 = .ok (.getfield 26, 3) := by decide +kernel
theorem dX12_keep_75 : decode cX12_keep 75 = .ok (.bipush 6, 2) := by decide +kernel
theorem dX12_keep_77 : decode cX12_keep 77 = .ok (.iload_n 1, 1) := by decide +kernel
theorem dX12_keep_78 : decode cX12_keep 78 = .ok (.invokevirtual 192, 3) := by decide +kernel
theorem dX12_keep_81 : decode cX12_keep 81 = .ok (.aload_n 0, 1) := by decide +kernel
theorem dX12_keep_82 : decode cX12_keep 82 = .ok (.aload_n 0, 1) := by decide +kernel
theorem dX12_keep_83 : decode cX12_keep 83 = .ok (.getfield 32, 3) := by decide +kernel
theorem dX12_keep_86 : decode cX12_keep 86 = .ok (.bipush 10, 2) := by decide +kernel
theorem dX12_keep_88 : decode cX12_keep 88 = .ok (.iload_n 1, 1) := by decide +kernel
theorem dX12_keep_89 : decode cX12_keep 89 = .ok (.invokevirtual 192, 3) := by decide +kernel
theorem dX12_keep_92 : decode cX12_keep 92 = .ok (.aload_n 0, 1) := by decide +kernel
theorem dX12_keep_93 : decode cX12_keep 93 = .ok (.aload_n 0, 1) := by decide +kernel
theorem dX12_keep_94 : decode cX12_keep 94 = .ok (.getfield 35, 3) := by decide +kernel
theorem dX12_keep_97 : decode cX12_keep 97 = .ok (.bipush 10, 2) := by decide +kernel
theorem dX12_keep_99 : decode cX12_keep 99 = .ok (.iload_n 1, 1) := by decide +kernel
theorem dX12_keep_100 : decode cX12_keep 100 = .ok (.invokevirtual 192, 3) := by decide +kernel
theorem dX12_keep_103 : decode cX12_keep 103 = .ok (.aload_n 0, 1) := by decide +kernel
theorem dX12_keep_104 : decode cX12_keep 104 = .ok (.aload_n 0, 1) := by decide +kernel
theorem dX12_keep_105 : decode cX12_keep 105 = .ok (.getfield 38, 3) := by decide +kernel
theorem dX12_keep_108 : decode cX12_keep 108 = .ok (.bipush 12, 2) := by decide +kernel
theorem dX12_keep_110 : decode cX12_keep 110 = .ok (.iload_n 1, 1) := by decide +kernel
theorem dX12_keep_111 : decode cX12_keep 111 = .ok (.invokevirtual 192, 3) := by decide +kernel
theorem dX12_keep_114 : decode cX12_keep 114 = .ok (.aload_n 0, 1) := by decide +kernel
theorem dX12_keep_115 : decode cX12_keep 115 = .ok (.aload_n 0, 1) := by decide +kernel
theorem dX12_keep_116 : decode cX12_keep 116 = .ok (.getfield 41, 3) := by decide +kernel
theorem dX12_keep_119 : decode cX12_keep 119 = .ok (.bipush 12, 2) := by decide +kernel
theorem dX12_keep_121 : decode cX12_keep 121 = .ok (.iload_n 1, 1) := by decide +kernel
theorem dX12_keep_122 : decode cX12_keep 122 = .ok (.invokevirtual 192, 3) := by decide +kernel
theorem dX12_keep_125 : decode cX12_keep 125 = .ok (.aload_n 0, 1) := by decide +kernel
theorem dX12_keep_126 : decode cX12_keep 126 = .ok (.aload_n 0, 1) := by decide +kernel
theorem dX12_keep_127 : decode cX12_keep 127 = .ok (.getfield 44, 3) := by decide +kernel
theorem dX12_keep_130 : decode cX12_keep 130 = .ok (.bipush 12, 2) := by decide +kernel
theorem dX12_keep_132 : decode cX12_keep 132 = .ok (.iload_n 1, 1) := by decide +kernel
theorem dX12_keep_133 : decode cX12_keep 133 = .ok (.invokevirtual 192, 3) := by decide +kernel
theorem dX12_keep_136 : decode cX12_keep 136 = .ok (.aload_n 0, 1) := by decide +kernel
theorem dX12_keep_137 : decode cX12_keep 137 = .ok (.aload_n 0, 1) := by decide +kernel
theorem dX12_keep_138 : decode cX12_keep 138 = .ok (.getfield 50, 3) := by decide +kernel
theorem dX12_keep_141 : decode cX12_keep 141 = .ok (.iconst 5, 1) := by decide +kernel
theorem dX12_keep_142 : decode cX12_keep 142 = .ok (.iload_n 1, 1) := by decide +kernel
theorem dX12_keep_143 : decode cX12_keep 143 = .ok (.invokevirtual 192, 3) := by decide +kernel
theorem dX12_keep_146 : decode cX12_keep 146 = .ok (.aload_n 0, 1) := by decide +kernel
theorem dX12_keep_147 : decode cX12_keep 147 = .ok (.aload_n 0, 1) := by decide +kernel
theorem dX12_keep_148 : decode cX12_keep 148 = .ok (.getfield 53, 3) := by decide +kernel
theorem dX12_keep_151 : decode cX12_keep 151 = .ok (.iconst 5, 1) := by decide +kernel
theorem dX12_keep_152 : decode cX12_keep 152 = .ok (.iload_n 1, 1) := by decide +kernel
theorem dX12_keep_153 : decode cX12_keep 153 = .ok (.invokevirtual 192, 3) := by decide +kernel
theorem dX12_keep_156 : decode cX12_keep 156 = .ok (.aload_n 0, 1) := by decide +kernel
theorem dX12_keep_157 : decode cX12_keep 157 = .ok (.aload_n 0, 1) := by decide +kernel
theorem dX12_keep_158 : decode cX12_keep 158 = .ok (.getfield 56, 3) := by decide +kernel
theorem dX12_keep_161 : decode cX12_keep 161 = .ok (.bipush 15, 2) := by decide +kernel
theorem dX12_keep_163 : decode cX12_keep 163 = .ok (.iload_n 1, 1) := by decide +kernel
theorem dX12_keep_164 : decode cX12_keep 164 = .ok (.invokevirtual 192, 3) := by decide +kernel
theorem dX12_keep_167 : decode cX12_keep 167 = .ok (.aload_n 0, 1) := by decide +kernel
theorem dX12_keep_168 : decode cX12_keep 168 = .ok (.aload_n 0, 1) := by decide +kernel
theorem dX12_keep_169 : decode cX12_keep 169 = .ok (.getfield 59, 3) := by decide +kernel
theorem dX12_keep_172 : decode cX12_keep 172 = .ok (.iconst 5, 1) := by decide +kernel
theorem dX12_keep_173 : decode cX12_keep 173 = .ok (.iload_n 1, 1) := by decide +kernel
theorem dX12_keep_174 : decode cX12_keep 174 = .ok (.invokevirtual 192, 3) := by decide +kernel
theorem dX12_keep_177 : decode cX12_keep 177 = .ok (.aload_n 0, 1) := by decide +kernel
theorem dX12_keep_178 : decode cX12_keep 178 = .ok (.aload_n 0, 1) := by decide +kernel
theorem dX12_keep_179 : decode cX12_keep 179 = .ok (.getfield 62, 3) := by decide +kernel
theorem dX12_keep_182 : decode cX12_keep 182 = .ok (.iconst 5, 1) := by decide +kernel
theorem dX12_keep_183 : decode cX12_keep 183 = .ok (.iload_n 1, 1) := by decide +kernel
theorem dX12_keep_184 : decode cX12_keep 184 = .ok (.invokevirtual 192, 3) := by decide +kernel
theorem dX12_keep_187 : decode cX12_keep 187 = .ok (.aload_n 0, 1) := by decide +kernel
theorem dX12_keep_188 : decode cX12_keep 188 = .ok (.aload_n 0, 1) := by decide +kernel
theorem dX12_keep_189 : decode cX12_keep 189 = .ok (.getfield 65, 3) := by decide +kernel
theorem dX12_keep_192 : decode cX12_keep 192 = .ok (.iconst 5, 1) := by decide +kernel
theorem dX12_keep_193 : decode cX12_keep 193 = .ok (.iload_n 1, 1) := by decide +kernel
theorem dX12_keep_194 : decode cX12_keep 194 = .ok (.invokevirtual 192, 3) := by decide +kernel
theorem dX12_keep_197 : decode cX12_keep 197 = .ok (.aload_n 0, 1) := by decide +kernel
theorem dX12_keep_198 : decode cX12_keep 198 = .ok (.aload_n 0, 1) := by decide +kernel
theorem dX12_keep_199 : decode cX12_keep 199 = .ok (.getfield 7, 3) := by decide +kernel
theorem dX12_keep_202 : decode cX12_keep 202 = .ok (.bipush 12, 2) := by decide +kernel
theorem dX12_keep_204 : decode cX12_keep 204 = .ok (.iload_n 1, 1) := by decide +kernel
theorem dX12_keep_205 : decode cX12_keep 205 = .ok (.invokevirtual 199, 3) := by decide +kernel
theorem dX12_keep_208 : decode cX12_keep 208 = .ok (.aload_n 0, 1) := by decide +kernel
theorem dX12_keep_209 : decode cX12_keep 209 = .ok (.aload_n 0, 1) := by decide +kernel
theorem dX12_keep_210 : decode cX12_keep 210 = .ok (.getfield 23, 3) := by decide +kernel
theorem dX12_keep_213 : decode cX12_keep 213 = .ok (.bipush 6, 2) := by decide +kernel
theorem dX12_keep_215 : decode cX12_keep 215 = .ok (.iload_n 1, 1) := by decide +kernel
theorem dX12_keep_216 : decode cX12_keep 216 = .ok (.invokevirtual 199, 3) := by decide +kernel
theorem dX12_keep_219 : decode cX12_keep 219 = .ok (.aload_n 0, 1) := by decide +kernel
theorem dX12_keep_220 : decode cX12_keep 220 = .ok (.aload_n 0, 1) := by decide +kernel
theorem dX12_keep_221 : decode cX12_keep 221 = .ok (.getfield 29, 3) := by decide +kernel
theorem dX12_keep_224 : decode cX12_keep 224 = .ok (.bipush 10, 2) := by decide +kernel
theorem dX12_keep_226 : decode cX12_keep 226 = .ok (.iload_n 1, 1) := by decide +kernel
theorem dX12_keep_227 : decode cX12_keep 227 = .ok (.invokevirtual 199, 3) := by decide +kernel
theorem dX12_keep_230 : decode cX12_keep 230 = .ok (.aload_n 0, 1) := by decide +kernel
theorem dX12_keep_231 : decode cX12_keep 231 = .ok (.aload_n 0, 1) := by decide +kernel
theorem dX12_keep_232 : decode cX12_keep 232 = .ok (.getfield 47, 3) := by decide +kernel
theorem dX12_keep_235 : decode cX12_keep 235 = .ok (.iconst 5, 1) := by decide +kernel
theorem dX12_keep_236 : decode cX12_keep 236 = .ok (.iload_n 1, 1) := by decide +kernel
theorem dX12_keep_237 : decode cX12_keep 237 = .ok (.invokevirtual 199, 3) := by decide +kernel
theorem dX12_keep_240 : decode cX12_keep 240 = .ok (.return_, 1) := by decide +kernel
theorem dX12_launch_0 : decode cX12_launch 0 = .ok (.iload_n 2, 1) := by decide +kernel
theorem dX12_launch_1 : decode cX12_launch 1 = .ok (.aload_n 0, 1) := by decide +kernel
theorem dX12_launch_2 : decode cX12_launch 2 = .ok (.getfield 65, 3) := by decide +kernel
theorem dX12_launch_5 : decode cX12_launch 5 = .ok (.iload_n 1, 1) := by decide +kernel
theorem dX12_launch_6 : decode cX12_launch 6 = .ok (.iaload, 1) := by decide +kernel
theorem dX12_launch_7 : decode cX12_launch 7 = .ok (.if_icmp .ge 11, 3) := by decide +kernel
theorem dX12_launch_10 : decode cX12_launch 10 = .ok (.aload_n 0, 1) := by decide +kernel
theorem dX12_launch_11 : decode cX12_launch 11 = .ok (.getfield 99, 3) := by decide +kernel
theorem dX12_launch_14 : decode cX12_launch 14 = .ok (.iload_n 1, 1) := by decide +kernel
theorem dX12_launch_15 : decode cX12_launch 15 = .ok (.iconst (-1), 1) := by decide +kernel
theorem dX12_launch_16 : decode cX12_launch 16 = .ok (.iastore, 1) := by decide +kernel
theorem dX12_launch_17 : decode cX12_launch 17 = .ok (.return_, 1) := by decide +kernel
theorem dX12_launch_18 : decode cX12_launch 18 = .ok (.iconst 0, 1) := by decide +kernel
theorem dX12_launch_19 : decode cX12_launch 19 = .ok (.istore_n 3, 1) := by decide +kernel
theorem dX12_launch_20 : decode cX12_launch 20 = .ok (.iload_n 3, 1) := by decide +kernel
theorem dX12_launch_21 : decode cX12_launch 21 = .ok (.aload_n 0, 1) := by decide +kernel
theorem dX12_launch_22 : decode cX12_launch 22 = .ok (.getfield 171, 3) := by decide +kernel
theorem dX12_launch_25 : decode cX12_launch 25 = .ok (.if_icmp .ge 50, 3) := by decide +kernel
theorem dX12_launch_28 : decode cX12_launch 28 = .ok (.aload_n 0, 1) := by decide +kernel
theorem dX12_launch_29 : decode cX12_launch 29 = .ok (.getfield 62, 3) := by decide +kernel
theorem dX12_launch_32 : decode cX12_launch 32 = .ok (.iload_n 1, 1) := by decide +kernel
theorem dX12_launch_33 : decode cX12_launch 33 = .ok (.iaload, 1) := by decide +kernel
theorem dX12_launch_34 : decode cX12_launch 34 = .ok (.iload_n 3, 1) := by decide +kernel
theorem dX12_launch_35 : decode cX12_launch 35 = .ok (.invokestatic 363, 3) := by decide +kernel
theorem dX12_launch_38 : decode cX12_launch 38 = .ok (.ifCond .eq 31, 3) := by decide +kernel
theorem dX12_launch_41 : decode cX12_launch 41 = .ok (.aload_n 0, 1) := by decide +kernel
theorem dX12_launch_42 : decode cX12_launch 42 = .ok (.getfield 99, 3) := by decide +kernel
theorem dX12_launch_45 : decode cX12_launch 45 = .ok (.iload_n 3, 1) := by decide +kernel
theorem dX12_launch_46 : decode cX12_launch 46 = .ok (.iaload, 1) := by decide +kernel
theorem dX12_launch_47 : decode cX12_launch 47 = .ok (.iconst 1, 1) := by decide +kernel
theorem dX12_launch_48 : decode cX12_launch 48 = .ok (.if_icmp .ne 13, 3) := by decide +kernel
theorem dX12_launch_51 : decode cX12_launch 51 = .ok (.aload_n 0, 1) := by decide +kernel
theorem dX12_launch_52 : decode cX12_launch 52 = .ok (.getfield 108, 3) := by decide +kernel
theorem dX12_launch_55 : decode cX12_launch 55 = .ok (.iload_n 3, 1) := by decide +kernel
theorem dX12_launch_56 : decode cX12_launch 56 = .ok (.iaload, 1) := by decide +kernel
theorem dX12_launch_57 : decode cX12_launch 57 = .ok (.iload_n 2, 1) := by decide +kernel
theorem dX12_launch_58 : decode cX12_launch 58 = .ok (.if_icmp .le 11, 3) := by decide +kernel
theorem dX12_launch_61 : decode cX12_launch 61 = .ok (.aload_n 0, 1) := by decide +kernel
theorem dX12_launch_62 : decode cX12_launch 62 = .ok (.getfield 99, 3) := by decide +kernel
theorem dX12_launch_65 : decode cX12_launch 65 = .ok (.iload_n 1, 1) := by decide +kernel
theorem dX12_launch_66 : decode cX12_launch 66 = .ok (.bipush (-2), 2) := by decide +kernel
theorem dX12_launch_68 : decode cX12_launch 68 = .ok (.iastore, 1) := by decide +kernel
theorem dX12_launch_69 : decode cX12_launch 69 = .ok (.iinc 3 1, 3) := by decide +kernel
theorem dX12_launch_72 : decode cX12_launch 72 = .ok (.goto (-52), 3) := by decide +kernel
theorem dX12_launch_75 : decode cX12_launch 75 = .ok (.aload_n 0, 1) := by decide +kernel
theorem dX12_launch_76 : decode cX12_launch 76 = .ok (.getfield 99, 3) := by decide +kernel
theorem dX12_launch_79 : decode cX12_launch 79 = .ok (.iload_n 1, 1) := by decide +kernel
theorem dX12_launch_80 : decode cX12_launch 80 = .ok (.iaload, 1) := by decide +kernel
theorem dX12_launch_81 : decode cX12_launch 81 = .ok (.ifCond .eq 4, 3) := by decide +kernel
theorem dX12_launch_84 : decode cX12_launch 84 = .ok (.return_, 1) := by decide +kernel
theorem dX12_launch_85 : decode cX12_launch 85 = .ok (.iconst 0, 1) := by decide +kernel
theorem dX12_launch_86 : decode cX12_launch 86 = .ok (.istore_n 3, 1) := by decide +kernel
theorem dX12_launch_87 : decode cX12_launch 87 = .ok (.iconst 0, 1) := by decide +kernel
theorem dX12_launch_88 : decode cX12_launch 88 = .ok (.istore 4, 2) := by decide +kernel
theorem dX12_launch_90 : decode cX12_launch 90 = .ok (.iload 4, 2) := by decide +kernel
theorem dX12_launch_92 : decode cX12_launch 92 = .ok (.iconst 3, 1) := by decide +kernel
theorem dX12_launch_93 : decode cX12_launch 93 = .ok (.if_icmp .ge 24, 3) := by decide +kernel
theorem dX12_launch_96 : decode cX12_launch 96 = .ok (.iload_n 3, 1) := by decide +kernel
theorem dX12_launch_97 : decode cX12_launch 97 = .ok (.iconst (-1), 1) := by decide +kernel
theorem dX12_launch_98 : decode cX12_launch 98 = .ok (.if_icmp .eq 19, 3) := by decide +kernel
theorem dX12_launch_101 : decode cX12_launch 101 = .ok (.aload_n 0, 1) := by decide +kernel
theorem dX12_launch_102 : decode cX12_launch 102 = .ok (.iload_n 1, 1) := by decide +kernel
theorem dX12_launch_103 : decode cX12_launch 103 = .ok (.iload_n 2, 1) := by decide +kernel
theorem dX12_launch_104 : decode cX12_launch 104 = .ok (.iload 4, 2) := by decide +kernel
theorem dX12_launch_106 : decode cX12_launch 106 = .ok (.iload_n 3, 1) := by decide +kernel
theorem dX12_launch_107 : decode cX12_launch 107 = .ok (.invokevirtual 500, 3) := by decide +kernel
theorem dX12_launch_110 : decode cX12_launch 110 = .ok (.istore_n 3, 1) := by decide +kernel
theorem dX12_launch_111 : decode cX12_launch 111 = .ok (.iinc 4 1, 3) := by decide +kernel
theorem dX12_launch_114 : decode cX12_launch 114 = .ok (.goto (-24), 3) := by decide +kernel
theorem dX12_launch_117 : decode cX12_launch 117 = .ok (.iload_n 3, 1) := by decide +kernel
theorem dX12_launch_118 : decode cX12_launch 118 = .ok (.iconst (-1), 1) := by decide +kernel
theorem dX12_launch_119 : decode cX12_launch 119 = .ok (.if_icmp .ne 14, 3) := by decide +kernel
theorem dX12_launch_122 : decode cX12_launch 122 = .ok (.aload_n 0, 1) := by decide +kernel
theorem dX12_launch_123 : decode cX12_launch 123 = .ok (.getfield 99, 3) := by decide +kernel
theorem dX12_launch_126 : decode cX12_launch 126 = .ok (.iload_n 1, 1) := by decide +kernel
theorem dX12_launch_127 : decode cX12_launch 127 = .ok (.bipush (-3), 2) := by decide +kernel
theorem dX12_launch_129 : decode cX12_launch 129 = .ok (.iastore, 1) := by decide +kernel
theorem dX12_launch_130 : decode cX12_launch 130 = .ok (.goto 34, 3) := by decide +kernel
theorem dX12_launch_133 : decode cX12_launch 133 = .ok (.aload_n 0, 1) := by decide +kernel
theorem dX12_launch_134 : decode cX12_launch 134 = .ok (.getfield 485, 3) := by decide +kernel
theorem dX12_launch_137 : decode cX12_launch 137 = .ok (.aload_n 0, 1) := by decide +kernel
theorem dX12_launch_138 : decode cX12_launch 138 = .ok (.getfield 59, 3) := by decide +kernel
theorem dX12_launch_141 : decode cX12_launch 141 = .ok (.iload_n 1, 1) := by decide +kernel
theorem dX12_launch_142 : decode cX12_launch 142 = .ok (.iaload, 1) := by decide +kernel
theorem dX12_launch_143 : decode cX12_launch 143 = .ok (.if_icmp .ge 14, 3) := by decide +kernel
theorem dX12_launch_146 : decode cX12_launch 146 = .ok (.aload_n 0, 1) := by decide +kernel
theorem dX12_launch_147 : decode cX12_launch 147 = .ok (.getfield 99, 3) := by decide +kernel
theorem dX12_launch_150 : decode cX12_launch 150 = .ok (.iload_n 1, 1) := by decide +kernel
theorem dX12_launch_151 : decode cX12_launch 151 = .ok (.bipush (-4), 2) := by decide +kernel
theorem dX12_launch_153 : decode cX12_launch 153 = .ok (.iastore, 1) := by decide +kernel
theorem dX12_launch_154 : decode cX12_launch 154 = .ok (.goto 10, 3) := by decide +kernel
theorem dX12_launch_157 : decode cX12_launch 157 = .ok (.aload_n 0, 1) := by decide +kernel
theorem dX12_launch_158 : decode cX12_launch 158 = .ok (.iload_n 1, 1) := by decide +kernel
theorem dX12_launch_159 : decode cX12_launch 159 = .ok (.iload_n 2, 1) := by decide +kernel
theorem dX12_launch_160 : decode cX12_launch 160 = .ok (.iload_n 3, 1) := by decide +kernel
theorem dX12_launch_161 : decode cX12_launch 161 = .ok (.invokevirtual 504, 3) := by decide +kernel
theorem dX12_launch_164 : decode cX12_launch 164 = .ok (.return_, 1) := by decide +kernel
theorem dJ0_length_8abf5_0 : decode cJ0_length_8abf5 0 = .ok (.aload_n 0, 1) := by decide +kernel
theorem dJ0_length_8abf5_1 : decode cJ0_length_8abf5 1 = .ok (.getfield 9, 3) := by decide +kernel
theorem dJ0_length_8abf5_4 : decode cJ0_length_8abf5 4 = .ok (.arraylength, 1) := by decide +kernel
theorem dJ0_length_8abf5_5 : decode cJ0_length_8abf5 5 = .ok (.aload_n 0, 1) := by decide +kernel
theorem dJ0_length_8abf5_6 : decode cJ0_length_8abf5 6 = .ok (.invokevirtual 335, 3) := by decide +kernel
theorem dJ0_length_8abf5_9 : decode cJ0_length_8abf5 9 = .ok (.ishr, 1) := by decide +kernel
theorem dJ0_length_8abf5_10 : decode cJ0_length_8abf5 10 = .ok (.ireturn, 1) := by decide +kernel
theorem dJ0_charAt_5068e_0 : decode cJ0_charAt_5068e 0 = .ok (.aload_n 0, 1) := by decide +kernel
theorem dJ0_charAt_5068e_1 : decode cJ0_charAt_5068e 1 = .ok (.invokevirtual 492, 3) := by decide +kernel
theorem dJ0_charAt_5068e_4 : decode cJ0_charAt_5068e 4 = .ok (.ifCond .eq 12, 3) := by decide +kernel
theorem dJ0_charAt_5068e_7 : decode cJ0_charAt_5068e 7 = .ok (.aload_n 0, 1) := by decide +kernel
theorem dJ0_charAt_5068e_8 : decode cJ0_charAt_5068e 8 = .ok (.getfield 9, 3) := by decide +kernel
theorem dJ0_charAt_5068e_11 : decode cJ0_charAt_5068e 11 = .ok (.iload_n 1, 1) := by decide +kernel
theorem dJ0_charAt_5068e_12 : decode cJ0_charAt_5068e 12 = .ok (.invokestatic 495, 3) := by decide +kernel
theorem dJ0_charAt_5068e_15 : decode cJ0_charAt_5068e 15 = .ok (.ireturn, 1) := by decide +kernel
theorem dJ0_charAt_5068e_16 : decode cJ0_charAt_5068e 16 = .ok (.aload_n 0, 1) := by decide +kernel
theorem dJ0_charAt_5068e_17 : decode cJ0_charAt_5068e 17 = .ok (.getfield 9, 3) := by decide +kernel
theorem dJ0_charAt_5068e_20 : decode cJ0_charAt_5068e 20 = .ok (.iload_n 1, 1) := by decide +kernel
theorem dJ0_charAt_5068e_21 : decode cJ0_charAt_5068e 21 = .ok (.invokestatic 498, 3) := by decide +kernel
theorem dJ0_charAt_5068e_24 : decode cJ0_charAt_5068e 24 = .ok (.ireturn, 1) := by decide +kernel
theorem dX0_init_0 : decode cX0_init 0 = .ok (.aload_n 0, 1) := by decide +kernel
theorem dX0_init_1 : decode cX0_init 1 = .ok (.invokespecial 3, 3) := by decide +kernel
theorem dX0_init_4 : decode cX0_init 4 = .ok (.aload_n 0, 1) := by decide +kernel
theorem dX0_init_5 : decode cX0_init 5 = .ok (.new 9, 3) := by decide +kernel
theorem dX0_init_8 : decode cX0_init 8 = .ok (.dup, 1) := by decide +kernel
theorem dX0_init_9 : decode cX0_init 9 = .ok (.invokespecial 11, 3) := by decide +kernel
theorem dX0_init_12 : decode cX0_init 12 = .ok (.putfield 12, 3) := by decide +kernel
theorem dX0_init_15 : decode cX0_init 15 = .ok (.aload_n 0, 1) := by decide +kernel
theorem dX0_init_16 : decode cX0_init 16 = .ok (.new 18, 3) := by decide +kernel
theorem dX0_init_19 : decode cX0_init 19 = .ok (.dup, 1) := by decide +kernel
theorem dX0_init_20 : decode cX0_init 20 = .ok (.invokespecial 20, 3) := by decide +kernel
theorem dX0_init_23 : decode cX0_init 23 = .ok (.putfield 21, 3) := by decide +kernel
theorem dX0_init_26 : decode cX0_init 26 = .ok (.aload_n 0, 1) := by decide +kernel
theorem dX0_init_27 : decode cX0_init 27 = .ok (.bipush 33, 2) := by decide +kernel
theorem dX0_init_29 : decode cX0_init 29 = .ok (.newarray .int, 2) := by decide +kernel
theorem dX0_init_31 : decode cX0_init 31 = .ok (.putfield 25, 3) := by decide +kernel
theorem dX0_init_34 : decode cX0_init 34 = .ok (.aload_n 0, 1) := by decide +kernel
theorem dX0_init_35 : decode cX0_init 35 = .ok (.bipush 33, 2) := by decide +kernel
theorem dX0_init_37 : decode cX0_init 37 = .ok (.newarray .int, 2) := by decide +kernel
theorem dX0_init_39 : decode cX0_init 39 = .ok (.putfield 29, 3) := by decide +kernel
theorem dX0_init_42 : decode cX0_init 42 = .ok (.aload_n 0, 1) := by decide +kernel
theorem dX0_init_43 : decode cX0_init 43 = .ok (.sipush 144, 3) := by decide +kernel
theorem dX0_init_46 : decode cX0_init 46 = .ok (.newarray .int, 2) := by decide +kernel
theorem dX0_init_48 : decode cX0_init 48 = .ok (.putfield 32, 3) := by decide +kernel
theorem dX0_init_51 : decode cX0_init 51 = .ok (.aload_n 0, 1) := by decide +kernel
theorem dX0_init_52 : decode cX0_init 52 = .ok (.bipush 6, 2) := by decide +kernel
theorem dX0_init_54 : decode cX0_init 54 = .ok (.newarray .int, 2) := by decide +kernel
theorem dX0_init_56 : decode cX0_init 56 = .ok (.putfield 35, 3) := by decide +kernel
theorem dX0_init_59 : decode cX0_init 59 = .ok (.aload_n 0, 1) := by decide +kernel
theorem dX0_init_60 : decode cX0_init 60 = .ok (.bipush 10, 2) := by decide +kernel
theorem dX0_init_62 : decode cX0_init 62 = .ok (.newarray .int, 2) := by decide +kernel
theorem dX0_init_64 : decode cX0_init 64 = .ok (.putfield 38, 3) := by decide +kernel
theorem dX0_init_67 : decode cX0_init 67 = .ok (.aload_n 0, 1) := by decide +kernel
theorem dX0_init_68 : decode cX0_init 68 = .ok (.bipush 10, 2) := by decide +kernel
theorem dX0_init_70 : decode cX0_init 70 = .ok (.newarray .int, 2) := by decide +kernel
theorem dX0_init_72 : decode cX0_init 72 = .ok (.putfield 41, 3) := by decide +kernel
theorem dX0_init_75 : decode cX0_init 75 = .ok (.aload_n 0, 1) := by decide +kernel
theorem dX0_init_76 : decode cX0_init 76 = .ok (.invokevirtual 44, 3) := by decide +kernel
theorem dX0_init_79 : decode cX0_init 79 = .ok (.return_, 1) := by decide +kernel
theorem dX0_addNode_0 : decode cX0_addNode 0 = .ok (.aload_n 0, 1) := by decide +kernel
theorem dX0_addNode_1 : decode cX0_addNode 1 = .ok (.iload_n 1, 1) := by decide +kernel
theorem dX0_addNode_2 : decode cX0_addNode 2 = .ok (.iconst 0, 1) := by decide +kernel
theorem dX0_addNode_3 : decode cX0_addNode 3 = .ok (.aload_n 0, 1) := by decide +kernel
theorem dX0_addNode_4 : decode cX0_addNode 4 = .ok (.getfield 52, 3) := by decide +kernel
theorem dX0_addNode_7 : decode cX0_addNode 7 = .ok (.invokevirtual 90, 3) := by decide +kernel
theorem dX0_addNode_10 : decode cX0_addNode 10 = .ok (.aload_n 0, 1) := by decide +kernel
theorem dX0_addNode_11 : decode cX0_addNode 11 = .ok (.dup, 1) := by decide +kernel
theorem dX0_addNode_12 : decode cX0_addNode 12 = .ok (.getfield 52, 3) := by decide +kernel
theorem dX0_addNode_15 : decode cX0_addNode 15 = .ok (.iconst 1, 1) := by decide +kernel
theorem dX0_addNode_16 : decode cX0_addNode 16 = .ok (.iadd, 1) := by decide +kernel
theorem dX0_addNode_17 : decode cX0_addNode 17 = .ok (.putfield 52, 3) := by decide +kernel
theorem dX0_addNode_20 : decode cX0_addNode 20 = .ok (.return_, 1) := by decide +kernel
theorem dX0_addStation_0 : decode cX0_addStation 0 = .ok (.aload_n 0, 1) := by decide +kernel
theorem dX0_addStation_1 : decode cX0_addStation 1 = .ok (.iload_n 1, 1) := by decide +kernel
theorem dX0_addStation_2 : decode cX0_addStation 2 = .ok (.iconst 1, 1) := by decide +kernel
theorem dX0_addStation_3 : decode cX0_addStation 3 = .ok (.aload_n 0, 1) := by decide +kernel
theorem dX0_addStation_4 : decode cX0_addStation 4 = .ok (.getfield 58, 3) := by decide +kernel
theorem dX0_addStation_7 : decode cX0_addStation 7 = .ok (.invokevirtual 90, 3) := by decide +kernel
theorem dX0_addStation_10 : decode cX0_addStation 10 = .ok (.aload_n 0, 1) := by decide +kernel
theorem dX0_addStation_11 : decode cX0_addStation 11 = .ok (.getfield 35, 3) := by decide +kernel
theorem dX0_addStation_14 : decode cX0_addStation 14 = .ok (.aload_n 0, 1) := by decide +kernel
theorem dX0_addStation_15 : decode cX0_addStation 15 = .ok (.getfield 58, 3) := by decide +kernel
theorem dX0_addStation_18 : decode cX0_addStation 18 = .ok (.iload_n 2, 1) := by decide +kernel
theorem dX0_addStation_19 : decode cX0_addStation 19 = .ok (.invokestatic 86, 3) := by decide +kernel
theorem dX0_addStation_22 : decode cX0_addStation 22 = .ok (.aload_n 0, 1) := by decide +kernel
theorem dX0_addStation_23 : decode cX0_addStation 23 = .ok (.dup, 1) := by decide +kernel
theorem dX0_addStation_24 : decode cX0_addStation 24 = .ok (.getfield 58, 3) := by decide +kernel
theorem dX0_addStation_27 : decode cX0_addStation 27 = .ok (.iconst 1, 1) := by decide +kernel
theorem dX0_addStation_28 : decode cX0_addStation 28 = .ok (.iadd, 1) := by decide +kernel
theorem dX0_addStation_29 : decode cX0_addStation 29 = .ok (.putfield 58, 3) := by decide +kernel
theorem dX0_addStation_32 : decode cX0_addStation 32 = .ok (.return_, 1) := by decide +kernel
theorem dX0_addEngine_0 : decode cX0_addEngine 0 = .ok (.aload_n 0, 1) := by decide +kernel
theorem dX0_addEngine_1 : decode cX0_addEngine 1 = .ok (.iload_n 1, 1) := by decide +kernel
theorem dX0_addEngine_2 : decode cX0_addEngine 2 = .ok (.iconst 2, 1) := by decide +kernel
theorem dX0_addEngine_3 : decode cX0_addEngine 3 = .ok (.aload_n 0, 1) := by decide +kernel
theorem dX0_addEngine_4 : decode cX0_addEngine 4 = .ok (.getfield 61, 3) := by decide +kernel
theorem dX0_addEngine_7 : decode cX0_addEngine 7 = .ok (.invokevirtual 90, 3) := by decide +kernel
theorem dX0_addEngine_10 : decode cX0_addEngine 10 = .ok (.aload_n 0, 1) := by decide +kernel
theorem dX0_addEngine_11 : decode cX0_addEngine 11 = .ok (.getfield 38, 3) := by decide +kernel
theorem dX0_addEngine_14 : decode cX0_addEngine 14 = .ok (.aload_n 0, 1) := by decide +kernel
theorem dX0_addEngine_15 : decode cX0_addEngine 15 = .ok (.getfield 61, 3) := by decide +kernel
theorem dX0_addEngine_18 : decode cX0_addEngine 18 = .ok (.iload_n 2, 1) := by decide +kernel
theorem dX0_addEngine_19 : decode cX0_addEngine 19 = .ok (.invokestatic 86, 3) := by decide +kernel
theorem dX0_addEngine_22 : decode cX0_addEngine 22 = .ok (.aload_n 0, 1) := by decide +kernel
theorem dX0_addEngine_23 : decode cX0_addEngine 23 = .ok (.getfield 41, 3) := by decide +kernel
theorem dX0_addEngine_26 : decode cX0_addEngine 26 = .ok (.aload_n 0, 1) := by decide +kernel
theorem dX0_addEngine_27 : decode cX0_addEngine 27 = .ok (.getfield 61, 3) := by decide +kernel
theorem dX0_addEngine_30 : decode cX0_addEngine 30 = .ok (.iload_n 3, 1) := by decide +kernel
theorem dX0_addEngine_31 : decode cX0_addEngine 31 = .ok (.invokestatic 86, 3) := by decide +kernel
theorem dX0_addEngine_34 : decode cX0_addEngine 34 = .ok (.aload_n 0, 1) := by decide +kernel
theorem dX0_addEngine_35 : decode cX0_addEngine 35 = .ok (.dup, 1) := by decide +kernel
theorem dX0_addEngine_36 : decode cX0_addEngine 36 = .ok (.getfield 61, 3) := by decide +kernel
theorem dX0_addEngine_39 : decode cX0_addEngine 39 = .ok (.iconst 1, 1) := by decide +kernel
theorem dX0_addEngine_40 : decode cX0_addEngine 40 = .ok (.iadd, 1) := by decide +kernel
theorem dX0_addEngine_41 : decode cX0_addEngine 41 = .ok (.putfield 61, 3) := by decide +kernel
theorem dX0_addEngine_44 : decode cX0_addEngine 44 = .ok (.return_, 1) := by decide +kernel
theorem dX0_addDrill_0 : decode cX0_addDrill 0 = .ok (.aload_n 0, 1) := by decide +kernel
theorem dX0_addDrill_1 : decode cX0_addDrill 1 = .ok (.iload_n 1, 1) := by decide +kernel
theorem dX0_addDrill_2 : decode cX0_addDrill 2 = .ok (.iconst 3, 1) := by decide +kernel
theorem dX0_addDrill_3 : decode cX0_addDrill 3 = .ok (.aload_n 0, 1) := by decide +kernel
theorem dX0_addDrill_4 : decode cX0_addDrill 4 = .ok (.getfield 21, 3) := by decide +kernel
theorem dX0_addDrill_7 : decode cX0_addDrill 7 = .ok (.getfield 51, 3) := by decide +kernel
theorem dX0_addDrill_10 : decode cX0_addDrill 10 = .ok (.invokevirtual 90, 3) := by decide +kernel
theorem dX0_addDrill_13 : decode cX0_addDrill 13 = .ok (.aload_n 0, 1) := by decide +kernel
theorem dX0_addDrill_14 : decode cX0_addDrill 14 = .ok (.getfield 21, 3) := by decide +kernel
theorem dX0_addDrill_17 : decode cX0_addDrill 17 = .ok (.dup, 1) := by decide +kernel
theorem dX0_addDrill_18 : decode cX0_addDrill 18 = .ok (.getfield 51, 3) := by decide +kernel
theorem dX0_addDrill_21 : decode cX0_addDrill 21 = .ok (.iconst 1, 1) := by decide +kernel
theorem dX0_addDrill_22 : decode cX0_addDrill 22 = .ok (.iadd, 1) := by decide +kernel
theorem dX0_addDrill_23 : decode cX0_addDrill 23 = .ok (.putfield 51, 3) := by decide +kernel
theorem dX0_addDrill_26 : decode cX0_addDrill 26 = .ok (.return_, 1) := by decide +kernel
theorem dX1_takeNumber_0 : decode cX1_takeNumber 0 = .ok (.aload_n 0, 1) := by decide +kernel
theorem dX1_takeNumber_1 : decode cX1_takeNumber 1 = .ok (.getstatic 269, 3) := by decide +kernel
theorem dX1_takeNumber_4 : decode cX1_takeNumber 4 = .ok (.invokevirtual 60, 3) := by decide +kernel
theorem dX1_takeNumber_7 : decode cX1_takeNumber 7 = .ok (.ifCond .ne 5, 3) := by decide +kernel
theorem dX1_takeNumber_10 : decode cX1_takeNumber 10 = .ok (.iconst 0, 1) := by decide +kernel
theorem dX1_takeNumber_11 : decode cX1_takeNumber 11 = .ok (.ireturn, 1) := by decide +kernel
theorem dX1_takeNumber_12 : decode cX1_takeNumber 12 = .ok (.aload_n 0, 1) := by decide +kernel
theorem dX1_takeNumber_13 : decode cX1_takeNumber 13 = .ok (.aload_n 0, 1) := by decide +kernel
theorem dX1_takeNumber_14 : decode cX1_takeNumber 14 = .ok (.getfield 9, 3) := by decide +kernel
theorem dX1_takeNumber_17 : decode cX1_takeNumber 17 = .ok (.aload_n 0, 1) := by decide +kernel
theorem dX1_takeNumber_18 : decode cX1_takeNumber 18 = .ok (.getfield 24, 3) := by decide +kernel
theorem dX1_takeNumber_21 : decode cX1_takeNumber 21 = .ok (.iconst 1, 1) := by decide +kernel
theorem dX1_takeNumber_22 : decode cX1_takeNumber 22 = .ok (.isub, 1) := by decide +kernel
theorem dX1_takeNumber_23 : decode cX1_takeNumber 23 = .ok (.invokevirtual 272, 3) := by decide +kernel
theorem dX1_takeNumber_26 : decode cX1_takeNumber 26 = .ok (.putfield 151, 3) := by decide +kernel
theorem dX1_takeNumber_29 : decode cX1_takeNumber 29 = .ok (.aload_n 0, 1) := by decide +kernel
theorem dX1_takeNumber_30 : decode cX1_takeNumber 30 = .ok (.getfield 151, 3) := by decide +kernel
theorem dX1_takeNumber_33 : decode cX1_takeNumber 33 = .ok (.iload_n 1, 1) := by decide +kernel
theorem dX1_takeNumber_34 : decode cX1_takeNumber 34 = .ok (.if_icmp .lt 11, 3) := by decide +kernel
theorem dX1_takeNumber_37 : decode cX1_takeNumber 37 = .ok (.aload_n 0, 1) := by decide +kernel
theorem dX1_takeNumber_38 : decode cX1_takeNumber 38 = .ok (.getfield 151, 3) := by decide +kernel
theorem dX1_takeNumber_41 : decode cX1_takeNumber 41 = .ok (.iload_n 2, 1) := by decide +kernel
theorem dX1_takeNumber_42 : decode cX1_takeNumber 42 = .ok (.if_icmp .le 17, 3) := by decide +kernel
theorem dX1_takeNumber_45 : decode cX1_takeNumber 45 = .ok (.aload_n 0, 1) := by decide +kernel
theorem dX1_takeNumber_46 : decode cX1_takeNumber 46 = .ok (.iconst 2, 1) := by decide +kernel
theorem dX1_takeNumber_47 : decode cX1_takeNumber 47 = .ok (.aload_n 0, 1) := by decide +kernel
theorem dX1_takeNumber_48 : decode cX1_takeNumber 48 = .ok (.getfield 24, 3) := by decide +kernel
theorem dX1_takeNumber_51 : decode cX1_takeNumber 51 = .ok (.iconst 1, 1) := by decide +kernel
theorem dX1_takeNumber_52 : decode cX1_takeNumber 52 = .ok (.isub, 1) := by decide +kernel
theorem dX1_takeNumber_53 : decode cX1_takeNumber 53 = .ok (.invokevirtual 63, 3) := by decide +kernel
theorem dX1_takeNumber_56 : decode cX1_takeNumber 56 = .ok (.ifCond .eq 7, 3) := by decide +kernel
theorem dX1_takeNumber_59 : decode cX1_takeNumber 59 = .ok (.iconst 1, 1) := by decide +kernel
theorem dX1_takeNumber_60 : decode cX1_takeNumber 60 = .ok (.goto 4, 3) := by decide +kernel
theorem dX1_takeNumber_63 : decode cX1_takeNumber 63 = .ok (.iconst 0, 1) := by decide +kernel
theorem dX1_takeNumber_64 : decode cX1_takeNumber 64 = .ok (.ireturn, 1) := by decide +kernel
theorem dX1_takeNewName_0 : decode cX1_takeNewName 0 = .ok (.aload_n 0, 1) := by decide +kernel
theorem dX1_takeNewName_1 : decode cX1_takeNewName 1 = .ok (.getstatic 276, 3) := by decide +kernel
theorem dX1_takeNewName_4 : decode cX1_takeNewName 4 = .ok (.invokevirtual 60, 3) := by decide +kernel
theorem dX1_takeNewName_7 : decode cX1_takeNewName 7 = .ok (.ifCond .ne 5, 3) := by decide +kernel
theorem dX1_takeNewName_10 : decode cX1_takeNewName 10 = .ok (.iconst 0, 1) := by decide +kernel
theorem dX1_takeNewName_11 : decode cX1_takeNewName 11 = .ok (.ireturn, 1) := by decide +kernel
theorem dX1_takeNewName_12 : decode cX1_takeNewName 12 = .ok (.aload_n 0, 1) := by decide +kernel
theorem dX1_takeNewName_13 : decode cX1_takeNewName 13 = .ok (.aload_n 0, 1) := by decide +kernel
theorem dX1_takeNewName_14 : decode cX1_takeNewName 14 = .ok (.getfield 9, 3) := by decide +kernel
theorem dX1_takeNewName_17 : decode cX1_takeNewName 17 = .ok (.aload_n 0, 1) := by decide +kernel
theorem dX1_takeNewName_18 : decode cX1_takeNewName 18 = .ok (.getfield 24, 3) := by decide +kernel
theorem dX1_takeNewName_21 : decode cX1_takeNewName 21 = .ok (.iconst 1, 1) := by decide +kernel
theorem dX1_takeNewName_22 : decode cX1_takeNewName 22 = .ok (.isub, 1) := by decide +kernel
theorem dX1_takeNewName_23 : decode cX1_takeNewName 23 = .ok (.invokevirtual 272, 3) := by decide +kernel
theorem dX1_takeNewName_26 : decode cX1_takeNewName 26 = .ok (.putfield 160, 3) := by decide +kernel
theorem dX1_takeNewName_29 : decode cX1_takeNewName 29 = .ok (.aload_n 0, 1) := by decide +kernel
theorem dX1_takeNewName_30 : decode cX1_takeNewName 30 = .ok (.getfield 15, 3) := by decide +kernel
theorem dX1_takeNewName_33 : decode cX1_takeNewName 33 = .ok (.aload_n 0, 1) := by decide +kernel
theorem dX1_takeNewName_34 : decode cX1_takeNewName 34 = .ok (.getfield 160, 3) := by decide +kernel
theorem dX1_takeNewName_37 : decode cX1_takeNewName 37 = .ok (.invokevirtual 279, 3) := by decide +kernel
theorem dX1_takeNewName_40 : decode cX1_takeNewName 40 = .ok (.iconst (-1), 1) := by decide +kernel
theorem dX1_takeNewName_41 : decode cX1_takeNewName 41 = .ok (.if_icmp .eq 17, 3) := by decide +kernel
theorem dX1_takeNewName_44 : decode cX1_takeNewName 44 = .ok (.aload_n 0, 1) := by decide +kernel
theorem dX1_takeNewName_45 : decode cX1_takeNewName 45 = .ok (.iconst 3, 1) := by decide +kernel
theorem dX1_takeNewName_46 : decode cX1_takeNewName 46 = .ok (.aload_n 0, 1) := by decide +kernel
theorem dX1_takeNewName_47 : decode cX1_takeNewName 47 = .ok (.getfield 24, 3) := by decide +kernel
theorem dX1_takeNewName_50 : decode cX1_takeNewName 50 = .ok (.iconst 1, 1) := by decide +kernel
theorem dX1_takeNewName_51 : decode cX1_takeNewName 51 = .ok (.isub, 1) := by decide +kernel
theorem dX1_takeNewName_52 : decode cX1_takeNewName 52 = .ok (.invokevirtual 63, 3) := by decide +kernel
theorem dX1_takeNewName_55 : decode cX1_takeNewName 55 = .ok (.ifCond .eq 7, 3) := by decide +kernel
theorem dX1_takeNewName_58 : decode cX1_takeNewName 58 = .ok (.iconst 1, 1) := by decide +kernel
theorem dX1_takeNewName_59 : decode cX1_takeNewName 59 = .ok (.goto 4, 3) := by decide +kernel
theorem dX1_takeNewName_62 : decode cX1_takeNewName 62 = .ok (.iconst 0, 1) := by decide +kernel
theorem dX1_takeNewName_63 : decode cX1_takeNewName 63 = .ok (.ireturn, 1) := by decide +kernel
theorem dX1_takeObject_0 : decode cX1_takeObject 0 = .ok (.aload_n 0, 1) := by decide +kernel
theorem dX1_takeObject_1 : decode cX1_takeObject 1 = .ok (.getstatic 276, 3) := by decide +kernel
theorem dX1_takeObject_4 : decode cX1_takeObject 4 = .ok (.invokevirtual 60, 3) := by decide +kernel
theorem dX1_takeObject_7 : decode cX1_takeObject 7 = .ok (.ifCond .ne 5, 3) := by decide +kernel
theorem dX1_takeObject_10 : decode cX1_takeObject 10 = .ok (.iconst 0, 1) := by decide +kernel
theorem dX1_takeObject_11 : decode cX1_takeObject 11 = .ok (.ireturn, 1) := by decide +kernel
theorem dX1_takeObject_12 : decode cX1_takeObject 12 = .ok (.aload_n 0, 1) := by decide +kernel
theorem dX1_takeObject_13 : decode cX1_takeObject 13 = .ok (.getfield 15, 3) := by decide +kernel
theorem dX1_takeObject_16 : decode cX1_takeObject 16 = .ok (.aload_n 0, 1) := by decide +kernel
theorem dX1_takeObject_17 : decode cX1_takeObject 17 = .ok (.getfield 9, 3) := by decide +kernel
theorem dX1_takeObject_20 : decode cX1_takeObject 20 = .ok (.aload_n 0, 1) := by decide +kernel
theorem dX1_takeObject_21 : decode cX1_takeObject 21 = .ok (.getfield 24, 3) := by decide +kernel
theorem dX1_takeObject_24 : decode cX1_takeObject 24 = .ok (.iconst 1, 1) := by decide +kernel
theorem dX1_takeObject_25 : decode cX1_takeObject 25 = .ok (.isub, 1) := by decide +kernel
theorem dX1_takeObject_26 : decode cX1_takeObject 26 = .ok (.invokevirtual 272, 3) := by decide +kernel
theorem dX1_takeObject_29 : decode cX1_takeObject 29 = .ok (.invokevirtual 279, 3) := by decide +kernel
theorem dX1_takeObject_32 : decode cX1_takeObject 32 = .ok (.istore_n 2, 1) := by decide +kernel
theorem dX1_takeObject_33 : decode cX1_takeObject 33 = .ok (.iload_n 2, 1) := by decide +kernel
theorem dX1_takeObject_34 : decode cX1_takeObject 34 = .ok (.iconst (-1), 1) := by decide +kernel
theorem dX1_takeObject_35 : decode cX1_takeObject 35 = .ok (.if_icmp .eq 11, 3) := by decide +kernel
theorem dX1_takeObject_38 : decode cX1_takeObject 38 = .ok (.iload_n 2, 1) := by decide +kernel
theorem dX1_takeObject_39 : decode cX1_takeObject 39 = .ok (.bipush 100, 2) := by decide +kernel
theorem dX1_takeObject_41 : decode cX1_takeObject 41 = .ok (.idiv, 1) := by decide +kernel
theorem dX1_takeObject_42 : decode cX1_takeObject 42 = .ok (.iload_n 1, 1) := by decide +kernel
theorem dX1_takeObject_43 : decode cX1_takeObject 43 = .ok (.if_icmp .eq 15, 3) := by decide +kernel
theorem dX1_takeObject_46 : decode cX1_takeObject 46 = .ok (.aload_n 0, 1) := by decide +kernel
theorem dX1_takeObject_47 : decode cX1_takeObject 47 = .ok (.iconst 3, 1) := by decide +kernel
theorem dX1_takeObject_48 : decode cX1_takeObject 48 = .ok (.aload_n 0, 1) := by decide +kernel
theorem dX1_takeObject_49 : decode cX1_takeObject 49 = .ok (.getfield 24, 3) := by decide +kernel
theorem dX1_takeObject_52 : decode cX1_takeObject 52 = .ok (.iconst 1, 1) := by decide +kernel
theorem dX1_takeObject_53 : decode cX1_takeObject 53 = .ok (.isub, 1) := by decide +kernel
theorem dX1_takeObject_54 : decode cX1_takeObject 54 = .ok (.invokevirtual 63, 3) := by decide +kernel
theorem dX1_takeObject_57 : decode cX1_takeObject 57 = .ok (.ireturn, 1) := by decide +kernel
theorem dX1_takeObject_58 : decode cX1_takeObject 58 = .ok (.aload_n 0, 1) := by decide +kernel
theorem dX1_takeObject_59 : decode cX1_takeObject 59 = .ok (.iload_n 2, 1) := by decide +kernel
theorem dX1_takeObject_60 : decode cX1_takeObject 60 = .ok (.bipush 100, 2) := by decide +kernel
theorem dX1_takeObject_62 : decode cX1_takeObject 62 = .ok (.irem, 1) := by decide +kernel
theorem dX1_takeObject_63 : decode cX1_takeObject 63 = .ok (.putfield 171, 3) := by decide +kernel
theorem dX1_takeObject_66 : decode cX1_takeObject 66 = .ok (.iconst 1, 1) := by decide +kernel
theorem dX1_takeObject_67 : decode cX1_takeObject 67 = .ok (.ireturn, 1) := by decide +kernel
theorem dX2_openStreets_0 : decode cX2_openStreets 0 = .ok (.iload_n 1, 1) := by decide +kernel
theorem dX2_openStreets_1 : decode cX2_openStreets 1 = .ok (.ifCond .lt 12, 3) := by decide +kernel
theorem dX2_openStreets_4 : decode cX2_openStreets 4 = .ok (.iload_n 1, 1) := by decide +kernel
theorem dX2_openStreets_5 : decode cX2_openStreets 5 = .ok (.aload_n 0, 1) := by decide +kernel
theorem dX2_openStreets_6 : decode cX2_openStreets 6 = .ok (.getfield 9, 3) := by decide +kernel
theorem dX2_openStreets_9 : decode cX2_openStreets 9 = .ok (.arraylength, 1) := by decide +kernel
theorem dX2_openStreets_10 : decode cX2_openStreets 10 = .ok (.if_icmp .lt 5, 3) := by decide +kernel
theorem dX2_openStreets_13 : decode cX2_openStreets 13 = .ok (.iconst 0, 1) := by decide +kernel
theorem dX2_openStreets_14 : decode cX2_openStreets 14 = .ok (.ireturn, 1) := by decide +kernel
theorem dX2_openStreets_15 : decode cX2_openStreets 15 = .ok (.aload_n 0, 1) := by decide +kernel
theorem dX2_openStreets_16 : decode cX2_openStreets 16 = .ok (.getfield 9, 3) := by decide +kernel
theorem dX2_openStreets_19 : decode cX2_openStreets 19 = .ok (.iload_n 1, 1) := by decide +kernel
theorem dX2_openStreets_20 : decode cX2_openStreets 20 = .ok (.iaload, 1) := by decide +kernel
theorem dX2_openStreets_21 : decode cX2_openStreets 21 = .ok (.iconst (-1), 1) := by decide +kernel
theorem dX2_openStreets_22 : decode cX2_openStreets 22 = .ok (.if_icmp .ne 18, 3) := by decide +kernel
theorem dX2_openStreets_25 : decode cX2_openStreets 25 = .ok (.aload_n 0, 1) := by decide +kernel
theorem dX2_openStreets_26 : decode cX2_openStreets 26 = .ok (.iload_n 1, 1) := by decide +kernel
theorem dX2_openStreets_27 : decode cX2_openStreets 27 = .ok (.invokevirtual 48, 3) := by decide +kernel
theorem dX2_openStreets_30 : decode cX2_openStreets 30 = .ok (.aload_n 0, 1) := by decide +kernel
theorem dX2_openStreets_31 : decode cX2_openStreets 31 = .ok (.getfield 9, 3) := by decide +kernel
theorem dX2_openStreets_34 : decode cX2_openStreets 34 = .ok (.iload_n 1, 1) := by decide +kernel
theorem dX2_openStreets_35 : decode cX2_openStreets 35 = .ok (.aload_n 0, 1) := by decide +kernel
theorem dX2_openStreets_36 : decode cX2_openStreets 36 = .ok (.invokevirtual 52, 3) := by decide +kernel
theorem dX2_openStreets_39 : decode cX2_openStreets 39 = .ok (.iastore, 1) := by decide +kernel
theorem dX2_openStreets_40 : decode cX2_openStreets 40 = .ok (.aload_n 0, 1) := by decide +kernel
theorem dX2_openStreets_41 : decode cX2_openStreets 41 = .ok (.getfield 9, 3) := by decide +kernel
theorem dX2_openStreets_44 : decode cX2_openStreets 44 = .ok (.iload_n 1, 1) := by decide +kernel
theorem dX2_openStreets_45 : decode cX2_openStreets 45 = .ok (.iaload, 1) := by decide +kernel
theorem dX2_openStreets_46 : decode cX2_openStreets 46 = .ok (.ireturn, 1) := by decide +kernel
theorem dX2_minutesTo_0 : decode cX2_minutesTo 0 = .ok (.aload_n 0, 1) := by decide +kernel
theorem dX2_minutesTo_1 : decode cX2_minutesTo 1 = .ok (.getfield 24, 3) := by decide +kernel
theorem dX2_minutesTo_4 : decode cX2_minutesTo 4 = .ok (.getfield 77, 3) := by decide +kernel
theorem dX2_minutesTo_7 : decode cX2_minutesTo 7 = .ok (.iload_n 1, 1) := by decide +kernel
theorem dX2_minutesTo_8 : decode cX2_minutesTo 8 = .ok (.invokevirtual 86, 3) := by decide +kernel
theorem dX2_minutesTo_11 : decode cX2_minutesTo 11 = .ok (.istore_n 2, 1) := by decide +kernel
theorem dX2_minutesTo_12 : decode cX2_minutesTo 12 = .ok (.ldc 89, 2) := by decide +kernel
theorem dX2_minutesTo_14 : decode cX2_minutesTo 14 = .ok (.istore_n 3, 1) := by decide +kernel
theorem dX2_minutesTo_15 : decode cX2_minutesTo 15 = .ok (.iconst 0, 1) := by decide +kernel
theorem dX2_minutesTo_16 : decode cX2_minutesTo 16 = .ok (.istore 4, 2) := by decide +kernel
theorem dX2_minutesTo_18 : decode cX2_minutesTo 18 = .ok (.iload 4, 2) := by decide +kernel
theorem dX2_minutesTo_20 : decode cX2_minutesTo 20 = .ok (.bipush 10, 2) := by decide +kernel
theorem dX2_minutesTo_22 : decode cX2_minutesTo 22 = .ok (.if_icmp .ge 64, 3) := by decide +kernel
theorem dX2_minutesTo_25 : decode cX2_minutesTo 25 = .ok (.aload_n 0, 1) := by decide +kernel
theorem dX2_minutesTo_26 : decode cX2_minutesTo 26 = .ok (.getfield 18, 3) := by decide +kernel
theorem dX2_minutesTo_29 : decode cX2_minutesTo 29 = .ok (.iload 4, 2) := by decide +kernel
theorem dX2_minutesTo_31 : decode cX2_minutesTo 31 = .ok (.iaload, 1) := by decide +kernel
theorem dX2_minutesTo_32 : decode cX2_minutesTo 32 = .ok (.iconst (-1), 1) := by decide +kernel
theorem dX2_minutesTo_33 : decode cX2_minutesTo 33 = .ok (.if_icmp .eq 47, 3) := by decide +kernel
theorem dX2_minutesTo_36 : decode cX2_minutesTo 36 = .ok (.aload_n 0, 1) := by decide +kernel
theorem dX2_minutesTo_37 : decode cX2_minutesTo 37 = .ok (.getfield 24, 3) := by decide +kernel
theorem dX2_minutesTo_40 : decode cX2_minutesTo 40 = .ok (.getfield 77, 3) := by decide +kernel
theorem dX2_minutesTo_43 : decode cX2_minutesTo 43 = .ok (.iload_n 1, 1) := by decide +kernel
theorem dX2_minutesTo_44 : decode cX2_minutesTo 44 = .ok (.aload_n 0, 1) := by decide +kernel
theorem dX2_minutesTo_45 : decode cX2_minutesTo 45 = .ok (.getfield 24, 3) := by decide +kernel
theorem dX2_minutesTo_48 : decode cX2_minutesTo 48 = .ok (.getfield 90, 3) := by decide +kernel
theorem dX2_minutesTo_51 : decode cX2_minutesTo 51 = .ok (.iload 4, 2) := by decide +kernel
theorem dX2_minutesTo_53 : decode cX2_minutesTo 53 = .ok (.iaload, 1) := by decide +kernel
theorem dX2_minutesTo_54 : decode cX2_minutesTo 54 = .ok (.invokevirtual 93, 3) := by decide +kernel
theorem dX2_minutesTo_57 : decode cX2_minutesTo 57 = .ok (.ifCond .eq 23, 3) := by decide +kernel
theorem dX2_minutesTo_60 : decode cX2_minutesTo 60 = .ok (.iload_n 3, 1) := by decide +kernel
theorem dX2_minutesTo_61 : decode cX2_minutesTo 61 = .ok (.aload_n 0, 1) := by decide +kernel
theorem dX2_minutesTo_62 : decode cX2_minutesTo 62 = .ok (.getfield 24, 3) := by decide +kernel
theorem dX2_minutesTo_65 : decode cX2_minutesTo 65 = .ok (.aload_n 0, 1) := by decide +kernel
theorem dX2_minutesTo_66 : decode cX2_minutesTo 66 = .ok (.getfield 18, 3) := by decide +kernel
theorem dX2_minutesTo_69 : decode cX2_minutesTo 69 = .ok (.iload 4, 2) := by decide +kernel
theorem dX2_minutesTo_71 : decode cX2_minutesTo 71 = .ok (.iaload, 1) := by decide +kernel
theorem dX2_minutesTo_72 : decode cX2_minutesTo 72 = .ok (.iload_n 2, 1) := by decide +kernel
theorem dX2_minutesTo_73 : decode cX2_minutesTo 73 = .ok (.invokevirtual 97, 3) := by decide +kernel
theorem dX2_minutesTo_76 : decode cX2_minutesTo 76 = .ok (.invokestatic 100, 3) := by decide +kernel
theorem dX2_minutesTo_79 : decode cX2_minutesTo 79 = .ok (.istore_n 3, 1) := by decide +kernel
theorem dX2_minutesTo_80 : decode cX2_minutesTo 80 = .ok (.iinc 4 1, 3) := by decide +kernel
theorem dX2_minutesTo_83 : decode cX2_minutesTo 83 = .ok (.goto (-65), 3) := by decide +kernel
theorem dX2_minutesTo_86 : decode cX2_minutesTo 86 = .ok (.iload_n 3, 1) := by decide +kernel
theorem dX2_minutesTo_87 : decode cX2_minutesTo 87 = .ok (.ireturn, 1) := by decide +kernel
theorem dX2_streetsCoveredFrom_0 : decode cX2_streetsCoveredFrom 0 = .ok (.iconst 0, 1) := by decide +kernel
theorem dX2_streetsCoveredFrom_1 : decode cX2_streetsCoveredFrom 1 = .ok (.istore_n 3, 1) := by decide +kernel
theorem dX2_streetsCoveredFrom_2 : decode cX2_streetsCoveredFrom 2 = .ok (.iconst 0, 1) := by decide +kernel
theorem dX2_streetsCoveredFrom_3 : decode cX2_streetsCoveredFrom 3 = .ok (.istore 4, 2) := by decide +kernel
theorem dX2_streetsCoveredFrom_5 : decode cX2_streetsCoveredFrom 5 = .ok (.iload 4, 2) := by decide +kernel
theorem dX2_streetsCoveredFrom_7 : decode cX2_streetsCoveredFrom 7 = .ok (.aload_n 0, 1) := by decide +kernel
theorem dX2_streetsCoveredFrom_8 : decode cX2_streetsCoveredFrom 8 = .ok (.getfield 24, 3) := by decide +kernel
theorem dX2_streetsCoveredFrom_11 : decode cX2_streetsCoveredFrom 11 = .ok (.getfield 77, 3) := by decide +kernel
theorem dX2_streetsCoveredFrom_14 : decode cX2_streetsCoveredFrom 14 = .ok (.getfield 81, 3) := by decide +kernel
theorem dX2_streetsCoveredFrom_17 : decode cX2_streetsCoveredFrom 17 = .ok (.if_icmp .ge 71, 3) := by decide +kernel
theorem dX2_streetsCoveredFrom_20 : decode cX2_streetsCoveredFrom 20 = .ok (.aload_n 0, 1) := by decide +kernel
theorem dX2_streetsCoveredFrom_21 : decode cX2_streetsCoveredFrom 21 = .ok (.getfield 24, 3) := by decide +kernel
theorem dX2_streetsCoveredFrom_24 : decode cX2_streetsCoveredFrom 24 = .ok (.iload_n 1, 1) := by decide +kernel
theorem dX2_streetsCoveredFrom_25 : decode cX2_streetsCoveredFrom 25 = .ok (.aload_n 0, 1) := by decide +kernel
theorem dX2_streetsCoveredFrom_26 : decode cX2_streetsCoveredFrom 26 = .ok (.getfield 24, 3) := by decide +kernel
theorem dX2_streetsCoveredFrom_29 : decode cX2_streetsCoveredFrom 29 = .ok (.getfield 77, 3) := by decide +kernel
theorem dX2_streetsCoveredFrom_32 : decode cX2_streetsCoveredFrom 32 = .ok (.iload 4, 2) := by decide +kernel
theorem dX2_streetsCoveredFrom_34 : decode cX2_streetsCoveredFrom 34 = .ok (.invokevirtual 86, 3) := by decide +kernel
theorem dX2_streetsCoveredFrom_37 : decode cX2_streetsCoveredFrom 37 = .ok (.invokevirtual 97, 3) := by decide +kernel
theorem dX2_streetsCoveredFrom_40 : decode cX2_streetsCoveredFrom 40 = .ok (.istore 5, 2) := by decide +kernel
theorem dX2_streetsCoveredFrom_42 : decode cX2_streetsCoveredFrom 42 = .ok (.aload_n 0, 1) := by decide +kernel
theorem dX2_streetsCoveredFrom_43 : decode cX2_streetsCoveredFrom 43 = .ok (.getfield 24, 3) := by decide +kernel
theorem dX2_streetsCoveredFrom_46 : decode cX2_streetsCoveredFrom 46 = .ok (.getfield 77, 3) := by decide +kernel
theorem dX2_streetsCoveredFrom_49 : decode cX2_streetsCoveredFrom 49 = .ok (.iload 4, 2) := by decide +kernel
theorem dX2_streetsCoveredFrom_51 : decode cX2_streetsCoveredFrom 51 = .ok (.iload_n 2, 1) := by decide +kernel
theorem dX2_streetsCoveredFrom_52 : decode cX2_streetsCoveredFrom 52 = .ok (.invokevirtual 93, 3) := by decide +kernel
theorem dX2_streetsCoveredFrom_55 : decode cX2_streetsCoveredFrom 55 = .ok (.ifCond .eq 27, 3) := by decide +kernel
theorem dX2_streetsCoveredFrom_58 : decode cX2_streetsCoveredFrom 58 = .ok (.iload 5, 2) := by decide +kernel
theorem dX2_streetsCoveredFrom_60 : decode cX2_streetsCoveredFrom 60 = .ok (.aload_n 0, 1) := by decide +kernel
theorem dX2_streetsCoveredFrom_61 : decode cX2_streetsCoveredFrom 61 = .ok (.getfield 24, 3) := by decide +kernel
theorem dX2_streetsCoveredFrom_64 : decode cX2_streetsCoveredFrom 64 = .ok (.getfield 77, 3) := by decide +kernel
theorem dX2_streetsCoveredFrom_67 : decode cX2_streetsCoveredFrom 67 = .ok (.iload 4, 2) := by decide +kernel
theorem dX2_streetsCoveredFrom_69 : decode cX2_streetsCoveredFrom 69 = .ok (.invokevirtual 105, 3) := by decide +kernel
theorem dX2_streetsCoveredFrom_72 : decode cX2_streetsCoveredFrom 72 = .ok (.if_icmp .gt 10, 3) := by decide +kernel
theorem dX2_streetsCoveredFrom_75 : decode cX2_streetsCoveredFrom 75 = .ok (.iload_n 3, 1) := by decide +kernel
theorem dX2_streetsCoveredFrom_76 : decode cX2_streetsCoveredFrom 76 = .ok (.iconst 1, 1) := by decide +kernel
theorem dX2_streetsCoveredFrom_77 : decode cX2_streetsCoveredFrom 77 = .ok (.iload 4, 2) := by decide +kernel
theorem dX2_streetsCoveredFrom_79 : decode cX2_streetsCoveredFrom 79 = .ok (.ishl, 1) := by decide +kernel
theorem dX2_streetsCoveredFrom_80 : decode cX2_streetsCoveredFrom 80 = .ok (.ior, 1) := by decide +kernel
theorem dX2_streetsCoveredFrom_81 : decode cX2_streetsCoveredFrom 81 = .ok (.istore_n 3, 1) := by decide +kernel
theorem dX2_streetsCoveredFrom_82 : decode cX2_streetsCoveredFrom 82 = .ok (.iinc 4 1, 3) := by decide +kernel
theorem dX2_streetsCoveredFrom_85 : decode cX2_streetsCoveredFrom 85 = .ok (.goto (-80), 3) := by decide +kernel
theorem dX2_streetsCoveredFrom_88 : decode cX2_streetsCoveredFrom 88 = .ok (.iload_n 3, 1) := by decide +kernel
theorem dX2_streetsCoveredFrom_89 : decode cX2_streetsCoveredFrom 89 = .ok (.ireturn, 1) := by decide +kernel
theorem dX3_planCalls_0 : decode cX3_planCalls 0 = .ok (.aload_n 0, 1) := by decide +kernel
theorem dX3_planCalls_1 : decode cX3_planCalls 1 = .ok (.getfield 9, 3) := by decide +kernel
theorem dX3_planCalls_4 : decode cX3_planCalls 4 = .ok (.iload_n 1, 1) := by decide +kernel
theorem dX3_planCalls_5 : decode cX3_planCalls 5 = .ok (.invokestatic 47, 3) := by decide +kernel
theorem dX3_planCalls_8 : decode cX3_planCalls 8 = .ok (.istore_n 3, 1) := by decide +kernel
theorem dX3_planCalls_9 : decode cX3_planCalls 9 = .ok (.iconst 0, 1) := by decide +kernel
theorem dX3_planCalls_10 : decode cX3_planCalls 10 = .ok (.istore 4, 2) := by decide +kernel
theorem dX3_planCalls_12 : decode cX3_planCalls 12 = .ok (.iconst 0, 1) := by decide +kernel
theorem dX3_planCalls_13 : decode cX3_planCalls 13 = .ok (.istore 5, 2) := by decide +kernel
theorem dX3_planCalls_15 : decode cX3_planCalls 15 = .ok (.iload 5, 2) := by decide +kernel
theorem dX3_planCalls_17 : decode cX3_planCalls 17 = .ok (.aload_n 2, 1) := by decide +kernel
theorem dX3_planCalls_18 : decode cX3_planCalls 18 = .ok (.getfield 51, 3) := by decide +kernel
theorem dX3_planCalls_21 : decode cX3_planCalls 21 = .ok (.if_icmp .ge 88, 3) := by decide +kernel
theorem dX3_planCalls_24 : decode cX3_planCalls 24 = .ok (.aload_n 2, 1) := by decide +kernel
theorem dX3_planCalls_25 : decode cX3_planCalls 25 = .ok (.aload_n 2, 1) := by decide +kernel
theorem dX3_planCalls_26 : decode cX3_planCalls 26 = .ok (.iload 5, 2) := by decide +kernel
theorem dX3_planCalls_28 : decode cX3_planCalls 28 = .ok (.invokevirtual 56, 3) := by decide +kernel
theorem dX3_planCalls_31 : decode cX3_planCalls 31 = .ok (.iload_n 3, 1) := by decide +kernel
theorem dX3_planCalls_32 : decode cX3_planCalls 32 = .ok (.invokevirtual 60, 3) := by decide +kernel
theorem dX3_planCalls_35 : decode cX3_planCalls 35 = .ok (.istore 6, 2) := by decide +kernel
theorem dX3_planCalls_37 : decode cX3_planCalls 37 = .ok (.aload_n 2, 1) := by decide +kernel
theorem dX3_planCalls_38 : decode cX3_planCalls 38 = .ok (.iload 6, 2) := by decide +kernel
theorem dX3_planCalls_40 : decode cX3_planCalls 40 = .ok (.invokevirtual 64, 3) := by decide +kernel
theorem dX3_planCalls_43 : decode cX3_planCalls 43 = .ok (.istore 7, 2) := by decide +kernel
theorem dX3_planCalls_45 : decode cX3_planCalls 45 = .ok (.aload_n 0, 1) := by decide +kernel
theorem dX3_planCalls_46 : decode cX3_planCalls 46 = .ok (.getfield 30, 3) := by decide +kernel
theorem dX3_planCalls_49 : decode cX3_planCalls 49 = .ok (.iload_n 1, 1) := by decide +kernel
theorem dX3_planCalls_50 : decode cX3_planCalls 50 = .ok (.bipush 10, 2) := by decide +kernel
theorem dX3_planCalls_52 : decode cX3_planCalls 52 = .ok (.imul, 1) := by decide +kernel
theorem dX3_planCalls_53 : decode cX3_planCalls 53 = .ok (.iload 5, 2) := by decide +kernel
theorem dX3_planCalls_55 : decode cX3_planCalls 55 = .ok (.iadd, 1) := by decide +kernel
theorem dX3_planCalls_56 : decode cX3_planCalls 56 = .ok (.iload 7, 2) := by decide +kernel
theorem dX3_planCalls_58 : decode cX3_planCalls 58 = .ok (.invokestatic 43, 3) := by decide +kernel
theorem dX3_planCalls_61 : decode cX3_planCalls 61 = .ok (.iload 7, 2) := by decide +kernel
theorem dX3_planCalls_63 : decode cX3_planCalls 63 = .ok (.bipush 6, 2) := by decide +kernel
theorem dX3_planCalls_65 : decode cX3_planCalls 65 = .ok (.if_icmp .gt 38, 3) := by decide +kernel
theorem dX3_planCalls_68 : decode cX3_planCalls 68 = .ok (.aload_n 0, 1) := by decide +kernel
theorem dX3_planCalls_69 : decode cX3_planCalls 69 = .ok (.iload_n 1, 1) := by decide +kernel
theorem dX3_planCalls_70 : decode cX3_planCalls 70 = .ok (.iload 4, 2) := by decide +kernel
theorem dX3_planCalls_72 : decode cX3_planCalls 72 = .ok (.iload 6, 2) := by decide +kernel
theorem dX3_planCalls_74 : decode cX3_planCalls 74 = .ok (.aload_n 2, 1) := by decide +kernel
theorem dX3_planCalls_75 : decode cX3_planCalls 75 = .ok (.invokevirtual 67, 3) := by decide +kernel
theorem dX3_planCalls_78 : decode cX3_planCalls 78 = .ok (.istore 8, 2) := by decide +kernel
theorem dX3_planCalls_80 : decode cX3_planCalls 80 = .ok (.aload_n 0, 1) := by decide +kernel
theorem dX3_planCalls_81 : decode cX3_planCalls 81 = .ok (.iload_n 1, 1) := by decide +kernel
theorem dX3_planCalls_82 : decode cX3_planCalls 82 = .ok (.bipush 10, 2) := by decide +kernel
theorem dX3_planCalls_84 : decode cX3_planCalls 84 = .ok (.imul, 1) := by decide +kernel
theorem dX3_planCalls_85 : decode cX3_planCalls 85 = .ok (.iload 8, 2) := by decide +kernel
theorem dX3_planCalls_87 : decode cX3_planCalls 87 = .ok (.iadd, 1) := by decide +kernel
theorem dX3_planCalls_88 : decode cX3_planCalls 88 = .ok (.iload_n 1, 1) := by decide +kernel
theorem dX3_planCalls_89 : decode cX3_planCalls 89 = .ok (.bipush 10, 2) := by decide +kernel
theorem dX3_planCalls_91 : decode cX3_planCalls 91 = .ok (.imul, 1) := by decide +kernel
theorem dX3_planCalls_92 : decode cX3_planCalls 92 = .ok (.iload 4, 2) := by decide +kernel
theorem dX3_planCalls_94 : decode cX3_planCalls 94 = .ok (.iadd, 1) := by decide +kernel
theorem dX3_planCalls_95 : decode cX3_planCalls 95 = .ok (.iload 5, 2) := by decide +kernel
theorem dX3_planCalls_97 : decode cX3_planCalls 97 = .ok (.invokevirtual 71, 3) := by decide +kernel
theorem dX3_planCalls_100 : decode cX3_planCalls 100 = .ok (.iinc 4 1, 3) := by decide +kernel
theorem dX3_planCalls_103 : decode cX3_planCalls 103 = .ok (.iinc 5 1, 3) := by decide +kernel
theorem dX3_planCalls_106 : decode cX3_planCalls 106 = .ok (.goto (-91), 3) := by decide +kernel
theorem dX3_planCalls_109 : decode cX3_planCalls 109 = .ok (.aload_n 0, 1) := by decide +kernel
theorem dX3_planCalls_110 : decode cX3_planCalls 110 = .ok (.getfield 36, 3) := by decide +kernel
theorem dX3_planCalls_113 : decode cX3_planCalls 113 = .ok (.iload_n 1, 1) := by decide +kernel
theorem dX3_planCalls_114 : decode cX3_planCalls 114 = .ok (.iload 4, 2) := by decide +kernel
theorem dX3_planCalls_116 : decode cX3_planCalls 116 = .ok (.invokestatic 43, 3) := by decide +kernel
theorem dX3_planCalls_119 : decode cX3_planCalls 119 = .ok (.return_, 1) := by decide +kernel
theorem dX8_serve_0 : decode cX8_serve 0 = .ok (.aload_n 0, 1) := by decide +kernel
theorem dX8_serve_1 : decode cX8_serve 1 = .ok (.aload_n 1, 1) := by decide +kernel
theorem dX8_serve_2 : decode cX8_serve 2 = .ok (.putfield 46, 3) := by decide +kernel
theorem dX8_serve_5 : decode cX8_serve 5 = .ok (.aload_n 0, 1) := by decide +kernel
theorem dX8_serve_6 : decode cX8_serve 6 = .ok (.aload_n 1, 1) := by decide +kernel
theorem dX8_serve_7 : decode cX8_serve 7 = .ok (.invokevirtual 54, 3) := by decide +kernel
theorem dX8_serve_10 : decode cX8_serve 10 = .ok (.aload_n 0, 1) := by decide +kernel
theorem dX8_serve_11 : decode cX8_serve 11 = .ok (.invokevirtual 58, 3) := by decide +kernel
theorem dX8_serve_14 : decode cX8_serve 14 = .ok (.return_, 1) := by decide +kernel
theorem dX8_launch_0 : decode cX8_launch 0 = .ok (.iconst 0, 1) := by decide +kernel
theorem dX8_launch_1 : decode cX8_launch 1 = .ok (.istore_n 3, 1) := by decide +kernel
theorem dX8_launch_2 : decode cX8_launch 2 = .ok (.iconst 0, 1) := by decide +kernel
theorem dX8_launch_3 : decode cX8_launch 3 = .ok (.istore 4, 2) := by decide +kernel
theorem dX8_launch_5 : decode cX8_launch 5 = .ok (.iload_n 2, 1) := by decide +kernel
theorem dX8_launch_6 : decode cX8_launch 6 = .ok (.aload_n 0, 1) := by decide +kernel
theorem dX8_launch_7 : decode cX8_launch 7 = .ok (.getfield 46, 3) := by decide +kernel
theorem dX8_launch_10 : decode cX8_launch 10 = .ok (.getfield 107, 3) := by decide +kernel
theorem dX8_launch_13 : decode cX8_launch 13 = .ok (.getfield 111, 3) := by decide +kernel
theorem dX8_launch_16 : decode cX8_launch 16 = .ok (.iload_n 1, 1) := by decide +kernel
theorem dX8_launch_17 : decode cX8_launch 17 = .ok (.invokestatic 99, 3) := by decide +kernel
theorem dX8_launch_20 : decode cX8_launch 20 = .ok (.if_icmp .ge 9, 3) := by decide +kernel
theorem dX8_launch_23 : decode cX8_launch 23 = .ok (.iconst 1, 1) := by decide +kernel
theorem dX8_launch_24 : decode cX8_launch 24 = .ok (.istore 4, 2) := by decide +kernel
theorem dX8_launch_26 : decode cX8_launch 26 = .ok (.goto 61, 3) := by decide +kernel
theorem dX8_launch_29 : decode cX8_launch 29 = .ok (.aload_n 0, 1) := by decide +kernel
theorem dX8_launch_30 : decode cX8_launch 30 = .ok (.iload_n 1, 1) := by decide +kernel
theorem dX8_launch_31 : decode cX8_launch 31 = .ok (.iload_n 2, 1) := by decide +kernel
theorem dX8_launch_32 : decode cX8_launch 32 = .ok (.invokevirtual 165, 3) := by decide +kernel
theorem dX8_launch_35 : decode cX8_launch 35 = .ok (.ifCond .ne 9, 3) := by decide +kernel
theorem dX8_launch_38 : decode cX8_launch 38 = .ok (.iconst 2, 1) := by decide +kernel
theorem dX8_launch_39 : decode cX8_launch 39 = .ok (.istore 4, 2) := by decide +kernel
theorem dX8_launch_41 : decode cX8_launch 41 = .ok (.goto 46, 3) := by decide +kernel
theorem dX8_launch_44 : decode cX8_launch 44 = .ok (.aload_n 0, 1) := by decide +kernel
theorem dX8_launch_45 : decode cX8_launch 45 = .ok (.iload_n 1, 1) := by decide +kernel
theorem dX8_launch_46 : decode cX8_launch 46 = .ok (.invokevirtual 168, 3) := by decide +kernel
theorem dX8_launch_49 : decode cX8_launch 49 = .ok (.istore_n 3, 1) := by decide +kernel
theorem dX8_launch_50 : decode cX8_launch 50 = .ok (.iload_n 3, 1) := by decide +kernel
theorem dX8_launch_51 : decode cX8_launch 51 = .ok (.ifCond .ne 9, 3) := by decide +kernel
theorem dX8_launch_54 : decode cX8_launch 54 = .ok (.iconst 3, 1) := by decide +kernel
theorem dX8_launch_55 : decode cX8_launch 55 = .ok (.istore 4, 2) := by decide +kernel
theorem dX8_launch_57 : decode cX8_launch 57 = .ok (.goto 30, 3) := by decide +kernel
theorem dX8_launch_60 : decode cX8_launch 60 = .ok (.aload_n 0, 1) := by decide +kernel
theorem dX8_launch_61 : decode cX8_launch 61 = .ok (.getfield 12, 3) := by decide +kernel
theorem dX8_launch_64 : decode cX8_launch 64 = .ok (.getfield 171, 3) := by decide +kernel
theorem dX8_launch_67 : decode cX8_launch 67 = .ok (.aload_n 0, 1) := by decide +kernel
theorem dX8_launch_68 : decode cX8_launch 68 = .ok (.getfield 46, 3) := by decide +kernel
theorem dX8_launch_71 : decode cX8_launch 71 = .ok (.getfield 107, 3) := by decide +kernel
theorem dX8_launch_74 : decode cX8_launch 74 = .ok (.getfield 174, 3) := by decide +kernel
theorem dX8_launch_77 : decode cX8_launch 77 = .ok (.iload_n 1, 1) := by decide +kernel
theorem dX8_launch_78 : decode cX8_launch 78 = .ok (.invokestatic 99, 3) := by decide +kernel
theorem dX8_launch_81 : decode cX8_launch 81 = .ok (.if_icmp .ge 6, 3) := by decide +kernel
theorem dX8_launch_84 : decode cX8_launch 84 = .ok (.iconst 4, 1) := by decide +kernel
theorem dX8_launch_85 : decode cX8_launch 85 = .ok (.istore 4, 2) := by decide +kernel
theorem dX8_launch_87 : decode cX8_launch 87 = .ok (.iload 4, 2) := by decide +kernel
theorem dX8_launch_89 : decode cX8_launch 89 = .ok (.ifCond .eq 16, 3) := by decide +kernel
theorem dX8_launch_92 : decode cX8_launch 92 = .ok (.aload_n 0, 1) := by decide +kernel
theorem dX8_launch_93 : decode cX8_launch 93 = .ok (.getfield 22, 3) := by decide +kernel
theorem dX8_launch_96 : decode cX8_launch 96 = .ok (.iload_n 1, 1) := by decide +kernel
theorem dX8_launch_97 : decode cX8_launch 97 = .ok (.iload 4, 2) := by decide +kernel
theorem dX8_launch_99 : decode cX8_launch 99 = .ok (.ineg, 1) := by decide +kernel
theorem dX8_launch_100 : decode cX8_launch 100 = .ok (.invokestatic 103, 3) := by decide +kernel
theorem dX8_launch_103 : decode cX8_launch 103 = .ok (.iconst 0, 1) := by decide +kernel
theorem dX8_launch_104 : decode cX8_launch 104 = .ok (.ireturn, 1) := by decide +kernel
theorem dX8_launch_105 : decode cX8_launch 105 = .ok (.aload_n 0, 1) := by decide +kernel
theorem dX8_launch_106 : decode cX8_launch 106 = .ok (.getfield 22, 3) := by decide +kernel
theorem dX8_launch_109 : decode cX8_launch 109 = .ok (.iload_n 1, 1) := by decide +kernel
theorem dX8_launch_110 : decode cX8_launch 110 = .ok (.iconst 1, 1) := by decide +kernel
theorem dX8_launch_111 : decode cX8_launch 111 = .ok (.invokestatic 103, 3) := by decide +kernel
theorem dX8_launch_114 : decode cX8_launch 114 = .ok (.aload_n 0, 1) := by decide +kernel
theorem dX8_launch_115 : decode cX8_launch 115 = .ok (.iload_n 1, 1) := by decide +kernel
theorem dX8_launch_116 : decode cX8_launch 116 = .ok (.iload_n 2, 1) := by decide +kernel
theorem dX8_launch_117 : decode cX8_launch 117 = .ok (.iload_n 3, 1) := by decide +kernel
theorem dX8_launch_118 : decode cX8_launch 118 = .ok (.invokevirtual 176, 3) := by decide +kernel
theorem dX8_launch_121 : decode cX8_launch 121 = .ok (.aload_n 0, 1) := by decide +kernel
theorem dX8_launch_122 : decode cX8_launch 122 = .ok (.getfield 12, 3) := by decide +kernel
theorem dX8_launch_125 : decode cX8_launch 125 = .ok (.aload_n 0, 1) := by decide +kernel
theorem dX8_launch_126 : decode cX8_launch 126 = .ok (.getfield 46, 3) := by decide +kernel
theorem dX8_launch_129 : decode cX8_launch 129 = .ok (.getfield 107, 3) := by decide +kernel
theorem dX8_launch_132 : decode cX8_launch 132 = .ok (.getfield 174, 3) := by decide +kernel
theorem dX8_launch_135 : decode cX8_launch 135 = .ok (.iload_n 1, 1) := by decide +kernel
theorem dX8_launch_136 : decode cX8_launch 136 = .ok (.invokestatic 99, 3) := by decide +kernel
theorem dX8_launch_139 : decode cX8_launch 139 = .ok (.aload_n 0, 1) := by decide +kernel
theorem dX8_launch_140 : decode cX8_launch 140 = .ok (.getfield 31, 3) := by decide +kernel
theorem dX8_launch_143 : decode cX8_launch 143 = .ok (.iload_n 1, 1) := by decide +kernel
theorem dX8_launch_144 : decode cX8_launch 144 = .ok (.invokestatic 99, 3) := by decide +kernel
theorem dX8_launch_147 : decode cX8_launch 147 = .ok (.invokevirtual 179, 3) := by decide +kernel
theorem dX8_launch_150 : decode cX8_launch 150 = .ok (.iconst 1, 1) := by decide +kernel
theorem dX8_launch_151 : decode cX8_launch 151 = .ok (.ireturn, 1) := by decide +kernel
theorem dX8_listCancelled_0 : decode cX8_listCancelled 0 = .ok (.iconst 0, 1) := by decide +kernel
theorem dX8_listCancelled_1 : decode cX8_listCancelled 1 = .ok (.istore_n 3, 1) := by decide +kernel
theorem dX8_listCancelled_2 : decode cX8_listCancelled 2 = .ok (.iload_n 3, 1) := by decide +kernel
theorem dX8_listCancelled_3 : decode cX8_listCancelled 3 = .ok (.iconst 5, 1) := by decide +kernel
theorem dX8_listCancelled_4 : decode cX8_listCancelled 4 = .ok (.if_icmp .ge 37, 3) := by decide +kernel
theorem dX8_listCancelled_7 : decode cX8_listCancelled 7 = .ok (.aload_n 0, 1) := by decide +kernel
theorem dX8_listCancelled_8 : decode cX8_listCancelled 8 = .ok (.getfield 18, 3) := by decide +kernel
theorem dX8_listCancelled_11 : decode cX8_listCancelled 11 = .ok (.iload_n 3, 1) := by decide +kernel
theorem dX8_listCancelled_12 : decode cX8_listCancelled 12 = .ok (.iaload, 1) := by decide +kernel
theorem dX8_listCancelled_13 : decode cX8_listCancelled 13 = .ok (.iload_n 1, 1) := by decide +kernel
theorem dX8_listCancelled_14 : decode cX8_listCancelled 14 = .ok (.if_icmp .ne 21, 3) := by decide +kernel
theorem dX8_listCancelled_17 : decode cX8_listCancelled 17 = .ok (.aload_n 0, 1) := by decide +kernel
theorem dX8_listCancelled_18 : decode cX8_listCancelled 18 = .ok (.getfield 22, 3) := by decide +kernel
theorem dX8_listCancelled_21 : decode cX8_listCancelled 21 = .ok (.iload_n 3, 1) := by decide +kernel
theorem dX8_listCancelled_22 : decode cX8_listCancelled 22 = .ok (.iaload, 1) := by decide +kernel
theorem dX8_listCancelled_23 : decode cX8_listCancelled 23 = .ok (.iload_n 2, 1) := by decide +kernel
theorem dX8_listCancelled_24 : decode cX8_listCancelled 24 = .ok (.ineg, 1) := by decide +kernel
theorem dX8_listCancelled_25 : decode cX8_listCancelled 25 = .ok (.if_icmp .ne 10, 3) := by decide +kernel
theorem dX8_listCancelled_28 : decode cX8_listCancelled 28 = .ok (.aload_n 0, 1) := by decide +kernel
theorem dX8_listCancelled_29 : decode cX8_listCancelled 29 = .ok (.iload_n 1, 1) := by decide +kernel
theorem dX8_listCancelled_30 : decode cX8_listCancelled 30 = .ok (.iload_n 2, 1) := by decide +kernel
theorem dX8_listCancelled_31 : decode cX8_listCancelled 31 = .ok (.iload_n 3, 1) := by decide +kernel
theorem dX8_listCancelled_32 : decode cX8_listCancelled 32 = .ok (.invokevirtual 212, 3) := by decide +kernel
theorem dX8_listCancelled_35 : decode cX8_listCancelled 35 = .ok (.iinc 3 1, 3) := by decide +kernel
theorem dX8_listCancelled_38 : decode cX8_listCancelled 38 = .ok (.goto (-36), 3) := by decide +kernel
theorem dX8_listCancelled_41 : decode cX8_listCancelled 41 = .ok (.return_, 1) := by decide +kernel
theorem dX10_isSpelled_0 : decode cX10_isSpelled 0 = .ok (.aload_n 0, 1) := by decide +kernel
theorem dX10_isSpelled_1 : decode cX10_isSpelled 1 = .ok (.invokevirtual 88, 3) := by decide +kernel
theorem dX10_isSpelled_4 : decode cX10_isSpelled 4 = .ok (.iload_n 3, 1) := by decide +kernel
theorem dX10_isSpelled_5 : decode cX10_isSpelled 5 = .ok (.iload_n 2, 1) := by decide +kernel
theorem dX10_isSpelled_6 : decode cX10_isSpelled 6 = .ok (.isub, 1) := by decide +kernel
theorem dX10_isSpelled_7 : decode cX10_isSpelled 7 = .ok (.if_icmp .ne 13, 3) := by decide +kernel
theorem dX10_isSpelled_10 : decode cX10_isSpelled 10 = .ok (.iload_n 2, 1) := by decide +kernel
theorem dX10_isSpelled_11 : decode cX10_isSpelled 11 = .ok (.ifCond .lt 9, 3) := by decide +kernel
theorem dX10_isSpelled_14 : decode cX10_isSpelled 14 = .ok (.iload_n 3, 1) := by decide +kernel
theorem dX10_isSpelled_15 : decode cX10_isSpelled 15 = .ok (.aload_n 1, 1) := by decide +kernel
theorem dX10_isSpelled_16 : decode cX10_isSpelled 16 = .ok (.arraylength, 1) := by decide +kernel
theorem dX10_isSpelled_17 : decode cX10_isSpelled 17 = .ok (.if_icmp .le 5, 3) := by decide +kernel
theorem dX10_isSpelled_20 : decode cX10_isSpelled 20 = .ok (.iconst 0, 1) := by decide +kernel
theorem dX10_isSpelled_21 : decode cX10_isSpelled 21 = .ok (.ireturn, 1) := by decide +kernel
theorem dX10_isSpelled_22 : decode cX10_isSpelled 22 = .ok (.iconst 0, 1) := by decide +kernel
theorem dX10_isSpelled_23 : decode cX10_isSpelled 23 = .ok (.istore 4, 2) := by decide +kernel
theorem dX10_isSpelled_25 : decode cX10_isSpelled 25 = .ok (.iload 4, 2) := by decide +kernel
theorem dX10_isSpelled_27 : decode cX10_isSpelled 27 = .ok (.aload_n 0, 1) := by decide +kernel
theorem dX10_isSpelled_28 : decode cX10_isSpelled 28 = .ok (.invokevirtual 88, 3) := by decide +kernel
theorem dX10_isSpelled_31 : decode cX10_isSpelled 31 = .ok (.if_icmp .ge 26, 3) := by decide +kernel
theorem dX10_isSpelled_34 : decode cX10_isSpelled 34 = .ok (.aload_n 0, 1) := by decide +kernel
theorem dX10_isSpelled_35 : decode cX10_isSpelled 35 = .ok (.iload 4, 2) := by decide +kernel
theorem dX10_isSpelled_37 : decode cX10_isSpelled 37 = .ok (.invokevirtual 94, 3) := by decide +kernel
theorem dX10_isSpelled_40 : decode cX10_isSpelled 40 = .ok (.aload_n 1, 1) := by decide +kernel
theorem dX10_isSpelled_41 : decode cX10_isSpelled 41 = .ok (.iload_n 2, 1) := by decide +kernel
theorem dX10_isSpelled_42 : decode cX10_isSpelled 42 = .ok (.iload 4, 2) := by decide +kernel
theorem dX10_isSpelled_44 : decode cX10_isSpelled 44 = .ok (.iadd, 1) := by decide +kernel
theorem dX10_isSpelled_45 : decode cX10_isSpelled 45 = .ok (.baload, 1) := by decide +kernel
theorem dX10_isSpelled_46 : decode cX10_isSpelled 46 = .ok (.if_icmp .eq 5, 3) := by decide +kernel
theorem dX10_isSpelled_49 : decode cX10_isSpelled 49 = .ok (.iconst 0, 1) := by decide +kernel
theorem dX10_isSpelled_50 : decode cX10_isSpelled 50 = .ok (.ireturn, 1) := by decide +kernel
theorem dX10_isSpelled_51 : decode cX10_isSpelled 51 = .ok (.iinc 4 1, 3) := by decide +kernel
theorem dX10_isSpelled_54 : decode cX10_isSpelled 54 = .ok (.goto (-29), 3) := by decide +kernel
theorem dX10_isSpelled_57 : decode cX10_isSpelled 57 = .ok (.iconst 1, 1) := by decide +kernel
theorem dX10_isSpelled_58 : decode cX10_isSpelled 58 = .ok (.ireturn, 1) := by decide +kernel
theorem dX11_uncovered_0 : decode cX11_uncovered 0 = .ok (.aload_n 0, 1) := by decide +kernel
theorem dX11_uncovered_1 : decode cX11_uncovered 1 = .ok (.iload_n 1, 1) := by decide +kernel
theorem dX11_uncovered_2 : decode cX11_uncovered 2 = .ok (.invokevirtual 180, 3) := by decide +kernel
theorem dX11_uncovered_5 : decode cX11_uncovered 5 = .ok (.aload_n 0, 1) := by decide +kernel
theorem dX11_uncovered_6 : decode cX11_uncovered 6 = .ok (.getfield 58, 3) := by decide +kernel
theorem dX11_uncovered_9 : decode cX11_uncovered 9 = .ok (.iload_n 1, 1) := by decide +kernel
theorem dX11_uncovered_10 : decode cX11_uncovered 10 = .ok (.invokevirtual 189, 3) := by decide +kernel
theorem dX11_uncovered_13 : decode cX11_uncovered 13 = .ok (.ireturn, 1) := by decide +kernel
theorem dX11_nearestMinutes_0 : decode cX11_nearestMinutes 0 = .ok (.iload_n 2, 1) := by decide +kernel
theorem dX11_nearestMinutes_1 : decode cX11_nearestMinutes 1 = .ok (.aload_n 0, 1) := by decide +kernel
theorem dX11_nearestMinutes_2 : decode cX11_nearestMinutes 2 = .ok (.getfield 30, 3) := by decide +kernel
theorem dX11_nearestMinutes_5 : decode cX11_nearestMinutes 5 = .ok (.getfield 129, 3) := by decide +kernel
theorem dX11_nearestMinutes_8 : decode cX11_nearestMinutes 8 = .ok (.getfield 133, 3) := by decide +kernel
theorem dX11_nearestMinutes_11 : decode cX11_nearestMinutes 11 = .ok (.invokestatic 155, 3) := by decide +kernel
theorem dX11_nearestMinutes_14 : decode cX11_nearestMinutes 14 = .ok (.aload_n 0, 1) := by decide +kernel
theorem dX11_nearestMinutes_15 : decode cX11_nearestMinutes 15 = .ok (.iload_n 1, 1) := by decide +kernel
theorem dX11_nearestMinutes_16 : decode cX11_nearestMinutes 16 = .ok (.invokevirtual 180, 3) := by decide +kernel
theorem dX11_nearestMinutes_19 : decode cX11_nearestMinutes 19 = .ok (.aload_n 0, 1) := by decide +kernel
theorem dX11_nearestMinutes_20 : decode cX11_nearestMinutes 20 = .ok (.getfield 58, 3) := by decide +kernel
theorem dX11_nearestMinutes_23 : decode cX11_nearestMinutes 23 = .ok (.iload_n 1, 1) := by decide +kernel
theorem dX11_nearestMinutes_24 : decode cX11_nearestMinutes 24 = .ok (.invokevirtual 183, 3) := by decide +kernel
theorem dX11_nearestMinutes_27 : decode cX11_nearestMinutes 27 = .ok (.aload_n 0, 1) := by decide +kernel
theorem dX11_nearestMinutes_28 : decode cX11_nearestMinutes 28 = .ok (.getfield 58, 3) := by decide +kernel
theorem dX11_nearestMinutes_31 : decode cX11_nearestMinutes 31 = .ok (.iload_n 2, 1) := by decide +kernel
theorem dX11_nearestMinutes_32 : decode cX11_nearestMinutes 32 = .ok (.invokevirtual 199, 3) := by decide +kernel
theorem dX11_nearestMinutes_35 : decode cX11_nearestMinutes 35 = .ok (.invokestatic 163, 3) := by decide +kernel
theorem dX11_nearestMinutes_38 : decode cX11_nearestMinutes 38 = .ok (.ireturn, 1) := by decide +kernel
theorem dX11_weakestStreet_0 : decode cX11_weakestStreet 0 = .ok (.aload_n 0, 1) := by decide +kernel
theorem dX11_weakestStreet_1 : decode cX11_weakestStreet 1 = .ok (.iload_n 1, 1) := by decide +kernel
theorem dX11_weakestStreet_2 : decode cX11_weakestStreet 2 = .ok (.invokevirtual 180, 3) := by decide +kernel
theorem dX11_weakestStreet_5 : decode cX11_weakestStreet 5 = .ok (.aload_n 0, 1) := by decide +kernel
theorem dX11_weakestStreet_6 : decode cX11_weakestStreet 6 = .ok (.getfield 58, 3) := by decide +kernel
theorem dX11_weakestStreet_9 : decode cX11_weakestStreet 9 = .ok (.iload_n 1, 1) := by decide +kernel
theorem dX11_weakestStreet_10 : decode cX11_weakestStreet 10 = .ok (.invokevirtual 183, 3) := by decide +kernel
theorem dX11_weakestStreet_13 : decode cX11_weakestStreet 13 = .ok (.iconst (-1), 1) := by decide +kernel
theorem dX11_weakestStreet_14 : decode cX11_weakestStreet 14 = .ok (.istore_n 2, 1) := by decide +kernel
theorem dX11_weakestStreet_15 : decode cX11_weakestStreet 15 = .ok (.iconst 0, 1) := by decide +kernel
theorem dX11_weakestStreet_16 : decode cX11_weakestStreet 16 = .ok (.istore_n 3, 1) := by decide +kernel
theorem dX11_weakestStreet_17 : decode cX11_weakestStreet 17 = .ok (.iconst 0, 1) := by decide +kernel
theorem dX11_weakestStreet_18 : decode cX11_weakestStreet 18 = .ok (.istore 4, 2) := by decide +kernel
theorem dX11_weakestStreet_20 : decode cX11_weakestStreet 20 = .ok (.iload 4, 2) := by decide +kernel
theorem dX11_weakestStreet_22 : decode cX11_weakestStreet 22 = .ok (.aload_n 0, 1) := by decide +kernel
theorem dX11_weakestStreet_23 : decode cX11_weakestStreet 23 = .ok (.getfield 30, 3) := by decide +kernel
theorem dX11_weakestStreet_26 : decode cX11_weakestStreet 26 = .ok (.getfield 129, 3) := by decide +kernel
theorem dX11_weakestStreet_29 : decode cX11_weakestStreet 29 = .ok (.getfield 133, 3) := by decide +kernel
theorem dX11_weakestStreet_32 : decode cX11_weakestStreet 32 = .ok (.if_icmp .ge 66, 3) := by decide +kernel
theorem dX11_weakestStreet_35 : decode cX11_weakestStreet 35 = .ok (.aload_n 0, 1) := by decide +kernel
theorem dX11_weakestStreet_36 : decode cX11_weakestStreet 36 = .ok (.getfield 58, 3) := by decide +kernel
theorem dX11_weakestStreet_39 : decode cX11_weakestStreet 39 = .ok (.iload 4, 2) := by decide +kernel
theorem dX11_weakestStreet_41 : decode cX11_weakestStreet 41 = .ok (.invokevirtual 199, 3) := by decide +kernel
theorem dX11_weakestStreet_44 : decode cX11_weakestStreet 44 = .ok (.istore 5, 2) := by decide +kernel
theorem dX11_weakestStreet_46 : decode cX11_weakestStreet 46 = .ok (.iload 5, 2) := by decide +kernel
theorem dX11_weakestStreet_48 : decode cX11_weakestStreet 48 = .ok (.ldc 205, 2) := by decide +kernel
theorem dX11_weakestStreet_50 : decode cX11_weakestStreet 50 = .ok (.if_icmp .lt 8, 3) := by decide +kernel
theorem dX11_weakestStreet_53 : decode cX11_weakestStreet 53 = .ok (.ldc 206, 2) := by decide +kernel
theorem dX11_weakestStreet_55 : decode cX11_weakestStreet 55 = .ok (.goto 18, 3) := by decide +kernel
theorem dX11_weakestStreet_58 : decode cX11_weakestStreet 58 = .ok (.aload_n 0, 1) := by decide +kernel
theorem dX11_weakestStreet_59 : decode cX11_weakestStreet 59 = .ok (.getfield 30, 3) := by decide +kernel
theorem dX11_weakestStreet_62 : decode cX11_weakestStreet 62 = .ok (.getfield 129, 3) := by decide +kernel
theorem dX11_weakestStreet_65 : decode cX11_weakestStreet 65 = .ok (.iload 4, 2) := by decide +kernel
theorem dX11_weakestStreet_67 : decode cX11_weakestStreet 67 = .ok (.invokevirtual 207, 3) := by decide +kernel
theorem dX11_weakestStreet_70 : decode cX11_weakestStreet 70 = .ok (.iload 5, 2) := by decide +kernel
theorem dX11_weakestStreet_72 : decode cX11_weakestStreet 72 = .ok (.isub, 1) := by decide +kernel
theorem dX11_weakestStreet_73 : decode cX11_weakestStreet 73 = .ok (.istore 6, 2) := by decide +kernel
theorem dX11_weakestStreet_75 : decode cX11_weakestStreet 75 = .ok (.iload_n 2, 1) := by decide +kernel
theorem dX11_weakestStreet_76 : decode cX11_weakestStreet 76 = .ok (.iconst (-1), 1) := by decide +kernel
theorem dX11_weakestStreet_77 : decode cX11_weakestStreet 77 = .ok (.if_icmp .eq 9, 3) := by decide +kernel
theorem dX11_weakestStreet_80 : decode cX11_weakestStreet 80 = .ok (.iload 6, 2) := by decide +kernel
theorem dX11_weakestStreet_82 : decode cX11_weakestStreet 82 = .ok (.iload_n 3, 1) := by decide +kernel
theorem dX11_weakestStreet_83 : decode cX11_weakestStreet 83 = .ok (.if_icmp .ge 9, 3) := by decide +kernel
theorem dX11_weakestStreet_86 : decode cX11_weakestStreet 86 = .ok (.iload 4, 2) := by decide +kernel
theorem dX11_weakestStreet_88 : decode cX11_weakestStreet 88 = .ok (.istore_n 2, 1) := by decide +kernel
theorem dX11_weakestStreet_89 : decode cX11_weakestStreet 89 = .ok (.iload 6, 2) := by decide +kernel
theorem dX11_weakestStreet_91 : decode cX11_weakestStreet 91 = .ok (.istore_n 3, 1) := by decide +kernel
theorem dX11_weakestStreet_92 : decode cX11_weakestStreet 92 = .ok (.iinc 4 1, 3) := by decide +kernel
theorem dX11_weakestStreet_95 : decode cX11_weakestStreet 95 = .ok (.goto (-75), 3) := by decide +kernel
theorem dX11_weakestStreet_98 : decode cX11_weakestStreet 98 = .ok (.iload_n 2, 1) := by decide +kernel
theorem dX11_weakestStreet_99 : decode cX11_weakestStreet 99 = .ok (.ireturn, 1) := by decide +kernel
theorem dX11_criticalEngine_0 : decode cX11_criticalEngine 0 = .ok (.iconst (-1), 1) := by decide +kernel
theorem dX11_criticalEngine_1 : decode cX11_criticalEngine 1 = .ok (.istore_n 1, 1) := by decide +kernel
theorem dX11_criticalEngine_2 : decode cX11_criticalEngine 2 = .ok (.iconst (-1), 1) := by decide +kernel
theorem dX11_criticalEngine_3 : decode cX11_criticalEngine 3 = .ok (.istore_n 2, 1) := by decide +kernel
theorem dX11_criticalEngine_4 : decode cX11_criticalEngine 4 = .ok (.iconst 0, 1) := by decide +kernel
theorem dX11_criticalEngine_5 : decode cX11_criticalEngine 5 = .ok (.istore_n 3, 1) := by decide +kernel
theorem dX11_criticalEngine_6 : decode cX11_criticalEngine 6 = .ok (.iload_n 3, 1) := by decide +kernel
theorem dX11_criticalEngine_7 : decode cX11_criticalEngine 7 = .ok (.aload_n 0, 1) := by decide +kernel
theorem dX11_criticalEngine_8 : decode cX11_criticalEngine 8 = .ok (.getfield 30, 3) := by decide +kernel
theorem dX11_criticalEngine_11 : decode cX11_criticalEngine 11 = .ok (.getfield 126, 3) := by decide +kernel
theorem dX11_criticalEngine_14 : decode cX11_criticalEngine 14 = .ok (.if_icmp .ge 45, 3) := by decide +kernel
theorem dX11_criticalEngine_17 : decode cX11_criticalEngine 17 = .ok (.aload_n 0, 1) := by decide +kernel
theorem dX11_criticalEngine_18 : decode cX11_criticalEngine 18 = .ok (.getfield 58, 3) := by decide +kernel
theorem dX11_criticalEngine_21 : decode cX11_criticalEngine 21 = .ok (.aload_n 0, 1) := by decide +kernel
theorem dX11_criticalEngine_22 : decode cX11_criticalEngine 22 = .ok (.getfield 30, 3) := by decide +kernel
theorem dX11_criticalEngine_25 : decode cX11_criticalEngine 25 = .ok (.invokevirtual 210, 3) := by decide +kernel
theorem dX11_criticalEngine_28 : decode cX11_criticalEngine 28 = .ok (.iconst 1, 1) := by decide +kernel
theorem dX11_criticalEngine_29 : decode cX11_criticalEngine 29 = .ok (.iload_n 3, 1) := by decide +kernel
theorem dX11_criticalEngine_30 : decode cX11_criticalEngine 30 = .ok (.ishl, 1) := by decide +kernel
theorem dX11_criticalEngine_31 : decode cX11_criticalEngine 31 = .ok (.iconst (-1), 1) := by decide +kernel
theorem dX11_criticalEngine_32 : decode cX11_criticalEngine 32 = .ok (.ixor, 1) := by decide +kernel
theorem dX11_criticalEngine_33 : decode cX11_criticalEngine 33 = .ok (.iand, 1) := by decide +kernel
theorem dX11_criticalEngine_34 : decode cX11_criticalEngine 34 = .ok (.invokevirtual 189, 3) := by decide +kernel
theorem dX11_criticalEngine_37 : decode cX11_criticalEngine 37 = .ok (.invokestatic 213, 3) := by decide +kernel
theorem dX11_criticalEngine_40 : decode cX11_criticalEngine 40 = .ok (.istore 4, 2) := by decide +kernel
theorem dX11_criticalEngine_42 : decode cX11_criticalEngine 42 = .ok (.iload 4, 2) := by decide +kernel
theorem dX11_criticalEngine_44 : decode cX11_criticalEngine 44 = .ok (.iload_n 2, 1) := by decide +kernel
theorem dX11_criticalEngine_45 : decode cX11_criticalEngine 45 = .ok (.if_icmp .le 8, 3) := by decide +kernel
theorem dX11_criticalEngine_48 : decode cX11_criticalEngine 48 = .ok (.iload_n 3, 1) := by decide +kernel
theorem dX11_criticalEngine_49 : decode cX11_criticalEngine 49 = .ok (.istore_n 1, 1) := by decide +kernel
theorem dX11_criticalEngine_50 : decode cX11_criticalEngine 50 = .ok (.iload 4, 2) := by decide +kernel
theorem dX11_criticalEngine_52 : decode cX11_criticalEngine 52 = .ok (.istore_n 2, 1) := by decide +kernel
theorem dX11_criticalEngine_53 : decode cX11_criticalEngine 53 = .ok (.iinc 3 1, 3) := by decide +kernel
theorem dX11_criticalEngine_56 : decode cX11_criticalEngine 56 = .ok (.goto (-50), 3) := by decide +kernel
theorem dX11_criticalEngine_59 : decode cX11_criticalEngine 59 = .ok (.iload_n 1, 1) := by decide +kernel
theorem dX11_criticalEngine_60 : decode cX11_criticalEngine 60 = .ok (.ireturn, 1) := by decide +kernel
theorem dX11_safeAbsences_0 : decode cX11_safeAbsences 0 = .ok (.aload_n 0, 1) := by decide +kernel
theorem dX11_safeAbsences_1 : decode cX11_safeAbsences 1 = .ok (.getfield 30, 3) := by decide +kernel
theorem dX11_safeAbsences_4 : decode cX11_safeAbsences 4 = .ok (.invokevirtual 210, 3) := by decide +kernel
theorem dX11_safeAbsences_7 : decode cX11_safeAbsences 7 = .ok (.istore_n 1, 1) := by decide +kernel
theorem dX11_safeAbsences_8 : decode cX11_safeAbsences 8 = .ok (.aload_n 0, 1) := by decide +kernel
theorem dX11_safeAbsences_9 : decode cX11_safeAbsences 9 = .ok (.getfield 30, 3) := by decide +kernel
theorem dX11_safeAbsences_12 : decode cX11_safeAbsences 12 = .ok (.getfield 126, 3) := by decide +kernel
theorem dX11_safeAbsences_15 : decode cX11_safeAbsences 15 = .ok (.iconst 1, 1) := by decide +kernel
theorem dX11_safeAbsences_16 : decode cX11_safeAbsences 16 = .ok (.iadd, 1) := by decide +kernel
theorem dX11_safeAbsences_17 : decode cX11_safeAbsences 17 = .ok (.istore_n 2, 1) := by decide +kernel
theorem dX11_safeAbsences_18 : decode cX11_safeAbsences 18 = .ok (.iconst 0, 1) := by decide +kernel
theorem dX11_safeAbsences_19 : decode cX11_safeAbsences 19 = .ok (.istore_n 3, 1) := by decide +kernel
theorem dX11_safeAbsences_20 : decode cX11_safeAbsences 20 = .ok (.iload_n 3, 1) := by decide +kernel
theorem dX11_safeAbsences_21 : decode cX11_safeAbsences 21 = .ok (.iload_n 1, 1) := by decide +kernel
theorem dX11_safeAbsences_22 : decode cX11_safeAbsences 22 = .ok (.if_icmp .gt 39, 3) := by decide +kernel
theorem dX11_safeAbsences_25 : decode cX11_safeAbsences 25 = .ok (.iload_n 3, 1) := by decide +kernel
theorem dX11_safeAbsences_26 : decode cX11_safeAbsences 26 = .ok (.invokestatic 213, 3) := by decide +kernel
theorem dX11_safeAbsences_29 : decode cX11_safeAbsences 29 = .ok (.istore 4, 2) := by decide +kernel
theorem dX11_safeAbsences_31 : decode cX11_safeAbsences 31 = .ok (.iload 4, 2) := by decide +kernel
theorem dX11_safeAbsences_33 : decode cX11_safeAbsences 33 = .ok (.iload_n 2, 1) := by decide +kernel
theorem dX11_safeAbsences_34 : decode cX11_safeAbsences 34 = .ok (.if_icmp .ge 21, 3) := by decide +kernel
theorem dX11_safeAbsences_37 : decode cX11_safeAbsences 37 = .ok (.aload_n 0, 1) := by decide +kernel
theorem dX11_safeAbsences_38 : decode cX11_safeAbsences 38 = .ok (.getfield 58, 3) := by decide +kernel
theorem dX11_safeAbsences_41 : decode cX11_safeAbsences 41 = .ok (.iload_n 1, 1) := by decide +kernel
theorem dX11_safeAbsences_42 : decode cX11_safeAbsences 42 = .ok (.iload_n 3, 1) := by decide +kernel
theorem dX11_safeAbsences_43 : decode cX11_safeAbsences 43 = .ok (.iconst (-1), 1) := by decide +kernel
theorem dX11_safeAbsences_44 : decode cX11_safeAbsences 44 = .ok (.ixor, 1) := by decide +kernel
theorem dX11_safeAbsences_45 : decode cX11_safeAbsences 45 = .ok (.iand, 1) := by decide +kernel
theorem dX11_safeAbsences_46 : decode cX11_safeAbsences 46 = .ok (.invokevirtual 189, 3) := by decide +kernel
theorem dX11_safeAbsences_49 : decode cX11_safeAbsences 49 = .ok (.ifCond .eq 6, 3) := by decide +kernel
theorem dX11_safeAbsences_52 : decode cX11_safeAbsences 52 = .ok (.iload 4, 2) := by decide +kernel
theorem dX11_safeAbsences_54 : decode cX11_safeAbsences 54 = .ok (.istore_n 2, 1) := by decide +kernel
theorem dX11_safeAbsences_55 : decode cX11_safeAbsences 55 = .ok (.iinc 3 1, 3) := by decide +kernel
theorem dX11_safeAbsences_58 : decode cX11_safeAbsences 58 = .ok (.goto (-38), 3) := by decide +kernel
theorem dX11_safeAbsences_61 : decode cX11_safeAbsences 61 = .ok (.iload_n 2, 1) := by decide +kernel
theorem dX11_safeAbsences_62 : decode cX11_safeAbsences 62 = .ok (.iconst 1, 1) := by decide +kernel
theorem dX11_safeAbsences_63 : decode cX11_safeAbsences 63 = .ok (.isub, 1) := by decide +kernel
theorem dX11_safeAbsences_64 : decode cX11_safeAbsences 64 = .ok (.ireturn, 1) := by decide +kernel
theorem dX11_uncoveredAt_0 : decode cX11_uncoveredAt 0 = .ok (.iload_n 1, 1) := by decide +kernel
theorem dX11_uncoveredAt_1 : decode cX11_uncoveredAt 1 = .ok (.bipush 48, 2) := by decide +kernel
theorem dX11_uncoveredAt_3 : decode cX11_uncoveredAt 3 = .ok (.invokestatic 155, 3) := by decide +kernel
theorem dX11_uncoveredAt_6 : decode cX11_uncoveredAt 6 = .ok (.aload_n 0, 1) := by decide +kernel
theorem dX11_uncoveredAt_7 : decode cX11_uncoveredAt 7 = .ok (.getfield 58, 3) := by decide +kernel
theorem dX11_uncoveredAt_10 : decode cX11_uncoveredAt 10 = .ok (.aload_n 0, 1) := by decide +kernel
theorem dX11_uncoveredAt_11 : decode cX11_uncoveredAt 11 = .ok (.getfield 67, 3) := by decide +kernel
theorem dX11_uncoveredAt_14 : decode cX11_uncoveredAt 14 = .ok (.getfield 274, 3) := by decide +kernel
theorem dX11_uncoveredAt_17 : decode cX11_uncoveredAt 17 = .ok (.iload_n 1, 1) := by decide +kernel
theorem dX11_uncoveredAt_18 : decode cX11_uncoveredAt 18 = .ok (.invokestatic 170, 3) := by decide +kernel
theorem dX11_uncoveredAt_21 : decode cX11_uncoveredAt 21 = .ok (.invokevirtual 189, 3) := by decide +kernel
theorem dX11_uncoveredAt_24 : decode cX11_uncoveredAt 24 = .ok (.ireturn, 1) := by decide +kernel
theorem dX12_isWord_0 : decode cX12_isWord 0 = .ok (.aload_n 0, 1) := by decide +kernel
theorem dX12_isWord_1 : decode cX12_isWord 1 = .ok (.getfield 231, 3) := by decide +kernel
theorem dX12_isWord_4 : decode cX12_isWord 4 = .ok (.iconst 1, 1) := by decide +kernel
theorem dX12_isWord_5 : decode cX12_isWord 5 = .ok (.if_icmp .ne 19, 3) := by decide +kernel
theorem dX12_isWord_8 : decode cX12_isWord 8 = .ok (.aload_n 0, 1) := by decide +kernel
theorem dX12_isWord_9 : decode cX12_isWord 9 = .ok (.getfield 214, 3) := by decide +kernel
theorem dX12_isWord_12 : decode cX12_isWord 12 = .ok (.aload_n 0, 1) := by decide +kernel
theorem dX12_isWord_13 : decode cX12_isWord 13 = .ok (.getfield 221, 3) := by decide +kernel
theorem dX12_isWord_16 : decode cX12_isWord 16 = .ok (.isub, 1) := by decide +kernel
theorem dX12_isWord_17 : decode cX12_isWord 17 = .ok (.aload_n 1, 1) := by decide +kernel
theorem dX12_isWord_18 : decode cX12_isWord 18 = .ok (.invokevirtual 244, 3) := by decide +kernel
theorem dX12_isWord_21 : decode cX12_isWord 21 = .ok (.if_icmp .eq 5, 3) := by decide +kernel
theorem dX12_isWord_24 : decode cX12_isWord 24 = .ok (.iconst 0, 1) := by decide +kernel
theorem dX12_isWord_25 : decode cX12_isWord 25 = .ok (.ireturn, 1) := by decide +kernel
theorem dX12_isWord_26 : decode cX12_isWord 26 = .ok (.iconst 0, 1) := by decide +kernel
theorem dX12_isWord_27 : decode cX12_isWord 27 = .ok (.istore_n 2, 1) := by decide +kernel
theorem dX12_isWord_28 : decode cX12_isWord 28 = .ok (.iload_n 2, 1) := by decide +kernel
theorem dX12_isWord_29 : decode cX12_isWord 29 = .ok (.aload_n 1, 1) := by decide +kernel
theorem dX12_isWord_30 : decode cX12_isWord 30 = .ok (.invokevirtual 244, 3) := by decide +kernel
theorem dX12_isWord_33 : decode cX12_isWord 33 = .ok (.if_icmp .ge 30, 3) := by decide +kernel
theorem dX12_isWord_36 : decode cX12_isWord 36 = .ok (.aload_n 0, 1) := by decide +kernel
theorem dX12_isWord_37 : decode cX12_isWord 37 = .ok (.getfield 80, 3) := by decide +kernel
theorem dX12_isWord_40 : decode cX12_isWord 40 = .ok (.aload_n 0, 1) := by decide +kernel
theorem dX12_isWord_41 : decode cX12_isWord 41 = .ok (.getfield 221, 3) := by decide +kernel
theorem dX12_isWord_44 : decode cX12_isWord 44 = .ok (.iload_n 2, 1) := by decide +kernel
theorem dX12_isWord_45 : decode cX12_isWord 45 = .ok (.iadd, 1) := by decide +kernel
theorem dX12_isWord_46 : decode cX12_isWord 46 = .ok (.iaload, 1) := by decide +kernel
theorem dX12_isWord_47 : decode cX12_isWord 47 = .ok (.aload_n 1, 1) := by decide +kernel
theorem dX12_isWord_48 : decode cX12_isWord 48 = .ok (.iload_n 2, 1) := by decide +kernel
theorem dX12_isWord_49 : decode cX12_isWord 49 = .ok (.invokevirtual 250, 3) := by decide +kernel
theorem dX12_isWord_52 : decode cX12_isWord 52 = .ok (.if_icmp .eq 5, 3) := by decide +kernel
theorem dX12_isWord_55 : decode cX12_isWord 55 = .ok (.iconst 0, 1) := by decide +kernel
theorem dX12_isWord_56 : decode cX12_isWord 56 = .ok (.ireturn, 1) := by decide +kernel
theorem dX12_isWord_57 : decode cX12_isWord 57 = .ok (.iinc 2 1, 3) := by decide +kernel
theorem dX12_isWord_60 : decode cX12_isWord 60 = .ok (.goto (-32), 3) := by decide +kernel
theorem dX12_isWord_63 : decode cX12_isWord 63 = .ok (.iconst 1, 1) := by decide +kernel
theorem dX12_isWord_64 : decode cX12_isWord 64 = .ok (.ireturn, 1) := by decide +kernel
theorem dX12_takesWord_0 : decode cX12_takesWord 0 = .ok (.aload_n 0, 1) := by decide +kernel
theorem dX12_takesWord_1 : decode cX12_takesWord 1 = .ok (.aload_n 1, 1) := by decide +kernel
theorem dX12_takesWord_2 : decode cX12_takesWord 2 = .ok (.invokevirtual 254, 3) := by decide +kernel
theorem dX12_takesWord_5 : decode cX12_takesWord 5 = .ok (.ifCond .ne 5, 3) := by decide +kernel
theorem dX12_takesWord_8 : decode cX12_takesWord 8 = .ok (.iconst 0, 1) := by decide +kernel
theorem dX12_takesWord_9 : decode cX12_takesWord 9 = .ok (.ireturn, 1) := by decide +kernel
theorem dX12_takesWord_10 : decode cX12_takesWord 10 = .ok (.aload_n 0, 1) := by decide +kernel
theorem dX12_takesWord_11 : decode cX12_takesWord 11 = .ok (.invokevirtual 258, 3) := by decide +kernel
theorem dX12_takesWord_14 : decode cX12_takesWord 14 = .ok (.iconst 1, 1) := by decide +kernel
theorem dX12_takesWord_15 : decode cX12_takesWord 15 = .ok (.ireturn, 1) := by decide +kernel
theorem dX12_needsWord_0 : decode cX12_needsWord 0 = .ok (.aload_n 0, 1) := by decide +kernel
theorem dX12_needsWord_1 : decode cX12_needsWord 1 = .ok (.aload_n 1, 1) := by decide +kernel
theorem dX12_needsWord_2 : decode cX12_needsWord 2 = .ok (.invokevirtual 261, 3) := by decide +kernel
theorem dX12_needsWord_5 : decode cX12_needsWord 5 = .ok (.ifCond .ne 15, 3) := by decide +kernel
theorem dX12_needsWord_8 : decode cX12_needsWord 8 = .ok (.aload_n 0, 1) := by decide +kernel
theorem dX12_needsWord_9 : decode cX12_needsWord 9 = .ok (.iconst 1, 1) := by decide +kernel
theorem dX12_needsWord_10 : decode cX12_needsWord 10 = .ok (.aload_n 0, 1) := by decide +kernel
theorem dX12_needsWord_11 : decode cX12_needsWord 11 = .ok (.getfield 221, 3) := by decide +kernel
theorem dX12_needsWord_14 : decode cX12_needsWord 14 = .ok (.invokevirtual 264, 3) := by decide +kernel
theorem dX12_needsWord_17 : decode cX12_needsWord 17 = .ok (.ifCond .eq 7, 3) := by decide +kernel
theorem dX12_needsWord_20 : decode cX12_needsWord 20 = .ok (.iconst 1, 1) := by decide +kernel
theorem dX12_needsWord_21 : decode cX12_needsWord 21 = .ok (.goto 4, 3) := by decide +kernel
theorem dX12_needsWord_24 : decode cX12_needsWord 24 = .ok (.iconst 0, 1) := by decide +kernel
theorem dX12_needsWord_25 : decode cX12_needsWord 25 = .ok (.ireturn, 1) := by decide +kernel
theorem dX12_sortHere_0 : decode cX12_sortHere 0 = .ok (.aload_n 0, 1) := by decide +kernel
theorem dX12_sortHere_1 : decode cX12_sortHere 1 = .ok (.ldc_w 271, 3) := by decide +kernel
theorem dX12_sortHere_4 : decode cX12_sortHere 4 = .ok (.invokevirtual 254, 3) := by decide +kernel
theorem dX12_sortHere_7 : decode cX12_sortHere 7 = .ok (.ifCond .eq 7, 3) := by decide +kernel
theorem dX12_sortHere_10 : decode cX12_sortHere 10 = .ok (.iconst 0, 1) := by decide +kernel
theorem dX12_sortHere_11 : decode cX12_sortHere 11 = .ok (.goto 32, 3) := by decide +kernel
theorem dX12_sortHere_14 : decode cX12_sortHere 14 = .ok (.aload_n 0, 1) := by decide +kernel
theorem dX12_sortHere_15 : decode cX12_sortHere 15 = .ok (.ldc_w 273, 3) := by decide +kernel
theorem dX12_sortHere_18 : decode cX12_sortHere 18 = .ok (.invokevirtual 254, 3) := by decide +kernel
theorem dX12_sortHere_21 : decode cX12_sortHere 21 = .ok (.ifCond .eq 7, 3) := by decide +kernel
theorem dX12_sortHere_24 : decode cX12_sortHere 24 = .ok (.iconst 1, 1) := by decide +kernel
theorem dX12_sortHere_25 : decode cX12_sortHere 25 = .ok (.goto 18, 3) := by decide +kernel
theorem dX12_sortHere_28 : decode cX12_sortHere 28 = .ok (.aload_n 0, 1) := by decide +kernel
theorem dX12_sortHere_29 : decode cX12_sortHere 29 = .ok (.ldc_w 275, 3) := by decide +kernel
theorem dX12_sortHere_32 : decode cX12_sortHere 32 = .ok (.invokevirtual 254, 3) := by decide +kernel
theorem dX12_sortHere_35 : decode cX12_sortHere 35 = .ok (.ifCond .eq 7, 3) := by decide +kernel
theorem dX12_sortHere_38 : decode cX12_sortHere 38 = .ok (.iconst 2, 1) := by decide +kernel
theorem dX12_sortHere_39 : decode cX12_sortHere 39 = .ok (.goto 4, 3) := by decide +kernel
theorem dX12_sortHere_42 : decode cX12_sortHere 42 = .ok (.iconst (-1), 1) := by decide +kernel
theorem dX12_sortHere_43 : decode cX12_sortHere 43 = .ok (.ireturn, 1) := by decide +kernel
theorem dX12_isReserved_0 : decode cX12_isReserved 0 = .ok (.aload_n 0, 1) := by decide +kernel
theorem dX12_isReserved_1 : decode cX12_isReserved 1 = .ok (.ldc_w 277, 3) := by decide +kernel
theorem dX12_isReserved_4 : decode cX12_isReserved 4 = .ok (.invokevirtual 254, 3) := by decide +kernel
theorem dX12_isReserved_7 : decode cX12_isReserved 7 = .ok (.ifCond .ne 73, 3) := by decide +kernel
theorem dX12_isReserved_10 : decode cX12_isReserved 10 = .ok (.aload_n 0, 1) := by decide +kernel
theorem dX12_isReserved_11 : decode cX12_isReserved 11 = .ok (.ldc_w 279, 3) := by decide +kernel
theorem dX12_isReserved_14 : decode cX12_isReserved 14 = .ok (.invokevirtual 254, 3) := by decide +kernel
theorem dX12_isReserved_17 : decode cX12_isReserved 17 = .ok (.ifCond .ne 63, 3) := by decide +kernel
theorem dX12_isReserved_20 : decode cX12_isReserved 20 = .ok (.aload_n 0, 1) := by decide +kernel
theorem dX12_isReserved_21 : decode cX12_isReserved 21 = .ok (.ldc_w 281, 3) := by decide +kernel
theorem dX12_isReserved_24 : decode cX12_isReserved 24 = .ok (.invokevirtual 254, 3) := by decide +kernel
theorem dX12_isReserved_27 : decode cX12_isReserved 27 = .ok (.ifCond .ne 53, 3) := by decide +kernel
theorem dX12_isReserved_30 : decode cX12_isReserved 30 = .ok (.aload_n 0, 1) := by decide +kernel
theorem dX12_isReserved_31 : decode cX12_isReserved 31 = .ok (.ldc_w 283, 3) := by decide +kernel
theorem dX12_isReserved_34 : decode cX12_isReserved 34 = .ok (.invokevirtual 254, 3) := by decide +kernel
theorem dX12_isReserved_37 : decode cX12_isReserved 37 = .ok (.ifCond .ne 43, 3) := by decide +kernel
theorem dX12_isReserved_40 : decode cX12_isReserved 40 = .ok (.aload_n 0, 1) := by decide +kernel
theorem dX12_isReserved_41 : decode cX12_isReserved 41 = .ok (.ldc_w 285, 3) := by decide +kernel
theorem dX12_isReserved_44 : decode cX12_isReserved 44 = .ok (.invokevirtual 254, 3) := by decide +kernel
theorem dX12_isReserved_47 : decode cX12_isReserved 47 = .ok (.ifCond .ne 33, 3) := by decide +kernel
theorem dX12_isReserved_50 : decode cX12_isReserved 50 = .ok (.aload_n 0, 1) := by decide +kernel
theorem dX12_isReserved_51 : decode cX12_isReserved 51 = .ok (.ldc_w 287, 3) := by decide +kernel
theorem dX12_isReserved_54 : decode cX12_isReserved 54 = .ok (.invokevirtual 254, 3) := by decide +kernel
theorem dX12_isReserved_57 : decode cX12_isReserved 57 = .ok (.ifCond .ne 23, 3) := by decide +kernel
theorem dX12_isReserved_60 : decode cX12_isReserved 60 = .ok (.aload_n 0, 1) := by decide +kernel
theorem dX12_isReserved_61 : decode cX12_isReserved 61 = .ok (.ldc_w 289, 3) := by decide +kernel
theorem dX12_isReserved_64 : decode cX12_isReserved 64 = .ok (.invokevirtual 254, 3) := by decide +kernel
theorem dX12_isReserved_67 : decode cX12_isReserved 67 = .ok (.ifCond .ne 13, 3) := by decide +kernel
theorem dX12_isReserved_70 : decode cX12_isReserved 70 = .ok (.aload_n 0, 1) := by decide +kernel
theorem dX12_isReserved_71 : decode cX12_isReserved 71 = .ok (.ldc_w 291, 3) := by decide +kernel
theorem dX12_isReserved_74 : decode cX12_isReserved 74 = .ok (.invokevirtual 254, 3) := by decide +kernel
theorem dX12_isReserved_77 : decode cX12_isReserved 77 = .ok (.ifCond .eq 7, 3) := by decide +kernel
theorem dX12_isReserved_80 : decode cX12_isReserved 80 = .ok (.iconst 1, 1) := by decide +kernel
theorem dX12_isReserved_81 : decode cX12_isReserved 81 = .ok (.goto 4, 3) := by decide +kernel
theorem dX12_isReserved_84 : decode cX12_isReserved 84 = .ok (.iconst 0, 1) := by decide +kernel
theorem dX12_isReserved_85 : decode cX12_isReserved 85 = .ok (.istore_n 1, 1) := by decide +kernel
theorem dX12_isReserved_86 : decode cX12_isReserved 86 = .ok (.aload_n 0, 1) := by decide +kernel
theorem dX12_isReserved_87 : decode cX12_isReserved 87 = .ok (.ldc_w 293, 3) := by decide +kernel
theorem dX12_isReserved_90 : decode cX12_isReserved 90 = .ok (.invokevirtual 254, 3) := by decide +kernel
theorem dX12_isReserved_93 : decode cX12_isReserved 93 = .ok (.ifCond .ne 83, 3) := by decide +kernel
theorem dX12_isReserved_96 : decode cX12_isReserved 96 = .ok (.aload_n 0, 1) := by decide +kernel
theorem dX12_isReserved_97 : decode cX12_isReserved 97 = .ok (.ldc_w 295, 3) := by decide +kernel
theorem dX12_isReserved_100 : decode cX12_isReserved 100 = .ok (.invokevirtual 254, 3) := by decide +kernel
theorem dX12_isReserved_103 : decode cX12_isReserved 103 = .ok (.ifCond .ne 73, 3) := by decide +kernel
theorem dX12_isReserved_106 : decode cX12_isReserved 106 = .ok (.aload_n 0, 1) := by decide +kernel
theorem dX12_isReserved_107 : decode cX12_isReserved 107 = .ok (.ldc_w 296, 3) := by decide +kernel
theorem dX12_isReserved_110 : decode cX12_isReserved 110 = .ok (.invokevirtual 254, 3) := by decide +kernel
theorem dX12_isReserved_113 : decode cX12_isReserved 113 = .ok (.ifCond .ne 63, 3) := by decide +kernel
theorem dX12_isReserved_116 : decode cX12_isReserved 116 = .ok (.aload_n 0, 1) := by decide +kernel
theorem dX12_isReserved_117 : decode cX12_isReserved 117 = .ok (.ldc_w 298, 3) := by decide +kernel
theorem dX12_isReserved_120 : decode cX12_isReserved 120 = .ok (.invokevirtual 254, 3) := by decide +kernel
theorem dX12_isReserved_123 : decode cX12_isReserved 123 = .ok (.ifCond .ne 53, 3) := by decide +kernel
theorem dX12_isReserved_126 : decode cX12_isReserved 126 = .ok (.aload_n 0, 1) := by decide +kernel
theorem dX12_isReserved_127 : decode cX12_isReserved 127 = .ok (.ldc_w 300, 3) := by decide +kernel
theorem dX12_isReserved_130 : decode cX12_isReserved 130 = .ok (.invokevirtual 254, 3) := by decide +kernel
theorem dX12_isReserved_133 : decode cX12_isReserved 133 = .ok (.ifCond .ne 43, 3) := by decide +kernel
theorem dX12_isReserved_136 : decode cX12_isReserved 136 = .ok (.aload_n 0, 1) := by decide +kernel
theorem dX12_isReserved_137 : decode cX12_isReserved 137 = .ok (.ldc_w 301, 3) := by decide +kernel
theorem dX12_isReserved_140 : decode cX12_isReserved 140 = .ok (.invokevirtual 254, 3) := by decide +kernel
theorem dX12_isReserved_143 : decode cX12_isReserved 143 = .ok (.ifCond .ne 33, 3) := by decide +kernel
theorem dX12_isReserved_146 : decode cX12_isReserved 146 = .ok (.aload_n 0, 1) := by decide +kernel
theorem dX12_isReserved_147 : decode cX12_isReserved 147 = .ok (.ldc_w 302, 3) := by decide +kernel
theorem dX12_isReserved_150 : decode cX12_isReserved 150 = .ok (.invokevirtual 254, 3) := by decide +kernel
theorem dX12_isReserved_153 : decode cX12_isReserved 153 = .ok (.ifCond .ne 23, 3) := by decide +kernel
theorem dX12_isReserved_156 : decode cX12_isReserved 156 = .ok (.aload_n 0, 1) := by decide +kernel
theorem dX12_isReserved_157 : decode cX12_isReserved 157 = .ok (.ldc_w 304, 3) := by decide +kernel
theorem dX12_isReserved_160 : decode cX12_isReserved 160 = .ok (.invokevirtual 254, 3) := by decide +kernel
theorem dX12_isReserved_163 : decode cX12_isReserved 163 = .ok (.ifCond .ne 13, 3) := by decide +kernel
theorem dX12_isReserved_166 : decode cX12_isReserved 166 = .ok (.aload_n 0, 1) := by decide +kernel
theorem dX12_isReserved_167 : decode cX12_isReserved 167 = .ok (.ldc_w 305, 3) := by decide +kernel
theorem dX12_isReserved_170 : decode cX12_isReserved 170 = .ok (.invokevirtual 254, 3) := by decide +kernel
theorem dX12_isReserved_173 : decode cX12_isReserved 173 = .ok (.ifCond .eq 7, 3) := by decide +kernel
theorem dX12_isReserved_176 : decode cX12_isReserved 176 = .ok (.iconst 1, 1) := by decide +kernel
theorem dX12_isReserved_177 : decode cX12_isReserved 177 = .ok (.goto 4, 3) := by decide +kernel
theorem dX12_isReserved_180 : decode cX12_isReserved 180 = .ok (.iconst 0, 1) := by decide +kernel
theorem dX12_isReserved_181 : decode cX12_isReserved 181 = .ok (.istore_n 2, 1) := by decide +kernel
theorem dX12_isReserved_182 : decode cX12_isReserved 182 = .ok (.iload_n 1, 1) := by decide +kernel
theorem dX12_isReserved_183 : decode cX12_isReserved 183 = .ok (.ifCond .ne 15, 3) := by decide +kernel
theorem dX12_isReserved_186 : decode cX12_isReserved 186 = .ok (.iload_n 2, 1) := by decide +kernel
theorem dX12_isReserved_187 : decode cX12_isReserved 187 = .ok (.ifCond .ne 11, 3) := by decide +kernel
theorem dX12_isReserved_190 : decode cX12_isReserved 190 = .ok (.aload_n 0, 1) := by decide +kernel
theorem dX12_isReserved_191 : decode cX12_isReserved 191 = .ok (.invokevirtual 306, 3) := by decide +kernel
theorem dX12_isReserved_194 : decode cX12_isReserved 194 = .ok (.iconst (-1), 1) := by decide +kernel
theorem dX12_isReserved_195 : decode cX12_isReserved 195 = .ok (.if_icmp .eq 7, 3) := by decide +kernel
theorem dX12_isReserved_198 : decode cX12_isReserved 198 = .ok (.iconst 1, 1) := by decide +kernel
theorem dX12_isReserved_199 : decode cX12_isReserved 199 = .ok (.goto 4, 3) := by decide +kernel
theorem dX12_isReserved_202 : decode cX12_isReserved 202 = .ok (.iconst 0, 1) := by decide +kernel
theorem dX12_isReserved_203 : decode cX12_isReserved 203 = .ok (.ireturn, 1) := by decide +kernel
theorem dX12_isName_0 : decode cX12_isName 0 = .ok (.aload_n 0, 1) := by decide +kernel
theorem dX12_isName_1 : decode cX12_isName 1 = .ok (.getfield 231, 3) := by decide +kernel
theorem dX12_isName_4 : decode cX12_isName 4 = .ok (.iconst 1, 1) := by decide +kernel
theorem dX12_isName_5 : decode cX12_isName 5 = .ok (.if_icmp .ne 28, 3) := by decide +kernel
theorem dX12_isName_8 : decode cX12_isName 8 = .ok (.aload_n 0, 1) := by decide +kernel
theorem dX12_isName_9 : decode cX12_isName 9 = .ok (.getfield 214, 3) := by decide +kernel
theorem dX12_isName_12 : decode cX12_isName 12 = .ok (.aload_n 0, 1) := by decide +kernel
theorem dX12_isName_13 : decode cX12_isName 13 = .ok (.getfield 221, 3) := by decide +kernel
theorem dX12_isName_16 : decode cX12_isName 16 = .ok (.isub, 1) := by decide +kernel
theorem dX12_isName_17 : decode cX12_isName 17 = .ok (.bipush 6, 2) := by decide +kernel
theorem dX12_isName_19 : decode cX12_isName 19 = .ok (.if_icmp .gt 14, 3) := by decide +kernel
theorem dX12_isName_22 : decode cX12_isName 22 = .ok (.aload_n 0, 1) := by decide +kernel
theorem dX12_isName_23 : decode cX12_isName 23 = .ok (.invokevirtual 309, 3) := by decide +kernel
theorem dX12_isName_26 : decode cX12_isName 26 = .ok (.ifCond .ne 7, 3) := by decide +kernel
theorem dX12_isName_29 : decode cX12_isName 29 = .ok (.iconst 1, 1) := by decide +kernel
theorem dX12_isName_30 : decode cX12_isName 30 = .ok (.goto 4, 3) := by decide +kernel
theorem dX12_isName_33 : decode cX12_isName 33 = .ok (.iconst 0, 1) := by decide +kernel
theorem dX12_isName_34 : decode cX12_isName 34 = .ok (.ireturn, 1) := by decide +kernel
theorem dX12_needsNewName_0 : decode cX12_needsNewName 0 = .ok (.aload_n 0, 1) := by decide +kernel
theorem dX12_needsNewName_1 : decode cX12_needsNewName 1 = .ok (.invokevirtual 317, 3) := by decide +kernel
theorem dX12_needsNewName_4 : decode cX12_needsNewName 4 = .ok (.ifCond .ne 13, 3) := by decide +kernel
theorem dX12_needsNewName_7 : decode cX12_needsNewName 7 = .ok (.aload_n 0, 1) := by decide +kernel
theorem dX12_needsNewName_8 : decode cX12_needsNewName 8 = .ok (.iconst 1, 1) := by decide +kernel
theorem dX12_needsNewName_9 : decode cX12_needsNewName 9 = .ok (.aload_n 0, 1) := by decide +kernel
theorem dX12_needsNewName_10 : decode cX12_needsNewName 10 = .ok (.getfield 221, 3) := by decide +kernel
theorem dX12_needsNewName_13 : decode cX12_needsNewName 13 = .ok (.invokevirtual 264, 3) := by decide +kernel
theorem dX12_needsNewName_16 : decode cX12_needsNewName 16 = .ok (.ireturn, 1) := by decide +kernel
theorem dX12_needsNewName_17 : decode cX12_needsNewName 17 = .ok (.aload_n 0, 1) := by decide +kernel
theorem dX12_needsNewName_18 : decode cX12_needsNewName 18 = .ok (.aload_n 0, 1) := by decide +kernel
theorem dX12_needsNewName_19 : decode cX12_needsNewName 19 = .ok (.getfield 224, 3) := by decide +kernel
theorem dX12_needsNewName_22 : decode cX12_needsNewName 22 = .ok (.invokevirtual 320, 3) := by decide +kernel
theorem dX12_needsNewName_25 : decode cX12_needsNewName 25 = .ok (.ifCond .eq 13, 3) := by decide +kernel
theorem dX12_needsNewName_28 : decode cX12_needsNewName 28 = .ok (.aload_n 0, 1) := by decide +kernel
theorem dX12_needsNewName_29 : decode cX12_needsNewName 29 = .ok (.iconst 3, 1) := by decide +kernel
theorem dX12_needsNewName_30 : decode cX12_needsNewName 30 = .ok (.aload_n 0, 1) := by decide +kernel
theorem dX12_needsNewName_31 : decode cX12_needsNewName 31 = .ok (.getfield 221, 3) := by decide +kernel
theorem dX12_needsNewName_34 : decode cX12_needsNewName 34 = .ok (.invokevirtual 264, 3) := by decide +kernel
theorem dX12_needsNewName_37 : decode cX12_needsNewName 37 = .ok (.ireturn, 1) := by decide +kernel
theorem dX12_needsNewName_38 : decode cX12_needsNewName 38 = .ok (.aload_n 0, 1) := by decide +kernel
theorem dX12_needsNewName_39 : decode cX12_needsNewName 39 = .ok (.aload_n 0, 1) := by decide +kernel
theorem dX12_needsNewName_40 : decode cX12_needsNewName 40 = .ok (.getfield 224, 3) := by decide +kernel
theorem dX12_needsNewName_43 : decode cX12_needsNewName 43 = .ok (.putfield 324, 3) := by decide +kernel
theorem dX12_needsNewName_46 : decode cX12_needsNewName 46 = .ok (.aload_n 0, 1) := by decide +kernel
theorem dX12_needsNewName_47 : decode cX12_needsNewName 47 = .ok (.invokevirtual 258, 3) := by decide +kernel
theorem dX12_needsNewName_50 : decode cX12_needsNewName 50 = .ok (.iconst 1, 1) := by decide +kernel
theorem dX12_needsNewName_51 : decode cX12_needsNewName 51 = .ok (.ireturn, 1) := by decide +kernel
theorem dX12_needsName_0 : decode cX12_needsName 0 = .ok (.aload_n 0, 1) := by decide +kernel
theorem dX12_needsName_1 : decode cX12_needsName 1 = .ok (.invokevirtual 317, 3) := by decide +kernel
theorem dX12_needsName_4 : decode cX12_needsName 4 = .ok (.ifCond .ne 13, 3) := by decide +kernel
theorem dX12_needsName_7 : decode cX12_needsName 7 = .ok (.aload_n 0, 1) := by decide +kernel
theorem dX12_needsName_8 : decode cX12_needsName 8 = .ok (.iconst 1, 1) := by decide +kernel
theorem dX12_needsName_9 : decode cX12_needsName 9 = .ok (.aload_n 0, 1) := by decide +kernel
theorem dX12_needsName_10 : decode cX12_needsName 10 = .ok (.getfield 221, 3) := by decide +kernel
theorem dX12_needsName_13 : decode cX12_needsName 13 = .ok (.invokevirtual 264, 3) := by decide +kernel
theorem dX12_needsName_16 : decode cX12_needsName 16 = .ok (.ireturn, 1) := by decide +kernel
theorem dX12_needsName_17 : decode cX12_needsName 17 = .ok (.aload_n 0, 1) := by decide +kernel
theorem dX12_needsName_18 : decode cX12_needsName 18 = .ok (.aload_n 1, 1) := by decide +kernel
theorem dX12_needsName_19 : decode cX12_needsName 19 = .ok (.iload_n 2, 1) := by decide +kernel
theorem dX12_needsName_20 : decode cX12_needsName 20 = .ok (.aload_n 0, 1) := by decide +kernel
theorem dX12_needsName_21 : decode cX12_needsName 21 = .ok (.getfield 224, 3) := by decide +kernel
theorem dX12_needsName_24 : decode cX12_needsName 24 = .ok (.invokestatic 313, 3) := by decide +kernel
theorem dX12_needsName_27 : decode cX12_needsName 27 = .ok (.putfield 327, 3) := by decide +kernel
theorem dX12_needsName_30 : decode cX12_needsName 30 = .ok (.aload_n 0, 1) := by decide +kernel
theorem dX12_needsName_31 : decode cX12_needsName 31 = .ok (.getfield 327, 3) := by decide +kernel
theorem dX12_needsName_34 : decode cX12_needsName 34 = .ok (.iconst (-1), 1) := by decide +kernel
theorem dX12_needsName_35 : decode cX12_needsName 35 = .ok (.if_icmp .eq 11, 3) := by decide +kernel
theorem dX12_needsName_38 : decode cX12_needsName 38 = .ok (.aload_n 0, 1) := by decide +kernel
theorem dX12_needsName_39 : decode cX12_needsName 39 = .ok (.getfield 327, 3) := by decide +kernel
theorem dX12_needsName_42 : decode cX12_needsName 42 = .ok (.iload_n 3, 1) := by decide +kernel
theorem dX12_needsName_43 : decode cX12_needsName 43 = .ok (.if_icmp .ne 13, 3) := by decide +kernel
theorem dX12_needsName_46 : decode cX12_needsName 46 = .ok (.aload_n 0, 1) := by decide +kernel
theorem dX12_needsName_47 : decode cX12_needsName 47 = .ok (.iconst 3, 1) := by decide +kernel
theorem dX12_needsName_48 : decode cX12_needsName 48 = .ok (.aload_n 0, 1) := by decide +kernel
theorem dX12_needsName_49 : decode cX12_needsName 49 = .ok (.getfield 221, 3) := by decide +kernel
theorem dX12_needsName_52 : decode cX12_needsName 52 = .ok (.invokevirtual 264, 3) := by decide +kernel
theorem dX12_needsName_55 : decode cX12_needsName 55 = .ok (.ireturn, 1) := by decide +kernel
theorem dX12_needsName_56 : decode cX12_needsName 56 = .ok (.aload_n 0, 1) := by decide +kernel
theorem dX12_needsName_57 : decode cX12_needsName 57 = .ok (.invokevirtual 258, 3) := by decide +kernel
theorem dX12_needsName_60 : decode cX12_needsName 60 = .ok (.iconst 1, 1) := by decide +kernel
theorem dX12_needsName_61 : decode cX12_needsName 61 = .ok (.ireturn, 1) := by decide +kernel
theorem dX12_readNode_0 : decode cX12_readNode 0 = .ok (.aload_n 0, 1) := by decide +kernel
theorem dX12_readNode_1 : decode cX12_readNode 1 = .ok (.aload_n 0, 1) := by decide +kernel
theorem dX12_readNode_2 : decode cX12_readNode 2 = .ok (.getfield 156, 3) := by decide +kernel
theorem dX12_readNode_5 : decode cX12_readNode 5 = .ok (.bipush 12, 2) := by decide +kernel
theorem dX12_readNode_7 : decode cX12_readNode 7 = .ok (.if_icmp .ge 7, 3) := by decide +kernel
theorem dX12_readNode_10 : decode cX12_readNode 10 = .ok (.iconst 1, 1) := by decide +kernel
theorem dX12_readNode_11 : decode cX12_readNode 11 = .ok (.goto 4, 3) := by decide +kernel
theorem dX12_readNode_14 : decode cX12_readNode 14 = .ok (.iconst 0, 1) := by decide +kernel
theorem dX12_readNode_15 : decode cX12_readNode 15 = .ok (.iload_n 1, 1) := by decide +kernel
theorem dX12_readNode_16 : decode cX12_readNode 16 = .ok (.invokevirtual 334, 3) := by decide +kernel
theorem dX12_readNode_19 : decode cX12_readNode 19 = .ok (.ifCond .eq 10, 3) := by decide +kernel
theorem dX12_readNode_22 : decode cX12_readNode 22 = .ok (.aload_n 0, 1) := by decide +kernel
theorem dX12_readNode_23 : decode cX12_readNode 23 = .ok (.invokevirtual 341, 3) := by decide +kernel
theorem dX12_readNode_26 : decode cX12_readNode 26 = .ok (.ifCond .ne 5, 3) := by decide +kernel
theorem dX12_readNode_29 : decode cX12_readNode 29 = .ok (.iconst 0, 1) := by decide +kernel
theorem dX12_readNode_30 : decode cX12_readNode 30 = .ok (.ireturn, 1) := by decide +kernel
theorem dX12_readNode_31 : decode cX12_readNode 31 = .ok (.aload_n 0, 1) := by decide +kernel
theorem dX12_readNode_32 : decode cX12_readNode 32 = .ok (.getfield 7, 3) := by decide +kernel
theorem dX12_readNode_35 : decode cX12_readNode 35 = .ok (.aload_n 0, 1) := by decide +kernel
theorem dX12_readNode_36 : decode cX12_readNode 36 = .ok (.getfield 156, 3) := by decide +kernel
theorem dX12_readNode_39 : decode cX12_readNode 39 = .ok (.aload_n 0, 1) := by decide +kernel
theorem dX12_readNode_40 : decode cX12_readNode 40 = .ok (.getfield 324, 3) := by decide +kernel
theorem dX12_readNode_43 : decode cX12_readNode 43 = .ok (.lastore, 1) := by decide +kernel
theorem dX12_readNode_44 : decode cX12_readNode 44 = .ok (.aload_n 0, 1) := by decide +kernel
theorem dX12_readNode_45 : decode cX12_readNode 45 = .ok (.dup, 1) := by decide +kernel
theorem dX12_readNode_46 : decode cX12_readNode 46 = .ok (.getfield 156, 3) := by decide +kernel
theorem dX12_readNode_49 : decode cX12_readNode 49 = .ok (.iconst 1, 1) := by decide +kernel
theorem dX12_readNode_50 : decode cX12_readNode 50 = .ok (.iadd, 1) := by decide +kernel
theorem dX12_readNode_51 : decode cX12_readNode 51 = .ok (.putfield 156, 3) := by decide +kernel
theorem dX12_readNode_54 : decode cX12_readNode 54 = .ok (.iconst 1, 1) := by decide +kernel
theorem dX12_readNode_55 : decode cX12_readNode 55 = .ok (.ireturn, 1) := by decide +kernel
theorem dX12_readRoad_0 : decode cX12_readRoad 0 = .ok (.aload_n 0, 1) := by decide +kernel
theorem dX12_readRoad_1 : decode cX12_readRoad 1 = .ok (.aload_n 0, 1) := by decide +kernel
theorem dX12_readRoad_2 : decode cX12_readRoad 2 = .ok (.getfield 159, 3) := by decide +kernel
theorem dX12_readRoad_5 : decode cX12_readRoad 5 = .ok (.bipush 20, 2) := by decide +kernel
theorem dX12_readRoad_7 : decode cX12_readRoad 7 = .ok (.if_icmp .ge 7, 3) := by decide +kernel
theorem dX12_readRoad_10 : decode cX12_readRoad 10 = .ok (.iconst 1, 1) := by decide +kernel
theorem dX12_readRoad_11 : decode cX12_readRoad 11 = .ok (.goto 4, 3) := by decide +kernel
theorem dX12_readRoad_14 : decode cX12_readRoad 14 = .ok (.iconst 0, 1) := by decide +kernel
theorem dX12_readRoad_15 : decode cX12_readRoad 15 = .ok (.iload_n 1, 1) := by decide +kernel
theorem dX12_readRoad_16 : decode cX12_readRoad 16 = .ok (.invokevirtual 334, 3) := by decide +kernel
theorem dX12_readRoad_19 : decode cX12_readRoad 19 = .ok (.ifCond .eq 19, 3) := by decide +kernel
theorem dX12_readRoad_22 : decode cX12_readRoad 22 = .ok (.aload_n 0, 1) := by decide +kernel
theorem dX12_readRoad_23 : decode cX12_readRoad 23 = .ok (.aload_n 0, 1) := by decide +kernel
theorem dX12_readRoad_24 : decode cX12_readRoad 24 = .ok (.getfield 7, 3) := by decide +kernel
theorem dX12_readRoad_27 : decode cX12_readRoad 27 = .ok (.aload_n 0, 1) := by decide +kernel
theorem dX12_readRoad_28 : decode cX12_readRoad 28 = .ok (.getfield 156, 3) := by decide +kernel
theorem dX12_readRoad_31 : decode cX12_readRoad 31 = .ok (.iconst (-1), 1) := by decide +kernel
theorem dX12_readRoad_32 : decode cX12_readRoad 32 = .ok (.invokevirtual 344, 3) := by decide +kernel
theorem dX12_readRoad_35 : decode cX12_readRoad 35 = .ok (.ifCond .ne 5, 3) := by decide +kernel
theorem dX12_readRoad_38 : decode cX12_readRoad 38 = .ok (.iconst 0, 1) := by decide +kernel
theorem dX12_readRoad_39 : decode cX12_readRoad 39 = .ok (.ireturn, 1) := by decide +kernel
theorem dX12_readRoad_40 : decode cX12_readRoad 40 = .ok (.aload_n 0, 1) := by decide +kernel
theorem dX12_readRoad_41 : decode cX12_readRoad 41 = .ok (.getfield 13, 3) := by decide +kernel
theorem dX12_readRoad_44 : decode cX12_readRoad 44 = .ok (.aload_n 0, 1) := by decide +kernel
theorem dX12_readRoad_45 : decode cX12_readRoad 45 = .ok (.getfield 159, 3) := by decide +kernel
theorem dX12_readRoad_48 : decode cX12_readRoad 48 = .ok (.aload_n 0, 1) := by decide +kernel
theorem dX12_readRoad_49 : decode cX12_readRoad 49 = .ok (.getfield 327, 3) := by decide +kernel
theorem dX12_readRoad_52 : decode cX12_readRoad 52 = .ok (.iastore, 1) := by decide +kernel
theorem dX12_readRoad_53 : decode cX12_readRoad 53 = .ok (.aload_n 0, 1) := by decide +kernel
theorem dX12_readRoad_54 : decode cX12_readRoad 54 = .ok (.aload_n 0, 1) := by decide +kernel
theorem dX12_readRoad_55 : decode cX12_readRoad 55 = .ok (.getfield 7, 3) := by decide +kernel
theorem dX12_readRoad_58 : decode cX12_readRoad 58 = .ok (.aload_n 0, 1) := by decide +kernel
theorem dX12_readRoad_59 : decode cX12_readRoad 59 = .ok (.getfield 156, 3) := by decide +kernel
theorem dX12_readRoad_62 : decode cX12_readRoad 62 = .ok (.aload_n 0, 1) := by decide +kernel
theorem dX12_readRoad_63 : decode cX12_readRoad 63 = .ok (.getfield 327, 3) := by decide +kernel
theorem dX12_readRoad_66 : decode cX12_readRoad 66 = .ok (.invokevirtual 344, 3) := by decide +kernel
theorem dX12_readRoad_69 : decode cX12_readRoad 69 = .ok (.ifCond .ne 5, 3) := by decide +kernel
theorem dX12_readRoad_72 : decode cX12_readRoad 72 = .ok (.iconst 0, 1) := by decide +kernel
theorem dX12_readRoad_73 : decode cX12_readRoad 73 = .ok (.ireturn, 1) := by decide +kernel
theorem dX12_readRoad_74 : decode cX12_readRoad 74 = .ok (.aload_n 0, 1) := by decide +kernel
theorem dX12_readRoad_75 : decode cX12_readRoad 75 = .ok (.getfield 17, 3) := by decide +kernel
theorem dX12_readRoad_78 : decode cX12_readRoad 78 = .ok (.aload_n 0, 1) := by decide +kernel
theorem dX12_readRoad_79 : decode cX12_readRoad 79 = .ok (.getfield 159, 3) := by decide +kernel
theorem dX12_readRoad_82 : decode cX12_readRoad 82 = .ok (.aload_n 0, 1) := by decide +kernel
theorem dX12_readRoad_83 : decode cX12_readRoad 83 = .ok (.getfield 327, 3) := by decide +kernel
theorem dX12_readRoad_86 : decode cX12_readRoad 86 = .ok (.iastore, 1) := by decide +kernel
theorem dX12_readRoad_87 : decode cX12_readRoad 87 = .ok (.aload_n 0, 1) := by decide +kernel
theorem dX12_readRoad_88 : decode cX12_readRoad 88 = .ok (.iconst 1, 1) := by decide +kernel
theorem dX12_readRoad_89 : decode cX12_readRoad 89 = .ok (.bipush 60, 2) := by decide +kernel
theorem dX12_readRoad_91 : decode cX12_readRoad 91 = .ok (.invokevirtual 338, 3) := by decide +kernel
theorem dX12_readRoad_94 : decode cX12_readRoad 94 = .ok (.ifCond .ne 5, 3) := by decide +kernel
theorem dX12_readRoad_97 : decode cX12_readRoad 97 = .ok (.iconst 0, 1) := by decide +kernel
theorem dX12_readRoad_98 : decode cX12_readRoad 98 = .ok (.ireturn, 1) := by decide +kernel
theorem dX12_readRoad_99 : decode cX12_readRoad 99 = .ok (.aload_n 0, 1) := by decide +kernel
theorem dX12_readRoad_100 : decode cX12_readRoad 100 = .ok (.getfield 20, 3) := by decide +kernel
theorem dX12_readRoad_103 : decode cX12_readRoad 103 = .ok (.aload_n 0, 1) := by decide +kernel
theorem dX12_readRoad_104 : decode cX12_readRoad 104 = .ok (.getfield 159, 3) := by decide +kernel
theorem dX12_readRoad_107 : decode cX12_readRoad 107 = .ok (.aload_n 0, 1) := by decide +kernel
theorem dX12_readRoad_108 : decode cX12_readRoad 108 = .ok (.getfield 268, 3) := by decide +kernel
theorem dX12_readRoad_111 : decode cX12_readRoad 111 = .ok (.iastore, 1) := by decide +kernel
theorem dX12_readRoad_112 : decode cX12_readRoad 112 = .ok (.aload_n 0, 1) := by decide +kernel
theorem dX12_readRoad_113 : decode cX12_readRoad 113 = .ok (.dup, 1) := by decide +kernel
theorem dX12_readRoad_114 : decode cX12_readRoad 114 = .ok (.getfield 159, 3) := by decide +kernel
theorem dX12_readRoad_117 : decode cX12_readRoad 117 = .ok (.iconst 1, 1) := by decide +kernel
theorem dX12_readRoad_118 : decode cX12_readRoad 118 = .ok (.iadd, 1) := by decide +kernel
theorem dX12_readRoad_119 : decode cX12_readRoad 119 = .ok (.putfield 159, 3) := by decide +kernel
theorem dX12_readRoad_122 : decode cX12_readRoad 122 = .ok (.iconst 1, 1) := by decide +kernel
theorem dX12_readRoad_123 : decode cX12_readRoad 123 = .ok (.ireturn, 1) := by decide +kernel
theorem dX12_readStation_0 : decode cX12_readStation 0 = .ok (.aload_n 0, 1) := by decide +kernel
theorem dX12_readStation_1 : decode cX12_readStation 1 = .ok (.aload_n 0, 1) := by decide +kernel
theorem dX12_readStation_2 : decode cX12_readStation 2 = .ok (.getfield 162, 3) := by decide +kernel
theorem dX12_readStation_5 : decode cX12_readStation 5 = .ok (.bipush 6, 2) := by decide +kernel
theorem dX12_readStation_7 : decode cX12_readStation 7 = .ok (.if_icmp .ge 7, 3) := by decide +kernel
theorem dX12_readStation_10 : decode cX12_readStation 10 = .ok (.iconst 1, 1) := by decide +kernel
theorem dX12_readStation_11 : decode cX12_readStation 11 = .ok (.goto 4, 3) := by decide +kernel
theorem dX12_readStation_14 : decode cX12_readStation 14 = .ok (.iconst 0, 1) := by decide +kernel
theorem dX12_readStation_15 : decode cX12_readStation 15 = .ok (.iload_n 1, 1) := by decide +kernel
theorem dX12_readStation_16 : decode cX12_readStation 16 = .ok (.invokevirtual 334, 3) := by decide +kernel
theorem dX12_readStation_19 : decode cX12_readStation 19 = .ok (.ifCond .eq 36, 3) := by decide +kernel
theorem dX12_readStation_22 : decode cX12_readStation 22 = .ok (.aload_n 0, 1) := by decide +kernel
theorem dX12_readStation_23 : decode cX12_readStation 23 = .ok (.invokevirtual 341, 3) := by decide +kernel
theorem dX12_readStation_26 : decode cX12_readStation 26 = .ok (.ifCond .eq 29, 3) := by decide +kernel
theorem dX12_readStation_29 : decode cX12_readStation 29 = .ok (.aload_n 0, 1) := by decide +kernel
theorem dX12_readStation_30 : decode cX12_readStation 30 = .ok (.ldc_w 293, 3) := by decide +kernel
theorem dX12_readStation_33 : decode cX12_readStation 33 = .ok (.invokevirtual 348, 3) := by decide +kernel
theorem dX12_readStation_36 : decode cX12_readStation 36 = .ok (.ifCond .eq 19, 3) := by decide +kernel
theorem dX12_readStation_39 : decode cX12_readStation 39 = .ok (.aload_n 0, 1) := by decide +kernel
theorem dX12_readStation_40 : decode cX12_readStation 40 = .ok (.aload_n 0, 1) := by decide +kernel
theorem dX12_readStation_41 : decode cX12_readStation 41 = .ok (.getfield 7, 3) := by decide +kernel
theorem dX12_readStation_44 : decode cX12_readStation 44 = .ok (.aload_n 0, 1) := by decide +kernel
theorem dX12_readStation_45 : decode cX12_readStation 45 = .ok (.getfield 156, 3) := by decide +kernel
theorem dX12_readStation_48 : decode cX12_readStation 48 = .ok (.iconst (-1), 1) := by decide +kernel
theorem dX12_readStation_49 : decode cX12_readStation 49 = .ok (.invokevirtual 344, 3) := by decide +kernel
theorem dX12_readStation_52 : decode cX12_readStation 52 = .ok (.ifCond .ne 5, 3) := by decide +kernel
theorem dX12_readStation_55 : decode cX12_readStation 55 = .ok (.iconst 0, 1) := by decide +kernel
theorem dX12_readStation_56 : decode cX12_readStation 56 = .ok (.ireturn, 1) := by decide +kernel
theorem dX12_readStation_57 : decode cX12_readStation 57 = .ok (.aload_n 0, 1) := by decide +kernel
theorem dX12_readStation_58 : decode cX12_readStation 58 = .ok (.getfield 23, 3) := by decide +kernel
theorem dX12_readStation_61 : decode cX12_readStation 61 = .ok (.aload_n 0, 1) := by decide +kernel
theorem dX12_readStation_62 : decode cX12_readStation 62 = .ok (.getfield 162, 3) := by decide +kernel
theorem dX12_readStation_65 : decode cX12_readStation 65 = .ok (.aload_n 0, 1) := by decide +kernel
theorem dX12_readStation_66 : decode cX12_readStation 66 = .ok (.getfield 324, 3) := by decide +kernel
theorem dX12_readStation_69 : decode cX12_readStation 69 = .ok (.lastore, 1) := by decide +kernel
theorem dX12_readStation_70 : decode cX12_readStation 70 = .ok (.aload_n 0, 1) := by decide +kernel
theorem dX12_readStation_71 : decode cX12_readStation 71 = .ok (.getfield 26, 3) := by decide +kernel
theorem dX12_readStation_74 : decode cX12_readStation 74 = .ok (.aload_n 0, 1) := by decide +kernel
theorem dX12_readStation_75 : decode cX12_readStation 75 = .ok (.getfield 162, 3) := by decide +kernel
theorem dX12_readStation_78 : decode cX12_readStation 78 = .ok (.aload_n 0, 1) := by decide +kernel
theorem dX12_readStation_79 : decode cX12_readStation 79 = .ok (.getfield 327, 3) := by decide +kernel
theorem dX12_readStation_82 : decode cX12_readStation 82 = .ok (.iastore, 1) := by decide +kernel
theorem dX12_readStation_83 : decode cX12_readStation 83 = .ok (.aload_n 0, 1) := by decide +kernel
theorem dX12_readStation_84 : decode cX12_readStation 84 = .ok (.dup, 1) := by decide +kernel
theorem dX12_readStation_85 : decode cX12_readStation 85 = .ok (.getfield 162, 3) := by decide +kernel
theorem dX12_readStation_88 : decode cX12_readStation 88 = .ok (.iconst 1, 1) := by decide +kernel
theorem dX12_readStation_89 : decode cX12_readStation 89 = .ok (.iadd, 1) := by decide +kernel
theorem dX12_readStation_90 : decode cX12_readStation 90 = .ok (.putfield 162, 3) := by decide +kernel
theorem dX12_readStation_93 : decode cX12_readStation 93 = .ok (.iconst 1, 1) := by decide +kernel
theorem dX12_readStation_94 : decode cX12_readStation 94 = .ok (.ireturn, 1) := by decide +kernel
theorem dX12_needsSort_0 : decode cX12_needsSort 0 = .ok (.aload_n 0, 1) := by decide +kernel
theorem dX12_needsSort_1 : decode cX12_needsSort 1 = .ok (.aload_n 0, 1) := by decide +kernel
theorem dX12_needsSort_2 : decode cX12_needsSort 2 = .ok (.invokevirtual 306, 3) := by decide +kernel
theorem dX12_needsSort_5 : decode cX12_needsSort 5 = .ok (.putfield 351, 3) := by decide +kernel
theorem dX12_needsSort_8 : decode cX12_needsSort 8 = .ok (.aload_n 0, 1) := by decide +kernel
theorem dX12_needsSort_9 : decode cX12_needsSort 9 = .ok (.getfield 351, 3) := by decide +kernel
theorem dX12_needsSort_12 : decode cX12_needsSort 12 = .ok (.iconst (-1), 1) := by decide +kernel
theorem dX12_needsSort_13 : decode cX12_needsSort 13 = .ok (.if_icmp .ne 13, 3) := by decide +kernel
theorem dX12_needsSort_16 : decode cX12_needsSort 16 = .ok (.aload_n 0, 1) := by decide +kernel
theorem dX12_needsSort_17 : decode cX12_needsSort 17 = .ok (.iconst 1, 1) := by decide +kernel
theorem dX12_needsSort_18 : decode cX12_needsSort 18 = .ok (.aload_n 0, 1) := by decide +kernel
theorem dX12_needsSort_19 : decode cX12_needsSort 19 = .ok (.getfield 221, 3) := by decide +kernel
theorem dX12_needsSort_22 : decode cX12_needsSort 22 = .ok (.invokevirtual 264, 3) := by decide +kernel
theorem dX12_needsSort_25 : decode cX12_needsSort 25 = .ok (.ireturn, 1) := by decide +kernel
theorem dX12_needsSort_26 : decode cX12_needsSort 26 = .ok (.aload_n 0, 1) := by decide +kernel
theorem dX12_needsSort_27 : decode cX12_needsSort 27 = .ok (.invokevirtual 258, 3) := by decide +kernel
theorem dX12_needsSort_30 : decode cX12_needsSort 30 = .ok (.iconst 1, 1) := by decide +kernel
theorem dX12_needsSort_31 : decode cX12_needsSort 31 = .ok (.ireturn, 1) := by decide +kernel
theorem dX12_readEngine_0 : decode cX12_readEngine 0 = .ok (.aload_n 0, 1) := by decide +kernel
theorem dX12_readEngine_1 : decode cX12_readEngine 1 = .ok (.aload_n 0, 1) := by decide +kernel
theorem dX12_readEngine_2 : decode cX12_readEngine 2 = .ok (.getfield 165, 3) := by decide +kernel
theorem dX12_readEngine_5 : decode cX12_readEngine 5 = .ok (.bipush 10, 2) := by decide +kernel
theorem dX12_readEngine_7 : decode cX12_readEngine 7 = .ok (.if_icmp .ge 7, 3) := by decide +kernel
theorem dX12_readEngine_10 : decode cX12_readEngine 10 = .ok (.iconst 1, 1) := by decide +kernel
theorem dX12_readEngine_11 : decode cX12_readEngine 11 = .ok (.goto 4, 3) := by decide +kernel
theorem dX12_readEngine_14 : decode cX12_readEngine 14 = .ok (.iconst 0, 1) := by decide +kernel
theorem dX12_readEngine_15 : decode cX12_readEngine 15 = .ok (.iload_n 1, 1) := by decide +kernel
theorem dX12_readEngine_16 : decode cX12_readEngine 16 = .ok (.invokevirtual 334, 3) := by decide +kernel
theorem dX12_readEngine_19 : decode cX12_readEngine 19 = .ok (.ifCond .eq 43, 3) := by decide +kernel
theorem dX12_readEngine_22 : decode cX12_readEngine 22 = .ok (.aload_n 0, 1) := by decide +kernel
theorem dX12_readEngine_23 : decode cX12_readEngine 23 = .ok (.invokevirtual 341, 3) := by decide +kernel
theorem dX12_readEngine_26 : decode cX12_readEngine 26 = .ok (.ifCond .eq 36, 3) := by decide +kernel
theorem dX12_readEngine_29 : decode cX12_readEngine 29 = .ok (.aload_n 0, 1) := by decide +kernel
theorem dX12_readEngine_30 : decode cX12_readEngine 30 = .ok (.invokevirtual 354, 3) := by decide +kernel
theorem dX12_readEngine_33 : decode cX12_readEngine 33 = .ok (.ifCond .eq 29, 3) := by decide +kernel
theorem dX12_readEngine_36 : decode cX12_readEngine 36 = .ok (.aload_n 0, 1) := by decide +kernel
theorem dX12_readEngine_37 : decode cX12_readEngine 37 = .ok (.ldc_w 293, 3) := by decide +kernel
theorem dX12_readEngine_40 : decode cX12_readEngine 40 = .ok (.invokevirtual 348, 3) := by decide +kernel
theorem dX12_readEngine_43 : decode cX12_readEngine 43 = .ok (.ifCond .eq 19, 3) := by decide +kernel
theorem dX12_readEngine_46 : decode cX12_readEngine 46 = .ok (.aload_n 0, 1) := by decide +kernel
theorem dX12_readEngine_47 : decode cX12_readEngine 47 = .ok (.aload_n 0, 1) := by decide +kernel
theorem dX12_readEngine_48 : decode cX12_readEngine 48 = .ok (.getfield 23, 3) := by decide +kernel
theorem dX12_readEngine_51 : decode cX12_readEngine 51 = .ok (.aload_n 0, 1) := by decide +kernel
theorem dX12_readEngine_52 : decode cX12_readEngine 52 = .ok (.getfield 162, 3) := by decide +kernel
theorem dX12_readEngine_55 : decode cX12_readEngine 55 = .ok (.iconst (-1), 1) := by decide +kernel
theorem dX12_readEngine_56 : decode cX12_readEngine 56 = .ok (.invokevirtual 344, 3) := by decide +kernel
theorem dX12_readEngine_59 : decode cX12_readEngine 59 = .ok (.ifCond .ne 5, 3) := by decide +kernel
theorem dX12_readEngine_62 : decode cX12_readEngine 62 = .ok (.iconst 0, 1) := by decide +kernel
theorem dX12_readEngine_63 : decode cX12_readEngine 63 = .ok (.ireturn, 1) := by decide +kernel
theorem dX12_readEngine_64 : decode cX12_readEngine 64 = .ok (.aload_n 0, 1) := by decide +kernel
theorem dX12_readEngine_65 : decode cX12_readEngine 65 = .ok (.getfield 29, 3) := by decide +kernel
theorem dX12_readEngine_68 : decode cX12_readEngine 68 = .ok (.aload_n 0, 1) := by decide +kernel
theorem dX12_readEngine_69 : decode cX12_readEngine 69 = .ok (.getfield 165, 3) := by decide +kernel
theorem dX12_readEngine_72 : decode cX12_readEngine 72 = .ok (.aload_n 0, 1) := by decide +kernel
theorem dX12_readEngine_73 : decode cX12_readEngine 73 = .ok (.getfield 324, 3) := by decide +kernel
theorem dX12_readEngine_76 : decode cX12_readEngine 76 = .ok (.lastore, 1) := by decide +kernel
theorem dX12_readEngine_77 : decode cX12_readEngine 77 = .ok (.aload_n 0, 1) := by decide +kernel
theorem dX12_readEngine_78 : decode cX12_readEngine 78 = .ok (.getfield 32, 3) := by decide +kernel
theorem dX12_readEngine_81 : decode cX12_readEngine 81 = .ok (.aload_n 0, 1) := by decide +kernel
theorem dX12_readEngine_82 : decode cX12_readEngine 82 = .ok (.getfield 165, 3) := by decide +kernel
theorem dX12_readEngine_85 : decode cX12_readEngine 85 = .ok (.aload_n 0, 1) := by decide +kernel
theorem dX12_readEngine_86 : decode cX12_readEngine 86 = .ok (.getfield 351, 3) := by decide +kernel
theorem dX12_readEngine_89 : decode cX12_readEngine 89 = .ok (.iastore, 1) := by decide +kernel
theorem dX12_readEngine_90 : decode cX12_readEngine 90 = .ok (.aload_n 0, 1) := by decide +kernel
theorem dX12_readEngine_91 : decode cX12_readEngine 91 = .ok (.getfield 35, 3) := by decide +kernel
theorem dX12_readEngine_94 : decode cX12_readEngine 94 = .ok (.aload_n 0, 1) := by decide +kernel
theorem dX12_readEngine_95 : decode cX12_readEngine 95 = .ok (.getfield 165, 3) := by decide +kernel
theorem dX12_readEngine_98 : decode cX12_readEngine 98 = .ok (.aload_n 0, 1) := by decide +kernel
theorem dX12_readEngine_99 : decode cX12_readEngine 99 = .ok (.getfield 327, 3) := by decide +kernel
theorem dX12_readEngine_102 : decode cX12_readEngine 102 = .ok (.iastore, 1) := by decide +kernel
theorem dX12_readEngine_103 : decode cX12_readEngine 103 = .ok (.aload_n 0, 1) := by decide +kernel
theorem dX12_readEngine_104 : decode cX12_readEngine 104 = .ok (.dup, 1) := by decide +kernel
theorem dX12_readEngine_105 : decode cX12_readEngine 105 = .ok (.getfield 165, 3) := by decide +kernel
theorem dX12_readEngine_108 : decode cX12_readEngine 108 = .ok (.iconst 1, 1) := by decide +kernel
theorem dX12_readEngine_109 : decode cX12_readEngine 109 = .ok (.iadd, 1) := by decide +kernel
theorem dX12_readEngine_110 : decode cX12_readEngine 110 = .ok (.putfield 165, 3) := by decide +kernel
theorem dX12_readEngine_113 : decode cX12_readEngine 113 = .ok (.iconst 1, 1) := by decide +kernel
theorem dX12_readEngine_114 : decode cX12_readEngine 114 = .ok (.ireturn, 1) := by decide +kernel
theorem dX12_readStreet_0 : decode cX12_readStreet 0 = .ok (.aload_n 0, 1) := by decide +kernel
theorem dX12_readStreet_1 : decode cX12_readStreet 1 = .ok (.aload_n 0, 1) := by decide +kernel
theorem dX12_readStreet_2 : decode cX12_readStreet 2 = .ok (.getfield 168, 3) := by decide +kernel
theorem dX12_readStreet_5 : decode cX12_readStreet 5 = .ok (.bipush 12, 2) := by decide +kernel
theorem dX12_readStreet_7 : decode cX12_readStreet 7 = .ok (.if_icmp .ge 7, 3) := by decide +kernel
theorem dX12_readStreet_10 : decode cX12_readStreet 10 = .ok (.iconst 1, 1) := by decide +kernel
theorem dX12_readStreet_11 : decode cX12_readStreet 11 = .ok (.goto 4, 3) := by decide +kernel
theorem dX12_readStreet_14 : decode cX12_readStreet 14 = .ok (.iconst 0, 1) := by decide +kernel
theorem dX12_readStreet_15 : decode cX12_readStreet 15 = .ok (.iload_n 1, 1) := by decide +kernel
theorem dX12_readStreet_16 : decode cX12_readStreet 16 = .ok (.invokevirtual 334, 3) := by decide +kernel
theorem dX12_readStreet_19 : decode cX12_readStreet 19 = .ok (.ifCond .eq 19, 3) := by decide +kernel
theorem dX12_readStreet_22 : decode cX12_readStreet 22 = .ok (.aload_n 0, 1) := by decide +kernel
theorem dX12_readStreet_23 : decode cX12_readStreet 23 = .ok (.aload_n 0, 1) := by decide +kernel
theorem dX12_readStreet_24 : decode cX12_readStreet 24 = .ok (.getfield 7, 3) := by decide +kernel
theorem dX12_readStreet_27 : decode cX12_readStreet 27 = .ok (.aload_n 0, 1) := by decide +kernel
theorem dX12_readStreet_28 : decode cX12_readStreet 28 = .ok (.getfield 156, 3) := by decide +kernel
theorem dX12_readStreet_31 : decode cX12_readStreet 31 = .ok (.iconst (-1), 1) := by decide +kernel
theorem dX12_readStreet_32 : decode cX12_readStreet 32 = .ok (.invokevirtual 344, 3) := by decide +kernel
theorem dX12_readStreet_35 : decode cX12_readStreet 35 = .ok (.ifCond .ne 5, 3) := by decide +kernel
theorem dX12_readStreet_38 : decode cX12_readStreet 38 = .ok (.iconst 0, 1) := by decide +kernel
theorem dX12_readStreet_39 : decode cX12_readStreet 39 = .ok (.ireturn, 1) := by decide +kernel
theorem dX12_readStreet_40 : decode cX12_readStreet 40 = .ok (.aload_n 0, 1) := by decide +kernel
theorem dX12_readStreet_41 : decode cX12_readStreet 41 = .ok (.getfield 38, 3) := by decide +kernel
theorem dX12_readStreet_44 : decode cX12_readStreet 44 = .ok (.aload_n 0, 1) := by decide +kernel
theorem dX12_readStreet_45 : decode cX12_readStreet 45 = .ok (.getfield 168, 3) := by decide +kernel
theorem dX12_readStreet_48 : decode cX12_readStreet 48 = .ok (.aload_n 0, 1) := by decide +kernel
theorem dX12_readStreet_49 : decode cX12_readStreet 49 = .ok (.getfield 327, 3) := by decide +kernel
theorem dX12_readStreet_52 : decode cX12_readStreet 52 = .ok (.iastore, 1) := by decide +kernel
theorem dX12_readStreet_53 : decode cX12_readStreet 53 = .ok (.aload_n 0, 1) := by decide +kernel
theorem dX12_readStreet_54 : decode cX12_readStreet 54 = .ok (.ldc_w 295, 3) := by decide +kernel
theorem dX12_readStreet_57 : decode cX12_readStreet 57 = .ok (.invokevirtual 348, 3) := by decide +kernel
theorem dX12_readStreet_60 : decode cX12_readStreet 60 = .ok (.ifCond .eq 13, 3) := by decide +kernel
theorem dX12_readStreet_63 : decode cX12_readStreet 63 = .ok (.aload_n 0, 1) := by decide +kernel
theorem dX12_readStreet_64 : decode cX12_readStreet 64 = .ok (.iconst 0, 1) := by decide +kernel
theorem dX12_readStreet_65 : decode cX12_readStreet 65 = .ok (.bipush 120, 2) := by decide +kernel
theorem dX12_readStreet_67 : decode cX12_readStreet 67 = .ok (.invokevirtual 338, 3) := by decide +kernel
theorem dX12_readStreet_70 : decode cX12_readStreet 70 = .ok (.ifCond .ne 5, 3) := by decide +kernel
theorem dX12_readStreet_73 : decode cX12_readStreet 73 = .ok (.iconst 0, 1) := by decide +kernel
theorem dX12_readStreet_74 : decode cX12_readStreet 74 = .ok (.ireturn, 1) := by decide +kernel
theorem dX12_readStreet_75 : decode cX12_readStreet 75 = .ok (.aload_n 0, 1) := by decide +kernel
theorem dX12_readStreet_76 : decode cX12_readStreet 76 = .ok (.getfield 41, 3) := by decide +kernel
theorem dX12_readStreet_79 : decode cX12_readStreet 79 = .ok (.aload_n 0, 1) := by decide +kernel
theorem dX12_readStreet_80 : decode cX12_readStreet 80 = .ok (.getfield 168, 3) := by decide +kernel
theorem dX12_readStreet_83 : decode cX12_readStreet 83 = .ok (.aload_n 0, 1) := by decide +kernel
theorem dX12_readStreet_84 : decode cX12_readStreet 84 = .ok (.getfield 268, 3) := by decide +kernel
theorem dX12_readStreet_87 : decode cX12_readStreet 87 = .ok (.iastore, 1) := by decide +kernel
theorem dX12_readStreet_88 : decode cX12_readStreet 88 = .ok (.aload_n 0, 1) := by decide +kernel
theorem dX12_readStreet_89 : decode cX12_readStreet 89 = .ok (.getfield 44, 3) := by decide +kernel
theorem dX12_readStreet_92 : decode cX12_readStreet 92 = .ok (.aload_n 0, 1) := by decide +kernel
theorem dX12_readStreet_93 : decode cX12_readStreet 93 = .ok (.getfield 168, 3) := by decide +kernel
theorem dX12_readStreet_96 : decode cX12_readStreet 96 = .ok (.aload_n 0, 1) := by decide +kernel
theorem dX12_readStreet_97 : decode cX12_readStreet 97 = .ok (.invokevirtual 306, 3) := by decide +kernel
theorem dX12_readStreet_100 : decode cX12_readStreet 100 = .ok (.iastore, 1) := by decide +kernel
theorem dX12_readStreet_101 : decode cX12_readStreet 101 = .ok (.aload_n 0, 1) := by decide +kernel
theorem dX12_readStreet_102 : decode cX12_readStreet 102 = .ok (.getfield 44, 3) := by decide +kernel
theorem dX12_readStreet_105 : decode cX12_readStreet 105 = .ok (.aload_n 0, 1) := by decide +kernel
theorem dX12_readStreet_106 : decode cX12_readStreet 106 = .ok (.getfield 168, 3) := by decide +kernel
theorem dX12_readStreet_109 : decode cX12_readStreet 109 = .ok (.iaload, 1) := by decide +kernel
theorem dX12_readStreet_110 : decode cX12_readStreet 110 = .ok (.iconst (-1), 1) := by decide +kernel
theorem dX12_readStreet_111 : decode cX12_readStreet 111 = .ok (.if_icmp .eq 7, 3) := by decide +kernel
theorem dX12_readStreet_114 : decode cX12_readStreet 114 = .ok (.aload_n 0, 1) := by decide +kernel
theorem dX12_readStreet_115 : decode cX12_readStreet 115 = .ok (.invokevirtual 258, 3) := by decide +kernel
theorem dX12_readStreet_118 : decode cX12_readStreet 118 = .ok (.aload_n 0, 1) := by decide +kernel
theorem dX12_readStreet_119 : decode cX12_readStreet 119 = .ok (.dup, 1) := by decide +kernel
theorem dX12_readStreet_120 : decode cX12_readStreet 120 = .ok (.getfield 168, 3) := by decide +kernel
theorem dX12_readStreet_123 : decode cX12_readStreet 123 = .ok (.iconst 1, 1) := by decide +kernel
theorem dX12_readStreet_124 : decode cX12_readStreet 124 = .ok (.iadd, 1) := by decide +kernel
theorem dX12_readStreet_125 : decode cX12_readStreet 125 = .ok (.putfield 168, 3) := by decide +kernel
theorem dX12_readStreet_128 : decode cX12_readStreet 128 = .ok (.iconst 1, 1) := by decide +kernel
theorem dX12_readStreet_129 : decode cX12_readStreet 129 = .ok (.ireturn, 1) := by decide +kernel
theorem dX12_readHoses_0 : decode cX12_readHoses 0 = .ok (.aload_n 0, 1) := by decide +kernel
theorem dX12_readHoses_1 : decode cX12_readHoses 1 = .ok (.aload_n 0, 1) := by decide +kernel
theorem dX12_readHoses_2 : decode cX12_readHoses 2 = .ok (.getfield 357, 3) := by decide +kernel
theorem dX12_readHoses_5 : decode cX12_readHoses 5 = .ok (.ifCond .ne 7, 3) := by decide +kernel
theorem dX12_readHoses_8 : decode cX12_readHoses 8 = .ok (.iconst 1, 1) := by decide +kernel
theorem dX12_readHoses_9 : decode cX12_readHoses 9 = .ok (.goto 4, 3) := by decide +kernel
theorem dX12_readHoses_12 : decode cX12_readHoses 12 = .ok (.iconst 0, 1) := by decide +kernel
theorem dX12_readHoses_13 : decode cX12_readHoses 13 = .ok (.iload_n 1, 1) := by decide +kernel
theorem dX12_readHoses_14 : decode cX12_readHoses 14 = .ok (.invokevirtual 334, 3) := by decide +kernel
theorem dX12_readHoses_17 : decode cX12_readHoses 17 = .ok (.ifCond .eq 13, 3) := by decide +kernel
theorem dX12_readHoses_20 : decode cX12_readHoses 20 = .ok (.aload_n 0, 1) := by decide +kernel
theorem dX12_readHoses_21 : decode cX12_readHoses 21 = .ok (.iconst 0, 1) := by decide +kernel
theorem dX12_readHoses_22 : decode cX12_readHoses 22 = .ok (.bipush 40, 2) := by decide +kernel
theorem dX12_readHoses_24 : decode cX12_readHoses 24 = .ok (.invokevirtual 338, 3) := by decide +kernel
theorem dX12_readHoses_27 : decode cX12_readHoses 27 = .ok (.ifCond .ne 5, 3) := by decide +kernel
theorem dX12_readHoses_30 : decode cX12_readHoses 30 = .ok (.iconst 0, 1) := by decide +kernel
theorem dX12_readHoses_31 : decode cX12_readHoses 31 = .ok (.ireturn, 1) := by decide +kernel
theorem dX12_readHoses_32 : decode cX12_readHoses 32 = .ok (.aload_n 0, 1) := by decide +kernel
theorem dX12_readHoses_33 : decode cX12_readHoses 33 = .ok (.iconst 1, 1) := by decide +kernel
theorem dX12_readHoses_34 : decode cX12_readHoses 34 = .ok (.putfield 357, 3) := by decide +kernel
theorem dX12_readHoses_37 : decode cX12_readHoses 37 = .ok (.aload_n 0, 1) := by decide +kernel
theorem dX12_readHoses_38 : decode cX12_readHoses 38 = .ok (.aload_n 0, 1) := by decide +kernel
theorem dX12_readHoses_39 : decode cX12_readHoses 39 = .ok (.getfield 268, 3) := by decide +kernel
theorem dX12_readHoses_42 : decode cX12_readHoses 42 = .ok (.putfield 174, 3) := by decide +kernel
theorem dX12_readHoses_45 : decode cX12_readHoses 45 = .ok (.aload_n 0, 1) := by decide +kernel
theorem dX12_readHoses_46 : decode cX12_readHoses 46 = .ok (.ldc_w 296, 3) := by decide +kernel
theorem dX12_readHoses_49 : decode cX12_readHoses 49 = .ok (.invokevirtual 348, 3) := by decide +kernel
theorem dX12_readHoses_52 : decode cX12_readHoses 52 = .ok (.ifCond .eq 13, 3) := by decide +kernel
theorem dX12_readHoses_55 : decode cX12_readHoses 55 = .ok (.aload_n 0, 1) := by decide +kernel
theorem dX12_readHoses_56 : decode cX12_readHoses 56 = .ok (.iconst 1, 1) := by decide +kernel
theorem dX12_readHoses_57 : decode cX12_readHoses 57 = .ok (.bipush 12, 2) := by decide +kernel
theorem dX12_readHoses_59 : decode cX12_readHoses 59 = .ok (.invokevirtual 338, 3) := by decide +kernel
theorem dX12_readHoses_62 : decode cX12_readHoses 62 = .ok (.ifCond .ne 5, 3) := by decide +kernel
theorem dX12_readHoses_65 : decode cX12_readHoses 65 = .ok (.iconst 0, 1) := by decide +kernel
theorem dX12_readHoses_66 : decode cX12_readHoses 66 = .ok (.ireturn, 1) := by decide +kernel
theorem dX12_readHoses_67 : decode cX12_readHoses 67 = .ok (.aload_n 0, 1) := by decide +kernel
theorem dX12_readHoses_68 : decode cX12_readHoses 68 = .ok (.aload_n 0, 1) := by decide +kernel
theorem dX12_readHoses_69 : decode cX12_readHoses 69 = .ok (.getfield 268, 3) := by decide +kernel
theorem dX12_readHoses_72 : decode cX12_readHoses 72 = .ok (.putfield 177, 3) := by decide +kernel
theorem dX12_readHoses_75 : decode cX12_readHoses 75 = .ok (.aload_n 0, 1) := by decide +kernel
theorem dX12_readHoses_76 : decode cX12_readHoses 76 = .ok (.ldc_w 298, 3) := by decide +kernel
theorem dX12_readHoses_79 : decode cX12_readHoses 79 = .ok (.invokevirtual 348, 3) := by decide +kernel
theorem dX12_readHoses_82 : decode cX12_readHoses 82 = .ok (.ifCond .eq 13, 3) := by decide +kernel
theorem dX12_readHoses_85 : decode cX12_readHoses 85 = .ok (.aload_n 0, 1) := by decide +kernel
theorem dX12_readHoses_86 : decode cX12_readHoses 86 = .ok (.iconst 1, 1) := by decide +kernel
theorem dX12_readHoses_87 : decode cX12_readHoses 87 = .ok (.bipush 12, 2) := by decide +kernel
theorem dX12_readHoses_89 : decode cX12_readHoses 89 = .ok (.invokevirtual 338, 3) := by decide +kernel
theorem dX12_readHoses_92 : decode cX12_readHoses 92 = .ok (.ifCond .ne 5, 3) := by decide +kernel
theorem dX12_readHoses_95 : decode cX12_readHoses 95 = .ok (.iconst 0, 1) := by decide +kernel
theorem dX12_readHoses_96 : decode cX12_readHoses 96 = .ok (.ireturn, 1) := by decide +kernel
theorem dX12_readHoses_97 : decode cX12_readHoses 97 = .ok (.aload_n 0, 1) := by decide +kernel
theorem dX12_readHoses_98 : decode cX12_readHoses 98 = .ok (.aload_n 0, 1) := by decide +kernel
theorem dX12_readHoses_99 : decode cX12_readHoses 99 = .ok (.getfield 268, 3) := by decide +kernel
theorem dX12_readHoses_102 : decode cX12_readHoses 102 = .ok (.putfield 180, 3) := by decide +kernel
theorem dX12_readHoses_105 : decode cX12_readHoses 105 = .ok (.iconst 1, 1) := by decide +kernel
theorem dX12_readHoses_106 : decode cX12_readHoses 106 = .ok (.ireturn, 1) := by decide +kernel
theorem dX12_readNeeds_0 : decode cX12_readNeeds 0 = .ok (.iconst 0, 1) := by decide +kernel
theorem dX12_readNeeds_1 : decode cX12_readNeeds 1 = .ok (.istore_n 2, 1) := by decide +kernel
theorem dX12_readNeeds_2 : decode cX12_readNeeds 2 = .ok (.iload_n 2, 1) := by decide +kernel
theorem dX12_readNeeds_3 : decode cX12_readNeeds 3 = .ok (.iconst 3, 1) := by decide +kernel
theorem dX12_readNeeds_4 : decode cX12_readNeeds 4 = .ok (.if_icmp .ge 20, 3) := by decide +kernel
theorem dX12_readNeeds_7 : decode cX12_readNeeds 7 = .ok (.aload_n 0, 1) := by decide +kernel
theorem dX12_readNeeds_8 : decode cX12_readNeeds 8 = .ok (.getfield 56, 3) := by decide +kernel
theorem dX12_readNeeds_11 : decode cX12_readNeeds 11 = .ok (.iconst 3, 1) := by decide +kernel
theorem dX12_readNeeds_12 : decode cX12_readNeeds 12 = .ok (.iload_n 1, 1) := by decide +kernel
theorem dX12_readNeeds_13 : decode cX12_readNeeds 13 = .ok (.imul, 1) := by decide +kernel
theorem dX12_readNeeds_14 : decode cX12_readNeeds 14 = .ok (.iload_n 2, 1) := by decide +kernel
theorem dX12_readNeeds_15 : decode cX12_readNeeds 15 = .ok (.iadd, 1) := by decide +kernel
theorem dX12_readNeeds_16 : decode cX12_readNeeds 16 = .ok (.iconst 0, 1) := by decide +kernel
theorem dX12_readNeeds_17 : decode cX12_readNeeds 17 = .ok (.iastore, 1) := by decide +kernel
theorem dX12_readNeeds_18 : decode cX12_readNeeds 18 = .ok (.iinc 2 1, 3) := by decide +kernel
theorem dX12_readNeeds_21 : decode cX12_readNeeds 21 = .ok (.goto (-19), 3) := by decide +kernel
theorem dX12_readNeeds_24 : decode cX12_readNeeds 24 = .ok (.iconst 1, 1) := by decide +kernel
theorem dX12_readNeeds_25 : decode cX12_readNeeds 25 = .ok (.istore_n 2, 1) := by decide +kernel
theorem dX12_readNeeds_26 : decode cX12_readNeeds 26 = .ok (.iload_n 2, 1) := by decide +kernel
theorem dX12_readNeeds_27 : decode cX12_readNeeds 27 = .ok (.ifCond .eq 80, 3) := by decide +kernel
theorem dX12_readNeeds_30 : decode cX12_readNeeds 30 = .ok (.aload_n 0, 1) := by decide +kernel
theorem dX12_readNeeds_31 : decode cX12_readNeeds 31 = .ok (.iconst 1, 1) := by decide +kernel
theorem dX12_readNeeds_32 : decode cX12_readNeeds 32 = .ok (.iconst 4, 1) := by decide +kernel
theorem dX12_readNeeds_33 : decode cX12_readNeeds 33 = .ok (.invokevirtual 338, 3) := by decide +kernel
theorem dX12_readNeeds_36 : decode cX12_readNeeds 36 = .ok (.ifCond .ne 5, 3) := by decide +kernel
theorem dX12_readNeeds_39 : decode cX12_readNeeds 39 = .ok (.iconst 0, 1) := by decide +kernel
theorem dX12_readNeeds_40 : decode cX12_readNeeds 40 = .ok (.ireturn, 1) := by decide +kernel
theorem dX12_readNeeds_41 : decode cX12_readNeeds 41 = .ok (.aload_n 0, 1) := by decide +kernel
theorem dX12_readNeeds_42 : decode cX12_readNeeds 42 = .ok (.getfield 268, 3) := by decide +kernel
theorem dX12_readNeeds_45 : decode cX12_readNeeds 45 = .ok (.istore_n 3, 1) := by decide +kernel
theorem dX12_readNeeds_46 : decode cX12_readNeeds 46 = .ok (.aload_n 0, 1) := by decide +kernel
theorem dX12_readNeeds_47 : decode cX12_readNeeds 47 = .ok (.getfield 221, 3) := by decide +kernel
theorem dX12_readNeeds_50 : decode cX12_readNeeds 50 = .ok (.istore 4, 2) := by decide +kernel
theorem dX12_readNeeds_52 : decode cX12_readNeeds 52 = .ok (.aload_n 0, 1) := by decide +kernel
theorem dX12_readNeeds_53 : decode cX12_readNeeds 53 = .ok (.invokevirtual 354, 3) := by decide +kernel
theorem dX12_readNeeds_56 : decode cX12_readNeeds 56 = .ok (.ifCond .ne 5, 3) := by decide +kernel
theorem dX12_readNeeds_59 : decode cX12_readNeeds 59 = .ok (.iconst 0, 1) := by decide +kernel
theorem dX12_readNeeds_60 : decode cX12_readNeeds 60 = .ok (.ireturn, 1) := by decide +kernel
theorem dX12_readNeeds_61 : decode cX12_readNeeds 61 = .ok (.aload_n 0, 1) := by decide +kernel
theorem dX12_readNeeds_62 : decode cX12_readNeeds 62 = .ok (.getfield 56, 3) := by decide +kernel
theorem dX12_readNeeds_65 : decode cX12_readNeeds 65 = .ok (.iconst 3, 1) := by decide +kernel
theorem dX12_readNeeds_66 : decode cX12_readNeeds 66 = .ok (.iload_n 1, 1) := by decide +kernel
theorem dX12_readNeeds_67 : decode cX12_readNeeds 67 = .ok (.imul, 1) := by decide +kernel
theorem dX12_readNeeds_68 : decode cX12_readNeeds 68 = .ok (.aload_n 0, 1) := by decide +kernel
theorem dX12_readNeeds_69 : decode cX12_readNeeds 69 = .ok (.getfield 351, 3) := by decide +kernel
theorem dX12_readNeeds_72 : decode cX12_readNeeds 72 = .ok (.iadd, 1) := by decide +kernel
theorem dX12_readNeeds_73 : decode cX12_readNeeds 73 = .ok (.iaload, 1) := by decide +kernel
theorem dX12_readNeeds_74 : decode cX12_readNeeds 74 = .ok (.ifCond .le 11, 3) := by decide +kernel
theorem dX12_readNeeds_77 : decode cX12_readNeeds 77 = .ok (.aload_n 0, 1) := by decide +kernel
theorem dX12_readNeeds_78 : decode cX12_readNeeds 78 = .ok (.iconst 3, 1) := by decide +kernel
theorem dX12_readNeeds_79 : decode cX12_readNeeds 79 = .ok (.iload 4, 2) := by decide +kernel
theorem dX12_readNeeds_81 : decode cX12_readNeeds 81 = .ok (.invokevirtual 264, 3) := by decide +kernel
theorem dX12_readNeeds_84 : decode cX12_readNeeds 84 = .ok (.ireturn, 1) := by decide +kernel
theorem dX12_readNeeds_85 : decode cX12_readNeeds 85 = .ok (.aload_n 0, 1) := by decide +kernel
theorem dX12_readNeeds_86 : decode cX12_readNeeds 86 = .ok (.getfield 56, 3) := by decide +kernel
theorem dX12_readNeeds_89 : decode cX12_readNeeds 89 = .ok (.iconst 3, 1) := by decide +kernel
theorem dX12_readNeeds_90 : decode cX12_readNeeds 90 = .ok (.iload_n 1, 1) := by decide +kernel
theorem dX12_readNeeds_91 : decode cX12_readNeeds 91 = .ok (.imul, 1) := by decide +kernel
theorem dX12_readNeeds_92 : decode cX12_readNeeds 92 = .ok (.aload_n 0, 1) := by decide +kernel
theorem dX12_readNeeds_93 : decode cX12_readNeeds 93 = .ok (.getfield 351, 3) := by decide +kernel
theorem dX12_readNeeds_96 : decode cX12_readNeeds 96 = .ok (.iadd, 1) := by decide +kernel
theorem dX12_readNeeds_97 : decode cX12_readNeeds 97 = .ok (.iload_n 3, 1) := by decide +kernel
theorem dX12_readNeeds_98 : decode cX12_readNeeds 98 = .ok (.iastore, 1) := by decide +kernel
theorem dX12_readNeeds_99 : decode cX12_readNeeds 99 = .ok (.aload_n 0, 1) := by decide +kernel
theorem dX12_readNeeds_100 : decode cX12_readNeeds 100 = .ok (.invokevirtual 360, 3) := by decide +kernel
theorem dX12_readNeeds_103 : decode cX12_readNeeds 103 = .ok (.istore_n 2, 1) := by decide +kernel
theorem dX12_readNeeds_104 : decode cX12_readNeeds 104 = .ok (.goto (-78), 3) := by decide +kernel
theorem dX12_readNeeds_107 : decode cX12_readNeeds 107 = .ok (.iconst 1, 1) := by decide +kernel
theorem dX12_readNeeds_108 : decode cX12_readNeeds 108 = .ok (.ireturn, 1) := by decide +kernel
theorem dX12_readAfter_0 : decode cX12_readAfter 0 = .ok (.iconst 1, 1) := by decide +kernel
theorem dX12_readAfter_1 : decode cX12_readAfter 1 = .ok (.istore_n 2, 1) := by decide +kernel
theorem dX12_readAfter_2 : decode cX12_readAfter 2 = .ok (.iload_n 2, 1) := by decide +kernel
theorem dX12_readAfter_3 : decode cX12_readAfter 3 = .ok (.ifCond .eq 72, 3) := by decide +kernel
theorem dX12_readAfter_6 : decode cX12_readAfter 6 = .ok (.aload_n 0, 1) := by decide +kernel
theorem dX12_readAfter_7 : decode cX12_readAfter 7 = .ok (.getfield 221, 3) := by decide +kernel
theorem dX12_readAfter_10 : decode cX12_readAfter 10 = .ok (.istore_n 3, 1) := by decide +kernel
theorem dX12_readAfter_11 : decode cX12_readAfter 11 = .ok (.aload_n 0, 1) := by decide +kernel
theorem dX12_readAfter_12 : decode cX12_readAfter 12 = .ok (.aload_n 0, 1) := by decide +kernel
theorem dX12_readAfter_13 : decode cX12_readAfter 13 = .ok (.getfield 47, 3) := by decide +kernel
theorem dX12_readAfter_16 : decode cX12_readAfter 16 = .ok (.aload_n 0, 1) := by decide +kernel
theorem dX12_readAfter_17 : decode cX12_readAfter 17 = .ok (.getfield 171, 3) := by decide +kernel
theorem dX12_readAfter_20 : decode cX12_readAfter 20 = .ok (.iconst (-1), 1) := by decide +kernel
theorem dX12_readAfter_21 : decode cX12_readAfter 21 = .ok (.invokevirtual 344, 3) := by decide +kernel
theorem dX12_readAfter_24 : decode cX12_readAfter 24 = .ok (.ifCond .ne 5, 3) := by decide +kernel
theorem dX12_readAfter_27 : decode cX12_readAfter 27 = .ok (.iconst 0, 1) := by decide +kernel
theorem dX12_readAfter_28 : decode cX12_readAfter 28 = .ok (.ireturn, 1) := by decide +kernel
theorem dX12_readAfter_29 : decode cX12_readAfter 29 = .ok (.aload_n 0, 1) := by decide +kernel
theorem dX12_readAfter_30 : decode cX12_readAfter 30 = .ok (.getfield 62, 3) := by decide +kernel
theorem dX12_readAfter_33 : decode cX12_readAfter 33 = .ok (.iload_n 1, 1) := by decide +kernel
theorem dX12_readAfter_34 : decode cX12_readAfter 34 = .ok (.iaload, 1) := by decide +kernel
theorem dX12_readAfter_35 : decode cX12_readAfter 35 = .ok (.aload_n 0, 1) := by decide +kernel
theorem dX12_readAfter_36 : decode cX12_readAfter 36 = .ok (.getfield 327, 3) := by decide +kernel
theorem dX12_readAfter_39 : decode cX12_readAfter 39 = .ok (.invokestatic 363, 3) := by decide +kernel
theorem dX12_readAfter_42 : decode cX12_readAfter 42 = .ok (.ifCond .eq 10, 3) := by decide +kernel
theorem dX12_readAfter_45 : decode cX12_readAfter 45 = .ok (.aload_n 0, 1) := by decide +kernel
theorem dX12_readAfter_46 : decode cX12_readAfter 46 = .ok (.iconst 3, 1) := by decide +kernel
theorem dX12_readAfter_47 : decode cX12_readAfter 47 = .ok (.iload_n 3, 1) := by decide +kernel
theorem dX12_readAfter_48 : decode cX12_readAfter 48 = .ok (.invokevirtual 264, 3) := by decide +kernel
theorem dX12_readAfter_51 : decode cX12_readAfter 51 = .ok (.ireturn, 1) := by decide +kernel
theorem dX12_readAfter_52 : decode cX12_readAfter 52 = .ok (.aload_n 0, 1) := by decide +kernel
theorem dX12_readAfter_53 : decode cX12_readAfter 53 = .ok (.getfield 62, 3) := by decide +kernel
theorem dX12_readAfter_56 : decode cX12_readAfter 56 = .ok (.iload_n 1, 1) := by decide +kernel
theorem dX12_readAfter_57 : decode cX12_readAfter 57 = .ok (.dup2, 1) := by decide +kernel
theorem dX12_readAfter_58 : decode cX12_readAfter 58 = .ok (.iaload, 1) := by decide +kernel
theorem dX12_readAfter_59 : decode cX12_readAfter 59 = .ok (.iconst 1, 1) := by decide +kernel
theorem dX12_readAfter_60 : decode cX12_readAfter 60 = .ok (.aload_n 0, 1) := by decide +kernel
theorem dX12_readAfter_61 : decode cX12_readAfter 61 = .ok (.getfield 327, 3) := by decide +kernel
theorem dX12_readAfter_64 : decode cX12_readAfter 64 = .ok (.ishl, 1) := by decide +kernel
theorem dX12_readAfter_65 : decode cX12_readAfter 65 = .ok (.ior, 1) := by decide +kernel
theorem dX12_readAfter_66 : decode cX12_readAfter 66 = .ok (.iastore, 1) := by decide +kernel
theorem dX12_readAfter_67 : decode cX12_readAfter 67 = .ok (.aload_n 0, 1) := by decide +kernel
theorem dX12_readAfter_68 : decode cX12_readAfter 68 = .ok (.invokevirtual 360, 3) := by decide +kernel
theorem dX12_readAfter_71 : decode cX12_readAfter 71 = .ok (.istore_n 2, 1) := by decide +kernel
theorem dX12_readAfter_72 : decode cX12_readAfter 72 = .ok (.goto (-70), 3) := by decide +kernel
theorem dX12_readAfter_75 : decode cX12_readAfter 75 = .ok (.iconst 1, 1) := by decide +kernel
theorem dX12_readAfter_76 : decode cX12_readAfter 76 = .ok (.ireturn, 1) := by decide +kernel
theorem dX12_readDrill_0 : decode cX12_readDrill 0 = .ok (.aload_n 0, 1) := by decide +kernel
theorem dX12_readDrill_1 : decode cX12_readDrill 1 = .ok (.getfield 171, 3) := by decide +kernel
theorem dX12_readDrill_4 : decode cX12_readDrill 4 = .ok (.istore_n 2, 1) := by decide +kernel
theorem dX12_readDrill_5 : decode cX12_readDrill 5 = .ok (.aload_n 0, 1) := by decide +kernel
theorem dX12_readDrill_6 : decode cX12_readDrill 6 = .ok (.iload_n 2, 1) := by decide +kernel
theorem dX12_readDrill_7 : decode cX12_readDrill 7 = .ok (.iconst 5, 1) := by decide +kernel
theorem dX12_readDrill_8 : decode cX12_readDrill 8 = .ok (.if_icmp .ge 7, 3) := by decide +kernel
theorem dX12_readDrill_11 : decode cX12_readDrill 11 = .ok (.iconst 1, 1) := by decide +kernel
theorem dX12_readDrill_12 : decode cX12_readDrill 12 = .ok (.goto 4, 3) := by decide +kernel
theorem dX12_readDrill_15 : decode cX12_readDrill 15 = .ok (.iconst 0, 1) := by decide +kernel
theorem dX12_readDrill_16 : decode cX12_readDrill 16 = .ok (.iload_n 1, 1) := by decide +kernel
theorem dX12_readDrill_17 : decode cX12_readDrill 17 = .ok (.invokevirtual 334, 3) := by decide +kernel
theorem dX12_readDrill_20 : decode cX12_readDrill 20 = .ok (.ifCond .eq 36, 3) := by decide +kernel
theorem dX12_readDrill_23 : decode cX12_readDrill 23 = .ok (.aload_n 0, 1) := by decide +kernel
theorem dX12_readDrill_24 : decode cX12_readDrill 24 = .ok (.invokevirtual 341, 3) := by decide +kernel
theorem dX12_readDrill_27 : decode cX12_readDrill 27 = .ok (.ifCond .eq 29, 3) := by decide +kernel
theorem dX12_readDrill_30 : decode cX12_readDrill 30 = .ok (.aload_n 0, 1) := by decide +kernel
theorem dX12_readDrill_31 : decode cX12_readDrill 31 = .ok (.ldc_w 293, 3) := by decide +kernel
theorem dX12_readDrill_34 : decode cX12_readDrill 34 = .ok (.invokevirtual 348, 3) := by decide +kernel
theorem dX12_readDrill_37 : decode cX12_readDrill 37 = .ok (.ifCond .eq 19, 3) := by decide +kernel
theorem dX12_readDrill_40 : decode cX12_readDrill 40 = .ok (.aload_n 0, 1) := by decide +kernel
theorem dX12_readDrill_41 : decode cX12_readDrill 41 = .ok (.aload_n 0, 1) := by decide +kernel
theorem dX12_readDrill_42 : decode cX12_readDrill 42 = .ok (.getfield 7, 3) := by decide +kernel
theorem dX12_readDrill_45 : decode cX12_readDrill 45 = .ok (.aload_n 0, 1) := by decide +kernel
theorem dX12_readDrill_46 : decode cX12_readDrill 46 = .ok (.getfield 156, 3) := by decide +kernel
theorem dX12_readDrill_49 : decode cX12_readDrill 49 = .ok (.iconst (-1), 1) := by decide +kernel
theorem dX12_readDrill_50 : decode cX12_readDrill 50 = .ok (.invokevirtual 344, 3) := by decide +kernel
theorem dX12_readDrill_53 : decode cX12_readDrill 53 = .ok (.ifCond .ne 5, 3) := by decide +kernel
theorem dX12_readDrill_56 : decode cX12_readDrill 56 = .ok (.iconst 0, 1) := by decide +kernel
theorem dX12_readDrill_57 : decode cX12_readDrill 57 = .ok (.ireturn, 1) := by decide +kernel
theorem dX12_readDrill_58 : decode cX12_readDrill 58 = .ok (.aload_n 0, 1) := by decide +kernel
theorem dX12_readDrill_59 : decode cX12_readDrill 59 = .ok (.getfield 47, 3) := by decide +kernel
theorem dX12_readDrill_62 : decode cX12_readDrill 62 = .ok (.iload_n 2, 1) := by decide +kernel
theorem dX12_readDrill_63 : decode cX12_readDrill 63 = .ok (.aload_n 0, 1) := by decide +kernel
theorem dX12_readDrill_64 : decode cX12_readDrill 64 = .ok (.getfield 324, 3) := by decide +kernel
theorem dX12_readDrill_67 : decode cX12_readDrill 67 = .ok (.lastore, 1) := by decide +kernel
theorem dX12_readDrill_68 : decode cX12_readDrill 68 = .ok (.aload_n 0, 1) := by decide +kernel
theorem dX12_readDrill_69 : decode cX12_readDrill 69 = .ok (.getfield 50, 3) := by decide +kernel
theorem dX12_readDrill_72 : decode cX12_readDrill 72 = .ok (.iload_n 2, 1) := by decide +kernel
theorem dX12_readDrill_73 : decode cX12_readDrill 73 = .ok (.aload_n 0, 1) := by decide +kernel
theorem dX12_readDrill_74 : decode cX12_readDrill 74 = .ok (.getfield 327, 3) := by decide +kernel
theorem dX12_readDrill_77 : decode cX12_readDrill 77 = .ok (.iastore, 1) := by decide +kernel
theorem dX12_readDrill_78 : decode cX12_readDrill 78 = .ok (.aload_n 0, 1) := by decide +kernel
theorem dX12_readDrill_79 : decode cX12_readDrill 79 = .ok (.ldc_w 300, 3) := by decide +kernel
theorem dX12_readDrill_82 : decode cX12_readDrill 82 = .ok (.invokevirtual 348, 3) := by decide +kernel
theorem dX12_readDrill_85 : decode cX12_readDrill 85 = .ok (.ifCond .eq 13, 3) := by decide +kernel
theorem dX12_readDrill_88 : decode cX12_readDrill 88 = .ok (.aload_n 0, 1) := by decide +kernel
theorem dX12_readDrill_89 : decode cX12_readDrill 89 = .ok (.iconst 1, 1) := by decide +kernel
theorem dX12_readDrill_90 : decode cX12_readDrill 90 = .ok (.bipush 8, 2) := by decide +kernel
theorem dX12_readDrill_92 : decode cX12_readDrill 92 = .ok (.invokevirtual 338, 3) := by decide +kernel
theorem dX12_readDrill_95 : decode cX12_readDrill 95 = .ok (.ifCond .ne 5, 3) := by decide +kernel
theorem dX12_readDrill_98 : decode cX12_readDrill 98 = .ok (.iconst 0, 1) := by decide +kernel
theorem dX12_readDrill_99 : decode cX12_readDrill 99 = .ok (.ireturn, 1) := by decide +kernel
theorem dX12_readDrill_100 : decode cX12_readDrill 100 = .ok (.aload_n 0, 1) := by decide +kernel
theorem dX12_readDrill_101 : decode cX12_readDrill 101 = .ok (.getfield 53, 3) := by decide +kernel
theorem dX12_readDrill_104 : decode cX12_readDrill 104 = .ok (.iload_n 2, 1) := by decide +kernel
theorem dX12_readDrill_105 : decode cX12_readDrill 105 = .ok (.aload_n 0, 1) := by decide +kernel
theorem dX12_readDrill_106 : decode cX12_readDrill 106 = .ok (.getfield 268, 3) := by decide +kernel
theorem dX12_readDrill_109 : decode cX12_readDrill 109 = .ok (.iastore, 1) := by decide +kernel
theorem dX12_readDrill_110 : decode cX12_readDrill 110 = .ok (.aload_n 0, 1) := by decide +kernel
theorem dX12_readDrill_111 : decode cX12_readDrill 111 = .ok (.ldc_w 301, 3) := by decide +kernel
theorem dX12_readDrill_114 : decode cX12_readDrill 114 = .ok (.invokevirtual 348, 3) := by decide +kernel
theorem dX12_readDrill_117 : decode cX12_readDrill 117 = .ok (.ifCond .eq 11, 3) := by decide +kernel
theorem dX12_readDrill_120 : decode cX12_readDrill 120 = .ok (.aload_n 0, 1) := by decide +kernel
theorem dX12_readDrill_121 : decode cX12_readDrill 121 = .ok (.iload_n 2, 1) := by decide +kernel
theorem dX12_readDrill_122 : decode cX12_readDrill 122 = .ok (.invokevirtual 366, 3) := by decide +kernel
theorem dX12_readDrill_125 : decode cX12_readDrill 125 = .ok (.ifCond .ne 5, 3) := by decide +kernel
theorem dX12_readDrill_128 : decode cX12_readDrill 128 = .ok (.iconst 0, 1) := by decide +kernel
theorem dX12_readDrill_129 : decode cX12_readDrill 129 = .ok (.ireturn, 1) := by decide +kernel
theorem dX12_readDrill_130 : decode cX12_readDrill 130 = .ok (.aload_n 0, 1) := by decide +kernel
theorem dX12_readDrill_131 : decode cX12_readDrill 131 = .ok (.getfield 59, 3) := by decide +kernel
theorem dX12_readDrill_134 : decode cX12_readDrill 134 = .ok (.iload_n 2, 1) := by decide +kernel
theorem dX12_readDrill_135 : decode cX12_readDrill 135 = .ok (.iconst 0, 1) := by decide +kernel
theorem dX12_readDrill_136 : decode cX12_readDrill 136 = .ok (.iastore, 1) := by decide +kernel
theorem dX12_readDrill_137 : decode cX12_readDrill 137 = .ok (.aload_n 0, 1) := by decide +kernel
theorem dX12_readDrill_138 : decode cX12_readDrill 138 = .ok (.getfield 62, 3) := by decide +kernel
theorem dX12_readDrill_141 : decode cX12_readDrill 141 = .ok (.iload_n 2, 1) := by decide +kernel
theorem dX12_readDrill_142 : decode cX12_readDrill 142 = .ok (.iconst 0, 1) := by decide +kernel
theorem dX12_readDrill_143 : decode cX12_readDrill 143 = .ok (.iastore, 1) := by decide +kernel
theorem dX12_readDrill_144 : decode cX12_readDrill 144 = .ok (.aload_n 0, 1) := by decide +kernel
theorem dX12_readDrill_145 : decode cX12_readDrill 145 = .ok (.getfield 65, 3) := by decide +kernel
theorem dX12_readDrill_148 : decode cX12_readDrill 148 = .ok (.iload_n 2, 1) := by decide +kernel
theorem dX12_readDrill_149 : decode cX12_readDrill 149 = .ok (.iconst 0, 1) := by decide +kernel
theorem dX12_readDrill_150 : decode cX12_readDrill 150 = .ok (.iastore, 1) := by decide +kernel
theorem dX12_readDrill_151 : decode cX12_readDrill 151 = .ok (.aload_n 0, 1) := by decide +kernel
theorem dX12_readDrill_152 : decode cX12_readDrill 152 = .ok (.ldc_w 302, 3) := by decide +kernel
theorem dX12_readDrill_155 : decode cX12_readDrill 155 = .ok (.invokevirtual 261, 3) := by decide +kernel
theorem dX12_readDrill_158 : decode cX12_readDrill 158 = .ok (.ifCond .eq 25, 3) := by decide +kernel
theorem dX12_readDrill_161 : decode cX12_readDrill 161 = .ok (.aload_n 0, 1) := by decide +kernel
theorem dX12_readDrill_162 : decode cX12_readDrill 162 = .ok (.iconst 0, 1) := by decide +kernel
theorem dX12_readDrill_163 : decode cX12_readDrill 163 = .ok (.bipush 40, 2) := by decide +kernel
theorem dX12_readDrill_165 : decode cX12_readDrill 165 = .ok (.invokevirtual 338, 3) := by decide +kernel
theorem dX12_readDrill_168 : decode cX12_readDrill 168 = .ok (.ifCond .ne 5, 3) := by decide +kernel
theorem dX12_readDrill_171 : decode cX12_readDrill 171 = .ok (.iconst 0, 1) := by decide +kernel
theorem dX12_readDrill_172 : decode cX12_readDrill 172 = .ok (.ireturn, 1) := by decide +kernel
theorem dX12_readDrill_173 : decode cX12_readDrill 173 = .ok (.aload_n 0, 1) := by decide +kernel
theorem dX12_readDrill_174 : decode cX12_readDrill 174 = .ok (.getfield 59, 3) := by decide +kernel
theorem dX12_readDrill_177 : decode cX12_readDrill 177 = .ok (.iload_n 2, 1) := by decide +kernel
theorem dX12_readDrill_178 : decode cX12_readDrill 178 = .ok (.aload_n 0, 1) := by decide +kernel
theorem dX12_readDrill_179 : decode cX12_readDrill 179 = .ok (.getfield 268, 3) := by decide +kernel
theorem dX12_readDrill_182 : decode cX12_readDrill 182 = .ok (.iastore, 1) := by decide +kernel
theorem dX12_readDrill_183 : decode cX12_readDrill 183 = .ok (.aload_n 0, 1) := by decide +kernel
theorem dX12_readDrill_184 : decode cX12_readDrill 184 = .ok (.ldc_w 304, 3) := by decide +kernel
theorem dX12_readDrill_187 : decode cX12_readDrill 187 = .ok (.invokevirtual 261, 3) := by decide +kernel
theorem dX12_readDrill_190 : decode cX12_readDrill 190 = .ok (.ifCond .eq 13, 3) := by decide +kernel
theorem dX12_readDrill_193 : decode cX12_readDrill 193 = .ok (.aload_n 0, 1) := by decide +kernel
theorem dX12_readDrill_194 : decode cX12_readDrill 194 = .ok (.iload_n 2, 1) := by decide +kernel
theorem dX12_readDrill_195 : decode cX12_readDrill 195 = .ok (.invokevirtual 370, 3) := by decide +kernel
theorem dX12_readDrill_198 : decode cX12_readDrill 198 = .ok (.ifCond .ne 5, 3) := by decide +kernel
theorem dX12_readDrill_201 : decode cX12_readDrill 201 = .ok (.iconst 0, 1) := by decide +kernel
theorem dX12_readDrill_202 : decode cX12_readDrill 202 = .ok (.ireturn, 1) := by decide +kernel
theorem dX12_readDrill_203 : decode cX12_readDrill 203 = .ok (.aload_n 0, 1) := by decide +kernel
theorem dX12_readDrill_204 : decode cX12_readDrill 204 = .ok (.ldc_w 305, 3) := by decide +kernel
theorem dX12_readDrill_207 : decode cX12_readDrill 207 = .ok (.invokevirtual 261, 3) := by decide +kernel
theorem dX12_readDrill_210 : decode cX12_readDrill 210 = .ok (.ifCond .eq 25, 3) := by decide +kernel
theorem dX12_readDrill_213 : decode cX12_readDrill 213 = .ok (.aload_n 0, 1) := by decide +kernel
theorem dX12_readDrill_214 : decode cX12_readDrill 214 = .ok (.iconst 0, 1) := by decide +kernel
theorem dX12_readDrill_215 : decode cX12_readDrill 215 = .ok (.bipush 23, 2) := by decide +kernel
theorem dX12_readDrill_217 : decode cX12_readDrill 217 = .ok (.invokevirtual 338, 3) := by decide +kernel
theorem dX12_readDrill_220 : decode cX12_readDrill 220 = .ok (.ifCond .ne 5, 3) := by decide +kernel
theorem dX12_readDrill_223 : decode cX12_readDrill 223 = .ok (.iconst 0, 1) := by decide +kernel
theorem dX12_readDrill_224 : decode cX12_readDrill 224 = .ok (.ireturn, 1) := by decide +kernel
theorem dX12_readDrill_225 : decode cX12_readDrill 225 = .ok (.aload_n 0, 1) := by decide +kernel
theorem dX12_readDrill_226 : decode cX12_readDrill 226 = .ok (.getfield 65, 3) := by decide +kernel
theorem dX12_readDrill_229 : decode cX12_readDrill 229 = .ok (.iload_n 2, 1) := by decide +kernel
theorem dX12_readDrill_230 : decode cX12_readDrill 230 = .ok (.aload_n 0, 1) := by decide +kernel
theorem dX12_readDrill_231 : decode cX12_readDrill 231 = .ok (.getfield 268, 3) := by decide +kernel
theorem dX12_readDrill_234 : decode cX12_readDrill 234 = .ok (.iastore, 1) := by decide +kernel
theorem dX12_readDrill_235 : decode cX12_readDrill 235 = .ok (.aload_n 0, 1) := by decide +kernel
theorem dX12_readDrill_236 : decode cX12_readDrill 236 = .ok (.dup, 1) := by decide +kernel
theorem dX12_readDrill_237 : decode cX12_readDrill 237 = .ok (.getfield 171, 3) := by decide +kernel
theorem dX12_readDrill_240 : decode cX12_readDrill 240 = .ok (.iconst 1, 1) := by decide +kernel
theorem dX12_readDrill_241 : decode cX12_readDrill 241 = .ok (.iadd, 1) := by decide +kernel
theorem dX12_readDrill_242 : decode cX12_readDrill 242 = .ok (.putfield 171, 3) := by decide +kernel
theorem dX12_readDrill_245 : decode cX12_readDrill 245 = .ok (.iconst 1, 1) := by decide +kernel
theorem dX12_readDrill_246 : decode cX12_readDrill 246 = .ok (.ireturn, 1) := by decide +kernel
theorem dX12_readStatement_0 : decode cX12_readStatement 0 = .ok (.aload_n 0, 1) := by decide +kernel
theorem dX12_readStatement_1 : decode cX12_readStatement 1 = .ok (.getfield 221, 3) := by decide +kernel
theorem dX12_readStatement_4 : decode cX12_readStatement 4 = .ok (.istore_n 1, 1) := by decide +kernel
theorem dX12_readStatement_5 : decode cX12_readStatement 5 = .ok (.aload_n 0, 1) := by decide +kernel
theorem dX12_readStatement_6 : decode cX12_readStatement 6 = .ok (.ldc_w 277, 3) := by decide +kernel
theorem dX12_readStatement_9 : decode cX12_readStatement 9 = .ok (.invokevirtual 261, 3) := by decide +kernel
theorem dX12_readStatement_12 : decode cX12_readStatement 12 = .ok (.ifCond .eq 9, 3) := by decide +kernel
theorem dX12_readStatement_15 : decode cX12_readStatement 15 = .ok (.aload_n 0, 1) := by decide +kernel
theorem dX12_readStatement_16 : decode cX12_readStatement 16 = .ok (.iload_n 1, 1) := by decide +kernel
theorem dX12_readStatement_17 : decode cX12_readStatement 17 = .ok (.invokevirtual 373, 3) := by decide +kernel
theorem dX12_readStatement_20 : decode cX12_readStatement 20 = .ok (.ireturn, 1) := by decide +kernel
theorem dX12_readStatement_21 : decode cX12_readStatement 21 = .ok (.aload_n 0, 1) := by decide +kernel
theorem dX12_readStatement_22 : decode cX12_readStatement 22 = .ok (.ldc_w 279, 3) := by decide +kernel
theorem dX12_readStatement_25 : decode cX12_readStatement 25 = .ok (.invokevirtual 261, 3) := by decide +kernel
theorem dX12_readStatement_28 : decode cX12_readStatement 28 = .ok (.ifCond .eq 9, 3) := by decide +kernel
theorem dX12_readStatement_31 : decode cX12_readStatement 31 = .ok (.aload_n 0, 1) := by decide +kernel
theorem dX12_readStatement_32 : decode cX12_readStatement 32 = .ok (.iload_n 1, 1) := by decide +kernel
theorem dX12_readStatement_33 : decode cX12_readStatement 33 = .ok (.invokevirtual 376, 3) := by decide +kernel
theorem dX12_readStatement_36 : decode cX12_readStatement 36 = .ok (.ireturn, 1) := by decide +kernel
theorem dX12_readStatement_37 : decode cX12_readStatement 37 = .ok (.aload_n 0, 1) := by decide +kernel
theorem dX12_readStatement_38 : decode cX12_readStatement 38 = .ok (.ldc_w 281, 3) := by decide +kernel
theorem dX12_readStatement_41 : decode cX12_readStatement 41 = .ok (.invokevirtual 261, 3) := by decide +kernel
theorem dX12_readStatement_44 : decode cX12_readStatement 44 = .ok (.ifCond .eq 9, 3) := by decide +kernel
theorem dX12_readStatement_47 : decode cX12_readStatement 47 = .ok (.aload_n 0, 1) := by decide +kernel
theorem dX12_readStatement_48 : decode cX12_readStatement 48 = .ok (.iload_n 1, 1) := by decide +kernel
theorem dX12_readStatement_49 : decode cX12_readStatement 49 = .ok (.invokevirtual 379, 3) := by decide +kernel
theorem dX12_readStatement_52 : decode cX12_readStatement 52 = .ok (.ireturn, 1) := by decide +kernel
theorem dX12_readStatement_53 : decode cX12_readStatement 53 = .ok (.aload_n 0, 1) := by decide +kernel
theorem dX12_readStatement_54 : decode cX12_readStatement 54 = .ok (.ldc_w 283, 3) := by decide +kernel
theorem dX12_readStatement_57 : decode cX12_readStatement 57 = .ok (.invokevirtual 261, 3) := by decide +kernel
theorem dX12_readStatement_60 : decode cX12_readStatement 60 = .ok (.ifCond .eq 9, 3) := by decide +kernel
theorem dX12_readStatement_63 : decode cX12_readStatement 63 = .ok (.aload_n 0, 1) := by decide +kernel
theorem dX12_readStatement_64 : decode cX12_readStatement 64 = .ok (.iload_n 1, 1) := by decide +kernel
theorem dX12_readStatement_65 : decode cX12_readStatement 65 = .ok (.invokevirtual 382, 3) := by decide +kernel
theorem dX12_readStatement_68 : decode cX12_readStatement 68 = .ok (.ireturn, 1) := by decide +kernel
theorem dX12_readStatement_69 : decode cX12_readStatement 69 = .ok (.aload_n 0, 1) := by decide +kernel
theorem dX12_readStatement_70 : decode cX12_readStatement 70 = .ok (.ldc_w 285, 3) := by decide +kernel
theorem dX12_readStatement_73 : decode cX12_readStatement 73 = .ok (.invokevirtual 261, 3) := by decide +kernel
theorem dX12_readStatement_76 : decode cX12_readStatement 76 = .ok (.ifCond .eq 9, 3) := by decide +kernel
theorem dX12_readStatement_79 : decode cX12_readStatement 79 = .ok (.aload_n 0, 1) := by decide +kernel
theorem dX12_readStatement_80 : decode cX12_readStatement 80 = .ok (.iload_n 1, 1) := by decide +kernel
theorem dX12_readStatement_81 : decode cX12_readStatement 81 = .ok (.invokevirtual 385, 3) := by decide +kernel
theorem dX12_readStatement_84 : decode cX12_readStatement 84 = .ok (.ireturn, 1) := by decide +kernel
theorem dX12_readStatement_85 : decode cX12_readStatement 85 = .ok (.aload_n 0, 1) := by decide +kernel
theorem dX12_readStatement_86 : decode cX12_readStatement 86 = .ok (.ldc_w 287, 3) := by decide +kernel
theorem dX12_readStatement_89 : decode cX12_readStatement 89 = .ok (.invokevirtual 261, 3) := by decide +kernel
theorem dX12_readStatement_92 : decode cX12_readStatement 92 = .ok (.ifCond .eq 9, 3) := by decide +kernel
theorem dX12_readStatement_95 : decode cX12_readStatement 95 = .ok (.aload_n 0, 1) := by decide +kernel
theorem dX12_readStatement_96 : decode cX12_readStatement 96 = .ok (.iload_n 1, 1) := by decide +kernel
theorem dX12_readStatement_97 : decode cX12_readStatement 97 = .ok (.invokevirtual 388, 3) := by decide +kernel
theorem dX12_readStatement_100 : decode cX12_readStatement 100 = .ok (.ireturn, 1) := by decide +kernel
theorem dX12_readStatement_101 : decode cX12_readStatement 101 = .ok (.aload_n 0, 1) := by decide +kernel
theorem dX12_readStatement_102 : decode cX12_readStatement 102 = .ok (.ldc_w 289, 3) := by decide +kernel
theorem dX12_readStatement_105 : decode cX12_readStatement 105 = .ok (.invokevirtual 261, 3) := by decide +kernel
theorem dX12_readStatement_108 : decode cX12_readStatement 108 = .ok (.ifCond .eq 9, 3) := by decide +kernel
theorem dX12_readStatement_111 : decode cX12_readStatement 111 = .ok (.aload_n 0, 1) := by decide +kernel
theorem dX12_readStatement_112 : decode cX12_readStatement 112 = .ok (.iload_n 1, 1) := by decide +kernel
theorem dX12_readStatement_113 : decode cX12_readStatement 113 = .ok (.invokevirtual 391, 3) := by decide +kernel
theorem dX12_readStatement_116 : decode cX12_readStatement 116 = .ok (.ireturn, 1) := by decide +kernel
theorem dX12_readStatement_117 : decode cX12_readStatement 117 = .ok (.aload_n 0, 1) := by decide +kernel
theorem dX12_readStatement_118 : decode cX12_readStatement 118 = .ok (.ldc_w 291, 3) := by decide +kernel
theorem dX12_readStatement_121 : decode cX12_readStatement 121 = .ok (.invokevirtual 261, 3) := by decide +kernel
theorem dX12_readStatement_124 : decode cX12_readStatement 124 = .ok (.ifCond .eq 9, 3) := by decide +kernel
theorem dX12_readStatement_127 : decode cX12_readStatement 127 = .ok (.aload_n 0, 1) := by decide +kernel
theorem dX12_readStatement_128 : decode cX12_readStatement 128 = .ok (.iload_n 1, 1) := by decide +kernel
theorem dX12_readStatement_129 : decode cX12_readStatement 129 = .ok (.invokevirtual 394, 3) := by decide +kernel
theorem dX12_readStatement_132 : decode cX12_readStatement 132 = .ok (.ireturn, 1) := by decide +kernel
theorem dX12_readStatement_133 : decode cX12_readStatement 133 = .ok (.aload_n 0, 1) := by decide +kernel
theorem dX12_readStatement_134 : decode cX12_readStatement 134 = .ok (.iconst 1, 1) := by decide +kernel
theorem dX12_readStatement_135 : decode cX12_readStatement 135 = .ok (.iload_n 1, 1) := by decide +kernel
theorem dX12_readStatement_136 : decode cX12_readStatement 136 = .ok (.invokevirtual 264, 3) := by decide +kernel
theorem dX12_readStatement_139 : decode cX12_readStatement 139 = .ok (.ireturn, 1) := by decide +kernel
theorem dX12_readBrigade_0 : decode cX12_readBrigade 0 = .ok (.aload_n 0, 1) := by decide +kernel
theorem dX12_readBrigade_1 : decode cX12_readBrigade 1 = .ok (.getfield 231, 3) := by decide +kernel
theorem dX12_readBrigade_4 : decode cX12_readBrigade 4 = .ok (.ifCond .eq 46, 3) := by decide +kernel
theorem dX12_readBrigade_7 : decode cX12_readBrigade 7 = .ok (.aload_n 0, 1) := by decide +kernel
theorem dX12_readBrigade_8 : decode cX12_readBrigade 8 = .ok (.invokevirtual 397, 3) := by decide +kernel
theorem dX12_readBrigade_11 : decode cX12_readBrigade 11 = .ok (.ifCond .ne 5, 3) := by decide +kernel
theorem dX12_readBrigade_14 : decode cX12_readBrigade 14 = .ok (.iconst 0, 1) := by decide +kernel
theorem dX12_readBrigade_15 : decode cX12_readBrigade 15 = .ok (.ireturn, 1) := by decide +kernel
theorem dX12_readBrigade_16 : decode cX12_readBrigade 16 = .ok (.aload_n 0, 1) := by decide +kernel
theorem dX12_readBrigade_17 : decode cX12_readBrigade 17 = .ok (.getfield 231, 3) := by decide +kernel
theorem dX12_readBrigade_20 : decode cX12_readBrigade 20 = .ok (.iconst 3, 1) := by decide +kernel
theorem dX12_readBrigade_21 : decode cX12_readBrigade 21 = .ok (.if_icmp .ne 12, 3) := by decide +kernel
theorem dX12_readBrigade_24 : decode cX12_readBrigade 24 = .ok (.aload_n 0, 1) := by decide +kernel
theorem dX12_readBrigade_25 : decode cX12_readBrigade 25 = .ok (.getfield 228, 3) := by decide +kernel
theorem dX12_readBrigade_28 : decode cX12_readBrigade 28 = .ok (.bipush 59, 2) := by decide +kernel
theorem dX12_readBrigade_30 : decode cX12_readBrigade 30 = .ok (.if_icmp .eq 13, 3) := by decide +kernel
theorem dX12_readBrigade_33 : decode cX12_readBrigade 33 = .ok (.aload_n 0, 1) := by decide +kernel
theorem dX12_readBrigade_34 : decode cX12_readBrigade 34 = .ok (.iconst 1, 1) := by decide +kernel
theorem dX12_readBrigade_35 : decode cX12_readBrigade 35 = .ok (.aload_n 0, 1) := by decide +kernel
theorem dX12_readBrigade_36 : decode cX12_readBrigade 36 = .ok (.getfield 221, 3) := by decide +kernel
theorem dX12_readBrigade_39 : decode cX12_readBrigade 39 = .ok (.invokevirtual 264, 3) := by decide +kernel
theorem dX12_readBrigade_42 : decode cX12_readBrigade 42 = .ok (.ireturn, 1) := by decide +kernel
theorem dX12_readBrigade_43 : decode cX12_readBrigade 43 = .ok (.aload_n 0, 1) := by decide +kernel
theorem dX12_readBrigade_44 : decode cX12_readBrigade 44 = .ok (.invokevirtual 258, 3) := by decide +kernel
theorem dX12_readBrigade_47 : decode cX12_readBrigade 47 = .ok (.goto (-47), 3) := by decide +kernel
theorem dX12_readBrigade_50 : decode cX12_readBrigade 50 = .ok (.iconst 1, 1) := by decide +kernel
theorem dX12_readBrigade_51 : decode cX12_readBrigade 51 = .ok (.ireturn, 1) := by decide +kernel
theorem dX12_loadBrigade_0 : decode cX12_loadBrigade 0 = .ok (.aload_n 0, 1) := by decide +kernel
theorem dX12_loadBrigade_1 : decode cX12_loadBrigade 1 = .ok (.iconst 0, 1) := by decide +kernel
theorem dX12_loadBrigade_2 : decode cX12_loadBrigade 2 = .ok (.putfield 150, 3) := by decide +kernel
theorem dX12_loadBrigade_5 : decode cX12_loadBrigade 5 = .ok (.aload_n 0, 1) := by decide +kernel
theorem dX12_loadBrigade_6 : decode cX12_loadBrigade 6 = .ok (.iconst 0, 1) := by decide +kernel
theorem dX12_loadBrigade_7 : decode cX12_loadBrigade 7 = .ok (.invokevirtual 400, 3) := by decide +kernel
theorem dX12_loadBrigade_10 : decode cX12_loadBrigade 10 = .ok (.aload_n 0, 1) := by decide +kernel
theorem dX12_loadBrigade_11 : decode cX12_loadBrigade 11 = .ok (.invokevirtual 144, 3) := by decide +kernel
theorem dX12_loadBrigade_14 : decode cX12_loadBrigade 14 = .ok (.aload_n 0, 1) := by decide +kernel
theorem dX12_loadBrigade_15 : decode cX12_loadBrigade 15 = .ok (.iconst 0, 1) := by decide +kernel
theorem dX12_loadBrigade_16 : decode cX12_loadBrigade 16 = .ok (.putfield 238, 3) := by decide +kernel
theorem dX12_loadBrigade_19 : decode cX12_loadBrigade 19 = .ok (.aload_n 0, 1) := by decide +kernel
theorem dX12_loadBrigade_20 : decode cX12_loadBrigade 20 = .ok (.iconst (-1), 1) := by decide +kernel
theorem dX12_loadBrigade_21 : decode cX12_loadBrigade 21 = .ok (.putfield 241, 3) := by decide +kernel
theorem dX12_loadBrigade_24 : decode cX12_loadBrigade 24 = .ok (.aload_n 0, 1) := by decide +kernel
theorem dX12_loadBrigade_25 : decode cX12_loadBrigade 25 = .ok (.iconst 0, 1) := by decide +kernel
theorem dX12_loadBrigade_26 : decode cX12_loadBrigade 26 = .ok (.putfield 214, 3) := by decide +kernel
theorem dX12_loadBrigade_29 : decode cX12_loadBrigade 29 = .ok (.aload_n 0, 1) := by decide +kernel
theorem dX12_loadBrigade_30 : decode cX12_loadBrigade 30 = .ok (.iconst 0, 1) := by decide +kernel
theorem dX12_loadBrigade_31 : decode cX12_loadBrigade 31 = .ok (.putfield 330, 3) := by decide +kernel
theorem dX12_loadBrigade_34 : decode cX12_loadBrigade 34 = .ok (.aload_n 0, 1) := by decide +kernel
theorem dX12_loadBrigade_35 : decode cX12_loadBrigade 35 = .ok (.iconst 0, 1) := by decide +kernel
theorem dX12_loadBrigade_36 : decode cX12_loadBrigade 36 = .ok (.putfield 357, 3) := by decide +kernel
theorem dX12_loadBrigade_39 : decode cX12_loadBrigade 39 = .ok (.aload_n 0, 1) := by decide +kernel
theorem dX12_loadBrigade_40 : decode cX12_loadBrigade 40 = .ok (.invokevirtual 258, 3) := by decide +kernel
theorem dX12_loadBrigade_43 : decode cX12_loadBrigade 43 = .ok (.aload_n 0, 1) := by decide +kernel
theorem dX12_loadBrigade_44 : decode cX12_loadBrigade 44 = .ok (.invokevirtual 404, 3) := by decide +kernel
theorem dX12_loadBrigade_47 : decode cX12_loadBrigade 47 = .ok (.istore_n 1, 1) := by decide +kernel
theorem dX12_loadBrigade_48 : decode cX12_loadBrigade 48 = .ok (.aload_n 0, 1) := by decide +kernel
theorem dX12_loadBrigade_49 : decode cX12_loadBrigade 49 = .ok (.iconst 0, 1) := by decide +kernel
theorem dX12_loadBrigade_50 : decode cX12_loadBrigade 50 = .ok (.putfield 203, 3) := by decide +kernel
theorem dX12_loadBrigade_53 : decode cX12_loadBrigade 53 = .ok (.aload_n 0, 1) := by decide +kernel
theorem dX12_loadBrigade_54 : decode cX12_loadBrigade 54 = .ok (.aload_n 0, 1) := by decide +kernel
theorem dX12_loadBrigade_55 : decode cX12_loadBrigade 55 = .ok (.getfield 238, 3) := by decide +kernel
theorem dX12_loadBrigade_58 : decode cX12_loadBrigade 58 = .ok (.putfield 407, 3) := by decide +kernel
theorem dX12_loadBrigade_61 : decode cX12_loadBrigade 61 = .ok (.aload_n 0, 1) := by decide +kernel
theorem dX12_loadBrigade_62 : decode cX12_loadBrigade 62 = .ok (.aload_n 0, 1) := by decide +kernel
theorem dX12_loadBrigade_63 : decode cX12_loadBrigade 63 = .ok (.getfield 241, 3) := by decide +kernel
theorem dX12_loadBrigade_66 : decode cX12_loadBrigade 66 = .ok (.putfield 83, 3) := by decide +kernel
theorem dX12_loadBrigade_69 : decode cX12_loadBrigade 69 = .ok (.iload_n 1, 1) := by decide +kernel
theorem dX12_loadBrigade_70 : decode cX12_loadBrigade 70 = .ok (.ifCond .ne 10, 3) := by decide +kernel
theorem dX12_loadBrigade_73 : decode cX12_loadBrigade 73 = .ok (.aload_n 0, 1) := by decide +kernel
theorem dX12_loadBrigade_74 : decode cX12_loadBrigade 74 = .ok (.iconst 1, 1) := by decide +kernel
theorem dX12_loadBrigade_75 : decode cX12_loadBrigade 75 = .ok (.invokevirtual 400, 3) := by decide +kernel
theorem dX12_loadBrigade_78 : decode cX12_loadBrigade 78 = .ok (.iconst (-1), 1) := by decide +kernel
theorem dX12_loadBrigade_79 : decode cX12_loadBrigade 79 = .ok (.ireturn, 1) := by decide +kernel
theorem dX12_loadBrigade_80 : decode cX12_loadBrigade 80 = .ok (.aload_n 0, 1) := by decide +kernel
theorem dX12_loadBrigade_81 : decode cX12_loadBrigade 81 = .ok (.invokevirtual 147, 3) := by decide +kernel
theorem dX12_loadBrigade_84 : decode cX12_loadBrigade 84 = .ok (.aload_n 0, 1) := by decide +kernel
theorem dX12_loadBrigade_85 : decode cX12_loadBrigade 85 = .ok (.getfield 171, 3) := by decide +kernel
theorem dX12_loadBrigade_88 : decode cX12_loadBrigade 88 = .ok (.ireturn, 1) := by decide +kernel
theorem dX12_find_0 : decode cX12_find 0 = .ok (.aload_n 0, 1) := by decide +kernel
theorem dX12_find_1 : decode cX12_find 1 = .ok (.iconst 0, 1) := by decide +kernel
theorem dX12_find_2 : decode cX12_find 2 = .ok (.putfield 150, 3) := by decide +kernel
theorem dX12_find_5 : decode cX12_find 5 = .ok (.aload_n 0, 1) := by decide +kernel
theorem dX12_find_6 : decode cX12_find 6 = .ok (.iconst 0, 1) := by decide +kernel
theorem dX12_find_7 : decode cX12_find 7 = .ok (.putfield 214, 3) := by decide +kernel
theorem dX12_find_10 : decode cX12_find 10 = .ok (.aload_n 0, 1) := by decide +kernel
theorem dX12_find_11 : decode cX12_find 11 = .ok (.invokevirtual 258, 3) := by decide +kernel
theorem dX12_find_14 : decode cX12_find 14 = .ok (.aload_n 0, 1) := by decide +kernel
theorem dX12_find_15 : decode cX12_find 15 = .ok (.invokevirtual 317, 3) := by decide +kernel
theorem dX12_find_18 : decode cX12_find 18 = .ok (.istore_n 1, 1) := by decide +kernel
theorem dX12_find_19 : decode cX12_find 19 = .ok (.aload_n 0, 1) := by decide +kernel
theorem dX12_find_20 : decode cX12_find 20 = .ok (.getfield 224, 3) := by decide +kernel
theorem dX12_find_23 : decode cX12_find 23 = .ok (.lstore_n 2, 1) := by decide +kernel
theorem dX12_find_24 : decode cX12_find 24 = .ok (.aload_n 0, 1) := by decide +kernel
theorem dX12_find_25 : decode cX12_find 25 = .ok (.invokevirtual 258, 3) := by decide +kernel
theorem dX12_find_28 : decode cX12_find 28 = .ok (.aload_n 0, 1) := by decide +kernel
theorem dX12_find_29 : decode cX12_find 29 = .ok (.getfield 231, 3) := by decide +kernel
theorem dX12_find_32 : decode cX12_find 32 = .ok (.ifCond .ne 7, 3) := by decide +kernel
theorem dX12_find_35 : decode cX12_find 35 = .ok (.iconst 1, 1) := by decide +kernel
theorem dX12_find_36 : decode cX12_find 36 = .ok (.goto 4, 3) := by decide +kernel
theorem dX12_find_39 : decode cX12_find 39 = .ok (.iconst 0, 1) := by decide +kernel
theorem dX12_find_40 : decode cX12_find 40 = .ok (.istore 4, 2) := by decide +kernel
theorem dX12_find_42 : decode cX12_find 42 = .ok (.aload_n 0, 1) := by decide +kernel
theorem dX12_find_43 : decode cX12_find 43 = .ok (.iconst 0, 1) := by decide +kernel
theorem dX12_find_44 : decode cX12_find 44 = .ok (.putfield 203, 3) := by decide +kernel
theorem dX12_find_47 : decode cX12_find 47 = .ok (.iload_n 1, 1) := by decide +kernel
theorem dX12_find_48 : decode cX12_find 48 = .ok (.ifCond .eq 8, 3) := by decide +kernel
theorem dX12_find_51 : decode cX12_find 51 = .ok (.iload 4, 2) := by decide +kernel
theorem dX12_find_53 : decode cX12_find 53 = .ok (.ifCond .ne 5, 3) := by decide +kernel
theorem dX12_find_56 : decode cX12_find 56 = .ok (.iconst (-1), 1) := by decide +kernel
theorem dX12_find_57 : decode cX12_find 57 = .ok (.ireturn, 1) := by decide +kernel
theorem dX12_find_58 : decode cX12_find 58 = .ok (.aload_n 0, 1) := by decide +kernel
theorem dX12_find_59 : decode cX12_find 59 = .ok (.getfield 7, 3) := by decide +kernel
theorem dX12_find_62 : decode cX12_find 62 = .ok (.aload_n 0, 1) := by decide +kernel
theorem dX12_find_63 : decode cX12_find 63 = .ok (.getfield 156, 3) := by decide +kernel
theorem dX12_find_66 : decode cX12_find 66 = .ok (.lload_n 2, 1) := by decide +kernel
theorem dX12_find_67 : decode cX12_find 67 = .ok (.invokestatic 313, 3) := by decide +kernel
theorem dX12_find_70 : decode cX12_find 70 = .ok (.istore 5, 2) := by decide +kernel
theorem dX12_find_72 : decode cX12_find 72 = .ok (.iload 5, 2) := by decide +kernel
theorem dX12_find_74 : decode cX12_find 74 = .ok (.iconst (-1), 1) := by decide +kernel
theorem dX12_find_75 : decode cX12_find 75 = .ok (.if_icmp .eq 6, 3) := by decide +kernel
theorem dX12_find_78 : decode cX12_find 78 = .ok (.iload 5, 2) := by decide +kernel
theorem dX12_find_80 : decode cX12_find 80 = .ok (.ireturn, 1) := by decide +kernel
theorem dX12_find_81 : decode cX12_find 81 = .ok (.aload_n 0, 1) := by decide +kernel
theorem dX12_find_82 : decode cX12_find 82 = .ok (.getfield 23, 3) := by decide +kernel
theorem dX12_find_85 : decode cX12_find 85 = .ok (.aload_n 0, 1) := by decide +kernel
theorem dX12_find_86 : decode cX12_find 86 = .ok (.getfield 162, 3) := by decide +kernel
theorem dX12_find_89 : decode cX12_find 89 = .ok (.lload_n 2, 1) := by decide +kernel
theorem dX12_find_90 : decode cX12_find 90 = .ok (.invokestatic 313, 3) := by decide +kernel
theorem dX12_find_93 : decode cX12_find 93 = .ok (.istore 5, 2) := by decide +kernel
theorem dX12_find_95 : decode cX12_find 95 = .ok (.iload 5, 2) := by decide +kernel
theorem dX12_find_97 : decode cX12_find 97 = .ok (.iconst (-1), 1) := by decide +kernel
theorem dX12_find_98 : decode cX12_find 98 = .ok (.if_icmp .eq 9, 3) := by decide +kernel
theorem dX12_find_101 : decode cX12_find 101 = .ok (.bipush 100, 2) := by decide +kernel
theorem dX12_find_103 : decode cX12_find 103 = .ok (.iload 5, 2) := by decide +kernel
theorem dX12_find_105 : decode cX12_find 105 = .ok (.iadd, 1) := by decide +kernel
theorem dX12_find_106 : decode cX12_find 106 = .ok (.ireturn, 1) := by decide +kernel
theorem dX12_find_107 : decode cX12_find 107 = .ok (.aload_n 0, 1) := by decide +kernel
theorem dX12_find_108 : decode cX12_find 108 = .ok (.getfield 29, 3) := by decide +kernel
theorem dX12_find_111 : decode cX12_find 111 = .ok (.aload_n 0, 1) := by decide +kernel
theorem dX12_find_112 : decode cX12_find 112 = .ok (.getfield 165, 3) := by decide +kernel
theorem dX12_find_115 : decode cX12_find 115 = .ok (.lload_n 2, 1) := by decide +kernel
theorem dX12_find_116 : decode cX12_find 116 = .ok (.invokestatic 313, 3) := by decide +kernel
theorem dX12_find_119 : decode cX12_find 119 = .ok (.istore 5, 2) := by decide +kernel
theorem dX12_find_121 : decode cX12_find 121 = .ok (.iload 5, 2) := by decide +kernel
theorem dX12_find_123 : decode cX12_find 123 = .ok (.iconst (-1), 1) := by decide +kernel
theorem dX12_find_124 : decode cX12_find 124 = .ok (.if_icmp .eq 10, 3) := by decide +kernel
theorem dX12_find_127 : decode cX12_find 127 = .ok (.sipush 200, 3) := by decide +kernel
theorem dX12_find_130 : decode cX12_find 130 = .ok (.iload 5, 2) := by decide +kernel
theorem dX12_find_132 : decode cX12_find 132 = .ok (.iadd, 1) := by decide +kernel
theorem dX12_find_133 : decode cX12_find 133 = .ok (.ireturn, 1) := by decide +kernel
theorem dX12_find_134 : decode cX12_find 134 = .ok (.aload_n 0, 1) := by decide +kernel
theorem dX12_find_135 : decode cX12_find 135 = .ok (.getfield 47, 3) := by decide +kernel
theorem dX12_find_138 : decode cX12_find 138 = .ok (.aload_n 0, 1) := by decide +kernel
theorem dX12_find_139 : decode cX12_find 139 = .ok (.getfield 171, 3) := by decide +kernel
theorem dX12_find_142 : decode cX12_find 142 = .ok (.lload_n 2, 1) := by decide +kernel
theorem dX12_find_143 : decode cX12_find 143 = .ok (.invokestatic 313, 3) := by decide +kernel
theorem dX12_find_146 : decode cX12_find 146 = .ok (.istore 5, 2) := by decide +kernel
theorem dX12_find_148 : decode cX12_find 148 = .ok (.iload 5, 2) := by decide +kernel
theorem dX12_find_150 : decode cX12_find 150 = .ok (.iconst (-1), 1) := by decide +kernel
theorem dX12_find_151 : decode cX12_find 151 = .ok (.if_icmp .ne 7, 3) := by decide +kernel
theorem dX12_find_154 : decode cX12_find 154 = .ok (.iconst (-1), 1) := by decide +kernel
theorem dX12_find_155 : decode cX12_find 155 = .ok (.goto 9, 3) := by decide +kernel
theorem dX12_find_158 : decode cX12_find 158 = .ok (.sipush 300, 3) := by decide +kernel
theorem dX12_find_161 : decode cX12_find 161 = .ok (.iload 5, 2) := by decide +kernel
theorem dX12_find_163 : decode cX12_find 163 = .ok (.iadd, 1) := by decide +kernel
theorem dX12_find_164 : decode cX12_find 164 = .ok (.ireturn, 1) := by decide +kernel
theorem dX12_play_0 : decode cX12_play 0 = .ok (.iconst 0, 1) := by decide +kernel
theorem dX12_play_1 : decode cX12_play 1 = .ok (.istore_n 1, 1) := by decide +kernel
theorem dX12_play_2 : decode cX12_play 2 = .ok (.iload_n 1, 1) := by decide +kernel
theorem dX12_play_3 : decode cX12_play 3 = .ok (.iconst 5, 1) := by decide +kernel
theorem dX12_play_4 : decode cX12_play 4 = .ok (.if_icmp .ge 44, 3) := by decide +kernel
theorem dX12_play_7 : decode cX12_play 7 = .ok (.aload_n 0, 1) := by decide +kernel
theorem dX12_play_8 : decode cX12_play 8 = .ok (.getfield 99, 3) := by decide +kernel
theorem dX12_play_11 : decode cX12_play 11 = .ok (.iload_n 1, 1) := by decide +kernel
theorem dX12_play_12 : decode cX12_play 12 = .ok (.iconst 0, 1) := by decide +kernel
theorem dX12_play_13 : decode cX12_play 13 = .ok (.iastore, 1) := by decide +kernel
theorem dX12_play_14 : decode cX12_play 14 = .ok (.aload_n 0, 1) := by decide +kernel
theorem dX12_play_15 : decode cX12_play 15 = .ok (.getfield 102, 3) := by decide +kernel
theorem dX12_play_18 : decode cX12_play 18 = .ok (.iload_n 1, 1) := by decide +kernel
theorem dX12_play_19 : decode cX12_play 19 = .ok (.iconst 0, 1) := by decide +kernel
theorem dX12_play_20 : decode cX12_play 20 = .ok (.iastore, 1) := by decide +kernel
theorem dX12_play_21 : decode cX12_play 21 = .ok (.aload_n 0, 1) := by decide +kernel
theorem dX12_play_22 : decode cX12_play 22 = .ok (.getfield 105, 3) := by decide +kernel
theorem dX12_play_25 : decode cX12_play 25 = .ok (.iload_n 1, 1) := by decide +kernel
theorem dX12_play_26 : decode cX12_play 26 = .ok (.iconst (-1), 1) := by decide +kernel
theorem dX12_play_27 : decode cX12_play 27 = .ok (.iastore, 1) := by decide +kernel
theorem dX12_play_28 : decode cX12_play 28 = .ok (.aload_n 0, 1) := by decide +kernel
theorem dX12_play_29 : decode cX12_play 29 = .ok (.getfield 108, 3) := by decide +kernel
theorem dX12_play_32 : decode cX12_play 32 = .ok (.iload_n 1, 1) := by decide +kernel
theorem dX12_play_33 : decode cX12_play 33 = .ok (.iconst (-1), 1) := by decide +kernel
theorem dX12_play_34 : decode cX12_play 34 = .ok (.iastore, 1) := by decide +kernel
theorem dX12_play_35 : decode cX12_play 35 = .ok (.aload_n 0, 1) := by decide +kernel
theorem dX12_play_36 : decode cX12_play 36 = .ok (.getfield 111, 3) := by decide +kernel
theorem dX12_play_39 : decode cX12_play 39 = .ok (.iload_n 1, 1) := by decide +kernel
theorem dX12_play_40 : decode cX12_play 40 = .ok (.iconst (-1), 1) := by decide +kernel
theorem dX12_play_41 : decode cX12_play 41 = .ok (.iastore, 1) := by decide +kernel
theorem dX12_play_42 : decode cX12_play 42 = .ok (.iinc 1 1, 3) := by decide +kernel
theorem dX12_play_45 : decode cX12_play 45 = .ok (.goto (-43), 3) := by decide +kernel
theorem dX12_play_48 : decode cX12_play 48 = .ok (.iconst 0, 1) := by decide +kernel
theorem dX12_play_49 : decode cX12_play 49 = .ok (.istore_n 1, 1) := by decide +kernel
theorem dX12_play_50 : decode cX12_play 50 = .ok (.iload_n 1, 1) := by decide +kernel
theorem dX12_play_51 : decode cX12_play 51 = .ok (.bipush 10, 2) := by decide +kernel
theorem dX12_play_53 : decode cX12_play 53 = .ok (.if_icmp .ge 16, 3) := by decide +kernel
theorem dX12_play_56 : decode cX12_play 56 = .ok (.aload_n 0, 1) := by decide +kernel
theorem dX12_play_57 : decode cX12_play 57 = .ok (.getfield 114, 3) := by decide +kernel
theorem dX12_play_60 : decode cX12_play 60 = .ok (.iload_n 1, 1) := by decide +kernel
theorem dX12_play_61 : decode cX12_play 61 = .ok (.iconst 0, 1) := by decide +kernel
theorem dX12_play_62 : decode cX12_play 62 = .ok (.iastore, 1) := by decide +kernel
theorem dX12_play_63 : decode cX12_play 63 = .ok (.iinc 1 1, 3) := by decide +kernel
theorem dX12_play_66 : decode cX12_play 66 = .ok (.goto (-16), 3) := by decide +kernel
theorem dX12_play_69 : decode cX12_play 69 = .ok (.iconst 0, 1) := by decide +kernel
theorem dX12_play_70 : decode cX12_play 70 = .ok (.istore_n 1, 1) := by decide +kernel
theorem dX12_play_71 : decode cX12_play 71 = .ok (.iload_n 1, 1) := by decide +kernel
theorem dX12_play_72 : decode cX12_play 72 = .ok (.bipush 64, 2) := by decide +kernel
theorem dX12_play_74 : decode cX12_play 74 = .ok (.if_icmp .ge 16, 3) := by decide +kernel
theorem dX12_play_77 : decode cX12_play 77 = .ok (.aload_n 0, 1) := by decide +kernel
theorem dX12_play_78 : decode cX12_play 78 = .ok (.getfield 129, 3) := by decide +kernel
theorem dX12_play_81 : decode cX12_play 81 = .ok (.iload_n 1, 1) := by decide +kernel
theorem dX12_play_82 : decode cX12_play 82 = .ok (.iconst 0, 1) := by decide +kernel
theorem dX12_play_83 : decode cX12_play 83 = .ok (.iastore, 1) := by decide +kernel
theorem dX12_play_84 : decode cX12_play 84 = .ok (.iinc 1 1, 3) := by decide +kernel
theorem dX12_play_87 : decode cX12_play 87 = .ok (.goto (-16), 3) := by decide +kernel
theorem dX12_play_90 : decode cX12_play 90 = .ok (.aload_n 0, 1) := by decide +kernel
theorem dX12_play_91 : decode cX12_play 91 = .ok (.aload_n 0, 1) := by decide +kernel
theorem dX12_play_92 : decode cX12_play 92 = .ok (.getfield 426, 3) := by decide +kernel
theorem dX12_play_95 : decode cX12_play 95 = .ok (.putfield 485, 3) := by decide +kernel
theorem dX12_play_98 : decode cX12_play 98 = .ok (.aload_n 0, 1) := by decide +kernel
theorem dX12_play_99 : decode cX12_play 99 = .ok (.iconst 0, 1) := by decide +kernel
theorem dX12_play_100 : decode cX12_play 100 = .ok (.putfield 487, 3) := by decide +kernel
theorem dX12_play_103 : decode cX12_play 103 = .ok (.aload_n 0, 1) := by decide +kernel
theorem dX12_play_104 : decode cX12_play 104 = .ok (.iconst 0, 1) := by decide +kernel
theorem dX12_play_105 : decode cX12_play 105 = .ok (.putfield 490, 3) := by decide +kernel
theorem dX12_play_108 : decode cX12_play 108 = .ok (.iconst 0, 1) := by decide +kernel
theorem dX12_play_109 : decode cX12_play 109 = .ok (.istore_n 1, 1) := by decide +kernel
theorem dX12_play_110 : decode cX12_play 110 = .ok (.iload_n 1, 1) := by decide +kernel
theorem dX12_play_111 : decode cX12_play 111 = .ok (.bipush 48, 2) := by decide +kernel
theorem dX12_play_113 : decode cX12_play 113 = .ok (.if_icmp .ge 128, 3) := by decide +kernel
theorem dX12_play_116 : decode cX12_play 116 = .ok (.aload_n 0, 1) := by decide +kernel
theorem dX12_play_117 : decode cX12_play 117 = .ok (.iload_n 1, 1) := by decide +kernel
theorem dX12_play_118 : decode cX12_play 118 = .ok (.invokevirtual 493, 3) := by decide +kernel
theorem dX12_play_121 : decode cX12_play 121 = .ok (.iconst 0, 1) := by decide +kernel
theorem dX12_play_122 : decode cX12_play 122 = .ok (.istore_n 2, 1) := by decide +kernel
theorem dX12_play_123 : decode cX12_play 123 = .ok (.iload_n 2, 1) := by decide +kernel
theorem dX12_play_124 : decode cX12_play 124 = .ok (.aload_n 0, 1) := by decide +kernel
theorem dX12_play_125 : decode cX12_play 125 = .ok (.getfield 171, 3) := by decide +kernel
theorem dX12_play_128 : decode cX12_play 128 = .ok (.if_icmp .ge 25, 3) := by decide +kernel
theorem dX12_play_131 : decode cX12_play 131 = .ok (.aload_n 0, 1) := by decide +kernel
theorem dX12_play_132 : decode cX12_play 132 = .ok (.getfield 68, 3) := by decide +kernel
theorem dX12_play_135 : decode cX12_play 135 = .ok (.iload_n 2, 1) := by decide +kernel
theorem dX12_play_136 : decode cX12_play 136 = .ok (.iaload, 1) := by decide +kernel
theorem dX12_play_137 : decode cX12_play 137 = .ok (.iload_n 1, 1) := by decide +kernel
theorem dX12_play_138 : decode cX12_play 138 = .ok (.if_icmp .ne 9, 3) := by decide +kernel
theorem dX12_play_141 : decode cX12_play 141 = .ok (.aload_n 0, 1) := by decide +kernel
theorem dX12_play_142 : decode cX12_play 142 = .ok (.iload_n 2, 1) := by decide +kernel
theorem dX12_play_143 : decode cX12_play 143 = .ok (.iload_n 1, 1) := by decide +kernel
theorem dX12_play_144 : decode cX12_play 144 = .ok (.invokevirtual 496, 3) := by decide +kernel
theorem dX12_play_147 : decode cX12_play 147 = .ok (.iinc 2 1, 3) := by decide +kernel
theorem dX12_play_150 : decode cX12_play 150 = .ok (.goto (-27), 3) := by decide +kernel
theorem dX12_play_153 : decode cX12_play 153 = .ok (.iconst 0, 1) := by decide +kernel
theorem dX12_play_154 : decode cX12_play 154 = .ok (.istore_n 2, 1) := by decide +kernel
theorem dX12_play_155 : decode cX12_play 155 = .ok (.iconst 0, 1) := by decide +kernel
theorem dX12_play_156 : decode cX12_play 156 = .ok (.istore_n 3, 1) := by decide +kernel
theorem dX12_play_157 : decode cX12_play 157 = .ok (.iload_n 3, 1) := by decide +kernel
theorem dX12_play_158 : decode cX12_play 158 = .ok (.aload_n 0, 1) := by decide +kernel
theorem dX12_play_159 : decode cX12_play 159 = .ok (.getfield 165, 3) := by decide +kernel
theorem dX12_play_162 : decode cX12_play 162 = .ok (.if_icmp .ge 36, 3) := by decide +kernel
theorem dX12_play_165 : decode cX12_play 165 = .ok (.aload_n 0, 1) := by decide +kernel
theorem dX12_play_166 : decode cX12_play 166 = .ok (.getfield 114, 3) := by decide +kernel
theorem dX12_play_169 : decode cX12_play 169 = .ok (.iload_n 3, 1) := by decide +kernel
theorem dX12_play_170 : decode cX12_play 170 = .ok (.iaload, 1) := by decide +kernel
theorem dX12_play_171 : decode cX12_play 171 = .ok (.iload_n 1, 1) := by decide +kernel
theorem dX12_play_172 : decode cX12_play 172 = .ok (.if_icmp .gt 20, 3) := by decide +kernel
theorem dX12_play_175 : decode cX12_play 175 = .ok (.aload_n 0, 1) := by decide +kernel
theorem dX12_play_176 : decode cX12_play 176 = .ok (.getfield 423, 3) := by decide +kernel
theorem dX12_play_179 : decode cX12_play 179 = .ok (.iload_n 3, 1) := by decide +kernel
theorem dX12_play_180 : decode cX12_play 180 = .ok (.invokestatic 363, 3) := by decide +kernel
theorem dX12_play_183 : decode cX12_play 183 = .ok (.ifCond .ne 9, 3) := by decide +kernel
theorem dX12_play_186 : decode cX12_play 186 = .ok (.iload_n 2, 1) := by decide +kernel
theorem dX12_play_187 : decode cX12_play 187 = .ok (.iconst 1, 1) := by decide +kernel
theorem dX12_play_188 : decode cX12_play 188 = .ok (.iload_n 3, 1) := by decide +kernel
theorem dX12_play_189 : decode cX12_play 189 = .ok (.ishl, 1) := by decide +kernel
theorem dX12_play_190 : decode cX12_play 190 = .ok (.ior, 1) := by decide +kernel
theorem dX12_play_191 : decode cX12_play 191 = .ok (.istore_n 2, 1) := by decide +kernel
theorem dX12_play_192 : decode cX12_play 192 = .ok (.iinc 3 1, 3) := by decide +kernel
theorem dX12_play_195 : decode cX12_play 195 = .ok (.goto (-38), 3) := by decide +kernel
theorem dX12_play_198 : decode cX12_play 198 = .ok (.aload_n 0, 1) := by decide +kernel
theorem dX12_play_199 : decode cX12_play 199 = .ok (.getfield 117, 3) := by decide +kernel
theorem dX12_play_202 : decode cX12_play 202 = .ok (.iload_n 1, 1) := by decide +kernel
theorem dX12_play_203 : decode cX12_play 203 = .ok (.iload_n 2, 1) := by decide +kernel
theorem dX12_play_204 : decode cX12_play 204 = .ok (.iastore, 1) := by decide +kernel
theorem dX12_play_205 : decode cX12_play 205 = .ok (.aload_n 0, 1) := by decide +kernel
theorem dX12_play_206 : decode cX12_play 206 = .ok (.getfield 120, 3) := by decide +kernel
theorem dX12_play_209 : decode cX12_play 209 = .ok (.iload_n 1, 1) := by decide +kernel
theorem dX12_play_210 : decode cX12_play 210 = .ok (.aload_n 0, 1) := by decide +kernel
theorem dX12_play_211 : decode cX12_play 211 = .ok (.getfield 485, 3) := by decide +kernel
theorem dX12_play_214 : decode cX12_play 214 = .ok (.iastore, 1) := by decide +kernel
theorem dX12_play_215 : decode cX12_play 215 = .ok (.aload_n 0, 1) := by decide +kernel
theorem dX12_play_216 : decode cX12_play 216 = .ok (.getfield 123, 3) := by decide +kernel
theorem dX12_play_219 : decode cX12_play 219 = .ok (.iload_n 1, 1) := by decide +kernel
theorem dX12_play_220 : decode cX12_play 220 = .ok (.aload_n 0, 1) := by decide +kernel
theorem dX12_play_221 : decode cX12_play 221 = .ok (.getfield 487, 3) := by decide +kernel
theorem dX12_play_224 : decode cX12_play 224 = .ok (.iastore, 1) := by decide +kernel
theorem dX12_play_225 : decode cX12_play 225 = .ok (.aload_n 0, 1) := by decide +kernel
theorem dX12_play_226 : decode cX12_play 226 = .ok (.getfield 126, 3) := by decide +kernel
theorem dX12_play_229 : decode cX12_play 229 = .ok (.iload_n 1, 1) := by decide +kernel
theorem dX12_play_230 : decode cX12_play 230 = .ok (.aload_n 0, 1) := by decide +kernel
theorem dX12_play_231 : decode cX12_play 231 = .ok (.getfield 490, 3) := by decide +kernel
theorem dX12_play_234 : decode cX12_play 234 = .ok (.iastore, 1) := by decide +kernel
theorem dX12_play_235 : decode cX12_play 235 = .ok (.iinc 1 1, 3) := by decide +kernel
theorem dX12_play_238 : decode cX12_play 238 = .ok (.goto (-128), 3) := by decide +kernel
theorem dX12_play_241 : decode cX12_play 241 = .ok (.return_, 1) := by decide +kernel
theorem dX12_isValid_0 : decode cX12_isValid 0 = .ok (.aload_n 0, 1) := by decide +kernel
theorem dX12_isValid_1 : decode cX12_isValid 1 = .ok (.invokevirtual 511, 3) := by decide +kernel
theorem dX12_isValid_4 : decode cX12_isValid 4 = .ok (.iconst 0, 1) := by decide +kernel
theorem dX12_isValid_5 : decode cX12_isValid 5 = .ok (.istore_n 1, 1) := by decide +kernel
theorem dX12_isValid_6 : decode cX12_isValid 6 = .ok (.iload_n 1, 1) := by decide +kernel
theorem dX12_isValid_7 : decode cX12_isValid 7 = .ok (.aload_n 0, 1) := by decide +kernel
theorem dX12_isValid_8 : decode cX12_isValid 8 = .ok (.getfield 171, 3) := by decide +kernel
theorem dX12_isValid_11 : decode cX12_isValid 11 = .ok (.if_icmp .ge 20, 3) := by decide +kernel
theorem dX12_isValid_14 : decode cX12_isValid 14 = .ok (.aload_n 0, 1) := by decide +kernel
theorem dX12_isValid_15 : decode cX12_isValid 15 = .ok (.getfield 99, 3) := by decide +kernel
theorem dX12_isValid_18 : decode cX12_isValid 18 = .ok (.iload_n 1, 1) := by decide +kernel
theorem dX12_isValid_19 : decode cX12_isValid 19 = .ok (.iaload, 1) := by decide +kernel
theorem dX12_isValid_20 : decode cX12_isValid 20 = .ok (.ifCond .ge 5, 3) := by decide +kernel
theorem dX12_isValid_23 : decode cX12_isValid 23 = .ok (.iconst 0, 1) := by decide +kernel
theorem dX12_isValid_24 : decode cX12_isValid 24 = .ok (.ireturn, 1) := by decide +kernel
theorem dX12_isValid_25 : decode cX12_isValid 25 = .ok (.iinc 1 1, 3) := by decide +kernel
theorem dX12_isValid_28 : decode cX12_isValid 28 = .ok (.goto (-22), 3) := by decide +kernel
theorem dX12_isValid_31 : decode cX12_isValid 31 = .ok (.iconst 0, 1) := by decide +kernel
theorem dX12_isValid_32 : decode cX12_isValid 32 = .ok (.istore_n 1, 1) := by decide +kernel
theorem dX12_isValid_33 : decode cX12_isValid 33 = .ok (.iload_n 1, 1) := by decide +kernel
theorem dX12_isValid_34 : decode cX12_isValid 34 = .ok (.bipush 48, 2) := by decide +kernel
theorem dX12_isValid_36 : decode cX12_isValid 36 = .ok (.if_icmp .ge 24, 3) := by decide +kernel
theorem dX12_isValid_39 : decode cX12_isValid 39 = .ok (.aload_n 0, 1) := by decide +kernel
theorem dX12_isValid_40 : decode cX12_isValid 40 = .ok (.aload_n 0, 1) := by decide +kernel
theorem dX12_isValid_41 : decode cX12_isValid 41 = .ok (.getfield 117, 3) := by decide +kernel
theorem dX12_isValid_44 : decode cX12_isValid 44 = .ok (.iload_n 1, 1) := by decide +kernel
theorem dX12_isValid_45 : decode cX12_isValid 45 = .ok (.iaload, 1) := by decide +kernel
theorem dX12_isValid_46 : decode cX12_isValid 46 = .ok (.invokevirtual 475, 3) := by decide +kernel
theorem dX12_isValid_49 : decode cX12_isValid 49 = .ok (.ifCond .eq 5, 3) := by decide +kernel
theorem dX12_isValid_52 : decode cX12_isValid 52 = .ok (.iconst 0, 1) := by decide +kernel
theorem dX12_isValid_53 : decode cX12_isValid 53 = .ok (.ireturn, 1) := by decide +kernel
theorem dX12_isValid_54 : decode cX12_isValid 54 = .ok (.iinc 1 1, 3) := by decide +kernel
theorem dX12_isValid_57 : decode cX12_isValid 57 = .ok (.goto (-24), 3) := by decide +kernel
theorem dX12_isValid_60 : decode cX12_isValid 60 = .ok (.iconst 1, 1) := by decide +kernel
theorem dX12_isValid_61 : decode cX12_isValid 61 = .ok (.ireturn, 1) := by decide +kernel
theorem dX12_drillState_0 : decode cX12_drillState 0 = .ok (.aload_n 0, 1) := by decide +kernel
theorem dX12_drillState_1 : decode cX12_drillState 1 = .ok (.iconst 0, 1) := by decide +kernel
theorem dX12_drillState_2 : decode cX12_drillState 2 = .ok (.putfield 150, 3) := by decide +kernel
theorem dX12_drillState_5 : decode cX12_drillState 5 = .ok (.aload_n 0, 1) := by decide +kernel
theorem dX12_drillState_6 : decode cX12_drillState 6 = .ok (.iload_n 1, 1) := by decide +kernel
theorem dX12_drillState_7 : decode cX12_drillState 7 = .ok (.invokevirtual 447, 3) := by decide +kernel
theorem dX12_drillState_10 : decode cX12_drillState 10 = .ok (.ifCond .eq 5, 3) := by decide +kernel
theorem dX12_drillState_13 : decode cX12_drillState 13 = .ok (.iconst 0, 1) := by decide +kernel
theorem dX12_drillState_14 : decode cX12_drillState 14 = .ok (.ireturn, 1) := by decide +kernel
theorem dX12_drillState_15 : decode cX12_drillState 15 = .ok (.aload_n 0, 1) := by decide +kernel
theorem dX12_drillState_16 : decode cX12_drillState 16 = .ok (.invokevirtual 511, 3) := by decide +kernel
theorem dX12_drillState_19 : decode cX12_drillState 19 = .ok (.aload_n 0, 1) := by decide +kernel
theorem dX12_drillState_20 : decode cX12_drillState 20 = .ok (.getfield 99, 3) := by decide +kernel
theorem dX12_drillState_23 : decode cX12_drillState 23 = .ok (.iload_n 1, 1) := by decide +kernel
theorem dX12_drillState_24 : decode cX12_drillState 24 = .ok (.iaload, 1) := by decide +kernel
theorem dX12_drillState_25 : decode cX12_drillState 25 = .ok (.ireturn, 1) := by decide +kernel
theorem dX12_drillEngines_0 : decode cX12_drillEngines 0 = .ok (.aload_n 0, 1) := by decide +kernel
theorem dX12_drillEngines_1 : decode cX12_drillEngines 1 = .ok (.iconst 0, 1) := by decide +kernel
theorem dX12_drillEngines_2 : decode cX12_drillEngines 2 = .ok (.putfield 150, 3) := by decide +kernel
theorem dX12_drillEngines_5 : decode cX12_drillEngines 5 = .ok (.aload_n 0, 1) := by decide +kernel
theorem dX12_drillEngines_6 : decode cX12_drillEngines 6 = .ok (.iload_n 1, 1) := by decide +kernel
theorem dX12_drillEngines_7 : decode cX12_drillEngines 7 = .ok (.invokevirtual 447, 3) := by decide +kernel
theorem dX12_drillEngines_10 : decode cX12_drillEngines 10 = .ok (.ifCond .eq 5, 3) := by decide +kernel
theorem dX12_drillEngines_13 : decode cX12_drillEngines 13 = .ok (.iconst 0, 1) := by decide +kernel
theorem dX12_drillEngines_14 : decode cX12_drillEngines 14 = .ok (.ireturn, 1) := by decide +kernel
theorem dX12_drillEngines_15 : decode cX12_drillEngines 15 = .ok (.aload_n 0, 1) := by decide +kernel
theorem dX12_drillEngines_16 : decode cX12_drillEngines 16 = .ok (.invokevirtual 511, 3) := by decide +kernel
theorem dX12_drillEngines_19 : decode cX12_drillEngines 19 = .ok (.aload_n 0, 1) := by decide +kernel
theorem dX12_drillEngines_20 : decode cX12_drillEngines 20 = .ok (.getfield 102, 3) := by decide +kernel
theorem dX12_drillEngines_23 : decode cX12_drillEngines 23 = .ok (.iload_n 1, 1) := by decide +kernel
theorem dX12_drillEngines_24 : decode cX12_drillEngines 24 = .ok (.iaload, 1) := by decide +kernel
theorem dX12_drillEngines_25 : decode cX12_drillEngines 25 = .ok (.ireturn, 1) := by decide +kernel
theorem dX12_drillBegin_0 : decode cX12_drillBegin 0 = .ok (.aload_n 0, 1) := by decide +kernel
theorem dX12_drillBegin_1 : decode cX12_drillBegin 1 = .ok (.iconst 0, 1) := by decide +kernel
theorem dX12_drillBegin_2 : decode cX12_drillBegin 2 = .ok (.putfield 150, 3) := by decide +kernel
theorem dX12_drillBegin_5 : decode cX12_drillBegin 5 = .ok (.aload_n 0, 1) := by decide +kernel
theorem dX12_drillBegin_6 : decode cX12_drillBegin 6 = .ok (.iload_n 1, 1) := by decide +kernel
theorem dX12_drillBegin_7 : decode cX12_drillBegin 7 = .ok (.invokevirtual 447, 3) := by decide +kernel
theorem dX12_drillBegin_10 : decode cX12_drillBegin 10 = .ok (.ifCond .eq 5, 3) := by decide +kernel
theorem dX12_drillBegin_13 : decode cX12_drillBegin 13 = .ok (.iconst 0, 1) := by decide +kernel
theorem dX12_drillBegin_14 : decode cX12_drillBegin 14 = .ok (.ireturn, 1) := by decide +kernel
theorem dX12_drillBegin_15 : decode cX12_drillBegin 15 = .ok (.aload_n 0, 1) := by decide +kernel
theorem dX12_drillBegin_16 : decode cX12_drillBegin 16 = .ok (.invokevirtual 511, 3) := by decide +kernel
theorem dX12_drillBegin_19 : decode cX12_drillBegin 19 = .ok (.aload_n 0, 1) := by decide +kernel
theorem dX12_drillBegin_20 : decode cX12_drillBegin 20 = .ok (.getfield 105, 3) := by decide +kernel
theorem dX12_drillBegin_23 : decode cX12_drillBegin 23 = .ok (.iload_n 1, 1) := by decide +kernel
theorem dX12_drillBegin_24 : decode cX12_drillBegin 24 = .ok (.iaload, 1) := by decide +kernel
theorem dX12_drillBegin_25 : decode cX12_drillBegin 25 = .ok (.ireturn, 1) := by decide +kernel
theorem dX12_drillEnd_0 : decode cX12_drillEnd 0 = .ok (.aload_n 0, 1) := by decide +kernel
theorem dX12_drillEnd_1 : decode cX12_drillEnd 1 = .ok (.iconst 0, 1) := by decide +kernel
theorem dX12_drillEnd_2 : decode cX12_drillEnd 2 = .ok (.putfield 150, 3) := by decide +kernel
theorem dX12_drillEnd_5 : decode cX12_drillEnd 5 = .ok (.aload_n 0, 1) := by decide +kernel
theorem dX12_drillEnd_6 : decode cX12_drillEnd 6 = .ok (.iload_n 1, 1) := by decide +kernel
theorem dX12_drillEnd_7 : decode cX12_drillEnd 7 = .ok (.invokevirtual 447, 3) := by decide +kernel
theorem dX12_drillEnd_10 : decode cX12_drillEnd 10 = .ok (.ifCond .eq 5, 3) := by decide +kernel
theorem dX12_drillEnd_13 : decode cX12_drillEnd 13 = .ok (.iconst 0, 1) := by decide +kernel
theorem dX12_drillEnd_14 : decode cX12_drillEnd 14 = .ok (.ireturn, 1) := by decide +kernel
theorem dX12_drillEnd_15 : decode cX12_drillEnd 15 = .ok (.aload_n 0, 1) := by decide +kernel
theorem dX12_drillEnd_16 : decode cX12_drillEnd 16 = .ok (.invokevirtual 511, 3) := by decide +kernel
theorem dX12_drillEnd_19 : decode cX12_drillEnd 19 = .ok (.aload_n 0, 1) := by decide +kernel
theorem dX12_drillEnd_20 : decode cX12_drillEnd 20 = .ok (.getfield 108, 3) := by decide +kernel
theorem dX12_drillEnd_23 : decode cX12_drillEnd 23 = .ok (.iload_n 1, 1) := by decide +kernel
theorem dX12_drillEnd_24 : decode cX12_drillEnd 24 = .ok (.iaload, 1) := by decide +kernel
theorem dX12_drillEnd_25 : decode cX12_drillEnd 25 = .ok (.ireturn, 1) := by decide +kernel
theorem dX12_drillBack_0 : decode cX12_drillBack 0 = .ok (.aload_n 0, 1) := by decide +kernel
theorem dX12_drillBack_1 : decode cX12_drillBack 1 = .ok (.iconst 0, 1) := by decide +kernel
theorem dX12_drillBack_2 : decode cX12_drillBack 2 = .ok (.putfield 150, 3) := by decide +kernel
theorem dX12_drillBack_5 : decode cX12_drillBack 5 = .ok (.aload_n 0, 1) := by decide +kernel
theorem dX12_drillBack_6 : decode cX12_drillBack 6 = .ok (.iload_n 1, 1) := by decide +kernel
theorem dX12_drillBack_7 : decode cX12_drillBack 7 = .ok (.invokevirtual 447, 3) := by decide +kernel
theorem dX12_drillBack_10 : decode cX12_drillBack 10 = .ok (.ifCond .eq 5, 3) := by decide +kernel
theorem dX12_drillBack_13 : decode cX12_drillBack 13 = .ok (.iconst 0, 1) := by decide +kernel
theorem dX12_drillBack_14 : decode cX12_drillBack 14 = .ok (.ireturn, 1) := by decide +kernel
theorem dX12_drillBack_15 : decode cX12_drillBack 15 = .ok (.aload_n 0, 1) := by decide +kernel
theorem dX12_drillBack_16 : decode cX12_drillBack 16 = .ok (.invokevirtual 511, 3) := by decide +kernel
theorem dX12_drillBack_19 : decode cX12_drillBack 19 = .ok (.aload_n 0, 1) := by decide +kernel
theorem dX12_drillBack_20 : decode cX12_drillBack 20 = .ok (.getfield 111, 3) := by decide +kernel
theorem dX12_drillBack_23 : decode cX12_drillBack 23 = .ok (.iload_n 1, 1) := by decide +kernel
theorem dX12_drillBack_24 : decode cX12_drillBack 24 = .ok (.iaload, 1) := by decide +kernel
theorem dX12_drillBack_25 : decode cX12_drillBack 25 = .ok (.ireturn, 1) := by decide +kernel
theorem dX12_judged_0 : decode cX12_judged 0 = .ok (.aload_n 0, 1) := by decide +kernel
theorem dX12_judged_1 : decode cX12_judged 1 = .ok (.invokevirtual 511, 3) := by decide +kernel
theorem dX12_judged_4 : decode cX12_judged 4 = .ok (.aload_n 0, 1) := by decide +kernel
theorem dX12_judged_5 : decode cX12_judged 5 = .ok (.iconst 0, 1) := by decide +kernel
theorem dX12_judged_6 : decode cX12_judged 6 = .ok (.putfield 517, 3) := by decide +kernel
theorem dX12_judged_9 : decode cX12_judged 9 = .ok (.iconst 0, 1) := by decide +kernel
theorem dX12_judged_10 : decode cX12_judged 10 = .ok (.istore_n 2, 1) := by decide +kernel
theorem dX12_judged_11 : decode cX12_judged 11 = .ok (.iload_n 2, 1) := by decide +kernel
theorem dX12_judged_12 : decode cX12_judged 12 = .ok (.bipush 48, 2) := by decide +kernel
theorem dX12_judged_14 : decode cX12_judged 14 = .ok (.if_icmp .ge 98, 3) := by decide +kernel
theorem dX12_judged_17 : decode cX12_judged 17 = .ok (.iconst 1, 1) := by decide +kernel
theorem dX12_judged_18 : decode cX12_judged 18 = .ok (.istore_n 3, 1) := by decide +kernel
theorem dX12_judged_19 : decode cX12_judged 19 = .ok (.iload_n 3, 1) := by decide +kernel
theorem dX12_judged_20 : decode cX12_judged 20 = .ok (.iconst 5, 1) := by decide +kernel
theorem dX12_judged_21 : decode cX12_judged 21 = .ok (.if_icmp .ge 59, 3) := by decide +kernel
theorem dX12_judged_24 : decode cX12_judged 24 = .ok (.iconst 0, 1) := by decide +kernel
theorem dX12_judged_25 : decode cX12_judged 25 = .ok (.istore 4, 2) := by decide +kernel
theorem dX12_judged_27 : decode cX12_judged 27 = .ok (.iload 4, 2) := by decide +kernel
theorem dX12_judged_29 : decode cX12_judged 29 = .ok (.aload_n 0, 1) := by decide +kernel
theorem dX12_judged_30 : decode cX12_judged 30 = .ok (.getfield 171, 3) := by decide +kernel
theorem dX12_judged_33 : decode cX12_judged 33 = .ok (.if_icmp .ge 41, 3) := by decide +kernel
theorem dX12_judged_36 : decode cX12_judged 36 = .ok (.aload_n 0, 1) := by decide +kernel
theorem dX12_judged_37 : decode cX12_judged 37 = .ok (.getfield 68, 3) := by decide +kernel
theorem dX12_judged_40 : decode cX12_judged 40 = .ok (.iload 4, 2) := by decide +kernel
theorem dX12_judged_42 : decode cX12_judged 42 = .ok (.iaload, 1) := by decide +kernel
theorem dX12_judged_43 : decode cX12_judged 43 = .ok (.iload_n 2, 1) := by decide +kernel
theorem dX12_judged_44 : decode cX12_judged 44 = .ok (.if_icmp .ne 24, 3) := by decide +kernel
theorem dX12_judged_47 : decode cX12_judged 47 = .ok (.aload_n 0, 1) := by decide +kernel
theorem dX12_judged_48 : decode cX12_judged 48 = .ok (.getfield 99, 3) := by decide +kernel
theorem dX12_judged_51 : decode cX12_judged 51 = .ok (.iload 4, 2) := by decide +kernel
theorem dX12_judged_53 : decode cX12_judged 53 = .ok (.iaload, 1) := by decide +kernel
theorem dX12_judged_54 : decode cX12_judged 54 = .ok (.iload_n 3, 1) := by decide +kernel
theorem dX12_judged_55 : decode cX12_judged 55 = .ok (.ineg, 1) := by decide +kernel
theorem dX12_judged_56 : decode cX12_judged 56 = .ok (.if_icmp .ne 12, 3) := by decide +kernel
theorem dX12_judged_59 : decode cX12_judged 59 = .ok (.aload_n 0, 1) := by decide +kernel
theorem dX12_judged_60 : decode cX12_judged 60 = .ok (.iload_n 1, 1) := by decide +kernel
theorem dX12_judged_61 : decode cX12_judged 61 = .ok (.iload_n 3, 1) := by decide +kernel
theorem dX12_judged_62 : decode cX12_judged 62 = .ok (.iload_n 2, 1) := by decide +kernel
theorem dX12_judged_63 : decode cX12_judged 63 = .ok (.iload 4, 2) := by decide +kernel
theorem dX12_judged_65 : decode cX12_judged 65 = .ok (.invokevirtual 529, 3) := by decide +kernel
theorem dX12_judged_68 : decode cX12_judged 68 = .ok (.iinc 4 1, 3) := by decide +kernel
theorem dX12_judged_71 : decode cX12_judged 71 = .ok (.goto (-44), 3) := by decide +kernel
theorem dX12_judged_74 : decode cX12_judged 74 = .ok (.iinc 3 1, 3) := by decide +kernel
theorem dX12_judged_77 : decode cX12_judged 77 = .ok (.goto (-58), 3) := by decide +kernel
theorem dX12_judged_80 : decode cX12_judged 80 = .ok (.aload_n 0, 1) := by decide +kernel
theorem dX12_judged_81 : decode cX12_judged 81 = .ok (.aload_n 0, 1) := by decide +kernel
theorem dX12_judged_82 : decode cX12_judged 82 = .ok (.getfield 117, 3) := by decide +kernel
theorem dX12_judged_85 : decode cX12_judged 85 = .ok (.iload_n 2, 1) := by decide +kernel
theorem dX12_judged_86 : decode cX12_judged 86 = .ok (.iaload, 1) := by decide +kernel
theorem dX12_judged_87 : decode cX12_judged 87 = .ok (.invokevirtual 475, 3) := by decide +kernel
theorem dX12_judged_90 : decode cX12_judged 90 = .ok (.istore_n 3, 1) := by decide +kernel
theorem dX12_judged_91 : decode cX12_judged 91 = .ok (.iload_n 3, 1) := by decide +kernel
theorem dX12_judged_92 : decode cX12_judged 92 = .ok (.ifCond .eq 14, 3) := by decide +kernel
theorem dX12_judged_95 : decode cX12_judged 95 = .ok (.aload_n 0, 1) := by decide +kernel
theorem dX12_judged_96 : decode cX12_judged 96 = .ok (.iload_n 1, 1) := by decide +kernel
theorem dX12_judged_97 : decode cX12_judged 97 = .ok (.iconst 5, 1) := by decide +kernel
theorem dX12_judged_98 : decode cX12_judged 98 = .ok (.iload_n 2, 1) := by decide +kernel
theorem dX12_judged_99 : decode cX12_judged 99 = .ok (.iload_n 3, 1) := by decide +kernel
theorem dX12_judged_100 : decode cX12_judged 100 = .ok (.invokestatic 533, 3) := by decide +kernel
theorem dX12_judged_103 : decode cX12_judged 103 = .ok (.invokevirtual 529, 3) := by decide +kernel
theorem dX12_judged_106 : decode cX12_judged 106 = .ok (.iinc 2 1, 3) := by decide +kernel
theorem dX12_judged_109 : decode cX12_judged 109 = .ok (.goto (-98), 3) := by decide +kernel
theorem dX12_judged_112 : decode cX12_judged 112 = .ok (.return_, 1) := by decide +kernel
theorem dX12_violations_0 : decode cX12_violations 0 = .ok (.aload_n 0, 1) := by decide +kernel
theorem dX12_violations_1 : decode cX12_violations 1 = .ok (.iconst 0, 1) := by decide +kernel
theorem dX12_violations_2 : decode cX12_violations 2 = .ok (.putfield 150, 3) := by decide +kernel
theorem dX12_violations_5 : decode cX12_violations 5 = .ok (.aload_n 0, 1) := by decide +kernel
theorem dX12_violations_6 : decode cX12_violations 6 = .ok (.iconst (-1), 1) := by decide +kernel
theorem dX12_violations_7 : decode cX12_violations 7 = .ok (.invokevirtual 536, 3) := by decide +kernel
theorem dX12_violations_10 : decode cX12_violations 10 = .ok (.aload_n 0, 1) := by decide +kernel
theorem dX12_violations_11 : decode cX12_violations 11 = .ok (.getfield 517, 3) := by decide +kernel
theorem dX12_violations_14 : decode cX12_violations 14 = .ok (.ireturn, 1) := by decide +kernel
theorem dX12_noViolation_0 : decode cX12_noViolation 0 = .ok (.aload_n 0, 1) := by decide +kernel
theorem dX12_noViolation_1 : decode cX12_noViolation 1 = .ok (.iload_n 1, 1) := by decide +kernel
theorem dX12_noViolation_2 : decode cX12_noViolation 2 = .ok (.invokevirtual 536, 3) := by decide +kernel
theorem dX12_noViolation_5 : decode cX12_noViolation 5 = .ok (.aload_n 0, 1) := by decide +kernel
theorem dX12_noViolation_6 : decode cX12_noViolation 6 = .ok (.iload_n 1, 1) := by decide +kernel
theorem dX12_noViolation_7 : decode cX12_noViolation 7 = .ok (.iconst 0, 1) := by decide +kernel
theorem dX12_noViolation_8 : decode cX12_noViolation 8 = .ok (.aload_n 0, 1) := by decide +kernel
theorem dX12_noViolation_9 : decode cX12_noViolation 9 = .ok (.getfield 517, 3) := by decide +kernel
theorem dX12_noViolation_12 : decode cX12_noViolation 12 = .ok (.iconst 1, 1) := by decide +kernel
theorem dX12_noViolation_13 : decode cX12_noViolation 13 = .ok (.isub, 1) := by decide +kernel
theorem dX12_noViolation_14 : decode cX12_noViolation 14 = .ok (.invokestatic 210, 3) := by decide +kernel
theorem dX12_noViolation_17 : decode cX12_noViolation 17 = .ok (.ifCond .ne 7, 3) := by decide +kernel
theorem dX12_noViolation_20 : decode cX12_noViolation 20 = .ok (.iconst 1, 1) := by decide +kernel
theorem dX12_noViolation_21 : decode cX12_noViolation 21 = .ok (.goto 4, 3) := by decide +kernel
theorem dX12_noViolation_24 : decode cX12_noViolation 24 = .ok (.iconst 0, 1) := by decide +kernel
theorem dX12_noViolation_25 : decode cX12_noViolation 25 = .ok (.iconst 1, 1) := by decide +kernel
theorem dX12_noViolation_26 : decode cX12_noViolation 26 = .ok (.invokevirtual 438, 3) := by decide +kernel
theorem dX12_noViolation_29 : decode cX12_noViolation 29 = .ok (.ireturn, 1) := by decide +kernel
theorem dX12_violationCode_0 : decode cX12_violationCode 0 = .ok (.aload_n 0, 1) := by decide +kernel
theorem dX12_violationCode_1 : decode cX12_violationCode 1 = .ok (.iconst 0, 1) := by decide +kernel
theorem dX12_violationCode_2 : decode cX12_violationCode 2 = .ok (.putfield 150, 3) := by decide +kernel
theorem dX12_violationCode_5 : decode cX12_violationCode 5 = .ok (.aload_n 0, 1) := by decide +kernel
theorem dX12_violationCode_6 : decode cX12_violationCode 6 = .ok (.iload_n 1, 1) := by decide +kernel
theorem dX12_violationCode_7 : decode cX12_violationCode 7 = .ok (.invokevirtual 539, 3) := by decide +kernel
theorem dX12_violationCode_10 : decode cX12_violationCode 10 = .ok (.ifCond .eq 7, 3) := by decide +kernel
theorem dX12_violationCode_13 : decode cX12_violationCode 13 = .ok (.iconst 0, 1) := by decide +kernel
theorem dX12_violationCode_14 : decode cX12_violationCode 14 = .ok (.goto 7, 3) := by decide +kernel
theorem dX12_violationCode_17 : decode cX12_violationCode 17 = .ok (.aload_n 0, 1) := by decide +kernel
theorem dX12_violationCode_18 : decode cX12_violationCode 18 = .ok (.getfield 520, 3) := by decide +kernel
theorem dX12_violationCode_21 : decode cX12_violationCode 21 = .ok (.ireturn, 1) := by decide +kernel
theorem dX12_violationSlot_0 : decode cX12_violationSlot 0 = .ok (.aload_n 0, 1) := by decide +kernel
theorem dX12_violationSlot_1 : decode cX12_violationSlot 1 = .ok (.iconst 0, 1) := by decide +kernel
theorem dX12_violationSlot_2 : decode cX12_violationSlot 2 = .ok (.putfield 150, 3) := by decide +kernel
theorem dX12_violationSlot_5 : decode cX12_violationSlot 5 = .ok (.aload_n 0, 1) := by decide +kernel
theorem dX12_violationSlot_6 : decode cX12_violationSlot 6 = .ok (.iload_n 1, 1) := by decide +kernel
theorem dX12_violationSlot_7 : decode cX12_violationSlot 7 = .ok (.invokevirtual 539, 3) := by decide +kernel
theorem dX12_violationSlot_10 : decode cX12_violationSlot 10 = .ok (.ifCond .eq 7, 3) := by decide +kernel
theorem dX12_violationSlot_13 : decode cX12_violationSlot 13 = .ok (.iconst 0, 1) := by decide +kernel
theorem dX12_violationSlot_14 : decode cX12_violationSlot 14 = .ok (.goto 7, 3) := by decide +kernel
theorem dX12_violationSlot_17 : decode cX12_violationSlot 17 = .ok (.aload_n 0, 1) := by decide +kernel
theorem dX12_violationSlot_18 : decode cX12_violationSlot 18 = .ok (.getfield 523, 3) := by decide +kernel
theorem dX12_violationSlot_21 : decode cX12_violationSlot 21 = .ok (.ireturn, 1) := by decide +kernel
theorem dX12_violationSubject_0 : decode cX12_violationSubject 0 = .ok (.aload_n 0, 1) := by decide +kernel
theorem dX12_violationSubject_1 : decode cX12_violationSubject 1 = .ok (.iconst 0, 1) := by decide +kernel
theorem dX12_violationSubject_2 : decode cX12_violationSubject 2 = .ok (.putfield 150, 3) := by decide +kernel
theorem dX12_violationSubject_5 : decode cX12_violationSubject 5 = .ok (.aload_n 0, 1) := by decide +kernel
theorem dX12_violationSubject_6 : decode cX12_violationSubject 6 = .ok (.iload_n 1, 1) := by decide +kernel
theorem dX12_violationSubject_7 : decode cX12_violationSubject 7 = .ok (.invokevirtual 539, 3) := by decide +kernel
theorem dX12_violationSubject_10 : decode cX12_violationSubject 10 = .ok (.ifCond .eq 7, 3) := by decide +kernel
theorem dX12_violationSubject_13 : decode cX12_violationSubject 13 = .ok (.iconst 0, 1) := by decide +kernel
theorem dX12_violationSubject_14 : decode cX12_violationSubject 14 = .ok (.goto 7, 3) := by decide +kernel
theorem dX12_violationSubject_17 : decode cX12_violationSubject 17 = .ok (.aload_n 0, 1) := by decide +kernel
theorem dX12_violationSubject_18 : decode cX12_violationSubject 18 = .ok (.getfield 526, 3) := by decide +kernel
theorem dX12_violationSubject_21 : decode cX12_violationSubject 21 = .ok (.ireturn, 1) := by decide +kernel
theorem dX12_availableAt_0 : decode cX12_availableAt 0 = .ok (.aload_n 0, 1) := by decide +kernel
theorem dX12_availableAt_1 : decode cX12_availableAt 1 = .ok (.iconst 0, 1) := by decide +kernel
theorem dX12_availableAt_2 : decode cX12_availableAt 2 = .ok (.putfield 150, 3) := by decide +kernel
theorem dX12_availableAt_5 : decode cX12_availableAt 5 = .ok (.aload_n 0, 1) := by decide +kernel
theorem dX12_availableAt_6 : decode cX12_availableAt 6 = .ok (.iload_n 1, 1) := by decide +kernel
theorem dX12_availableAt_7 : decode cX12_availableAt 7 = .ok (.invokevirtual 542, 3) := by decide +kernel
theorem dX12_availableAt_10 : decode cX12_availableAt 10 = .ok (.ifCond .eq 5, 3) := by decide +kernel
theorem dX12_availableAt_13 : decode cX12_availableAt 13 = .ok (.iconst 0, 1) := by decide +kernel
theorem dX12_availableAt_14 : decode cX12_availableAt 14 = .ok (.ireturn, 1) := by decide +kernel
theorem dX12_availableAt_15 : decode cX12_availableAt 15 = .ok (.aload_n 0, 1) := by decide +kernel
theorem dX12_availableAt_16 : decode cX12_availableAt 16 = .ok (.invokevirtual 511, 3) := by decide +kernel
theorem dX12_availableAt_19 : decode cX12_availableAt 19 = .ok (.aload_n 0, 1) := by decide +kernel
theorem dX12_availableAt_20 : decode cX12_availableAt 20 = .ok (.getfield 117, 3) := by decide +kernel
theorem dX12_availableAt_23 : decode cX12_availableAt 23 = .ok (.iload_n 1, 1) := by decide +kernel
theorem dX12_availableAt_24 : decode cX12_availableAt 24 = .ok (.iaload, 1) := by decide +kernel
theorem dX12_availableAt_25 : decode cX12_availableAt 25 = .ok (.ireturn, 1) := by decide +kernel
theorem dX12_uncoveredAt_0 : decode cX12_uncoveredAt 0 = .ok (.aload_n 0, 1) := by decide +kernel
theorem dX12_uncoveredAt_1 : decode cX12_uncoveredAt 1 = .ok (.iconst 0, 1) := by decide +kernel
theorem dX12_uncoveredAt_2 : decode cX12_uncoveredAt 2 = .ok (.putfield 150, 3) := by decide +kernel
theorem dX12_uncoveredAt_5 : decode cX12_uncoveredAt 5 = .ok (.aload_n 0, 1) := by decide +kernel
theorem dX12_uncoveredAt_6 : decode cX12_uncoveredAt 6 = .ok (.iload_n 1, 1) := by decide +kernel
theorem dX12_uncoveredAt_7 : decode cX12_uncoveredAt 7 = .ok (.invokevirtual 542, 3) := by decide +kernel
theorem dX12_uncoveredAt_10 : decode cX12_uncoveredAt 10 = .ok (.ifCond .eq 5, 3) := by decide +kernel
theorem dX12_uncoveredAt_13 : decode cX12_uncoveredAt 13 = .ok (.iconst 0, 1) := by decide +kernel
theorem dX12_uncoveredAt_14 : decode cX12_uncoveredAt 14 = .ok (.ireturn, 1) := by decide +kernel
theorem dX12_uncoveredAt_15 : decode cX12_uncoveredAt 15 = .ok (.aload_n 0, 1) := by decide +kernel
theorem dX12_uncoveredAt_16 : decode cX12_uncoveredAt 16 = .ok (.invokevirtual 511, 3) := by decide +kernel
theorem dX12_uncoveredAt_19 : decode cX12_uncoveredAt 19 = .ok (.aload_n 0, 1) := by decide +kernel
theorem dX12_uncoveredAt_20 : decode cX12_uncoveredAt 20 = .ok (.aload_n 0, 1) := by decide +kernel
theorem dX12_uncoveredAt_21 : decode cX12_uncoveredAt 21 = .ok (.getfield 117, 3) := by decide +kernel
theorem dX12_uncoveredAt_24 : decode cX12_uncoveredAt 24 = .ok (.iload_n 1, 1) := by decide +kernel
theorem dX12_uncoveredAt_25 : decode cX12_uncoveredAt 25 = .ok (.iaload, 1) := by decide +kernel
theorem dX12_uncoveredAt_26 : decode cX12_uncoveredAt 26 = .ok (.invokevirtual 475, 3) := by decide +kernel
theorem dX12_uncoveredAt_29 : decode cX12_uncoveredAt 29 = .ok (.ireturn, 1) := by decide +kernel
theorem dX12_dryHoses_0 : decode cX12_dryHoses 0 = .ok (.aload_n 0, 1) := by decide +kernel
theorem dX12_dryHoses_1 : decode cX12_dryHoses 1 = .ok (.iconst 0, 1) := by decide +kernel
theorem dX12_dryHoses_2 : decode cX12_dryHoses 2 = .ok (.putfield 150, 3) := by decide +kernel
theorem dX12_dryHoses_5 : decode cX12_dryHoses 5 = .ok (.aload_n 0, 1) := by decide +kernel
theorem dX12_dryHoses_6 : decode cX12_dryHoses 6 = .ok (.iload_n 1, 1) := by decide +kernel
theorem dX12_dryHoses_7 : decode cX12_dryHoses 7 = .ok (.invokevirtual 542, 3) := by decide +kernel
theorem dX12_dryHoses_10 : decode cX12_dryHoses 10 = .ok (.ifCond .eq 5, 3) := by decide +kernel
theorem dX12_dryHoses_13 : decode cX12_dryHoses 13 = .ok (.iconst 0, 1) := by decide +kernel
theorem dX12_dryHoses_14 : decode cX12_dryHoses 14 = .ok (.ireturn, 1) := by decide +kernel
theorem dX12_dryHoses_15 : decode cX12_dryHoses 15 = .ok (.aload_n 0, 1) := by decide +kernel
theorem dX12_dryHoses_16 : decode cX12_dryHoses 16 = .ok (.invokevirtual 511, 3) := by decide +kernel
theorem dX12_dryHoses_19 : decode cX12_dryHoses 19 = .ok (.aload_n 0, 1) := by decide +kernel
theorem dX12_dryHoses_20 : decode cX12_dryHoses 20 = .ok (.getfield 120, 3) := by decide +kernel
theorem dX12_dryHoses_23 : decode cX12_dryHoses 23 = .ok (.iload_n 1, 1) := by decide +kernel
theorem dX12_dryHoses_24 : decode cX12_dryHoses 24 = .ok (.iaload, 1) := by decide +kernel
theorem dX12_dryHoses_25 : decode cX12_dryHoses 25 = .ok (.ireturn, 1) := by decide +kernel
theorem dX12_wetHoses_0 : decode cX12_wetHoses 0 = .ok (.aload_n 0, 1) := by decide +kernel
theorem dX12_wetHoses_1 : decode cX12_wetHoses 1 = .ok (.iconst 0, 1) := by decide +kernel
theorem dX12_wetHoses_2 : decode cX12_wetHoses 2 = .ok (.putfield 150, 3) := by decide +kernel
theorem dX12_wetHoses_5 : decode cX12_wetHoses 5 = .ok (.aload_n 0, 1) := by decide +kernel
theorem dX12_wetHoses_6 : decode cX12_wetHoses 6 = .ok (.iload_n 1, 1) := by decide +kernel
theorem dX12_wetHoses_7 : decode cX12_wetHoses 7 = .ok (.invokevirtual 542, 3) := by decide +kernel
theorem dX12_wetHoses_10 : decode cX12_wetHoses 10 = .ok (.ifCond .eq 5, 3) := by decide +kernel
theorem dX12_wetHoses_13 : decode cX12_wetHoses 13 = .ok (.iconst 0, 1) := by decide +kernel
theorem dX12_wetHoses_14 : decode cX12_wetHoses 14 = .ok (.ireturn, 1) := by decide +kernel
theorem dX12_wetHoses_15 : decode cX12_wetHoses 15 = .ok (.aload_n 0, 1) := by decide +kernel
theorem dX12_wetHoses_16 : decode cX12_wetHoses 16 = .ok (.invokevirtual 511, 3) := by decide +kernel
theorem dX12_wetHoses_19 : decode cX12_wetHoses 19 = .ok (.aload_n 0, 1) := by decide +kernel
theorem dX12_wetHoses_20 : decode cX12_wetHoses 20 = .ok (.getfield 123, 3) := by decide +kernel
theorem dX12_wetHoses_23 : decode cX12_wetHoses 23 = .ok (.iload_n 1, 1) := by decide +kernel
theorem dX12_wetHoses_24 : decode cX12_wetHoses 24 = .ok (.iaload, 1) := by decide +kernel
theorem dX12_wetHoses_25 : decode cX12_wetHoses 25 = .ok (.ireturn, 1) := by decide +kernel
theorem dX12_dryingHoses_0 : decode cX12_dryingHoses 0 = .ok (.aload_n 0, 1) := by decide +kernel
theorem dX12_dryingHoses_1 : decode cX12_dryingHoses 1 = .ok (.iconst 0, 1) := by decide +kernel
theorem dX12_dryingHoses_2 : decode cX12_dryingHoses 2 = .ok (.putfield 150, 3) := by decide +kernel
theorem dX12_dryingHoses_5 : decode cX12_dryingHoses 5 = .ok (.aload_n 0, 1) := by decide +kernel
theorem dX12_dryingHoses_6 : decode cX12_dryingHoses 6 = .ok (.iload_n 1, 1) := by decide +kernel
theorem dX12_dryingHoses_7 : decode cX12_dryingHoses 7 = .ok (.invokevirtual 542, 3) := by decide +kernel
theorem dX12_dryingHoses_10 : decode cX12_dryingHoses 10 = .ok (.ifCond .eq 5, 3) := by decide +kernel
theorem dX12_dryingHoses_13 : decode cX12_dryingHoses 13 = .ok (.iconst 0, 1) := by decide +kernel
theorem dX12_dryingHoses_14 : decode cX12_dryingHoses 14 = .ok (.ireturn, 1) := by decide +kernel
theorem dX12_dryingHoses_15 : decode cX12_dryingHoses 15 = .ok (.aload_n 0, 1) := by decide +kernel
theorem dX12_dryingHoses_16 : decode cX12_dryingHoses 16 = .ok (.invokevirtual 511, 3) := by decide +kernel
theorem dX12_dryingHoses_19 : decode cX12_dryingHoses 19 = .ok (.aload_n 0, 1) := by decide +kernel
theorem dX12_dryingHoses_20 : decode cX12_dryingHoses 20 = .ok (.getfield 126, 3) := by decide +kernel
theorem dX12_dryingHoses_23 : decode cX12_dryingHoses 23 = .ok (.iload_n 1, 1) := by decide +kernel
theorem dX12_dryingHoses_24 : decode cX12_dryingHoses 24 = .ok (.iaload, 1) := by decide +kernel
theorem dX12_dryingHoses_25 : decode cX12_dryingHoses 25 = .ok (.ireturn, 1) := by decide +kernel
theorem dX12_awaySlots_0 : decode cX12_awaySlots 0 = .ok (.aload_n 0, 1) := by decide +kernel
theorem dX12_awaySlots_1 : decode cX12_awaySlots 1 = .ok (.iconst 0, 1) := by decide +kernel
theorem dX12_awaySlots_2 : decode cX12_awaySlots 2 = .ok (.putfield 150, 3) := by decide +kernel
theorem dX12_awaySlots_5 : decode cX12_awaySlots 5 = .ok (.aload_n 0, 1) := by decide +kernel
theorem dX12_awaySlots_6 : decode cX12_awaySlots 6 = .ok (.iload_n 1, 1) := by decide +kernel
theorem dX12_awaySlots_7 : decode cX12_awaySlots 7 = .ok (.invokevirtual 444, 3) := by decide +kernel
theorem dX12_awaySlots_10 : decode cX12_awaySlots 10 = .ok (.ifCond .eq 5, 3) := by decide +kernel
theorem dX12_awaySlots_13 : decode cX12_awaySlots 13 = .ok (.iconst 0, 1) := by decide +kernel
theorem dX12_awaySlots_14 : decode cX12_awaySlots 14 = .ok (.ireturn, 1) := by decide +kernel
theorem dX12_awaySlots_15 : decode cX12_awaySlots 15 = .ok (.aload_n 0, 1) := by decide +kernel
theorem dX12_awaySlots_16 : decode cX12_awaySlots 16 = .ok (.invokevirtual 511, 3) := by decide +kernel
theorem dX12_awaySlots_19 : decode cX12_awaySlots 19 = .ok (.iconst 0, 1) := by decide +kernel
theorem dX12_awaySlots_20 : decode cX12_awaySlots 20 = .ok (.istore_n 2, 1) := by decide +kernel
theorem dX12_awaySlots_21 : decode cX12_awaySlots 21 = .ok (.iconst 0, 1) := by decide +kernel
theorem dX12_awaySlots_22 : decode cX12_awaySlots 22 = .ok (.istore_n 3, 1) := by decide +kernel
theorem dX12_awaySlots_23 : decode cX12_awaySlots 23 = .ok (.iload_n 3, 1) := by decide +kernel
theorem dX12_awaySlots_24 : decode cX12_awaySlots 24 = .ok (.bipush 48, 2) := by decide +kernel
theorem dX12_awaySlots_26 : decode cX12_awaySlots 26 = .ok (.if_icmp .ge 33, 3) := by decide +kernel
theorem dX12_awaySlots_29 : decode cX12_awaySlots 29 = .ok (.iload_n 2, 1) := by decide +kernel
theorem dX12_awaySlots_30 : decode cX12_awaySlots 30 = .ok (.aload_n 0, 1) := by decide +kernel
theorem dX12_awaySlots_31 : decode cX12_awaySlots 31 = .ok (.getfield 117, 3) := by decide +kernel
theorem dX12_awaySlots_34 : decode cX12_awaySlots 34 = .ok (.iload_n 3, 1) := by decide +kernel
theorem dX12_awaySlots_35 : decode cX12_awaySlots 35 = .ok (.iaload, 1) := by decide +kernel
theorem dX12_awaySlots_36 : decode cX12_awaySlots 36 = .ok (.iload_n 1, 1) := by decide +kernel
theorem dX12_awaySlots_37 : decode cX12_awaySlots 37 = .ok (.invokestatic 363, 3) := by decide +kernel
theorem dX12_awaySlots_40 : decode cX12_awaySlots 40 = .ok (.ifCond .ne 7, 3) := by decide +kernel
theorem dX12_awaySlots_43 : decode cX12_awaySlots 43 = .ok (.iconst 1, 1) := by decide +kernel
theorem dX12_awaySlots_44 : decode cX12_awaySlots 44 = .ok (.goto 4, 3) := by decide +kernel
theorem dX12_awaySlots_47 : decode cX12_awaySlots 47 = .ok (.iconst 0, 1) := by decide +kernel
theorem dX12_awaySlots_48 : decode cX12_awaySlots 48 = .ok (.invokestatic 453, 3) := by decide +kernel
theorem dX12_awaySlots_51 : decode cX12_awaySlots 51 = .ok (.iadd, 1) := by decide +kernel
theorem dX12_awaySlots_52 : decode cX12_awaySlots 52 = .ok (.istore_n 2, 1) := by decide +kernel
theorem dX12_awaySlots_53 : decode cX12_awaySlots 53 = .ok (.iinc 3 1, 3) := by decide +kernel
theorem dX12_awaySlots_56 : decode cX12_awaySlots 56 = .ok (.goto (-33), 3) := by decide +kernel
theorem dX12_awaySlots_59 : decode cX12_awaySlots 59 = .ok (.iload_n 2, 1) := by decide +kernel
theorem dX12_awaySlots_60 : decode cX12_awaySlots 60 = .ok (.ireturn, 1) := by decide +kernel
theorem dX12_busiestSlot_0 : decode cX12_busiestSlot 0 = .ok (.aload_n 0, 1) := by decide +kernel
theorem dX12_busiestSlot_1 : decode cX12_busiestSlot 1 = .ok (.iconst 0, 1) := by decide +kernel
theorem dX12_busiestSlot_2 : decode cX12_busiestSlot 2 = .ok (.putfield 150, 3) := by decide +kernel
theorem dX12_busiestSlot_5 : decode cX12_busiestSlot 5 = .ok (.aload_n 0, 1) := by decide +kernel
theorem dX12_busiestSlot_6 : decode cX12_busiestSlot 6 = .ok (.invokevirtual 511, 3) := by decide +kernel
theorem dX12_busiestSlot_9 : decode cX12_busiestSlot 9 = .ok (.iconst 0, 1) := by decide +kernel
theorem dX12_busiestSlot_10 : decode cX12_busiestSlot 10 = .ok (.istore_n 1, 1) := by decide +kernel
theorem dX12_busiestSlot_11 : decode cX12_busiestSlot 11 = .ok (.iconst 1, 1) := by decide +kernel
theorem dX12_busiestSlot_12 : decode cX12_busiestSlot 12 = .ok (.istore_n 2, 1) := by decide +kernel
theorem dX12_busiestSlot_13 : decode cX12_busiestSlot 13 = .ok (.iload_n 2, 1) := by decide +kernel
theorem dX12_busiestSlot_14 : decode cX12_busiestSlot 14 = .ok (.bipush 48, 2) := by decide +kernel
theorem dX12_busiestSlot_16 : decode cX12_busiestSlot 16 = .ok (.if_icmp .ge 32, 3) := by decide +kernel
theorem dX12_busiestSlot_19 : decode cX12_busiestSlot 19 = .ok (.aload_n 0, 1) := by decide +kernel
theorem dX12_busiestSlot_20 : decode cX12_busiestSlot 20 = .ok (.getfield 117, 3) := by decide +kernel
theorem dX12_busiestSlot_23 : decode cX12_busiestSlot 23 = .ok (.iload_n 2, 1) := by decide +kernel
theorem dX12_busiestSlot_24 : decode cX12_busiestSlot 24 = .ok (.iaload, 1) := by decide +kernel
theorem dX12_busiestSlot_25 : decode cX12_busiestSlot 25 = .ok (.invokestatic 482, 3) := by decide +kernel
theorem dX12_busiestSlot_28 : decode cX12_busiestSlot 28 = .ok (.aload_n 0, 1) := by decide +kernel
theorem dX12_busiestSlot_29 : decode cX12_busiestSlot 29 = .ok (.getfield 117, 3) := by decide +kernel
theorem dX12_busiestSlot_32 : decode cX12_busiestSlot 32 = .ok (.iload_n 1, 1) := by decide +kernel
theorem dX12_busiestSlot_33 : decode cX12_busiestSlot 33 = .ok (.iaload, 1) := by decide +kernel
theorem dX12_busiestSlot_34 : decode cX12_busiestSlot 34 = .ok (.invokestatic 482, 3) := by decide +kernel
theorem dX12_busiestSlot_37 : decode cX12_busiestSlot 37 = .ok (.if_icmp .ge 5, 3) := by decide +kernel
theorem dX12_busiestSlot_40 : decode cX12_busiestSlot 40 = .ok (.iload_n 2, 1) := by decide +kernel
theorem dX12_busiestSlot_41 : decode cX12_busiestSlot 41 = .ok (.istore_n 1, 1) := by decide +kernel
theorem dX12_busiestSlot_42 : decode cX12_busiestSlot 42 = .ok (.iinc 2 1, 3) := by decide +kernel
theorem dX12_busiestSlot_45 : decode cX12_busiestSlot 45 = .ok (.goto (-32), 3) := by decide +kernel
theorem dX12_busiestSlot_48 : decode cX12_busiestSlot 48 = .ok (.iload_n 1, 1) := by decide +kernel
theorem dX12_busiestSlot_49 : decode cX12_busiestSlot 49 = .ok (.ireturn, 1) := by decide +kernel
theorem dX12_finish_0 : decode cX12_finish 0 = .ok (.aload_n 0, 1) := by decide +kernel
theorem dX12_finish_1 : decode cX12_finish 1 = .ok (.iconst 0, 1) := by decide +kernel
theorem dX12_finish_2 : decode cX12_finish 2 = .ok (.putfield 150, 3) := by decide +kernel
theorem dX12_finish_5 : decode cX12_finish 5 = .ok (.aload_n 0, 1) := by decide +kernel
theorem dX12_finish_6 : decode cX12_finish 6 = .ok (.invokevirtual 511, 3) := by decide +kernel
theorem dX12_finish_9 : decode cX12_finish 9 = .ok (.aload_n 0, 1) := by decide +kernel
theorem dX12_finish_10 : decode cX12_finish 10 = .ok (.invokevirtual 545, 3) := by decide +kernel
theorem dX12_finish_13 : decode cX12_finish 13 = .ok (.ireturn, 1) := by decide +kernel
theorem dX12_settleStart_0 : decode cX12_settleStart 0 = .ok (.iload_n 2, 1) := by decide +kernel
theorem dX12_settleStart_1 : decode cX12_settleStart 1 = .ok (.istore_n 3, 1) := by decide +kernel
theorem dX12_settleStart_2 : decode cX12_settleStart 2 = .ok (.iload_n 3, 1) := by decide +kernel
theorem dX12_settleStart_3 : decode cX12_settleStart 3 = .ok (.bipush 23, 2) := by decide +kernel
theorem dX12_settleStart_5 : decode cX12_settleStart 5 = .ok (.if_icmp .gt 25, 3) := by decide +kernel
theorem dX12_settleStart_8 : decode cX12_settleStart 8 = .ok (.aload_n 0, 1) := by decide +kernel
theorem dX12_settleStart_9 : decode cX12_settleStart 9 = .ok (.getfield 68, 3) := by decide +kernel
theorem dX12_settleStart_12 : decode cX12_settleStart 12 = .ok (.iload_n 1, 1) := by decide +kernel
theorem dX12_settleStart_13 : decode cX12_settleStart 13 = .ok (.iload_n 3, 1) := by decide +kernel
theorem dX12_settleStart_14 : decode cX12_settleStart 14 = .ok (.iastore, 1) := by decide +kernel
theorem dX12_settleStart_15 : decode cX12_settleStart 15 = .ok (.aload_n 0, 1) := by decide +kernel
theorem dX12_settleStart_16 : decode cX12_settleStart 16 = .ok (.invokevirtual 548, 3) := by decide +kernel
theorem dX12_settleStart_19 : decode cX12_settleStart 19 = .ok (.ifCond .eq 5, 3) := by decide +kernel
theorem dX12_settleStart_22 : decode cX12_settleStart 22 = .ok (.iload_n 3, 1) := by decide +kernel
theorem dX12_settleStart_23 : decode cX12_settleStart 23 = .ok (.ireturn, 1) := by decide +kernel
theorem dX12_settleStart_24 : decode cX12_settleStart 24 = .ok (.iinc 3 1, 3) := by decide +kernel
theorem dX12_settleStart_27 : decode cX12_settleStart 27 = .ok (.goto (-25), 3) := by decide +kernel
theorem dX12_settleStart_30 : decode cX12_settleStart 30 = .ok (.aload_n 0, 1) := by decide +kernel
theorem dX12_settleStart_31 : decode cX12_settleStart 31 = .ok (.getfield 68, 3) := by decide +kernel
theorem dX12_settleStart_34 : decode cX12_settleStart 34 = .ok (.iload_n 1, 1) := by decide +kernel
theorem dX12_settleStart_35 : decode cX12_settleStart 35 = .ok (.iconst (-1), 1) := by decide +kernel
theorem dX12_settleStart_36 : decode cX12_settleStart 36 = .ok (.iastore, 1) := by decide +kernel
theorem dX12_settleStart_37 : decode cX12_settleStart 37 = .ok (.iconst (-1), 1) := by decide +kernel
theorem dX12_settleStart_38 : decode cX12_settleStart 38 = .ok (.ireturn, 1) := by decide +kernel
theorem dX12_earliestStart_0 : decode cX12_earliestStart 0 = .ok (.aload_n 0, 1) := by decide +kernel
theorem dX12_earliestStart_1 : decode cX12_earliestStart 1 = .ok (.iconst 0, 1) := by decide +kernel
theorem dX12_earliestStart_2 : decode cX12_earliestStart 2 = .ok (.putfield 150, 3) := by decide +kernel
theorem dX12_earliestStart_5 : decode cX12_earliestStart 5 = .ok (.aload_n 0, 1) := by decide +kernel
theorem dX12_earliestStart_6 : decode cX12_earliestStart 6 = .ok (.iload_n 1, 1) := by decide +kernel
theorem dX12_earliestStart_7 : decode cX12_earliestStart 7 = .ok (.invokevirtual 447, 3) := by decide +kernel
theorem dX12_earliestStart_10 : decode cX12_earliestStart 10 = .ok (.ifCond .eq 5, 3) := by decide +kernel
theorem dX12_earliestStart_13 : decode cX12_earliestStart 13 = .ok (.iconst 0, 1) := by decide +kernel
theorem dX12_earliestStart_14 : decode cX12_earliestStart 14 = .ok (.ireturn, 1) := by decide +kernel
theorem dX12_earliestStart_15 : decode cX12_earliestStart 15 = .ok (.aload_n 0, 1) := by decide +kernel
theorem dX12_earliestStart_16 : decode cX12_earliestStart 16 = .ok (.getfield 68, 3) := by decide +kernel
theorem dX12_earliestStart_19 : decode cX12_earliestStart 19 = .ok (.iload_n 1, 1) := by decide +kernel
theorem dX12_earliestStart_20 : decode cX12_earliestStart 20 = .ok (.iaload, 1) := by decide +kernel
theorem dX12_earliestStart_21 : decode cX12_earliestStart 21 = .ok (.istore_n 2, 1) := by decide +kernel
theorem dX12_earliestStart_22 : decode cX12_earliestStart 22 = .ok (.aload_n 0, 1) := by decide +kernel
theorem dX12_earliestStart_23 : decode cX12_earliestStart 23 = .ok (.iload_n 1, 1) := by decide +kernel
theorem dX12_earliestStart_24 : decode cX12_earliestStart 24 = .ok (.iconst 0, 1) := by decide +kernel
theorem dX12_earliestStart_25 : decode cX12_earliestStart 25 = .ok (.invokevirtual 551, 3) := by decide +kernel
theorem dX12_earliestStart_28 : decode cX12_earliestStart 28 = .ok (.istore_n 3, 1) := by decide +kernel
theorem dX12_earliestStart_29 : decode cX12_earliestStart 29 = .ok (.aload_n 0, 1) := by decide +kernel
theorem dX12_earliestStart_30 : decode cX12_earliestStart 30 = .ok (.getfield 68, 3) := by decide +kernel
theorem dX12_earliestStart_33 : decode cX12_earliestStart 33 = .ok (.iload_n 1, 1) := by decide +kernel
theorem dX12_earliestStart_34 : decode cX12_earliestStart 34 = .ok (.iload_n 2, 1) := by decide +kernel
theorem dX12_earliestStart_35 : decode cX12_earliestStart 35 = .ok (.iastore, 1) := by decide +kernel
theorem dX12_earliestStart_36 : decode cX12_earliestStart 36 = .ok (.iload_n 3, 1) := by decide +kernel
theorem dX12_earliestStart_37 : decode cX12_earliestStart 37 = .ok (.ireturn, 1) := by decide +kernel
theorem dX12_compact_0 : decode cX12_compact 0 = .ok (.aload_n 0, 1) := by decide +kernel
theorem dX12_compact_1 : decode cX12_compact 1 = .ok (.iconst 0, 1) := by decide +kernel
theorem dX12_compact_2 : decode cX12_compact 2 = .ok (.putfield 150, 3) := by decide +kernel
theorem dX12_compact_5 : decode cX12_compact 5 = .ok (.aload_n 0, 1) := by decide +kernel
theorem dX12_compact_6 : decode cX12_compact 6 = .ok (.invokevirtual 548, 3) := by decide +kernel
theorem dX12_compact_9 : decode cX12_compact 9 = .ok (.ifCond .ne 5, 3) := by decide +kernel
theorem dX12_compact_12 : decode cX12_compact 12 = .ok (.iconst (-1), 1) := by decide +kernel
theorem dX12_compact_13 : decode cX12_compact 13 = .ok (.ireturn, 1) := by decide +kernel
theorem dX12_compact_14 : decode cX12_compact 14 = .ok (.aload_n 0, 1) := by decide +kernel
theorem dX12_compact_15 : decode cX12_compact 15 = .ok (.invokevirtual 514, 3) := by decide +kernel
theorem dX12_compact_18 : decode cX12_compact 18 = .ok (.iconst 0, 1) := by decide +kernel
theorem dX12_compact_19 : decode cX12_compact 19 = .ok (.istore_n 1, 1) := by decide +kernel
theorem dX12_compact_20 : decode cX12_compact 20 = .ok (.iconst 1, 1) := by decide +kernel
theorem dX12_compact_21 : decode cX12_compact 21 = .ok (.istore_n 2, 1) := by decide +kernel
theorem dX12_compact_22 : decode cX12_compact 22 = .ok (.iload_n 2, 1) := by decide +kernel
theorem dX12_compact_23 : decode cX12_compact 23 = .ok (.ifCond .eq 57, 3) := by decide +kernel
theorem dX12_compact_26 : decode cX12_compact 26 = .ok (.iconst 0, 1) := by decide +kernel
theorem dX12_compact_27 : decode cX12_compact 27 = .ok (.istore_n 2, 1) := by decide +kernel
theorem dX12_compact_28 : decode cX12_compact 28 = .ok (.iconst 0, 1) := by decide +kernel
theorem dX12_compact_29 : decode cX12_compact 29 = .ok (.istore_n 3, 1) := by decide +kernel
theorem dX12_compact_30 : decode cX12_compact 30 = .ok (.iload_n 3, 1) := by decide +kernel
theorem dX12_compact_31 : decode cX12_compact 31 = .ok (.aload_n 0, 1) := by decide +kernel
theorem dX12_compact_32 : decode cX12_compact 32 = .ok (.getfield 171, 3) := by decide +kernel
theorem dX12_compact_35 : decode cX12_compact 35 = .ok (.if_icmp .ge 42, 3) := by decide +kernel
theorem dX12_compact_38 : decode cX12_compact 38 = .ok (.aload_n 0, 1) := by decide +kernel
theorem dX12_compact_39 : decode cX12_compact 39 = .ok (.getfield 68, 3) := by decide +kernel
theorem dX12_compact_42 : decode cX12_compact 42 = .ok (.iload_n 3, 1) := by decide +kernel
theorem dX12_compact_43 : decode cX12_compact 43 = .ok (.iaload, 1) := by decide +kernel
theorem dX12_compact_44 : decode cX12_compact 44 = .ok (.istore 4, 2) := by decide +kernel
theorem dX12_compact_46 : decode cX12_compact 46 = .ok (.iload 4, 2) := by decide +kernel
theorem dX12_compact_48 : decode cX12_compact 48 = .ok (.iconst (-1), 1) := by decide +kernel
theorem dX12_compact_49 : decode cX12_compact 49 = .ok (.if_icmp .eq 22, 3) := by decide +kernel
theorem dX12_compact_52 : decode cX12_compact 52 = .ok (.aload_n 0, 1) := by decide +kernel
theorem dX12_compact_53 : decode cX12_compact 53 = .ok (.iload_n 3, 1) := by decide +kernel
theorem dX12_compact_54 : decode cX12_compact 54 = .ok (.iconst 0, 1) := by decide +kernel
theorem dX12_compact_55 : decode cX12_compact 55 = .ok (.invokevirtual 551, 3) := by decide +kernel
theorem dX12_compact_58 : decode cX12_compact 58 = .ok (.iload 4, 2) := by decide +kernel
theorem dX12_compact_60 : decode cX12_compact 60 = .ok (.if_icmp .ne 6, 3) := by decide +kernel
theorem dX12_compact_63 : decode cX12_compact 63 = .ok (.goto 8, 3) := by decide +kernel
theorem dX12_compact_66 : decode cX12_compact 66 = .ok (.iinc 1 1, 3) := by decide +kernel
theorem dX12_compact_69 : decode cX12_compact 69 = .ok (.iconst 1, 1) := by decide +kernel
theorem dX12_compact_70 : decode cX12_compact 70 = .ok (.istore_n 2, 1) := by decide +kernel
theorem dX12_compact_71 : decode cX12_compact 71 = .ok (.iinc 3 1, 3) := by decide +kernel
theorem dX12_compact_74 : decode cX12_compact 74 = .ok (.goto (-44), 3) := by decide +kernel
theorem dX12_compact_77 : decode cX12_compact 77 = .ok (.goto (-55), 3) := by decide +kernel
theorem dX12_compact_80 : decode cX12_compact 80 = .ok (.iload_n 1, 1) := by decide +kernel
theorem dX12_compact_81 : decode cX12_compact 81 = .ok (.ireturn, 1) := by decide +kernel
theorem dX12_schedule_0 : decode cX12_schedule 0 = .ok (.aload_n 0, 1) := by decide +kernel
theorem dX12_schedule_1 : decode cX12_schedule 1 = .ok (.iconst 0, 1) := by decide +kernel
theorem dX12_schedule_2 : decode cX12_schedule 2 = .ok (.putfield 150, 3) := by decide +kernel
theorem dX12_schedule_5 : decode cX12_schedule 5 = .ok (.iload_n 1, 1) := by decide +kernel
theorem dX12_schedule_6 : decode cX12_schedule 6 = .ok (.ifCond .ge 7, 3) := by decide +kernel
theorem dX12_schedule_9 : decode cX12_schedule 9 = .ok (.iconst (-1), 1) := by decide +kernel
theorem dX12_schedule_10 : decode cX12_schedule 10 = .ok (.goto 8, 3) := by decide +kernel
theorem dX12_schedule_13 : decode cX12_schedule 13 = .ok (.aload_n 0, 1) := by decide +kernel
theorem dX12_schedule_14 : decode cX12_schedule 14 = .ok (.iload_n 1, 1) := by decide +kernel
theorem dX12_schedule_15 : decode cX12_schedule 15 = .ok (.invokevirtual 554, 3) := by decide +kernel
theorem dX12_schedule_18 : decode cX12_schedule 18 = .ok (.istore_n 2, 1) := by decide +kernel
theorem dX12_schedule_19 : decode cX12_schedule 19 = .ok (.aload_n 0, 1) := by decide +kernel
theorem dX12_schedule_20 : decode cX12_schedule 20 = .ok (.iload_n 2, 1) := by decide +kernel
theorem dX12_schedule_21 : decode cX12_schedule 21 = .ok (.iconst (-1), 1) := by decide +kernel
theorem dX12_schedule_22 : decode cX12_schedule 22 = .ok (.if_icmp .ne 7, 3) := by decide +kernel
theorem dX12_schedule_25 : decode cX12_schedule 25 = .ok (.iconst 1, 1) := by decide +kernel
theorem dX12_schedule_26 : decode cX12_schedule 26 = .ok (.goto 4, 3) := by decide +kernel
theorem dX12_schedule_29 : decode cX12_schedule 29 = .ok (.iconst 0, 1) := by decide +kernel
theorem dX12_schedule_30 : decode cX12_schedule 30 = .ok (.iconst 1, 1) := by decide +kernel
theorem dX12_schedule_31 : decode cX12_schedule 31 = .ok (.invokevirtual 438, 3) := by decide +kernel
theorem dX12_schedule_34 : decode cX12_schedule 34 = .ok (.ifCond .eq 5, 3) := by decide +kernel
theorem dX12_schedule_37 : decode cX12_schedule 37 = .ok (.iconst 0, 1) := by decide +kernel
theorem dX12_schedule_38 : decode cX12_schedule 38 = .ok (.ireturn, 1) := by decide +kernel
theorem dX12_schedule_39 : decode cX12_schedule 39 = .ok (.aload_n 0, 1) := by decide +kernel
theorem dX12_schedule_40 : decode cX12_schedule 40 = .ok (.invokevirtual 557, 3) := by decide +kernel
theorem dX12_schedule_43 : decode cX12_schedule 43 = .ok (.iconst 0, 1) := by decide +kernel
theorem dX12_schedule_44 : decode cX12_schedule 44 = .ok (.istore_n 3, 1) := by decide +kernel
theorem dX12_schedule_45 : decode cX12_schedule 45 = .ok (.iconst 0, 1) := by decide +kernel
theorem dX12_schedule_46 : decode cX12_schedule 46 = .ok (.istore 4, 2) := by decide +kernel
theorem dX12_schedule_48 : decode cX12_schedule 48 = .ok (.iload 4, 2) := by decide +kernel
theorem dX12_schedule_50 : decode cX12_schedule 50 = .ok (.iload_n 2, 1) := by decide +kernel
theorem dX12_schedule_51 : decode cX12_schedule 51 = .ok (.if_icmp .ge 27, 3) := by decide +kernel
theorem dX12_schedule_54 : decode cX12_schedule 54 = .ok (.iload_n 3, 1) := by decide +kernel
theorem dX12_schedule_55 : decode cX12_schedule 55 = .ok (.iconst (-1), 1) := by decide +kernel
theorem dX12_schedule_56 : decode cX12_schedule 56 = .ok (.if_icmp .eq 22, 3) := by decide +kernel
theorem dX12_schedule_59 : decode cX12_schedule 59 = .ok (.aload_n 0, 1) := by decide +kernel
theorem dX12_schedule_60 : decode cX12_schedule 60 = .ok (.aload_n 0, 1) := by decide +kernel
theorem dX12_schedule_61 : decode cX12_schedule 61 = .ok (.getfield 135, 3) := by decide +kernel
theorem dX12_schedule_64 : decode cX12_schedule 64 = .ok (.iload 4, 2) := by decide +kernel
theorem dX12_schedule_66 : decode cX12_schedule 66 = .ok (.iaload, 1) := by decide +kernel
theorem dX12_schedule_67 : decode cX12_schedule 67 = .ok (.iload_n 3, 1) := by decide +kernel
theorem dX12_schedule_68 : decode cX12_schedule 68 = .ok (.invokevirtual 551, 3) := by decide +kernel
theorem dX12_schedule_71 : decode cX12_schedule 71 = .ok (.istore_n 3, 1) := by decide +kernel
theorem dX12_schedule_72 : decode cX12_schedule 72 = .ok (.iinc 4 1, 3) := by decide +kernel
theorem dX12_schedule_75 : decode cX12_schedule 75 = .ok (.goto (-27), 3) := by decide +kernel
theorem dX12_schedule_78 : decode cX12_schedule 78 = .ok (.iload_n 3, 1) := by decide +kernel
theorem dX12_schedule_79 : decode cX12_schedule 79 = .ok (.iconst (-1), 1) := by decide +kernel
theorem dX12_schedule_80 : decode cX12_schedule 80 = .ok (.if_icmp .ne 9, 3) := by decide +kernel
theorem dX12_schedule_83 : decode cX12_schedule 83 = .ok (.aload_n 0, 1) := by decide +kernel
theorem dX12_schedule_84 : decode cX12_schedule 84 = .ok (.invokevirtual 560, 3) := by decide +kernel
theorem dX12_schedule_87 : decode cX12_schedule 87 = .ok (.iconst (-1), 1) := by decide +kernel
theorem dX12_schedule_88 : decode cX12_schedule 88 = .ok (.ireturn, 1) := by decide +kernel
theorem dX12_schedule_89 : decode cX12_schedule 89 = .ok (.iconst 0, 1) := by decide +kernel
theorem dX12_schedule_90 : decode cX12_schedule 90 = .ok (.istore 4, 2) := by decide +kernel
theorem dX12_schedule_92 : decode cX12_schedule 92 = .ok (.iload 4, 2) := by decide +kernel
theorem dX12_schedule_94 : decode cX12_schedule 94 = .ok (.iconst 5, 1) := by decide +kernel
theorem dX12_schedule_95 : decode cX12_schedule 95 = .ok (.if_icmp .ge 23, 3) := by decide +kernel
theorem dX12_schedule_98 : decode cX12_schedule 98 = .ok (.aload_n 0, 1) := by decide +kernel
theorem dX12_schedule_99 : decode cX12_schedule 99 = .ok (.getfield 135, 3) := by decide +kernel
theorem dX12_schedule_102 : decode cX12_schedule 102 = .ok (.iload 4, 2) := by decide +kernel
theorem dX12_schedule_104 : decode cX12_schedule 104 = .ok (.aload_n 0, 1) := by decide +kernel
theorem dX12_schedule_105 : decode cX12_schedule 105 = .ok (.getfield 68, 3) := by decide +kernel
theorem dX12_schedule_108 : decode cX12_schedule 108 = .ok (.iload 4, 2) := by decide +kernel
theorem dX12_schedule_110 : decode cX12_schedule 110 = .ok (.iaload, 1) := by decide +kernel
theorem dX12_schedule_111 : decode cX12_schedule 111 = .ok (.iastore, 1) := by decide +kernel
theorem dX12_schedule_112 : decode cX12_schedule 112 = .ok (.iinc 4 1, 3) := by decide +kernel
theorem dX12_schedule_115 : decode cX12_schedule 115 = .ok (.goto (-23), 3) := by decide +kernel
theorem dX12_schedule_118 : decode cX12_schedule 118 = .ok (.aload_n 0, 1) := by decide +kernel
theorem dX12_schedule_119 : decode cX12_schedule 119 = .ok (.invokevirtual 560, 3) := by decide +kernel
theorem dX12_schedule_122 : decode cX12_schedule 122 = .ok (.aload_n 0, 1) := by decide +kernel
theorem dX12_schedule_123 : decode cX12_schedule 123 = .ok (.invokevirtual 514, 3) := by decide +kernel
theorem dX12_schedule_126 : decode cX12_schedule 126 = .ok (.iconst 0, 1) := by decide +kernel
theorem dX12_schedule_127 : decode cX12_schedule 127 = .ok (.istore 4, 2) := by decide +kernel
theorem dX12_schedule_129 : decode cX12_schedule 129 = .ok (.iload 4, 2) := by decide +kernel
theorem dX12_schedule_131 : decode cX12_schedule 131 = .ok (.iconst 5, 1) := by decide +kernel
theorem dX12_schedule_132 : decode cX12_schedule 132 = .ok (.if_icmp .ge 23, 3) := by decide +kernel
theorem dX12_schedule_135 : decode cX12_schedule 135 = .ok (.aload_n 0, 1) := by decide +kernel
theorem dX12_schedule_136 : decode cX12_schedule 136 = .ok (.getfield 68, 3) := by decide +kernel
theorem dX12_schedule_139 : decode cX12_schedule 139 = .ok (.iload 4, 2) := by decide +kernel
theorem dX12_schedule_141 : decode cX12_schedule 141 = .ok (.aload_n 0, 1) := by decide +kernel
theorem dX12_schedule_142 : decode cX12_schedule 142 = .ok (.getfield 135, 3) := by decide +kernel
theorem dX12_schedule_145 : decode cX12_schedule 145 = .ok (.iload 4, 2) := by decide +kernel
theorem dX12_schedule_147 : decode cX12_schedule 147 = .ok (.iaload, 1) := by decide +kernel
theorem dX12_schedule_148 : decode cX12_schedule 148 = .ok (.iastore, 1) := by decide +kernel
theorem dX12_schedule_149 : decode cX12_schedule 149 = .ok (.iinc 4 1, 3) := by decide +kernel
theorem dX12_schedule_152 : decode cX12_schedule 152 = .ok (.goto (-23), 3) := by decide +kernel
theorem dX12_schedule_155 : decode cX12_schedule 155 = .ok (.aload_n 0, 1) := by decide +kernel
theorem dX12_schedule_156 : decode cX12_schedule 156 = .ok (.invokevirtual 511, 3) := by decide +kernel
theorem dX12_schedule_159 : decode cX12_schedule 159 = .ok (.aload_n 0, 1) := by decide +kernel
theorem dX12_schedule_160 : decode cX12_schedule 160 = .ok (.invokevirtual 545, 3) := by decide +kernel
theorem dX12_schedule_163 : decode cX12_schedule 163 = .ok (.ireturn, 1) := by decide +kernel
theorem dX12_tryOrders_0 : decode cX12_tryOrders 0 = .ok (.iload_n 2, 1) := by decide +kernel
theorem dX12_tryOrders_1 : decode cX12_tryOrders 1 = .ok (.aload_n 0, 1) := by decide +kernel
theorem dX12_tryOrders_2 : decode cX12_tryOrders 2 = .ok (.getfield 171, 3) := by decide +kernel
theorem dX12_tryOrders_5 : decode cX12_tryOrders 5 = .ok (.if_icmp .ne 44, 3) := by decide +kernel
theorem dX12_tryOrders_8 : decode cX12_tryOrders 8 = .ok (.aload_n 0, 1) := by decide +kernel
theorem dX12_tryOrders_9 : decode cX12_tryOrders 9 = .ok (.invokevirtual 511, 3) := by decide +kernel
theorem dX12_tryOrders_12 : decode cX12_tryOrders 12 = .ok (.aload_n 0, 1) := by decide +kernel
theorem dX12_tryOrders_13 : decode cX12_tryOrders 13 = .ok (.invokevirtual 545, 3) := by decide +kernel
theorem dX12_tryOrders_16 : decode cX12_tryOrders 16 = .ok (.istore 5, 2) := by decide +kernel
theorem dX12_tryOrders_18 : decode cX12_tryOrders 18 = .ok (.aload_n 0, 1) := by decide +kernel
theorem dX12_tryOrders_19 : decode cX12_tryOrders 19 = .ok (.getfield 563, 3) := by decide +kernel
theorem dX12_tryOrders_22 : decode cX12_tryOrders 22 = .ok (.iconst (-1), 1) := by decide +kernel
theorem dX12_tryOrders_23 : decode cX12_tryOrders 23 = .ok (.if_icmp .eq 13, 3) := by decide +kernel
theorem dX12_tryOrders_26 : decode cX12_tryOrders 26 = .ok (.iload 5, 2) := by decide +kernel
theorem dX12_tryOrders_28 : decode cX12_tryOrders 28 = .ok (.aload_n 0, 1) := by decide +kernel
theorem dX12_tryOrders_29 : decode cX12_tryOrders 29 = .ok (.getfield 563, 3) := by decide +kernel
theorem dX12_tryOrders_32 : decode cX12_tryOrders 32 = .ok (.if_icmp .lt 4, 3) := by decide +kernel
theorem dX12_tryOrders_35 : decode cX12_tryOrders 35 = .ok (.return_, 1) := by decide +kernel
theorem dX12_tryOrders_36 : decode cX12_tryOrders 36 = .ok (.aload_n 0, 1) := by decide +kernel
theorem dX12_tryOrders_37 : decode cX12_tryOrders 37 = .ok (.iload 5, 2) := by decide +kernel
theorem dX12_tryOrders_39 : decode cX12_tryOrders 39 = .ok (.putfield 563, 3) := by decide +kernel
theorem dX12_tryOrders_42 : decode cX12_tryOrders 42 = .ok (.aload_n 0, 1) := by decide +kernel
theorem dX12_tryOrders_43 : decode cX12_tryOrders 43 = .ok (.iload 4, 2) := by decide +kernel
theorem dX12_tryOrders_45 : decode cX12_tryOrders 45 = .ok (.putfield 566, 3) := by decide +kernel
theorem dX12_tryOrders_48 : decode cX12_tryOrders 48 = .ok (.return_, 1) := by decide +kernel
theorem dX12_tryOrders_49 : decode cX12_tryOrders 49 = .ok (.iconst 0, 1) := by decide +kernel
theorem dX12_tryOrders_50 : decode cX12_tryOrders 50 = .ok (.istore 5, 2) := by decide +kernel
theorem dX12_tryOrders_52 : decode cX12_tryOrders 52 = .ok (.iload 5, 2) := by decide +kernel
theorem dX12_tryOrders_54 : decode cX12_tryOrders 54 = .ok (.aload_n 0, 1) := by decide +kernel
theorem dX12_tryOrders_55 : decode cX12_tryOrders 55 = .ok (.getfield 171, 3) := by decide +kernel
theorem dX12_tryOrders_58 : decode cX12_tryOrders 58 = .ok (.if_icmp .ge 73, 3) := by decide +kernel
theorem dX12_tryOrders_61 : decode cX12_tryOrders 61 = .ok (.iload_n 1, 1) := by decide +kernel
theorem dX12_tryOrders_62 : decode cX12_tryOrders 62 = .ok (.iload 5, 2) := by decide +kernel
theorem dX12_tryOrders_64 : decode cX12_tryOrders 64 = .ok (.invokestatic 363, 3) := by decide +kernel
theorem dX12_tryOrders_67 : decode cX12_tryOrders 67 = .ok (.ifCond .eq 6, 3) := by decide +kernel
theorem dX12_tryOrders_70 : decode cX12_tryOrders 70 = .ok (.goto 55, 3) := by decide +kernel
theorem dX12_tryOrders_73 : decode cX12_tryOrders 73 = .ok (.aload_n 0, 1) := by decide +kernel
theorem dX12_tryOrders_74 : decode cX12_tryOrders 74 = .ok (.iload 5, 2) := by decide +kernel
theorem dX12_tryOrders_76 : decode cX12_tryOrders 76 = .ok (.iload_n 3, 1) := by decide +kernel
theorem dX12_tryOrders_77 : decode cX12_tryOrders 77 = .ok (.invokevirtual 551, 3) := by decide +kernel
theorem dX12_tryOrders_80 : decode cX12_tryOrders 80 = .ok (.istore 6, 2) := by decide +kernel
theorem dX12_tryOrders_82 : decode cX12_tryOrders 82 = .ok (.iload 6, 2) := by decide +kernel
theorem dX12_tryOrders_84 : decode cX12_tryOrders 84 = .ok (.iconst (-1), 1) := by decide +kernel
theorem dX12_tryOrders_85 : decode cX12_tryOrders 85 = .ok (.if_icmp .eq 32, 3) := by decide +kernel
theorem dX12_tryOrders_88 : decode cX12_tryOrders 88 = .ok (.aload_n 0, 1) := by decide +kernel
theorem dX12_tryOrders_89 : decode cX12_tryOrders 89 = .ok (.iload_n 1, 1) := by decide +kernel
theorem dX12_tryOrders_90 : decode cX12_tryOrders 90 = .ok (.iconst 1, 1) := by decide +kernel
theorem dX12_tryOrders_91 : decode cX12_tryOrders 91 = .ok (.iload 5, 2) := by decide +kernel
theorem dX12_tryOrders_93 : decode cX12_tryOrders 93 = .ok (.ishl, 1) := by decide +kernel
theorem dX12_tryOrders_94 : decode cX12_tryOrders 94 = .ok (.ior, 1) := by decide +kernel
theorem dX12_tryOrders_95 : decode cX12_tryOrders 95 = .ok (.iload_n 2, 1) := by decide +kernel
theorem dX12_tryOrders_96 : decode cX12_tryOrders 96 = .ok (.iconst 1, 1) := by decide +kernel
theorem dX12_tryOrders_97 : decode cX12_tryOrders 97 = .ok (.iadd, 1) := by decide +kernel
theorem dX12_tryOrders_98 : decode cX12_tryOrders 98 = .ok (.iload 6, 2) := by decide +kernel
theorem dX12_tryOrders_100 : decode cX12_tryOrders 100 = .ok (.iload 4, 2) := by decide +kernel
theorem dX12_tryOrders_102 : decode cX12_tryOrders 102 = .ok (.iload 5, 2) := by decide +kernel
theorem dX12_tryOrders_104 : decode cX12_tryOrders 104 = .ok (.iconst 1, 1) := by decide +kernel
theorem dX12_tryOrders_105 : decode cX12_tryOrders 105 = .ok (.iadd, 1) := by decide +kernel
theorem dX12_tryOrders_106 : decode cX12_tryOrders 106 = .ok (.aload_n 0, 1) := by decide +kernel
theorem dX12_tryOrders_107 : decode cX12_tryOrders 107 = .ok (.getfield 141, 3) := by decide +kernel
theorem dX12_tryOrders_110 : decode cX12_tryOrders 110 = .ok (.iload_n 2, 1) := by decide +kernel
theorem dX12_tryOrders_111 : decode cX12_tryOrders 111 = .ok (.iaload, 1) := by decide +kernel
theorem dX12_tryOrders_112 : decode cX12_tryOrders 112 = .ok (.imul, 1) := by decide +kernel
theorem dX12_tryOrders_113 : decode cX12_tryOrders 113 = .ok (.iadd, 1) := by decide +kernel
theorem dX12_tryOrders_114 : decode cX12_tryOrders 114 = .ok (.invokevirtual 569, 3) := by decide +kernel
theorem dX12_tryOrders_117 : decode cX12_tryOrders 117 = .ok (.aload_n 0, 1) := by decide +kernel
theorem dX12_tryOrders_118 : decode cX12_tryOrders 118 = .ok (.getfield 68, 3) := by decide +kernel
theorem dX12_tryOrders_121 : decode cX12_tryOrders 121 = .ok (.iload 5, 2) := by decide +kernel
theorem dX12_tryOrders_123 : decode cX12_tryOrders 123 = .ok (.iconst (-1), 1) := by decide +kernel
theorem dX12_tryOrders_124 : decode cX12_tryOrders 124 = .ok (.iastore, 1) := by decide +kernel
theorem dX12_tryOrders_125 : decode cX12_tryOrders 125 = .ok (.iinc 5 1, 3) := by decide +kernel
theorem dX12_tryOrders_128 : decode cX12_tryOrders 128 = .ok (.goto (-76), 3) := by decide +kernel
theorem dX12_tryOrders_131 : decode cX12_tryOrders 131 = .ok (.return_, 1) := by decide +kernel
theorem dX12_bestOf_0 : decode cX12_bestOf 0 = .ok (.aload_n 0, 1) := by decide +kernel
theorem dX12_bestOf_1 : decode cX12_bestOf 1 = .ok (.iload_n 1, 1) := by decide +kernel
theorem dX12_bestOf_2 : decode cX12_bestOf 2 = .ok (.putfield 423, 3) := by decide +kernel
theorem dX12_bestOf_5 : decode cX12_bestOf 5 = .ok (.aload_n 0, 1) := by decide +kernel
theorem dX12_bestOf_6 : decode cX12_bestOf 6 = .ok (.iload_n 2, 1) := by decide +kernel
theorem dX12_bestOf_7 : decode cX12_bestOf 7 = .ok (.putfield 426, 3) := by decide +kernel
theorem dX12_bestOf_10 : decode cX12_bestOf 10 = .ok (.aload_n 0, 1) := by decide +kernel
theorem dX12_bestOf_11 : decode cX12_bestOf 11 = .ok (.iload_n 3, 1) := by decide +kernel
theorem dX12_bestOf_12 : decode cX12_bestOf 12 = .ok (.putfield 429, 3) := by decide +kernel
theorem dX12_bestOf_15 : decode cX12_bestOf 15 = .ok (.aload_n 0, 1) := by decide +kernel
theorem dX12_bestOf_16 : decode cX12_bestOf 16 = .ok (.invokevirtual 557, 3) := by decide +kernel
theorem dX12_bestOf_19 : decode cX12_bestOf 19 = .ok (.aload_n 0, 1) := by decide +kernel
theorem dX12_bestOf_20 : decode cX12_bestOf 20 = .ok (.iconst (-1), 1) := by decide +kernel
theorem dX12_bestOf_21 : decode cX12_bestOf 21 = .ok (.putfield 563, 3) := by decide +kernel
theorem dX12_bestOf_24 : decode cX12_bestOf 24 = .ok (.aload_n 0, 1) := by decide +kernel
theorem dX12_bestOf_25 : decode cX12_bestOf 25 = .ok (.iconst (-1), 1) := by decide +kernel
theorem dX12_bestOf_26 : decode cX12_bestOf 26 = .ok (.putfield 566, 3) := by decide +kernel
theorem dX12_bestOf_29 : decode cX12_bestOf 29 = .ok (.aload_n 0, 1) := by decide +kernel
theorem dX12_bestOf_30 : decode cX12_bestOf 30 = .ok (.iconst 0, 1) := by decide +kernel
theorem dX12_bestOf_31 : decode cX12_bestOf 31 = .ok (.iconst 0, 1) := by decide +kernel
theorem dX12_bestOf_32 : decode cX12_bestOf 32 = .ok (.iconst 0, 1) := by decide +kernel
theorem dX12_bestOf_33 : decode cX12_bestOf 33 = .ok (.iconst 0, 1) := by decide +kernel
theorem dX12_bestOf_34 : decode cX12_bestOf 34 = .ok (.invokevirtual 569, 3) := by decide +kernel
theorem dX12_bestOf_37 : decode cX12_bestOf 37 = .ok (.aload_n 0, 1) := by decide +kernel
theorem dX12_bestOf_38 : decode cX12_bestOf 38 = .ok (.invokevirtual 560, 3) := by decide +kernel
theorem dX12_bestOf_41 : decode cX12_bestOf 41 = .ok (.aload_n 0, 1) := by decide +kernel
theorem dX12_bestOf_42 : decode cX12_bestOf 42 = .ok (.iconst 0, 1) := by decide +kernel
theorem dX12_bestOf_43 : decode cX12_bestOf 43 = .ok (.putfield 423, 3) := by decide +kernel
theorem dX12_bestOf_46 : decode cX12_bestOf 46 = .ok (.aload_n 0, 1) := by decide +kernel
theorem dX12_bestOf_47 : decode cX12_bestOf 47 = .ok (.aload_n 0, 1) := by decide +kernel
theorem dX12_bestOf_48 : decode cX12_bestOf 48 = .ok (.getfield 174, 3) := by decide +kernel
theorem dX12_bestOf_51 : decode cX12_bestOf 51 = .ok (.putfield 426, 3) := by decide +kernel
theorem dX12_bestOf_54 : decode cX12_bestOf 54 = .ok (.aload_n 0, 1) := by decide +kernel
theorem dX12_bestOf_55 : decode cX12_bestOf 55 = .ok (.aload_n 0, 1) := by decide +kernel
theorem dX12_bestOf_56 : decode cX12_bestOf 56 = .ok (.getfield 180, 3) := by decide +kernel
theorem dX12_bestOf_59 : decode cX12_bestOf 59 = .ok (.putfield 429, 3) := by decide +kernel
theorem dX12_bestOf_62 : decode cX12_bestOf 62 = .ok (.aload_n 0, 1) := by decide +kernel
theorem dX12_bestOf_63 : decode cX12_bestOf 63 = .ok (.getfield 563, 3) := by decide +kernel
theorem dX12_bestOf_66 : decode cX12_bestOf 66 = .ok (.ireturn, 1) := by decide +kernel
theorem dX12_bestFinish_0 : decode cX12_bestFinish 0 = .ok (.aload_n 0, 1) := by decide +kernel
theorem dX12_bestFinish_1 : decode cX12_bestFinish 1 = .ok (.iconst 0, 1) := by decide +kernel
theorem dX12_bestFinish_2 : decode cX12_bestFinish 2 = .ok (.putfield 150, 3) := by decide +kernel
theorem dX12_bestFinish_5 : decode cX12_bestFinish 5 = .ok (.aload_n 0, 1) := by decide +kernel
theorem dX12_bestFinish_6 : decode cX12_bestFinish 6 = .ok (.iconst 0, 1) := by decide +kernel
theorem dX12_bestFinish_7 : decode cX12_bestFinish 7 = .ok (.aload_n 0, 1) := by decide +kernel
theorem dX12_bestFinish_8 : decode cX12_bestFinish 8 = .ok (.getfield 174, 3) := by decide +kernel
theorem dX12_bestFinish_11 : decode cX12_bestFinish 11 = .ok (.aload_n 0, 1) := by decide +kernel
theorem dX12_bestFinish_12 : decode cX12_bestFinish 12 = .ok (.getfield 180, 3) := by decide +kernel
theorem dX12_bestFinish_15 : decode cX12_bestFinish 15 = .ok (.invokevirtual 572, 3) := by decide +kernel
theorem dX12_bestFinish_18 : decode cX12_bestFinish 18 = .ok (.ireturn, 1) := by decide +kernel
theorem dX12_bestOrder_0 : decode cX12_bestOrder 0 = .ok (.aload_n 0, 1) := by decide +kernel
theorem dX12_bestOrder_1 : decode cX12_bestOrder 1 = .ok (.iconst 0, 1) := by decide +kernel
theorem dX12_bestOrder_2 : decode cX12_bestOrder 2 = .ok (.putfield 150, 3) := by decide +kernel
theorem dX12_bestOrder_5 : decode cX12_bestOrder 5 = .ok (.aload_n 0, 1) := by decide +kernel
theorem dX12_bestOrder_6 : decode cX12_bestOrder 6 = .ok (.iconst 0, 1) := by decide +kernel
theorem dX12_bestOrder_7 : decode cX12_bestOrder 7 = .ok (.aload_n 0, 1) := by decide +kernel
theorem dX12_bestOrder_8 : decode cX12_bestOrder 8 = .ok (.getfield 174, 3) := by decide +kernel
theorem dX12_bestOrder_11 : decode cX12_bestOrder 11 = .ok (.aload_n 0, 1) := by decide +kernel
theorem dX12_bestOrder_12 : decode cX12_bestOrder 12 = .ok (.getfield 180, 3) := by decide +kernel
theorem dX12_bestOrder_15 : decode cX12_bestOrder 15 = .ok (.invokevirtual 572, 3) := by decide +kernel
theorem dX12_bestOrder_18 : decode cX12_bestOrder 18 = .ok (.pop, 1) := by decide +kernel
theorem dX12_bestOrder_19 : decode cX12_bestOrder 19 = .ok (.aload_n 0, 1) := by decide +kernel
theorem dX12_bestOrder_20 : decode cX12_bestOrder 20 = .ok (.getfield 566, 3) := by decide +kernel
theorem dX12_bestOrder_23 : decode cX12_bestOrder 23 = .ok (.ireturn, 1) := by decide +kernel
theorem dX12_bestFinishWithout_0 : decode cX12_bestFinishWithout 0 = .ok (.aload_n 0, 1) := by decide +kernel
theorem dX12_bestFinishWithout_1 : decode cX12_bestFinishWithout 1 = .ok (.iconst 0, 1) := by decide +kernel
theorem dX12_bestFinishWithout_2 : decode cX12_bestFinishWithout 2 = .ok (.putfield 150, 3) := by decide +kernel
theorem dX12_bestFinishWithout_5 : decode cX12_bestFinishWithout 5 = .ok (.aload_n 0, 1) := by decide +kernel
theorem dX12_bestFinishWithout_6 : decode cX12_bestFinishWithout 6 = .ok (.iload_n 1, 1) := by decide +kernel
theorem dX12_bestFinishWithout_7 : decode cX12_bestFinishWithout 7 = .ok (.invokevirtual 444, 3) := by decide +kernel
theorem dX12_bestFinishWithout_10 : decode cX12_bestFinishWithout 10 = .ok (.ifCond .eq 7, 3) := by decide +kernel
theorem dX12_bestFinishWithout_13 : decode cX12_bestFinishWithout 13 = .ok (.iconst 0, 1) := by decide +kernel
theorem dX12_bestFinishWithout_14 : decode cX12_bestFinishWithout 14 = .ok (.goto 18, 3) := by decide +kernel
theorem dX12_bestFinishWithout_17 : decode cX12_bestFinishWithout 17 = .ok (.aload_n 0, 1) := by decide +kernel
theorem dX12_bestFinishWithout_18 : decode cX12_bestFinishWithout 18 = .ok (.iconst 1, 1) := by decide +kernel
theorem dX12_bestFinishWithout_19 : decode cX12_bestFinishWithout 19 = .ok (.iload_n 1, 1) := by decide +kernel
theorem dX12_bestFinishWithout_20 : decode cX12_bestFinishWithout 20 = .ok (.ishl, 1) := by decide +kernel
theorem dX12_bestFinishWithout_21 : decode cX12_bestFinishWithout 21 = .ok (.aload_n 0, 1) := by decide +kernel
theorem dX12_bestFinishWithout_22 : decode cX12_bestFinishWithout 22 = .ok (.getfield 174, 3) := by decide +kernel
theorem dX12_bestFinishWithout_25 : decode cX12_bestFinishWithout 25 = .ok (.aload_n 0, 1) := by decide +kernel
theorem dX12_bestFinishWithout_26 : decode cX12_bestFinishWithout 26 = .ok (.getfield 180, 3) := by decide +kernel
theorem dX12_bestFinishWithout_29 : decode cX12_bestFinishWithout 29 = .ok (.invokevirtual 572, 3) := by decide +kernel
theorem dX12_bestFinishWithout_32 : decode cX12_bestFinishWithout 32 = .ok (.ireturn, 1) := by decide +kernel
theorem dX12_bestFinishWith_0 : decode cX12_bestFinishWith 0 = .ok (.aload_n 0, 1) := by decide +kernel
theorem dX12_bestFinishWith_1 : decode cX12_bestFinishWith 1 = .ok (.iconst 0, 1) := by decide +kernel
theorem dX12_bestFinishWith_2 : decode cX12_bestFinishWith 2 = .ok (.putfield 150, 3) := by decide +kernel
theorem dX12_bestFinishWith_5 : decode cX12_bestFinishWith 5 = .ok (.aload_n 0, 1) := by decide +kernel
theorem dX12_bestFinishWith_6 : decode cX12_bestFinishWith 6 = .ok (.iload_n 1, 1) := by decide +kernel
theorem dX12_bestFinishWith_7 : decode cX12_bestFinishWith 7 = .ok (.iconst 0, 1) := by decide +kernel
theorem dX12_bestFinishWith_8 : decode cX12_bestFinishWith 8 = .ok (.bipush 40, 2) := by decide +kernel
theorem dX12_bestFinishWith_10 : decode cX12_bestFinishWith 10 = .ok (.invokestatic 210, 3) := by decide +kernel
theorem dX12_bestFinishWith_13 : decode cX12_bestFinishWith 13 = .ok (.ifCond .eq 13, 3) := by decide +kernel
theorem dX12_bestFinishWith_16 : decode cX12_bestFinishWith 16 = .ok (.iload_n 2, 1) := by decide +kernel
theorem dX12_bestFinishWith_17 : decode cX12_bestFinishWith 17 = .ok (.iconst 1, 1) := by decide +kernel
theorem dX12_bestFinishWith_18 : decode cX12_bestFinishWith 18 = .ok (.bipush 12, 2) := by decide +kernel
theorem dX12_bestFinishWith_20 : decode cX12_bestFinishWith 20 = .ok (.invokestatic 210, 3) := by decide +kernel
theorem dX12_bestFinishWith_23 : decode cX12_bestFinishWith 23 = .ok (.ifCond .ne 7, 3) := by decide +kernel
theorem dX12_bestFinishWith_26 : decode cX12_bestFinishWith 26 = .ok (.iconst 1, 1) := by decide +kernel
theorem dX12_bestFinishWith_27 : decode cX12_bestFinishWith 27 = .ok (.goto 4, 3) := by decide +kernel
theorem dX12_bestFinishWith_30 : decode cX12_bestFinishWith 30 = .ok (.iconst 0, 1) := by decide +kernel
theorem dX12_bestFinishWith_31 : decode cX12_bestFinishWith 31 = .ok (.iconst 1, 1) := by decide +kernel
theorem dX12_bestFinishWith_32 : decode cX12_bestFinishWith 32 = .ok (.invokevirtual 438, 3) := by decide +kernel
theorem dX12_bestFinishWith_35 : decode cX12_bestFinishWith 35 = .ok (.ifCond .eq 5, 3) := by decide +kernel
theorem dX12_bestFinishWith_38 : decode cX12_bestFinishWith 38 = .ok (.iconst 0, 1) := by decide +kernel
theorem dX12_bestFinishWith_39 : decode cX12_bestFinishWith 39 = .ok (.ireturn, 1) := by decide +kernel
theorem dX12_bestFinishWith_40 : decode cX12_bestFinishWith 40 = .ok (.aload_n 0, 1) := by decide +kernel
theorem dX12_bestFinishWith_41 : decode cX12_bestFinishWith 41 = .ok (.iconst 0, 1) := by decide +kernel
theorem dX12_bestFinishWith_42 : decode cX12_bestFinishWith 42 = .ok (.iload_n 1, 1) := by decide +kernel
theorem dX12_bestFinishWith_43 : decode cX12_bestFinishWith 43 = .ok (.iload_n 2, 1) := by decide +kernel
theorem dX12_bestFinishWith_44 : decode cX12_bestFinishWith 44 = .ok (.invokevirtual 572, 3) := by decide +kernel
theorem dX12_bestFinishWith_47 : decode cX12_bestFinishWith 47 = .ok (.ireturn, 1) := by decide +kernel
theorem dX12_enoughRacks_0 : decode cX12_enoughRacks 0 = .ok (.aload_n 0, 1) := by decide +kernel
theorem dX12_enoughRacks_1 : decode cX12_enoughRacks 1 = .ok (.iconst 0, 1) := by decide +kernel
theorem dX12_enoughRacks_2 : decode cX12_enoughRacks 2 = .ok (.putfield 150, 3) := by decide +kernel
theorem dX12_enoughRacks_5 : decode cX12_enoughRacks 5 = .ok (.aload_n 0, 1) := by decide +kernel
theorem dX12_enoughRacks_6 : decode cX12_enoughRacks 6 = .ok (.iconst 0, 1) := by decide +kernel
theorem dX12_enoughRacks_7 : decode cX12_enoughRacks 7 = .ok (.aload_n 0, 1) := by decide +kernel
theorem dX12_enoughRacks_8 : decode cX12_enoughRacks 8 = .ok (.getfield 174, 3) := by decide +kernel
theorem dX12_enoughRacks_11 : decode cX12_enoughRacks 11 = .ok (.bipush 12, 2) := by decide +kernel
theorem dX12_enoughRacks_13 : decode cX12_enoughRacks 13 = .ok (.invokevirtual 572, 3) := by decide +kernel
theorem dX12_enoughRacks_16 : decode cX12_enoughRacks 16 = .ok (.istore_n 1, 1) := by decide +kernel
theorem dX12_enoughRacks_17 : decode cX12_enoughRacks 17 = .ok (.iconst 1, 1) := by decide +kernel
theorem dX12_enoughRacks_18 : decode cX12_enoughRacks 18 = .ok (.istore_n 2, 1) := by decide +kernel
theorem dX12_enoughRacks_19 : decode cX12_enoughRacks 19 = .ok (.iload_n 2, 1) := by decide +kernel
theorem dX12_enoughRacks_20 : decode cX12_enoughRacks 20 = .ok (.bipush 12, 2) := by decide +kernel
theorem dX12_enoughRacks_22 : decode cX12_enoughRacks 22 = .ok (.if_icmp .gt 30, 3) := by decide +kernel
theorem dX12_enoughRacks_25 : decode cX12_enoughRacks 25 = .ok (.iload_n 1, 1) := by decide +kernel
theorem dX12_enoughRacks_26 : decode cX12_enoughRacks 26 = .ok (.iconst (-1), 1) := by decide +kernel
theorem dX12_enoughRacks_27 : decode cX12_enoughRacks 27 = .ok (.if_icmp .eq 25, 3) := by decide +kernel
theorem dX12_enoughRacks_30 : decode cX12_enoughRacks 30 = .ok (.aload_n 0, 1) := by decide +kernel
theorem dX12_enoughRacks_31 : decode cX12_enoughRacks 31 = .ok (.iconst 0, 1) := by decide +kernel
theorem dX12_enoughRacks_32 : decode cX12_enoughRacks 32 = .ok (.aload_n 0, 1) := by decide +kernel
theorem dX12_enoughRacks_33 : decode cX12_enoughRacks 33 = .ok (.getfield 174, 3) := by decide +kernel
theorem dX12_enoughRacks_36 : decode cX12_enoughRacks 36 = .ok (.iload_n 2, 1) := by decide +kernel
theorem dX12_enoughRacks_37 : decode cX12_enoughRacks 37 = .ok (.invokevirtual 572, 3) := by decide +kernel
theorem dX12_enoughRacks_40 : decode cX12_enoughRacks 40 = .ok (.iload_n 1, 1) := by decide +kernel
theorem dX12_enoughRacks_41 : decode cX12_enoughRacks 41 = .ok (.if_icmp .ne 5, 3) := by decide +kernel
theorem dX12_enoughRacks_44 : decode cX12_enoughRacks 44 = .ok (.iload_n 2, 1) := by decide +kernel
theorem dX12_enoughRacks_45 : decode cX12_enoughRacks 45 = .ok (.ireturn, 1) := by decide +kernel
theorem dX12_enoughRacks_46 : decode cX12_enoughRacks 46 = .ok (.iinc 2 1, 3) := by decide +kernel
theorem dX12_enoughRacks_49 : decode cX12_enoughRacks 49 = .ok (.goto (-30), 3) := by decide +kernel
theorem dX12_enoughRacks_52 : decode cX12_enoughRacks 52 = .ok (.iconst (-1), 1) := by decide +kernel
theorem dX12_enoughRacks_53 : decode cX12_enoughRacks 53 = .ok (.ireturn, 1) := by decide +kernel
theorem dX0_complete_0 : decode cX0_complete 0 = .ok (.iconst 0, 1) := by decide +kernel
theorem dX0_complete_1 : decode cX0_complete 1 = .ok (.istore_n 1, 1) := by decide +kernel
theorem dX0_complete_2 : decode cX0_complete 2 = .ok (.iload_n 1, 1) := by decide +kernel
theorem dX0_complete_3 : decode cX0_complete 3 = .ok (.aload_n 0, 1) := by decide +kernel
theorem dX0_complete_4 : decode cX0_complete 4 = .ok (.getfield 52, 3) := by decide +kernel
theorem dX0_complete_7 : decode cX0_complete 7 = .ok (.if_icmp .ge 14, 3) := by decide +kernel
theorem dX0_complete_10 : decode cX0_complete 10 = .ok (.aload_n 0, 1) := by decide +kernel
theorem dX0_complete_11 : decode cX0_complete 11 = .ok (.iload_n 1, 1) := by decide +kernel
theorem dX0_complete_12 : decode cX0_complete 12 = .ok (.invokevirtual 101, 3) := by decide +kernel
theorem dX0_complete_15 : decode cX0_complete 15 = .ok (.iinc 1 1, 3) := by decide +kernel
theorem dX0_complete_18 : decode cX0_complete 18 = .ok (.goto (-16), 3) := by decide +kernel
theorem dX0_complete_21 : decode cX0_complete 21 = .ok (.iconst 0, 1) := by decide +kernel
theorem dX0_complete_22 : decode cX0_complete 22 = .ok (.istore_n 1, 1) := by decide +kernel
theorem dX0_complete_23 : decode cX0_complete 23 = .ok (.iload_n 1, 1) := by decide +kernel
theorem dX0_complete_24 : decode cX0_complete 24 = .ok (.aload_n 0, 1) := by decide +kernel
theorem dX0_complete_25 : decode cX0_complete 25 = .ok (.getfield 21, 3) := by decide +kernel
theorem dX0_complete_28 : decode cX0_complete 28 = .ok (.getfield 51, 3) := by decide +kernel
theorem dX0_complete_31 : decode cX0_complete 31 = .ok (.if_icmp .ge 18, 3) := by decide +kernel
theorem dX0_complete_34 : decode cX0_complete 34 = .ok (.aload_n 0, 1) := by decide +kernel
theorem dX0_complete_35 : decode cX0_complete 35 = .ok (.getfield 21, 3) := by decide +kernel
theorem dX0_complete_38 : decode cX0_complete 38 = .ok (.iload_n 1, 1) := by decide +kernel
theorem dX0_complete_39 : decode cX0_complete 39 = .ok (.aload_n 0, 1) := by decide +kernel
theorem dX0_complete_40 : decode cX0_complete 40 = .ok (.invokevirtual 105, 3) := by decide +kernel
theorem dX0_complete_43 : decode cX0_complete 43 = .ok (.iinc 1 1, 3) := by decide +kernel
theorem dX0_complete_46 : decode cX0_complete 46 = .ok (.goto (-23), 3) := by decide +kernel
theorem dX0_complete_49 : decode cX0_complete 49 = .ok (.return_, 1) := by decide +kernel
theorem dX1_readSlot_0 : decode cX1_readSlot 0 = .ok (.aload_n 0, 1) := by decide +kernel
theorem dX1_readSlot_1 : decode cX1_readSlot 1 = .ok (.bipush 10, 2) := by decide +kernel
theorem dX1_readSlot_3 : decode cX1_readSlot 3 = .ok (.bipush 60, 2) := by decide +kernel
theorem dX1_readSlot_5 : decode cX1_readSlot 5 = .ok (.invokevirtual 148, 3) := by decide +kernel
theorem dX1_readSlot_8 : decode cX1_readSlot 8 = .ok (.ifCond .ne 5, 3) := by decide +kernel
theorem dX1_readSlot_11 : decode cX1_readSlot 11 = .ok (.iconst 0, 1) := by decide +kernel
theorem dX1_readSlot_12 : decode cX1_readSlot 12 = .ok (.ireturn, 1) := by decide +kernel
theorem dX1_readSlot_13 : decode cX1_readSlot 13 = .ok (.aload_n 0, 1) := by decide +kernel
theorem dX1_readSlot_14 : decode cX1_readSlot 14 = .ok (.getfield 15, 3) := by decide +kernel
theorem dX1_readSlot_17 : decode cX1_readSlot 17 = .ok (.aload_n 0, 1) := by decide +kernel
theorem dX1_readSlot_18 : decode cX1_readSlot 18 = .ok (.getfield 151, 3) := by decide +kernel
theorem dX1_readSlot_21 : decode cX1_readSlot 21 = .ok (.putfield 154, 3) := by decide +kernel
theorem dX1_readSlot_24 : decode cX1_readSlot 24 = .ok (.aload_n 0, 1) := by decide +kernel
theorem dX1_readSlot_25 : decode cX1_readSlot 25 = .ok (.iconst 1, 1) := by decide +kernel
theorem dX1_readSlot_26 : decode cX1_readSlot 26 = .ok (.putfield 28, 3) := by decide +kernel
theorem dX1_readSlot_29 : decode cX1_readSlot 29 = .ok (.iconst 1, 1) := by decide +kernel
theorem dX1_readSlot_30 : decode cX1_readSlot 30 = .ok (.ireturn, 1) := by decide +kernel
theorem dX1_readNode_0 : decode cX1_readNode 0 = .ok (.aload_n 0, 1) := by decide +kernel
theorem dX1_readNode_1 : decode cX1_readNode 1 = .ok (.invokevirtual 157, 3) := by decide +kernel
theorem dX1_readNode_4 : decode cX1_readNode 4 = .ok (.ifCond .ne 5, 3) := by decide +kernel
theorem dX1_readNode_7 : decode cX1_readNode 7 = .ok (.iconst 0, 1) := by decide +kernel
theorem dX1_readNode_8 : decode cX1_readNode 8 = .ok (.ireturn, 1) := by decide +kernel
theorem dX1_readNode_9 : decode cX1_readNode 9 = .ok (.aload_n 0, 1) := by decide +kernel
theorem dX1_readNode_10 : decode cX1_readNode 10 = .ok (.getfield 15, 3) := by decide +kernel
theorem dX1_readNode_13 : decode cX1_readNode 13 = .ok (.aload_n 0, 1) := by decide +kernel
theorem dX1_readNode_14 : decode cX1_readNode 14 = .ok (.getfield 160, 3) := by decide +kernel
theorem dX1_readNode_17 : decode cX1_readNode 17 = .ok (.invokevirtual 163, 3) := by decide +kernel
theorem dX1_readNode_20 : decode cX1_readNode 20 = .ok (.iconst 1, 1) := by decide +kernel
theorem dX1_readNode_21 : decode cX1_readNode 21 = .ok (.ireturn, 1) := by decide +kernel
theorem dX1_readRoad_0 : decode cX1_readRoad 0 = .ok (.aload_n 0, 1) := by decide +kernel
theorem dX1_readRoad_1 : decode cX1_readRoad 1 = .ok (.iconst 0, 1) := by decide +kernel
theorem dX1_readRoad_2 : decode cX1_readRoad 2 = .ok (.invokevirtual 167, 3) := by decide +kernel
theorem dX1_readRoad_5 : decode cX1_readRoad 5 = .ok (.ifCond .ne 5, 3) := by decide +kernel
theorem dX1_readRoad_8 : decode cX1_readRoad 8 = .ok (.iconst 0, 1) := by decide +kernel
theorem dX1_readRoad_9 : decode cX1_readRoad 9 = .ok (.ireturn, 1) := by decide +kernel
theorem dX1_readRoad_10 : decode cX1_readRoad 10 = .ok (.aload_n 0, 1) := by decide +kernel
theorem dX1_readRoad_11 : decode cX1_readRoad 11 = .ok (.getfield 171, 3) := by decide +kernel
theorem dX1_readRoad_14 : decode cX1_readRoad 14 = .ok (.istore_n 1, 1) := by decide +kernel
theorem dX1_readRoad_15 : decode cX1_readRoad 15 = .ok (.aload_n 0, 1) := by decide +kernel
theorem dX1_readRoad_16 : decode cX1_readRoad 16 = .ok (.iconst 0, 1) := by decide +kernel
theorem dX1_readRoad_17 : decode cX1_readRoad 17 = .ok (.invokevirtual 167, 3) := by decide +kernel
theorem dX1_readRoad_20 : decode cX1_readRoad 20 = .ok (.ifCond .ne 5, 3) := by decide +kernel
theorem dX1_readRoad_23 : decode cX1_readRoad 23 = .ok (.iconst 0, 1) := by decide +kernel
theorem dX1_readRoad_24 : decode cX1_readRoad 24 = .ok (.ireturn, 1) := by decide +kernel
theorem dX1_readRoad_25 : decode cX1_readRoad 25 = .ok (.aload_n 0, 1) := by decide +kernel
theorem dX1_readRoad_26 : decode cX1_readRoad 26 = .ok (.getfield 171, 3) := by decide +kernel
theorem dX1_readRoad_29 : decode cX1_readRoad 29 = .ok (.iload_n 1, 1) := by decide +kernel
theorem dX1_readRoad_30 : decode cX1_readRoad 30 = .ok (.if_icmp .ne 15, 3) := by decide +kernel
theorem dX1_readRoad_33 : decode cX1_readRoad 33 = .ok (.aload_n 0, 1) := by decide +kernel
theorem dX1_readRoad_34 : decode cX1_readRoad 34 = .ok (.iconst 3, 1) := by decide +kernel
theorem dX1_readRoad_35 : decode cX1_readRoad 35 = .ok (.aload_n 0, 1) := by decide +kernel
theorem dX1_readRoad_36 : decode cX1_readRoad 36 = .ok (.getfield 24, 3) := by decide +kernel
theorem dX1_readRoad_39 : decode cX1_readRoad 39 = .ok (.iconst 1, 1) := by decide +kernel
theorem dX1_readRoad_40 : decode cX1_readRoad 40 = .ok (.isub, 1) := by decide +kernel
theorem dX1_readRoad_41 : decode cX1_readRoad 41 = .ok (.invokevirtual 63, 3) := by decide +kernel
theorem dX1_readRoad_44 : decode cX1_readRoad 44 = .ok (.ireturn, 1) := by decide +kernel
theorem dX1_readRoad_45 : decode cX1_readRoad 45 = .ok (.aload_n 0, 1) := by decide +kernel
theorem dX1_readRoad_46 : decode cX1_readRoad 46 = .ok (.iconst 1, 1) := by decide +kernel
theorem dX1_readRoad_47 : decode cX1_readRoad 47 = .ok (.bipush 60, 2) := by decide +kernel
theorem dX1_readRoad_49 : decode cX1_readRoad 49 = .ok (.invokevirtual 148, 3) := by decide +kernel
theorem dX1_readRoad_52 : decode cX1_readRoad 52 = .ok (.ifCond .ne 5, 3) := by decide +kernel
theorem dX1_readRoad_55 : decode cX1_readRoad 55 = .ok (.iconst 0, 1) := by decide +kernel
theorem dX1_readRoad_56 : decode cX1_readRoad 56 = .ok (.ireturn, 1) := by decide +kernel
theorem dX1_readRoad_57 : decode cX1_readRoad 57 = .ok (.aload_n 0, 1) := by decide +kernel
theorem dX1_readRoad_58 : decode cX1_readRoad 58 = .ok (.getfield 15, 3) := by decide +kernel
theorem dX1_readRoad_61 : decode cX1_readRoad 61 = .ok (.iload_n 1, 1) := by decide +kernel
theorem dX1_readRoad_62 : decode cX1_readRoad 62 = .ok (.aload_n 0, 1) := by decide +kernel
theorem dX1_readRoad_63 : decode cX1_readRoad 63 = .ok (.getfield 171, 3) := by decide +kernel
theorem dX1_readRoad_66 : decode cX1_readRoad 66 = .ok (.aload_n 0, 1) := by decide +kernel
theorem dX1_readRoad_67 : decode cX1_readRoad 67 = .ok (.getfield 151, 3) := by decide +kernel
theorem dX1_readRoad_70 : decode cX1_readRoad 70 = .ok (.invokevirtual 174, 3) := by decide +kernel
theorem dX1_readRoad_73 : decode cX1_readRoad 73 = .ok (.iconst 1, 1) := by decide +kernel
theorem dX1_readRoad_74 : decode cX1_readRoad 74 = .ok (.ireturn, 1) := by decide +kernel
theorem dX1_readStation_0 : decode cX1_readStation 0 = .ok (.aload_n 0, 1) := by decide +kernel
theorem dX1_readStation_1 : decode cX1_readStation 1 = .ok (.invokevirtual 157, 3) := by decide +kernel
theorem dX1_readStation_4 : decode cX1_readStation 4 = .ok (.ifCond .eq 21, 3) := by decide +kernel
theorem dX1_readStation_7 : decode cX1_readStation 7 = .ok (.aload_n 0, 1) := by decide +kernel
theorem dX1_readStation_8 : decode cX1_readStation 8 = .ok (.getstatic 178, 3) := by decide +kernel
theorem dX1_readStation_11 : decode cX1_readStation 11 = .ok (.invokevirtual 60, 3) := by decide +kernel
theorem dX1_readStation_14 : decode cX1_readStation 14 = .ok (.ifCond .eq 11, 3) := by decide +kernel
theorem dX1_readStation_17 : decode cX1_readStation 17 = .ok (.aload_n 0, 1) := by decide +kernel
theorem dX1_readStation_18 : decode cX1_readStation 18 = .ok (.iconst 0, 1) := by decide +kernel
theorem dX1_readStation_19 : decode cX1_readStation 19 = .ok (.invokevirtual 167, 3) := by decide +kernel
theorem dX1_readStation_22 : decode cX1_readStation 22 = .ok (.ifCond .ne 5, 3) := by decide +kernel
theorem dX1_readStation_25 : decode cX1_readStation 25 = .ok (.iconst 0, 1) := by decide +kernel
theorem dX1_readStation_26 : decode cX1_readStation 26 = .ok (.ireturn, 1) := by decide +kernel
theorem dX1_readStation_27 : decode cX1_readStation 27 = .ok (.aload_n 0, 1) := by decide +kernel
theorem dX1_readStation_28 : decode cX1_readStation 28 = .ok (.getfield 15, 3) := by decide +kernel
theorem dX1_readStation_31 : decode cX1_readStation 31 = .ok (.aload_n 0, 1) := by decide +kernel
theorem dX1_readStation_32 : decode cX1_readStation 32 = .ok (.getfield 160, 3) := by decide +kernel
theorem dX1_readStation_35 : decode cX1_readStation 35 = .ok (.aload_n 0, 1) := by decide +kernel
theorem dX1_readStation_36 : decode cX1_readStation 36 = .ok (.getfield 171, 3) := by decide +kernel
theorem dX1_readStation_39 : decode cX1_readStation 39 = .ok (.invokevirtual 181, 3) := by decide +kernel
theorem dX1_readStation_42 : decode cX1_readStation 42 = .ok (.iconst 1, 1) := by decide +kernel
theorem dX1_readStation_43 : decode cX1_readStation 43 = .ok (.ireturn, 1) := by decide +kernel
theorem dX1_readEngine_0 : decode cX1_readEngine 0 = .ok (.aload_n 0, 1) := by decide +kernel
theorem dX1_readEngine_1 : decode cX1_readEngine 1 = .ok (.invokevirtual 157, 3) := by decide +kernel
theorem dX1_readEngine_4 : decode cX1_readEngine 4 = .ok (.ifCond .eq 28, 3) := by decide +kernel
theorem dX1_readEngine_7 : decode cX1_readEngine 7 = .ok (.aload_n 0, 1) := by decide +kernel
theorem dX1_readEngine_8 : decode cX1_readEngine 8 = .ok (.invokevirtual 185, 3) := by decide +kernel
theorem dX1_readEngine_11 : decode cX1_readEngine 11 = .ok (.ifCond .eq 21, 3) := by decide +kernel
theorem dX1_readEngine_14 : decode cX1_readEngine 14 = .ok (.aload_n 0, 1) := by decide +kernel
theorem dX1_readEngine_15 : decode cX1_readEngine 15 = .ok (.getstatic 178, 3) := by decide +kernel
theorem dX1_readEngine_18 : decode cX1_readEngine 18 = .ok (.invokevirtual 60, 3) := by decide +kernel
theorem dX1_readEngine_21 : decode cX1_readEngine 21 = .ok (.ifCond .eq 11, 3) := by decide +kernel
theorem dX1_readEngine_24 : decode cX1_readEngine 24 = .ok (.aload_n 0, 1) := by decide +kernel
theorem dX1_readEngine_25 : decode cX1_readEngine 25 = .ok (.iconst 1, 1) := by decide +kernel
theorem dX1_readEngine_26 : decode cX1_readEngine 26 = .ok (.invokevirtual 167, 3) := by decide +kernel
theorem dX1_readEngine_29 : decode cX1_readEngine 29 = .ok (.ifCond .ne 5, 3) := by decide +kernel
theorem dX1_readEngine_32 : decode cX1_readEngine 32 = .ok (.iconst 0, 1) := by decide +kernel
theorem dX1_readEngine_33 : decode cX1_readEngine 33 = .ok (.ireturn, 1) := by decide +kernel
theorem dX1_readEngine_34 : decode cX1_readEngine 34 = .ok (.aload_n 0, 1) := by decide +kernel
theorem dX1_readEngine_35 : decode cX1_readEngine 35 = .ok (.getfield 15, 3) := by decide +kernel
theorem dX1_readEngine_38 : decode cX1_readEngine 38 = .ok (.aload_n 0, 1) := by decide +kernel
theorem dX1_readEngine_39 : decode cX1_readEngine 39 = .ok (.getfield 160, 3) := by decide +kernel
theorem dX1_readEngine_42 : decode cX1_readEngine 42 = .ok (.aload_n 0, 1) := by decide +kernel
theorem dX1_readEngine_43 : decode cX1_readEngine 43 = .ok (.getfield 188, 3) := by decide +kernel
theorem dX1_readEngine_46 : decode cX1_readEngine 46 = .ok (.aload_n 0, 1) := by decide +kernel
theorem dX1_readEngine_47 : decode cX1_readEngine 47 = .ok (.getfield 171, 3) := by decide +kernel
theorem dX1_readEngine_50 : decode cX1_readEngine 50 = .ok (.invokevirtual 191, 3) := by decide +kernel
theorem dX1_readEngine_53 : decode cX1_readEngine 53 = .ok (.iconst 1, 1) := by decide +kernel
theorem dX1_readEngine_54 : decode cX1_readEngine 54 = .ok (.ireturn, 1) := by decide +kernel
theorem dX1_readStreet_0 : decode cX1_readStreet 0 = .ok (.aload_n 0, 1) := by decide +kernel
theorem dX1_readStreet_1 : decode cX1_readStreet 1 = .ok (.iconst 0, 1) := by decide +kernel
theorem dX1_readStreet_2 : decode cX1_readStreet 2 = .ok (.invokevirtual 167, 3) := by decide +kernel
theorem dX1_readStreet_5 : decode cX1_readStreet 5 = .ok (.ifCond .eq 23, 3) := by decide +kernel
theorem dX1_readStreet_8 : decode cX1_readStreet 8 = .ok (.aload_n 0, 1) := by decide +kernel
theorem dX1_readStreet_9 : decode cX1_readStreet 9 = .ok (.getstatic 194, 3) := by decide +kernel
theorem dX1_readStreet_12 : decode cX1_readStreet 12 = .ok (.invokevirtual 60, 3) := by decide +kernel
theorem dX1_readStreet_15 : decode cX1_readStreet 15 = .ok (.ifCond .eq 13, 3) := by decide +kernel
theorem dX1_readStreet_18 : decode cX1_readStreet 18 = .ok (.aload_n 0, 1) := by decide +kernel
theorem dX1_readStreet_19 : decode cX1_readStreet 19 = .ok (.iconst 0, 1) := by decide +kernel
theorem dX1_readStreet_20 : decode cX1_readStreet 20 = .ok (.bipush 120, 2) := by decide +kernel
theorem dX1_readStreet_22 : decode cX1_readStreet 22 = .ok (.invokevirtual 148, 3) := by decide +kernel
theorem dX1_readStreet_25 : decode cX1_readStreet 25 = .ok (.ifCond .ne 5, 3) := by decide +kernel
theorem dX1_readStreet_28 : decode cX1_readStreet 28 = .ok (.iconst 0, 1) := by decide +kernel
theorem dX1_readStreet_29 : decode cX1_readStreet 29 = .ok (.ireturn, 1) := by decide +kernel
theorem dX1_readStreet_30 : decode cX1_readStreet 30 = .ok (.aload_n 0, 1) := by decide +kernel
theorem dX1_readStreet_31 : decode cX1_readStreet 31 = .ok (.getfield 9, 3) := by decide +kernel
theorem dX1_readStreet_34 : decode cX1_readStreet 34 = .ok (.aload_n 0, 1) := by decide +kernel
theorem dX1_readStreet_35 : decode cX1_readStreet 35 = .ok (.getfield 24, 3) := by decide +kernel
theorem dX1_readStreet_38 : decode cX1_readStreet 38 = .ok (.invokevirtual 35, 3) := by decide +kernel
theorem dX1_readStreet_41 : decode cX1_readStreet 41 = .ok (.invokestatic 197, 3) := by decide +kernel
theorem dX1_readStreet_44 : decode cX1_readStreet 44 = .ok (.istore_n 1, 1) := by decide +kernel
theorem dX1_readStreet_45 : decode cX1_readStreet 45 = .ok (.iload_n 1, 1) := by decide +kernel
theorem dX1_readStreet_46 : decode cX1_readStreet 46 = .ok (.iconst (-1), 1) := by decide +kernel
theorem dX1_readStreet_47 : decode cX1_readStreet 47 = .ok (.if_icmp .eq 13, 3) := by decide +kernel
theorem dX1_readStreet_50 : decode cX1_readStreet 50 = .ok (.aload_n 0, 1) := by decide +kernel
theorem dX1_readStreet_51 : decode cX1_readStreet 51 = .ok (.dup, 1) := by decide +kernel
theorem dX1_readStreet_52 : decode cX1_readStreet 52 = .ok (.getfield 24, 3) := by decide +kernel
theorem dX1_readStreet_55 : decode cX1_readStreet 55 = .ok (.iconst 1, 1) := by decide +kernel
theorem dX1_readStreet_56 : decode cX1_readStreet 56 = .ok (.iadd, 1) := by decide +kernel
theorem dX1_readStreet_57 : decode cX1_readStreet 57 = .ok (.putfield 24, 3) := by decide +kernel
theorem dX1_readStreet_60 : decode cX1_readStreet 60 = .ok (.aload_n 0, 1) := by decide +kernel
theorem dX1_readStreet_61 : decode cX1_readStreet 61 = .ok (.getfield 15, 3) := by decide +kernel
theorem dX1_readStreet_64 : decode cX1_readStreet 64 = .ok (.getfield 101, 3) := by decide +kernel
theorem dX1_readStreet_67 : decode cX1_readStreet 67 = .ok (.aload_n 0, 1) := by decide +kernel
theorem dX1_readStreet_68 : decode cX1_readStreet 68 = .ok (.getfield 171, 3) := by decide +kernel
theorem dX1_readStreet_71 : decode cX1_readStreet 71 = .ok (.aload_n 0, 1) := by decide +kernel
theorem dX1_readStreet_72 : decode cX1_readStreet 72 = .ok (.getfield 151, 3) := by decide +kernel
theorem dX1_readStreet_75 : decode cX1_readStreet 75 = .ok (.iload_n 1, 1) := by decide +kernel
theorem dX1_readStreet_76 : decode cX1_readStreet 76 = .ok (.invokevirtual 200, 3) := by decide +kernel
theorem dX1_readStreet_79 : decode cX1_readStreet 79 = .ok (.iconst 1, 1) := by decide +kernel
theorem dX1_readStreet_80 : decode cX1_readStreet 80 = .ok (.ireturn, 1) := by decide +kernel
theorem dX1_readHoses_0 : decode cX1_readHoses 0 = .ok (.aload_n 0, 1) := by decide +kernel
theorem dX1_readHoses_1 : decode cX1_readHoses 1 = .ok (.iconst 0, 1) := by decide +kernel
theorem dX1_readHoses_2 : decode cX1_readHoses 2 = .ok (.bipush 40, 2) := by decide +kernel
theorem dX1_readHoses_4 : decode cX1_readHoses 4 = .ok (.invokevirtual 148, 3) := by decide +kernel
theorem dX1_readHoses_7 : decode cX1_readHoses 7 = .ok (.ifCond .ne 5, 3) := by decide +kernel
theorem dX1_readHoses_10 : decode cX1_readHoses 10 = .ok (.iconst 0, 1) := by decide +kernel
theorem dX1_readHoses_11 : decode cX1_readHoses 11 = .ok (.ireturn, 1) := by decide +kernel
theorem dX1_readHoses_12 : decode cX1_readHoses 12 = .ok (.aload_n 0, 1) := by decide +kernel
theorem dX1_readHoses_13 : decode cX1_readHoses 13 = .ok (.getfield 15, 3) := by decide +kernel
theorem dX1_readHoses_16 : decode cX1_readHoses 16 = .ok (.aload_n 0, 1) := by decide +kernel
theorem dX1_readHoses_17 : decode cX1_readHoses 17 = .ok (.getfield 151, 3) := by decide +kernel
theorem dX1_readHoses_20 : decode cX1_readHoses 20 = .ok (.putfield 203, 3) := by decide +kernel
theorem dX1_readHoses_23 : decode cX1_readHoses 23 = .ok (.aload_n 0, 1) := by decide +kernel
theorem dX1_readHoses_24 : decode cX1_readHoses 24 = .ok (.getstatic 206, 3) := by decide +kernel
theorem dX1_readHoses_27 : decode cX1_readHoses 27 = .ok (.invokevirtual 60, 3) := by decide +kernel
theorem dX1_readHoses_30 : decode cX1_readHoses 30 = .ok (.ifCond .eq 13, 3) := by decide +kernel
theorem dX1_readHoses_33 : decode cX1_readHoses 33 = .ok (.aload_n 0, 1) := by decide +kernel
theorem dX1_readHoses_34 : decode cX1_readHoses 34 = .ok (.iconst 1, 1) := by decide +kernel
theorem dX1_readHoses_35 : decode cX1_readHoses 35 = .ok (.bipush 12, 2) := by decide +kernel
theorem dX1_readHoses_37 : decode cX1_readHoses 37 = .ok (.invokevirtual 148, 3) := by decide +kernel
theorem dX1_readHoses_40 : decode cX1_readHoses 40 = .ok (.ifCond .ne 5, 3) := by decide +kernel
theorem dX1_readHoses_43 : decode cX1_readHoses 43 = .ok (.iconst 0, 1) := by decide +kernel
theorem dX1_readHoses_44 : decode cX1_readHoses 44 = .ok (.ireturn, 1) := by decide +kernel
theorem dX1_readHoses_45 : decode cX1_readHoses 45 = .ok (.aload_n 0, 1) := by decide +kernel
theorem dX1_readHoses_46 : decode cX1_readHoses 46 = .ok (.getfield 15, 3) := by decide +kernel
theorem dX1_readHoses_49 : decode cX1_readHoses 49 = .ok (.aload_n 0, 1) := by decide +kernel
theorem dX1_readHoses_50 : decode cX1_readHoses 50 = .ok (.getfield 151, 3) := by decide +kernel
theorem dX1_readHoses_53 : decode cX1_readHoses 53 = .ok (.putfield 209, 3) := by decide +kernel
theorem dX1_readHoses_56 : decode cX1_readHoses 56 = .ok (.aload_n 0, 1) := by decide +kernel
theorem dX1_readHoses_57 : decode cX1_readHoses 57 = .ok (.getstatic 212, 3) := by decide +kernel
theorem dX1_readHoses_60 : decode cX1_readHoses 60 = .ok (.invokevirtual 60, 3) := by decide +kernel
theorem dX1_readHoses_63 : decode cX1_readHoses 63 = .ok (.ifCond .eq 13, 3) := by decide +kernel
theorem dX1_readHoses_66 : decode cX1_readHoses 66 = .ok (.aload_n 0, 1) := by decide +kernel
theorem dX1_readHoses_67 : decode cX1_readHoses 67 = .ok (.iconst 1, 1) := by decide +kernel
theorem dX1_readHoses_68 : decode cX1_readHoses 68 = .ok (.bipush 12, 2) := by decide +kernel
theorem dX1_readHoses_70 : decode cX1_readHoses 70 = .ok (.invokevirtual 148, 3) := by decide +kernel
theorem dX1_readHoses_73 : decode cX1_readHoses 73 = .ok (.ifCond .ne 5, 3) := by decide +kernel
theorem dX1_readHoses_76 : decode cX1_readHoses 76 = .ok (.iconst 0, 1) := by decide +kernel
theorem dX1_readHoses_77 : decode cX1_readHoses 77 = .ok (.ireturn, 1) := by decide +kernel
theorem dX1_readHoses_78 : decode cX1_readHoses 78 = .ok (.aload_n 0, 1) := by decide +kernel
theorem dX1_readHoses_79 : decode cX1_readHoses 79 = .ok (.getfield 15, 3) := by decide +kernel
theorem dX1_readHoses_82 : decode cX1_readHoses 82 = .ok (.aload_n 0, 1) := by decide +kernel
theorem dX1_readHoses_83 : decode cX1_readHoses 83 = .ok (.getfield 151, 3) := by decide +kernel
theorem dX1_readHoses_86 : decode cX1_readHoses 86 = .ok (.putfield 215, 3) := by decide +kernel
theorem dX1_readHoses_89 : decode cX1_readHoses 89 = .ok (.aload_n 0, 1) := by decide +kernel
theorem dX1_readHoses_90 : decode cX1_readHoses 90 = .ok (.iconst 1, 1) := by decide +kernel
theorem dX1_readHoses_91 : decode cX1_readHoses 91 = .ok (.putfield 32, 3) := by decide +kernel
theorem dX1_readHoses_94 : decode cX1_readHoses 94 = .ok (.iconst 1, 1) := by decide +kernel
theorem dX1_readHoses_95 : decode cX1_readHoses 95 = .ok (.ireturn, 1) := by decide +kernel
theorem dX1_readNeeds_0 : decode cX1_readNeeds 0 = .ok (.aload_n 0, 1) := by decide +kernel
theorem dX1_readNeeds_1 : decode cX1_readNeeds 1 = .ok (.getstatic 239, 3) := by decide +kernel
theorem dX1_readNeeds_4 : decode cX1_readNeeds 4 = .ok (.invokevirtual 60, 3) := by decide +kernel
theorem dX1_readNeeds_7 : decode cX1_readNeeds 7 = .ok (.ifCond .ne 5, 3) := by decide +kernel
theorem dX1_readNeeds_10 : decode cX1_readNeeds 10 = .ok (.iconst 0, 1) := by decide +kernel
theorem dX1_readNeeds_11 : decode cX1_readNeeds 11 = .ok (.ireturn, 1) := by decide +kernel
theorem dX1_readNeeds_12 : decode cX1_readNeeds 12 = .ok (.iconst 0, 1) := by decide +kernel
theorem dX1_readNeeds_13 : decode cX1_readNeeds 13 = .ok (.istore_n 1, 1) := by decide +kernel
theorem dX1_readNeeds_14 : decode cX1_readNeeds 14 = .ok (.iload_n 1, 1) := by decide +kernel
theorem dX1_readNeeds_15 : decode cX1_readNeeds 15 = .ok (.iconst 3, 1) := by decide +kernel
theorem dX1_readNeeds_16 : decode cX1_readNeeds 16 = .ok (.if_icmp .gt 72, 3) := by decide +kernel
theorem dX1_readNeeds_19 : decode cX1_readNeeds 19 = .ok (.aload_n 0, 1) := by decide +kernel
theorem dX1_readNeeds_20 : decode cX1_readNeeds 20 = .ok (.iconst 1, 1) := by decide +kernel
theorem dX1_readNeeds_21 : decode cX1_readNeeds 21 = .ok (.iconst 4, 1) := by decide +kernel
theorem dX1_readNeeds_22 : decode cX1_readNeeds 22 = .ok (.invokevirtual 148, 3) := by decide +kernel
theorem dX1_readNeeds_25 : decode cX1_readNeeds 25 = .ok (.ifCond .eq 10, 3) := by decide +kernel
theorem dX1_readNeeds_28 : decode cX1_readNeeds 28 = .ok (.aload_n 0, 1) := by decide +kernel
theorem dX1_readNeeds_29 : decode cX1_readNeeds 29 = .ok (.invokevirtual 185, 3) := by decide +kernel
theorem dX1_readNeeds_32 : decode cX1_readNeeds 32 = .ok (.ifCond .ne 5, 3) := by decide +kernel
theorem dX1_readNeeds_35 : decode cX1_readNeeds 35 = .ok (.iconst 0, 1) := by decide +kernel
theorem dX1_readNeeds_36 : decode cX1_readNeeds 36 = .ok (.ireturn, 1) := by decide +kernel
theorem dX1_readNeeds_37 : decode cX1_readNeeds 37 = .ok (.aload_n 0, 1) := by decide +kernel
theorem dX1_readNeeds_38 : decode cX1_readNeeds 38 = .ok (.getfield 15, 3) := by decide +kernel
theorem dX1_readNeeds_41 : decode cX1_readNeeds 41 = .ok (.getfield 113, 3) := by decide +kernel
theorem dX1_readNeeds_44 : decode cX1_readNeeds 44 = .ok (.aload_n 0, 1) := by decide +kernel
theorem dX1_readNeeds_45 : decode cX1_readNeeds 45 = .ok (.getfield 188, 3) := by decide +kernel
theorem dX1_readNeeds_48 : decode cX1_readNeeds 48 = .ok (.aload_n 0, 1) := by decide +kernel
theorem dX1_readNeeds_49 : decode cX1_readNeeds 49 = .ok (.getfield 151, 3) := by decide +kernel
theorem dX1_readNeeds_52 : decode cX1_readNeeds 52 = .ok (.invokevirtual 242, 3) := by decide +kernel
theorem dX1_readNeeds_55 : decode cX1_readNeeds 55 = .ok (.ifCond .ne 15, 3) := by decide +kernel
theorem dX1_readNeeds_58 : decode cX1_readNeeds 58 = .ok (.aload_n 0, 1) := by decide +kernel
theorem dX1_readNeeds_59 : decode cX1_readNeeds 59 = .ok (.iconst 3, 1) := by decide +kernel
theorem dX1_readNeeds_60 : decode cX1_readNeeds 60 = .ok (.aload_n 0, 1) := by decide +kernel
theorem dX1_readNeeds_61 : decode cX1_readNeeds 61 = .ok (.getfield 24, 3) := by decide +kernel
theorem dX1_readNeeds_64 : decode cX1_readNeeds 64 = .ok (.iconst 1, 1) := by decide +kernel
theorem dX1_readNeeds_65 : decode cX1_readNeeds 65 = .ok (.isub, 1) := by decide +kernel
theorem dX1_readNeeds_66 : decode cX1_readNeeds 66 = .ok (.invokevirtual 63, 3) := by decide +kernel
theorem dX1_readNeeds_69 : decode cX1_readNeeds 69 = .ok (.ireturn, 1) := by decide +kernel
theorem dX1_readNeeds_70 : decode cX1_readNeeds 70 = .ok (.aload_n 0, 1) := by decide +kernel
theorem dX1_readNeeds_71 : decode cX1_readNeeds 71 = .ok (.getstatic 245, 3) := by decide +kernel
theorem dX1_readNeeds_74 : decode cX1_readNeeds 74 = .ok (.invokevirtual 248, 3) := by decide +kernel
theorem dX1_readNeeds_77 : decode cX1_readNeeds 77 = .ok (.ifCond .ne 5, 3) := by decide +kernel
theorem dX1_readNeeds_80 : decode cX1_readNeeds 80 = .ok (.iconst 1, 1) := by decide +kernel
theorem dX1_readNeeds_81 : decode cX1_readNeeds 81 = .ok (.ireturn, 1) := by decide +kernel
theorem dX1_readNeeds_82 : decode cX1_readNeeds 82 = .ok (.iinc 1 1, 3) := by decide +kernel
theorem dX1_readNeeds_85 : decode cX1_readNeeds 85 = .ok (.goto (-71), 3) := by decide +kernel
theorem dX1_readNeeds_88 : decode cX1_readNeeds 88 = .ok (.aload_n 0, 1) := by decide +kernel
theorem dX1_readNeeds_89 : decode cX1_readNeeds 89 = .ok (.iconst 1, 1) := by decide +kernel
theorem dX1_readNeeds_90 : decode cX1_readNeeds 90 = .ok (.aload_n 0, 1) := by decide +kernel
theorem dX1_readNeeds_91 : decode cX1_readNeeds 91 = .ok (.getfield 24, 3) := by decide +kernel
theorem dX1_readNeeds_94 : decode cX1_readNeeds 94 = .ok (.invokevirtual 63, 3) := by decide +kernel
theorem dX1_readNeeds_97 : decode cX1_readNeeds 97 = .ok (.ireturn, 1) := by decide +kernel
theorem dX1_readDrillHoses_0 : decode cX1_readDrillHoses 0 = .ok (.aload_n 0, 1) := by decide +kernel
theorem dX1_readDrillHoses_1 : decode cX1_readDrillHoses 1 = .ok (.getstatic 251, 3) := by decide +kernel
theorem dX1_readDrillHoses_4 : decode cX1_readDrillHoses 4 = .ok (.invokevirtual 248, 3) := by decide +kernel
theorem dX1_readDrillHoses_7 : decode cX1_readDrillHoses 7 = .ok (.ifCond .ne 5, 3) := by decide +kernel
theorem dX1_readDrillHoses_10 : decode cX1_readDrillHoses 10 = .ok (.iconst 1, 1) := by decide +kernel
theorem dX1_readDrillHoses_11 : decode cX1_readDrillHoses 11 = .ok (.ireturn, 1) := by decide +kernel
theorem dX1_readDrillHoses_12 : decode cX1_readDrillHoses 12 = .ok (.aload_n 0, 1) := by decide +kernel
theorem dX1_readDrillHoses_13 : decode cX1_readDrillHoses 13 = .ok (.iconst 0, 1) := by decide +kernel
theorem dX1_readDrillHoses_14 : decode cX1_readDrillHoses 14 = .ok (.bipush 40, 2) := by decide +kernel
theorem dX1_readDrillHoses_16 : decode cX1_readDrillHoses 16 = .ok (.invokevirtual 148, 3) := by decide +kernel
theorem dX1_readDrillHoses_19 : decode cX1_readDrillHoses 19 = .ok (.ifCond .ne 5, 3) := by decide +kernel
theorem dX1_readDrillHoses_22 : decode cX1_readDrillHoses 22 = .ok (.iconst 0, 1) := by decide +kernel
theorem dX1_readDrillHoses_23 : decode cX1_readDrillHoses 23 = .ok (.ireturn, 1) := by decide +kernel
theorem dX1_readDrillHoses_24 : decode cX1_readDrillHoses 24 = .ok (.aload_n 0, 1) := by decide +kernel
theorem dX1_readDrillHoses_25 : decode cX1_readDrillHoses 25 = .ok (.getfield 15, 3) := by decide +kernel
theorem dX1_readDrillHoses_28 : decode cX1_readDrillHoses 28 = .ok (.getfield 113, 3) := by decide +kernel
theorem dX1_readDrillHoses_31 : decode cX1_readDrillHoses 31 = .ok (.aload_n 0, 1) := by decide +kernel
theorem dX1_readDrillHoses_32 : decode cX1_readDrillHoses 32 = .ok (.getfield 151, 3) := by decide +kernel
theorem dX1_readDrillHoses_35 : decode cX1_readDrillHoses 35 = .ok (.invokevirtual 254, 3) := by decide +kernel
theorem dX1_readDrillHoses_38 : decode cX1_readDrillHoses 38 = .ok (.iconst 1, 1) := by decide +kernel
theorem dX1_readDrillHoses_39 : decode cX1_readDrillHoses 39 = .ok (.ireturn, 1) := by decide +kernel
theorem dX1_readAfter_0 : decode cX1_readAfter 0 = .ok (.aload_n 0, 1) := by decide +kernel
theorem dX1_readAfter_1 : decode cX1_readAfter 1 = .ok (.getstatic 257, 3) := by decide +kernel
theorem dX1_readAfter_4 : decode cX1_readAfter 4 = .ok (.invokevirtual 248, 3) := by decide +kernel
theorem dX1_readAfter_7 : decode cX1_readAfter 7 = .ok (.ifCond .ne 5, 3) := by decide +kernel
theorem dX1_readAfter_10 : decode cX1_readAfter 10 = .ok (.iconst 1, 1) := by decide +kernel
theorem dX1_readAfter_11 : decode cX1_readAfter 11 = .ok (.ireturn, 1) := by decide +kernel
theorem dX1_readAfter_12 : decode cX1_readAfter 12 = .ok (.iconst 0, 1) := by decide +kernel
theorem dX1_readAfter_13 : decode cX1_readAfter 13 = .ok (.istore_n 1, 1) := by decide +kernel
theorem dX1_readAfter_14 : decode cX1_readAfter 14 = .ok (.iload_n 1, 1) := by decide +kernel
theorem dX1_readAfter_15 : decode cX1_readAfter 15 = .ok (.iconst 5, 1) := by decide +kernel
theorem dX1_readAfter_16 : decode cX1_readAfter 16 = .ok (.if_icmp .gt 60, 3) := by decide +kernel
theorem dX1_readAfter_19 : decode cX1_readAfter 19 = .ok (.aload_n 0, 1) := by decide +kernel
theorem dX1_readAfter_20 : decode cX1_readAfter 20 = .ok (.iconst 3, 1) := by decide +kernel
theorem dX1_readAfter_21 : decode cX1_readAfter 21 = .ok (.invokevirtual 167, 3) := by decide +kernel
theorem dX1_readAfter_24 : decode cX1_readAfter 24 = .ok (.ifCond .ne 5, 3) := by decide +kernel
theorem dX1_readAfter_27 : decode cX1_readAfter 27 = .ok (.iconst 0, 1) := by decide +kernel
theorem dX1_readAfter_28 : decode cX1_readAfter 28 = .ok (.ireturn, 1) := by decide +kernel
theorem dX1_readAfter_29 : decode cX1_readAfter 29 = .ok (.aload_n 0, 1) := by decide +kernel
theorem dX1_readAfter_30 : decode cX1_readAfter 30 = .ok (.getfield 15, 3) := by decide +kernel
theorem dX1_readAfter_33 : decode cX1_readAfter 33 = .ok (.getfield 113, 3) := by decide +kernel
theorem dX1_readAfter_36 : decode cX1_readAfter 36 = .ok (.aload_n 0, 1) := by decide +kernel
theorem dX1_readAfter_37 : decode cX1_readAfter 37 = .ok (.getfield 171, 3) := by decide +kernel
theorem dX1_readAfter_40 : decode cX1_readAfter 40 = .ok (.invokevirtual 260, 3) := by decide +kernel
theorem dX1_readAfter_43 : decode cX1_readAfter 43 = .ok (.ifCond .ne 15, 3) := by decide +kernel
theorem dX1_readAfter_46 : decode cX1_readAfter 46 = .ok (.aload_n 0, 1) := by decide +kernel
theorem dX1_readAfter_47 : decode cX1_readAfter 47 = .ok (.iconst 3, 1) := by decide +kernel
theorem dX1_readAfter_48 : decode cX1_readAfter 48 = .ok (.aload_n 0, 1) := by decide +kernel
theorem dX1_readAfter_49 : decode cX1_readAfter 49 = .ok (.getfield 24, 3) := by decide +kernel
theorem dX1_readAfter_52 : decode cX1_readAfter 52 = .ok (.iconst 1, 1) := by decide +kernel
theorem dX1_readAfter_53 : decode cX1_readAfter 53 = .ok (.isub, 1) := by decide +kernel
theorem dX1_readAfter_54 : decode cX1_readAfter 54 = .ok (.invokevirtual 63, 3) := by decide +kernel
theorem dX1_readAfter_57 : decode cX1_readAfter 57 = .ok (.ireturn, 1) := by decide +kernel
theorem dX1_readAfter_58 : decode cX1_readAfter 58 = .ok (.aload_n 0, 1) := by decide +kernel
theorem dX1_readAfter_59 : decode cX1_readAfter 59 = .ok (.getstatic 245, 3) := by decide +kernel
theorem dX1_readAfter_62 : decode cX1_readAfter 62 = .ok (.invokevirtual 248, 3) := by decide +kernel
theorem dX1_readAfter_65 : decode cX1_readAfter 65 = .ok (.ifCond .ne 5, 3) := by decide +kernel
theorem dX1_readAfter_68 : decode cX1_readAfter 68 = .ok (.iconst 1, 1) := by decide +kernel
theorem dX1_readAfter_69 : decode cX1_readAfter 69 = .ok (.ireturn, 1) := by decide +kernel
theorem dX1_readAfter_70 : decode cX1_readAfter 70 = .ok (.iinc 1 1, 3) := by decide +kernel
theorem dX1_readAfter_73 : decode cX1_readAfter 73 = .ok (.goto (-59), 3) := by decide +kernel
theorem dX1_readAfter_76 : decode cX1_readAfter 76 = .ok (.aload_n 0, 1) := by decide +kernel
theorem dX1_readAfter_77 : decode cX1_readAfter 77 = .ok (.iconst 1, 1) := by decide +kernel
theorem dX1_readAfter_78 : decode cX1_readAfter 78 = .ok (.aload_n 0, 1) := by decide +kernel
theorem dX1_readAfter_79 : decode cX1_readAfter 79 = .ok (.getfield 24, 3) := by decide +kernel
theorem dX1_readAfter_82 : decode cX1_readAfter 82 = .ok (.invokevirtual 63, 3) := by decide +kernel
theorem dX1_readAfter_85 : decode cX1_readAfter 85 = .ok (.ireturn, 1) := by decide +kernel
theorem dX1_readFrom_0 : decode cX1_readFrom 0 = .ok (.aload_n 0, 1) := by decide +kernel
theorem dX1_readFrom_1 : decode cX1_readFrom 1 = .ok (.getstatic 263, 3) := by decide +kernel
theorem dX1_readFrom_4 : decode cX1_readFrom 4 = .ok (.invokevirtual 248, 3) := by decide +kernel
theorem dX1_readFrom_7 : decode cX1_readFrom 7 = .ok (.ifCond .ne 5, 3) := by decide +kernel
theorem dX1_readFrom_10 : decode cX1_readFrom 10 = .ok (.iconst 1, 1) := by decide +kernel
theorem dX1_readFrom_11 : decode cX1_readFrom 11 = .ok (.ireturn, 1) := by decide +kernel
theorem dX1_readFrom_12 : decode cX1_readFrom 12 = .ok (.aload_n 0, 1) := by decide +kernel
theorem dX1_readFrom_13 : decode cX1_readFrom 13 = .ok (.iconst 0, 1) := by decide +kernel
theorem dX1_readFrom_14 : decode cX1_readFrom 14 = .ok (.bipush 23, 2) := by decide +kernel
theorem dX1_readFrom_16 : decode cX1_readFrom 16 = .ok (.invokevirtual 148, 3) := by decide +kernel
theorem dX1_readFrom_19 : decode cX1_readFrom 19 = .ok (.ifCond .ne 5, 3) := by decide +kernel
theorem dX1_readFrom_22 : decode cX1_readFrom 22 = .ok (.iconst 0, 1) := by decide +kernel
theorem dX1_readFrom_23 : decode cX1_readFrom 23 = .ok (.ireturn, 1) := by decide +kernel
theorem dX1_readFrom_24 : decode cX1_readFrom 24 = .ok (.aload_n 0, 1) := by decide +kernel
theorem dX1_readFrom_25 : decode cX1_readFrom 25 = .ok (.getfield 15, 3) := by decide +kernel
theorem dX1_readFrom_28 : decode cX1_readFrom 28 = .ok (.getfield 113, 3) := by decide +kernel
theorem dX1_readFrom_31 : decode cX1_readFrom 31 = .ok (.aload_n 0, 1) := by decide +kernel
theorem dX1_readFrom_32 : decode cX1_readFrom 32 = .ok (.getfield 151, 3) := by decide +kernel
theorem dX1_readFrom_35 : decode cX1_readFrom 35 = .ok (.invokevirtual 266, 3) := by decide +kernel
theorem dX1_readFrom_38 : decode cX1_readFrom 38 = .ok (.iconst 1, 1) := by decide +kernel
theorem dX1_readFrom_39 : decode cX1_readFrom 39 = .ok (.ireturn, 1) := by decide +kernel
theorem dX2_serve_0 : decode cX2_serve 0 = .ok (.aload_n 0, 1) := by decide +kernel
theorem dX2_serve_1 : decode cX2_serve 1 = .ok (.aload_n 1, 1) := by decide +kernel
theorem dX2_serve_2 : decode cX2_serve 2 = .ok (.putfield 24, 3) := by decide +kernel
theorem dX2_serve_5 : decode cX2_serve 5 = .ok (.aload_n 0, 1) := by decide +kernel
theorem dX2_serve_6 : decode cX2_serve 6 = .ok (.getfield 9, 3) := by decide +kernel
theorem dX2_serve_9 : decode cX2_serve 9 = .ok (.iconst (-1), 1) := by decide +kernel
theorem dX2_serve_10 : decode cX2_serve 10 = .ok (.invokestatic 28, 3) := by decide +kernel
theorem dX2_serve_13 : decode cX2_serve 13 = .ok (.iconst 0, 1) := by decide +kernel
theorem dX2_serve_14 : decode cX2_serve 14 = .ok (.istore_n 2, 1) := by decide +kernel
theorem dX2_serve_15 : decode cX2_serve 15 = .ok (.iload_n 2, 1) := by decide +kernel
theorem dX2_serve_16 : decode cX2_serve 16 = .ok (.aload_n 1, 1) := by decide +kernel
theorem dX2_serve_17 : decode cX2_serve 17 = .ok (.getfield 34, 3) := by decide +kernel
theorem dX2_serve_20 : decode cX2_serve 20 = .ok (.if_icmp .ge 40, 3) := by decide +kernel
theorem dX2_serve_23 : decode cX2_serve 23 = .ok (.iconst 0, 1) := by decide +kernel
theorem dX2_serve_24 : decode cX2_serve 24 = .ok (.istore_n 3, 1) := by decide +kernel
theorem dX2_serve_25 : decode cX2_serve 25 = .ok (.iload_n 3, 1) := by decide +kernel
theorem dX2_serve_26 : decode cX2_serve 26 = .ok (.iconst 3, 1) := by decide +kernel
theorem dX2_serve_27 : decode cX2_serve 27 = .ok (.if_icmp .ge 27, 3) := by decide +kernel
theorem dX2_serve_30 : decode cX2_serve 30 = .ok (.aload_n 0, 1) := by decide +kernel
theorem dX2_serve_31 : decode cX2_serve 31 = .ok (.getfield 15, 3) := by decide +kernel
theorem dX2_serve_34 : decode cX2_serve 34 = .ok (.iload_n 2, 1) := by decide +kernel
theorem dX2_serve_35 : decode cX2_serve 35 = .ok (.iconst 3, 1) := by decide +kernel
theorem dX2_serve_36 : decode cX2_serve 36 = .ok (.imul, 1) := by decide +kernel
theorem dX2_serve_37 : decode cX2_serve 37 = .ok (.iload_n 3, 1) := by decide +kernel
theorem dX2_serve_38 : decode cX2_serve 38 = .ok (.iadd, 1) := by decide +kernel
theorem dX2_serve_39 : decode cX2_serve 39 = .ok (.aload_n 0, 1) := by decide +kernel
theorem dX2_serve_40 : decode cX2_serve 40 = .ok (.iload_n 2, 1) := by decide +kernel
theorem dX2_serve_41 : decode cX2_serve 41 = .ok (.iload_n 3, 1) := by decide +kernel
theorem dX2_serve_42 : decode cX2_serve 42 = .ok (.invokevirtual 40, 3) := by decide +kernel
theorem dX2_serve_45 : decode cX2_serve 45 = .ok (.invokestatic 44, 3) := by decide +kernel
theorem dX2_serve_48 : decode cX2_serve 48 = .ok (.iinc 3 1, 3) := by decide +kernel
theorem dX2_serve_51 : decode cX2_serve 51 = .ok (.goto (-26), 3) := by decide +kernel
theorem dX2_serve_54 : decode cX2_serve 54 = .ok (.iinc 2 1, 3) := by decide +kernel
theorem dX2_serve_57 : decode cX2_serve 57 = .ok (.goto (-42), 3) := by decide +kernel
theorem dX2_serve_60 : decode cX2_serve 60 = .ok (.return_, 1) := by decide +kernel
theorem dX8_play_0 : decode cX8_play 0 = .ok (.aload_n 0, 1) := by decide +kernel
theorem dX8_play_1 : decode cX8_play 1 = .ok (.invokevirtual 133, 3) := by decide +kernel
theorem dX8_play_4 : decode cX8_play 4 = .ok (.iconst 1, 1) := by decide +kernel
theorem dX8_play_5 : decode cX8_play 5 = .ok (.istore_n 2, 1) := by decide +kernel
theorem dX8_play_6 : decode cX8_play 6 = .ok (.iconst 0, 1) := by decide +kernel
theorem dX8_play_7 : decode cX8_play 7 = .ok (.istore_n 3, 1) := by decide +kernel
theorem dX8_play_8 : decode cX8_play 8 = .ok (.iload_n 3, 1) := by decide +kernel
theorem dX8_play_9 : decode cX8_play 9 = .ok (.bipush 48, 2) := by decide +kernel
theorem dX8_play_11 : decode cX8_play 11 = .ok (.if_icmp .ge 140, 3) := by decide +kernel
theorem dX8_play_14 : decode cX8_play 14 = .ok (.aload_n 0, 1) := by decide +kernel
theorem dX8_play_15 : decode cX8_play 15 = .ok (.getfield 12, 3) := by decide +kernel
theorem dX8_play_18 : decode cX8_play 18 = .ok (.iload_n 3, 1) := by decide +kernel
theorem dX8_play_19 : decode cX8_play 19 = .ok (.invokevirtual 136, 3) := by decide +kernel
theorem dX8_play_22 : decode cX8_play 22 = .ok (.aload_n 0, 1) := by decide +kernel
theorem dX8_play_23 : decode cX8_play 23 = .ok (.dup, 1) := by decide +kernel
theorem dX8_play_24 : decode cX8_play 24 = .ok (.getfield 140, 3) := by decide +kernel
theorem dX8_play_27 : decode cX8_play 27 = .ok (.aload_n 0, 1) := by decide +kernel
theorem dX8_play_28 : decode cX8_play 28 = .ok (.getfield 43, 3) := by decide +kernel
theorem dX8_play_31 : decode cX8_play 31 = .ok (.iload_n 3, 1) := by decide +kernel
theorem dX8_play_32 : decode cX8_play 32 = .ok (.iaload, 1) := by decide +kernel
theorem dX8_play_33 : decode cX8_play 33 = .ok (.iconst (-1), 1) := by decide +kernel
theorem dX8_play_34 : decode cX8_play 34 = .ok (.ixor, 1) := by decide +kernel
theorem dX8_play_35 : decode cX8_play 35 = .ok (.iand, 1) := by decide +kernel
theorem dX8_play_36 : decode cX8_play 36 = .ok (.putfield 140, 3) := by decide +kernel
theorem dX8_play_39 : decode cX8_play 39 = .ok (.iconst 0, 1) := by decide +kernel
theorem dX8_play_40 : decode cX8_play 40 = .ok (.istore 4, 2) := by decide +kernel
theorem dX8_play_42 : decode cX8_play 42 = .ok (.iload 4, 2) := by decide +kernel
theorem dX8_play_44 : decode cX8_play 44 = .ok (.iconst 5, 1) := by decide +kernel
theorem dX8_play_45 : decode cX8_play 45 = .ok (.if_icmp .ge 32, 3) := by decide +kernel
theorem dX8_play_48 : decode cX8_play 48 = .ok (.aload_n 0, 1) := by decide +kernel
theorem dX8_play_49 : decode cX8_play 49 = .ok (.getfield 18, 3) := by decide +kernel
theorem dX8_play_52 : decode cX8_play 52 = .ok (.iload 4, 2) := by decide +kernel
theorem dX8_play_54 : decode cX8_play 54 = .ok (.iaload, 1) := by decide +kernel
theorem dX8_play_55 : decode cX8_play 55 = .ok (.iload_n 3, 1) := by decide +kernel
theorem dX8_play_56 : decode cX8_play 56 = .ok (.if_icmp .ne 15, 3) := by decide +kernel
theorem dX8_play_59 : decode cX8_play 59 = .ok (.aload_n 0, 1) := by decide +kernel
theorem dX8_play_60 : decode cX8_play 60 = .ok (.iload 4, 2) := by decide +kernel
theorem dX8_play_62 : decode cX8_play 62 = .ok (.iload_n 3, 1) := by decide +kernel
theorem dX8_play_63 : decode cX8_play 63 = .ok (.invokevirtual 143, 3) := by decide +kernel
theorem dX8_play_66 : decode cX8_play 66 = .ok (.ifCond .ne 5, 3) := by decide +kernel
theorem dX8_play_69 : decode cX8_play 69 = .ok (.iconst 0, 1) := by decide +kernel
theorem dX8_play_70 : decode cX8_play 70 = .ok (.istore_n 2, 1) := by decide +kernel
theorem dX8_play_71 : decode cX8_play 71 = .ok (.iinc 4 1, 3) := by decide +kernel
theorem dX8_play_74 : decode cX8_play 74 = .ok (.goto (-32), 3) := by decide +kernel
theorem dX8_play_77 : decode cX8_play 77 = .ok (.aload_n 0, 1) := by decide +kernel
theorem dX8_play_78 : decode cX8_play 78 = .ok (.getfield 12, 3) := by decide +kernel
theorem dX8_play_81 : decode cX8_play 81 = .ok (.iload_n 3, 1) := by decide +kernel
theorem dX8_play_82 : decode cX8_play 82 = .ok (.invokevirtual 147, 3) := by decide +kernel
theorem dX8_play_85 : decode cX8_play 85 = .ok (.aload_n 0, 1) := by decide +kernel
theorem dX8_play_86 : decode cX8_play 86 = .ok (.getfield 37, 3) := by decide +kernel
theorem dX8_play_89 : decode cX8_play 89 = .ok (.iload_n 3, 1) := by decide +kernel
theorem dX8_play_90 : decode cX8_play 90 = .ok (.aload_n 0, 1) := by decide +kernel
theorem dX8_play_91 : decode cX8_play 91 = .ok (.getfield 78, 3) := by decide +kernel
theorem dX8_play_94 : decode cX8_play 94 = .ok (.aload_n 0, 1) := by decide +kernel
theorem dX8_play_95 : decode cX8_play 95 = .ok (.getfield 140, 3) := by decide +kernel
theorem dX8_play_98 : decode cX8_play 98 = .ok (.iconst (-1), 1) := by decide +kernel
theorem dX8_play_99 : decode cX8_play 99 = .ok (.ixor, 1) := by decide +kernel
theorem dX8_play_100 : decode cX8_play 100 = .ok (.iand, 1) := by decide +kernel
theorem dX8_play_101 : decode cX8_play 101 = .ok (.iastore, 1) := by decide +kernel
theorem dX8_play_102 : decode cX8_play 102 = .ok (.aload_n 0, 1) := by decide +kernel
theorem dX8_play_103 : decode cX8_play 103 = .ok (.getfield 50, 3) := by decide +kernel
theorem dX8_play_106 : decode cX8_play 106 = .ok (.aload_n 0, 1) := by decide +kernel
theorem dX8_play_107 : decode cX8_play 107 = .ok (.getfield 37, 3) := by decide +kernel
theorem dX8_play_110 : decode cX8_play 110 = .ok (.iload_n 3, 1) := by decide +kernel
theorem dX8_play_111 : decode cX8_play 111 = .ok (.iaload, 1) := by decide +kernel
theorem dX8_play_112 : decode cX8_play 112 = .ok (.invokevirtual 150, 3) := by decide +kernel
theorem dX8_play_115 : decode cX8_play 115 = .ok (.ifCond .eq 5, 3) := by decide +kernel
theorem dX8_play_118 : decode cX8_play 118 = .ok (.iconst 0, 1) := by decide +kernel
theorem dX8_play_119 : decode cX8_play 119 = .ok (.istore_n 2, 1) := by decide +kernel
theorem dX8_play_120 : decode cX8_play 120 = .ok (.iload_n 1, 1) := by decide +kernel
theorem dX8_play_121 : decode cX8_play 121 = .ok (.ifCond .eq 24, 3) := by decide +kernel
theorem dX8_play_124 : decode cX8_play 124 = .ok (.iload_n 2, 1) := by decide +kernel
theorem dX8_play_125 : decode cX8_play 125 = .ok (.ifCond .eq 18, 3) := by decide +kernel
theorem dX8_play_128 : decode cX8_play 128 = .ok (.iload_n 3, 1) := by decide +kernel
theorem dX8_play_129 : decode cX8_play 129 = .ok (.aload_n 0, 1) := by decide +kernel
theorem dX8_play_130 : decode cX8_play 130 = .ok (.getfield 156, 3) := by decide +kernel
theorem dX8_play_133 : decode cX8_play 133 = .ok (.if_icmp .lt 12, 3) := by decide +kernel
theorem dX8_play_136 : decode cX8_play 136 = .ok (.aload_n 0, 1) := by decide +kernel
theorem dX8_play_137 : decode cX8_play 137 = .ok (.getfield 140, 3) := by decide +kernel
theorem dX8_play_140 : decode cX8_play 140 = .ok (.ifCond .ne 5, 3) := by decide +kernel
theorem dX8_play_143 : decode cX8_play 143 = .ok (.iload_n 2, 1) := by decide +kernel
theorem dX8_play_144 : decode cX8_play 144 = .ok (.ireturn, 1) := by decide +kernel
theorem dX8_play_145 : decode cX8_play 145 = .ok (.iinc 3 1, 3) := by decide +kernel
theorem dX8_play_148 : decode cX8_play 148 = .ok (.goto (-140), 3) := by decide +kernel
theorem dX8_play_151 : decode cX8_play 151 = .ok (.iload_n 2, 1) := by decide +kernel
theorem dX8_play_152 : decode cX8_play 152 = .ok (.ireturn, 1) := by decide +kernel
theorem dX8_listViolations_0 : decode cX8_listViolations 0 = .ok (.aload_n 0, 1) := by decide +kernel
theorem dX8_listViolations_1 : decode cX8_listViolations 1 = .ok (.iconst 0, 1) := by decide +kernel
theorem dX8_listViolations_2 : decode cX8_listViolations 2 = .ok (.putfield 203, 3) := by decide +kernel
theorem dX8_listViolations_5 : decode cX8_listViolations 5 = .ok (.iconst 0, 1) := by decide +kernel
theorem dX8_listViolations_6 : decode cX8_listViolations 6 = .ok (.istore_n 1, 1) := by decide +kernel
theorem dX8_listViolations_7 : decode cX8_listViolations 7 = .ok (.iload_n 1, 1) := by decide +kernel
theorem dX8_listViolations_8 : decode cX8_listViolations 8 = .ok (.bipush 48, 2) := by decide +kernel
theorem dX8_listViolations_10 : decode cX8_listViolations 10 = .ok (.if_icmp .ge 56, 3) := by decide +kernel
theorem dX8_listViolations_13 : decode cX8_listViolations 13 = .ok (.iconst 1, 1) := by decide +kernel
theorem dX8_listViolations_14 : decode cX8_listViolations 14 = .ok (.istore_n 2, 1) := by decide +kernel
theorem dX8_listViolations_15 : decode cX8_listViolations 15 = .ok (.iload_n 2, 1) := by decide +kernel
theorem dX8_listViolations_16 : decode cX8_listViolations 16 = .ok (.iconst 4, 1) := by decide +kernel
theorem dX8_listViolations_17 : decode cX8_listViolations 17 = .ok (.if_icmp .gt 15, 3) := by decide +kernel
theorem dX8_listViolations_20 : decode cX8_listViolations 20 = .ok (.aload_n 0, 1) := by decide +kernel
theorem dX8_listViolations_21 : decode cX8_listViolations 21 = .ok (.iload_n 1, 1) := by decide +kernel
theorem dX8_listViolations_22 : decode cX8_listViolations 22 = .ok (.iload_n 2, 1) := by decide +kernel
theorem dX8_listViolations_23 : decode cX8_listViolations 23 = .ok (.invokevirtual 206, 3) := by decide +kernel
theorem dX8_listViolations_26 : decode cX8_listViolations 26 = .ok (.iinc 2 1, 3) := by decide +kernel
theorem dX8_listViolations_29 : decode cX8_listViolations 29 = .ok (.goto (-14), 3) := by decide +kernel
theorem dX8_listViolations_32 : decode cX8_listViolations 32 = .ok (.aload_n 0, 1) := by decide +kernel
theorem dX8_listViolations_33 : decode cX8_listViolations 33 = .ok (.getfield 50, 3) := by decide +kernel
theorem dX8_listViolations_36 : decode cX8_listViolations 36 = .ok (.aload_n 0, 1) := by decide +kernel
theorem dX8_listViolations_37 : decode cX8_listViolations 37 = .ok (.getfield 37, 3) := by decide +kernel
theorem dX8_listViolations_40 : decode cX8_listViolations 40 = .ok (.iload_n 1, 1) := by decide +kernel
theorem dX8_listViolations_41 : decode cX8_listViolations 41 = .ok (.iaload, 1) := by decide +kernel
theorem dX8_listViolations_42 : decode cX8_listViolations 42 = .ok (.invokevirtual 150, 3) := by decide +kernel
theorem dX8_listViolations_45 : decode cX8_listViolations 45 = .ok (.istore_n 2, 1) := by decide +kernel
theorem dX8_listViolations_46 : decode cX8_listViolations 46 = .ok (.iload_n 2, 1) := by decide +kernel
theorem dX8_listViolations_47 : decode cX8_listViolations 47 = .ok (.ifCond .eq 13, 3) := by decide +kernel
theorem dX8_listViolations_50 : decode cX8_listViolations 50 = .ok (.aload_n 0, 1) := by decide +kernel
theorem dX8_listViolations_51 : decode cX8_listViolations 51 = .ok (.iload_n 1, 1) := by decide +kernel
theorem dX8_listViolations_52 : decode cX8_listViolations 52 = .ok (.iconst 5, 1) := by decide +kernel
theorem dX8_listViolations_53 : decode cX8_listViolations 53 = .ok (.iload_n 2, 1) := by decide +kernel
theorem dX8_listViolations_54 : decode cX8_listViolations 54 = .ok (.invokestatic 209, 3) := by decide +kernel
theorem dX8_listViolations_57 : decode cX8_listViolations 57 = .ok (.invokevirtual 212, 3) := by decide +kernel
theorem dX8_listViolations_60 : decode cX8_listViolations 60 = .ok (.iinc 1 1, 3) := by decide +kernel
theorem dX8_listViolations_63 : decode cX8_listViolations 63 = .ok (.goto (-56), 3) := by decide +kernel
theorem dX8_listViolations_66 : decode cX8_listViolations 66 = .ok (.return_, 1) := by decide +kernel
theorem dX10_sortOfWord_0 : decode cX10_sortOfWord 0 = .ok (.iconst 0, 1) := by decide +kernel
theorem dX10_sortOfWord_1 : decode cX10_sortOfWord 1 = .ok (.istore_n 3, 1) := by decide +kernel
theorem dX10_sortOfWord_2 : decode cX10_sortOfWord 2 = .ok (.iload_n 3, 1) := by decide +kernel
theorem dX10_sortOfWord_3 : decode cX10_sortOfWord 3 = .ok (.getstatic 74, 3) := by decide +kernel
theorem dX10_sortOfWord_6 : decode cX10_sortOfWord 6 = .ok (.arraylength, 1) := by decide +kernel
theorem dX10_sortOfWord_7 : decode cX10_sortOfWord 7 = .ok (.if_icmp .ge 32, 3) := by decide +kernel
theorem dX10_sortOfWord_10 : decode cX10_sortOfWord 10 = .ok (.getstatic 74, 3) := by decide +kernel
theorem dX10_sortOfWord_13 : decode cX10_sortOfWord 13 = .ok (.iload_n 3, 1) := by decide +kernel
theorem dX10_sortOfWord_14 : decode cX10_sortOfWord 14 = .ok (.aaload, 1) := by decide +kernel
theorem dX10_sortOfWord_15 : decode cX10_sortOfWord 15 = .ok (.getfield 77, 3) := by decide +kernel
theorem dX10_sortOfWord_18 : decode cX10_sortOfWord 18 = .ok (.aload_n 0, 1) := by decide +kernel
theorem dX10_sortOfWord_19 : decode cX10_sortOfWord 19 = .ok (.iload_n 1, 1) := by decide +kernel
theorem dX10_sortOfWord_20 : decode cX10_sortOfWord 20 = .ok (.iload_n 2, 1) := by decide +kernel
theorem dX10_sortOfWord_21 : decode cX10_sortOfWord 21 = .ok (.invokestatic 81, 3) := by decide +kernel
theorem dX10_sortOfWord_24 : decode cX10_sortOfWord 24 = .ok (.ifCond .eq 9, 3) := by decide +kernel
theorem dX10_sortOfWord_27 : decode cX10_sortOfWord 27 = .ok (.getstatic 74, 3) := by decide +kernel
theorem dX10_sortOfWord_30 : decode cX10_sortOfWord 30 = .ok (.iload_n 3, 1) := by decide +kernel
theorem dX10_sortOfWord_31 : decode cX10_sortOfWord 31 = .ok (.aaload, 1) := by decide +kernel
theorem dX10_sortOfWord_32 : decode cX10_sortOfWord 32 = .ok (.areturn, 1) := by decide +kernel
theorem dX10_sortOfWord_33 : decode cX10_sortOfWord 33 = .ok (.iinc 3 1, 3) := by decide +kernel
theorem dX10_sortOfWord_36 : decode cX10_sortOfWord 36 = .ok (.goto (-34), 3) := by decide +kernel
theorem dX10_sortOfWord_39 : decode cX10_sortOfWord 39 = .ok (.iload_n 2, 1) := by decide +kernel
theorem dX10_sortOfWord_40 : decode cX10_sortOfWord 40 = .ok (.iload_n 1, 1) := by decide +kernel
theorem dX10_sortOfWord_41 : decode cX10_sortOfWord 41 = .ok (.isub, 1) := by decide +kernel
theorem dX10_sortOfWord_42 : decode cX10_sortOfWord 42 = .ok (.bipush 6, 2) := by decide +kernel
theorem dX10_sortOfWord_44 : decode cX10_sortOfWord 44 = .ok (.if_icmp .gt 9, 3) := by decide +kernel
theorem dX10_sortOfWord_47 : decode cX10_sortOfWord 47 = .ok (.getstatic 85, 3) := by decide +kernel
theorem dX10_sortOfWord_50 : decode cX10_sortOfWord 50 = .ok (.goto 6, 3) := by decide +kernel
theorem dX10_sortOfWord_53 : decode cX10_sortOfWord 53 = .ok (.getstatic 44, 3) := by decide +kernel
theorem dX10_sortOfWord_56 : decode cX10_sortOfWord 56 = .ok (.areturn, 1) := by decide +kernel
theorem dX1_readDrill_0 : decode cX1_readDrill 0 = .ok (.aload_n 0, 1) := by decide +kernel
theorem dX1_readDrill_1 : decode cX1_readDrill 1 = .ok (.invokevirtual 157, 3) := by decide +kernel
theorem dX1_readDrill_4 : decode cX1_readDrill 4 = .ok (.ifCond .eq 21, 3) := by decide +kernel
theorem dX1_readDrill_7 : decode cX1_readDrill 7 = .ok (.aload_n 0, 1) := by decide +kernel
theorem dX1_readDrill_8 : decode cX1_readDrill 8 = .ok (.getstatic 178, 3) := by decide +kernel
theorem dX1_readDrill_11 : decode cX1_readDrill 11 = .ok (.invokevirtual 60, 3) := by decide +kernel
theorem dX1_readDrill_14 : decode cX1_readDrill 14 = .ok (.ifCond .eq 11, 3) := by decide +kernel
theorem dX1_readDrill_17 : decode cX1_readDrill 17 = .ok (.aload_n 0, 1) := by decide +kernel
theorem dX1_readDrill_18 : decode cX1_readDrill 18 = .ok (.iconst 0, 1) := by decide +kernel
theorem dX1_readDrill_19 : decode cX1_readDrill 19 = .ok (.invokevirtual 167, 3) := by decide +kernel
theorem dX1_readDrill_22 : decode cX1_readDrill 22 = .ok (.ifCond .ne 5, 3) := by decide +kernel
theorem dX1_readDrill_25 : decode cX1_readDrill 25 = .ok (.iconst 0, 1) := by decide +kernel
theorem dX1_readDrill_26 : decode cX1_readDrill 26 = .ok (.ireturn, 1) := by decide +kernel
theorem dX1_readDrill_27 : decode cX1_readDrill 27 = .ok (.aload_n 0, 1) := by decide +kernel
theorem dX1_readDrill_28 : decode cX1_readDrill 28 = .ok (.getstatic 218, 3) := by decide +kernel
theorem dX1_readDrill_31 : decode cX1_readDrill 31 = .ok (.invokevirtual 60, 3) := by decide +kernel
theorem dX1_readDrill_34 : decode cX1_readDrill 34 = .ok (.ifCond .eq 13, 3) := by decide +kernel
theorem dX1_readDrill_37 : decode cX1_readDrill 37 = .ok (.aload_n 0, 1) := by decide +kernel
theorem dX1_readDrill_38 : decode cX1_readDrill 38 = .ok (.iconst 1, 1) := by decide +kernel
theorem dX1_readDrill_39 : decode cX1_readDrill 39 = .ok (.bipush 8, 2) := by decide +kernel
theorem dX1_readDrill_41 : decode cX1_readDrill 41 = .ok (.invokevirtual 148, 3) := by decide +kernel
theorem dX1_readDrill_44 : decode cX1_readDrill 44 = .ok (.ifCond .ne 5, 3) := by decide +kernel
theorem dX1_readDrill_47 : decode cX1_readDrill 47 = .ok (.iconst 0, 1) := by decide +kernel
theorem dX1_readDrill_48 : decode cX1_readDrill 48 = .ok (.ireturn, 1) := by decide +kernel
theorem dX1_readDrill_49 : decode cX1_readDrill 49 = .ok (.aload_n 0, 1) := by decide +kernel
theorem dX1_readDrill_50 : decode cX1_readDrill 50 = .ok (.getfield 160, 3) := by decide +kernel
theorem dX1_readDrill_53 : decode cX1_readDrill 53 = .ok (.istore_n 1, 1) := by decide +kernel
theorem dX1_readDrill_54 : decode cX1_readDrill 54 = .ok (.aload_n 0, 1) := by decide +kernel
theorem dX1_readDrill_55 : decode cX1_readDrill 55 = .ok (.getfield 15, 3) := by decide +kernel
theorem dX1_readDrill_58 : decode cX1_readDrill 58 = .ok (.getfield 113, 3) := by decide +kernel
theorem dX1_readDrill_61 : decode cX1_readDrill 61 = .ok (.aload_n 0, 1) := by decide +kernel
theorem dX1_readDrill_62 : decode cX1_readDrill 62 = .ok (.getfield 171, 3) := by decide +kernel
theorem dX1_readDrill_65 : decode cX1_readDrill 65 = .ok (.aload_n 0, 1) := by decide +kernel
theorem dX1_readDrill_66 : decode cX1_readDrill 66 = .ok (.getfield 151, 3) := by decide +kernel
theorem dX1_readDrill_69 : decode cX1_readDrill 69 = .ok (.invokevirtual 221, 3) := by decide +kernel
theorem dX1_readDrill_72 : decode cX1_readDrill 72 = .ok (.aload_n 0, 1) := by decide +kernel
theorem dX1_readDrill_73 : decode cX1_readDrill 73 = .ok (.invokevirtual 224, 3) := by decide +kernel
theorem dX1_readDrill_76 : decode cX1_readDrill 76 = .ok (.ifCond .eq 24, 3) := by decide +kernel
theorem dX1_readDrill_79 : decode cX1_readDrill 79 = .ok (.aload_n 0, 1) := by decide +kernel
theorem dX1_readDrill_80 : decode cX1_readDrill 80 = .ok (.invokevirtual 227, 3) := by decide +kernel
theorem dX1_readDrill_83 : decode cX1_readDrill 83 = .ok (.ifCond .eq 17, 3) := by decide +kernel
theorem dX1_readDrill_86 : decode cX1_readDrill 86 = .ok (.aload_n 0, 1) := by decide +kernel
theorem dX1_readDrill_87 : decode cX1_readDrill 87 = .ok (.invokevirtual 230, 3) := by decide +kernel
theorem dX1_readDrill_90 : decode cX1_readDrill 90 = .ok (.ifCond .eq 10, 3) := by decide +kernel
theorem dX1_readDrill_93 : decode cX1_readDrill 93 = .ok (.aload_n 0, 1) := by decide +kernel
theorem dX1_readDrill_94 : decode cX1_readDrill 94 = .ok (.invokevirtual 233, 3) := by decide +kernel
theorem dX1_readDrill_97 : decode cX1_readDrill 97 = .ok (.ifCond .ne 5, 3) := by decide +kernel
theorem dX1_readDrill_100 : decode cX1_readDrill 100 = .ok (.iconst 0, 1) := by decide +kernel
theorem dX1_readDrill_101 : decode cX1_readDrill 101 = .ok (.ireturn, 1) := by decide +kernel
theorem dX1_readDrill_102 : decode cX1_readDrill 102 = .ok (.aload_n 0, 1) := by decide +kernel
theorem dX1_readDrill_103 : decode cX1_readDrill 103 = .ok (.getfield 15, 3) := by decide +kernel
theorem dX1_readDrill_106 : decode cX1_readDrill 106 = .ok (.iload_n 1, 1) := by decide +kernel
theorem dX1_readDrill_107 : decode cX1_readDrill 107 = .ok (.invokevirtual 236, 3) := by decide +kernel
theorem dX1_readDrill_110 : decode cX1_readDrill 110 = .ok (.iconst 1, 1) := by decide +kernel
theorem dX1_readDrill_111 : decode cX1_readDrill 111 = .ok (.ireturn, 1) := by decide +kernel
theorem dX8_placeFrom_0 : decode cX8_placeFrom 0 = .ok (.iload_n 2, 1) := by decide +kernel
theorem dX8_placeFrom_1 : decode cX8_placeFrom 1 = .ok (.aload_n 0, 1) := by decide +kernel
theorem dX8_placeFrom_2 : decode cX8_placeFrom 2 = .ok (.getfield 46, 3) := by decide +kernel
theorem dX8_placeFrom_5 : decode cX8_placeFrom 5 = .ok (.getfield 107, 3) := by decide +kernel
theorem dX8_placeFrom_8 : decode cX8_placeFrom 8 = .ok (.getfield 111, 3) := by decide +kernel
theorem dX8_placeFrom_11 : decode cX8_placeFrom 11 = .ok (.iload_n 1, 1) := by decide +kernel
theorem dX8_placeFrom_12 : decode cX8_placeFrom 12 = .ok (.invokestatic 99, 3) := by decide +kernel
theorem dX8_placeFrom_15 : decode cX8_placeFrom 15 = .ok (.invokestatic 116, 3) := by decide +kernel
theorem dX8_placeFrom_18 : decode cX8_placeFrom 18 = .ok (.istore_n 3, 1) := by decide +kernel
theorem dX8_placeFrom_19 : decode cX8_placeFrom 19 = .ok (.iload_n 3, 1) := by decide +kernel
theorem dX8_placeFrom_20 : decode cX8_placeFrom 20 = .ok (.istore 4, 2) := by decide +kernel
theorem dX8_placeFrom_22 : decode cX8_placeFrom 22 = .ok (.iload 4, 2) := by decide +kernel
theorem dX8_placeFrom_24 : decode cX8_placeFrom 24 = .ok (.bipush 24, 2) := by decide +kernel
theorem dX8_placeFrom_26 : decode cX8_placeFrom 26 = .ok (.if_icmp .ge 27, 3) := by decide +kernel
theorem dX8_placeFrom_29 : decode cX8_placeFrom 29 = .ok (.aload_n 0, 1) := by decide +kernel
theorem dX8_placeFrom_30 : decode cX8_placeFrom 30 = .ok (.iload_n 1, 1) := by decide +kernel
theorem dX8_placeFrom_31 : decode cX8_placeFrom 31 = .ok (.iload 4, 2) := by decide +kernel
theorem dX8_placeFrom_33 : decode cX8_placeFrom 33 = .ok (.invokevirtual 122, 3) := by decide +kernel
theorem dX8_placeFrom_36 : decode cX8_placeFrom 36 = .ok (.aload_n 0, 1) := by decide +kernel
theorem dX8_placeFrom_37 : decode cX8_placeFrom 37 = .ok (.iconst 1, 1) := by decide +kernel
theorem dX8_placeFrom_38 : decode cX8_placeFrom 38 = .ok (.invokevirtual 126, 3) := by decide +kernel
theorem dX8_placeFrom_41 : decode cX8_placeFrom 41 = .ok (.ifCond .eq 6, 3) := by decide +kernel
theorem dX8_placeFrom_44 : decode cX8_placeFrom 44 = .ok (.iload 4, 2) := by decide +kernel
theorem dX8_placeFrom_46 : decode cX8_placeFrom 46 = .ok (.ireturn, 1) := by decide +kernel
theorem dX8_placeFrom_47 : decode cX8_placeFrom 47 = .ok (.iinc 4 1, 3) := by decide +kernel
theorem dX8_placeFrom_50 : decode cX8_placeFrom 50 = .ok (.goto (-28), 3) := by decide +kernel
theorem dX8_placeFrom_53 : decode cX8_placeFrom 53 = .ok (.aload_n 0, 1) := by decide +kernel
theorem dX8_placeFrom_54 : decode cX8_placeFrom 54 = .ok (.iload_n 1, 1) := by decide +kernel
theorem dX8_placeFrom_55 : decode cX8_placeFrom 55 = .ok (.iconst (-1), 1) := by decide +kernel
theorem dX8_placeFrom_56 : decode cX8_placeFrom 56 = .ok (.invokevirtual 122, 3) := by decide +kernel
theorem dX8_placeFrom_59 : decode cX8_placeFrom 59 = .ok (.iconst (-1), 1) := by decide +kernel
theorem dX8_placeFrom_60 : decode cX8_placeFrom 60 = .ok (.ireturn, 1) := by decide +kernel
theorem dX8_review_0 : decode cX8_review 0 = .ok (.aload_n 0, 1) := by decide +kernel
theorem dX8_review_1 : decode cX8_review 1 = .ok (.iconst 0, 1) := by decide +kernel
theorem dX8_review_2 : decode cX8_review 2 = .ok (.invokevirtual 126, 3) := by decide +kernel
theorem dX8_review_5 : decode cX8_review 5 = .ok (.pop, 1) := by decide +kernel
theorem dX8_review_6 : decode cX8_review 6 = .ok (.aload_n 0, 1) := by decide +kernel
theorem dX8_review_7 : decode cX8_review 7 = .ok (.invokevirtual 130, 3) := by decide +kernel
theorem dX8_review_10 : decode cX8_review 10 = .ok (.return_, 1) := by decide +kernel
theorem dX10_sortOf_0 : decode cX10_sortOf 0 = .ok (.iload_n 1, 1) := by decide +kernel
theorem dX10_sortOf_1 : decode cX10_sortOf 1 = .ok (.ifCond .lt 9, 3) := by decide +kernel
theorem dX10_sortOf_4 : decode cX10_sortOf 4 = .ok (.iload_n 1, 1) := by decide +kernel
theorem dX10_sortOf_5 : decode cX10_sortOf 5 = .ok (.aload_n 0, 1) := by decide +kernel
theorem dX10_sortOf_6 : decode cX10_sortOf 6 = .ok (.arraylength, 1) := by decide +kernel
theorem dX10_sortOf_7 : decode cX10_sortOf 7 = .ok (.if_icmp .lt 7, 3) := by decide +kernel
theorem dX10_sortOf_10 : decode cX10_sortOf 10 = .ok (.getstatic 44, 3) := by decide +kernel
theorem dX10_sortOf_13 : decode cX10_sortOf 13 = .ok (.areturn, 1) := by decide +kernel
theorem dX10_sortOf_14 : decode cX10_sortOf 14 = .ok (.aload_n 0, 1) := by decide +kernel
theorem dX10_sortOf_15 : decode cX10_sortOf 15 = .ok (.iload_n 1, 1) := by decide +kernel
theorem dX10_sortOf_16 : decode cX10_sortOf 16 = .ok (.baload, 1) := by decide +kernel
theorem dX10_sortOf_17 : decode cX10_sortOf 17 = .ok (.istore_n 3, 1) := by decide +kernel
theorem dX10_sortOf_18 : decode cX10_sortOf 18 = .ok (.iload_n 3, 1) := by decide +kernel
theorem dX10_sortOf_19 : decode cX10_sortOf 19 = .ok (.invokestatic 55, 3) := by decide +kernel
theorem dX10_sortOf_22 : decode cX10_sortOf 22 = .ok (.ifCond .eq 10, 3) := by decide +kernel
theorem dX10_sortOf_25 : decode cX10_sortOf 25 = .ok (.aload_n 0, 1) := by decide +kernel
theorem dX10_sortOf_26 : decode cX10_sortOf 26 = .ok (.iload_n 1, 1) := by decide +kernel
theorem dX10_sortOf_27 : decode cX10_sortOf 27 = .ok (.iload_n 2, 1) := by decide +kernel
theorem dX10_sortOf_28 : decode cX10_sortOf 28 = .ok (.invokestatic 62, 3) := by decide +kernel
theorem dX10_sortOf_31 : decode cX10_sortOf 31 = .ok (.areturn, 1) := by decide +kernel
theorem dX10_sortOf_32 : decode cX10_sortOf 32 = .ok (.iload_n 3, 1) := by decide +kernel
theorem dX10_sortOf_33 : decode cX10_sortOf 33 = .ok (.invokestatic 59, 3) := by decide +kernel
theorem dX10_sortOf_36 : decode cX10_sortOf 36 = .ok (.ifCond .eq 20, 3) := by decide +kernel
theorem dX10_sortOf_39 : decode cX10_sortOf 39 = .ok (.iload_n 2, 1) := by decide +kernel
theorem dX10_sortOf_40 : decode cX10_sortOf 40 = .ok (.iload_n 1, 1) := by decide +kernel
theorem dX10_sortOf_41 : decode cX10_sortOf 41 = .ok (.isub, 1) := by decide +kernel
theorem dX10_sortOf_42 : decode cX10_sortOf 42 = .ok (.iconst 4, 1) := by decide +kernel
theorem dX10_sortOf_43 : decode cX10_sortOf 43 = .ok (.if_icmp .gt 9, 3) := by decide +kernel
theorem dX10_sortOf_46 : decode cX10_sortOf 46 = .ok (.getstatic 65, 3) := by decide +kernel
theorem dX10_sortOf_49 : decode cX10_sortOf 49 = .ok (.goto 6, 3) := by decide +kernel
theorem dX10_sortOf_52 : decode cX10_sortOf 52 = .ok (.getstatic 44, 3) := by decide +kernel
theorem dX10_sortOf_55 : decode cX10_sortOf 55 = .ok (.areturn, 1) := by decide +kernel
theorem dX10_sortOf_56 : decode cX10_sortOf 56 = .ok (.iload_n 3, 1) := by decide +kernel
theorem dX10_sortOf_57 : decode cX10_sortOf 57 = .ok (.bipush 59, 2) := by decide +kernel
theorem dX10_sortOf_59 : decode cX10_sortOf 59 = .ok (.if_icmp .ne 7, 3) := by decide +kernel
theorem dX10_sortOf_62 : decode cX10_sortOf 62 = .ok (.getstatic 68, 3) := by decide +kernel
theorem dX10_sortOf_65 : decode cX10_sortOf 65 = .ok (.areturn, 1) := by decide +kernel
theorem dX10_sortOf_66 : decode cX10_sortOf 66 = .ok (.iload_n 3, 1) := by decide +kernel
theorem dX10_sortOf_67 : decode cX10_sortOf 67 = .ok (.bipush 44, 2) := by decide +kernel
theorem dX10_sortOf_69 : decode cX10_sortOf 69 = .ok (.if_icmp .ne 9, 3) := by decide +kernel
theorem dX10_sortOf_72 : decode cX10_sortOf 72 = .ok (.getstatic 71, 3) := by decide +kernel
theorem dX10_sortOf_75 : decode cX10_sortOf 75 = .ok (.goto 6, 3) := by decide +kernel
theorem dX10_sortOf_78 : decode cX10_sortOf 78 = .ok (.getstatic 44, 3) := by decide +kernel
theorem dX10_sortOf_81 : decode cX10_sortOf 81 = .ok (.areturn, 1) := by decide +kernel
theorem dX11_setStart_0 : decode cX11_setStart 0 = .ok (.iload_n 1, 1) := by decide +kernel
theorem dX11_setStart_1 : decode cX11_setStart 1 = .ok (.aload_n 0, 1) := by decide +kernel
theorem dX11_setStart_2 : decode cX11_setStart 2 = .ok (.getfield 30, 3) := by decide +kernel
theorem dX11_setStart_5 : decode cX11_setStart 5 = .ok (.getfield 111, 3) := by decide +kernel
theorem dX11_setStart_8 : decode cX11_setStart 8 = .ok (.getfield 115, 3) := by decide +kernel
theorem dX11_setStart_11 : decode cX11_setStart 11 = .ok (.invokestatic 155, 3) := by decide +kernel
theorem dX11_setStart_14 : decode cX11_setStart 14 = .ok (.iload_n 2, 1) := by decide +kernel
theorem dX11_setStart_15 : decode cX11_setStart 15 = .ok (.iconst (-1), 1) := by decide +kernel
theorem dX11_setStart_16 : decode cX11_setStart 16 = .ok (.bipush 23, 2) := by decide +kernel
theorem dX11_setStart_18 : decode cX11_setStart 18 = .ok (.invokestatic 218, 3) := by decide +kernel
theorem dX11_setStart_21 : decode cX11_setStart 21 = .ok (.aload_n 0, 1) := by decide +kernel
theorem dX11_setStart_22 : decode cX11_setStart 22 = .ok (.getfield 23, 3) := by decide +kernel
theorem dX11_setStart_25 : decode cX11_setStart 25 = .ok (.aload_n 0, 1) := by decide +kernel
theorem dX11_setStart_26 : decode cX11_setStart 26 = .ok (.getfield 67, 3) := by decide +kernel
theorem dX11_setStart_29 : decode cX11_setStart 29 = .ok (.getfield 222, 3) := by decide +kernel
theorem dX11_setStart_32 : decode cX11_setStart 32 = .ok (.invokevirtual 225, 3) := by decide +kernel
theorem dX11_setStart_35 : decode cX11_setStart 35 = .ok (.aload_n 0, 1) := by decide +kernel
theorem dX11_setStart_36 : decode cX11_setStart 36 = .ok (.getfield 67, 3) := by decide +kernel
theorem dX11_setStart_39 : decode cX11_setStart 39 = .ok (.iload_n 1, 1) := by decide +kernel
theorem dX11_setStart_40 : decode cX11_setStart 40 = .ok (.invokevirtual 229, 3) := by decide +kernel
theorem dX11_setStart_43 : decode cX11_setStart 43 = .ok (.istore_n 3, 1) := by decide +kernel
theorem dX11_setStart_44 : decode cX11_setStart 44 = .ok (.aload_n 0, 1) := by decide +kernel
theorem dX11_setStart_45 : decode cX11_setStart 45 = .ok (.getfield 67, 3) := by decide +kernel
theorem dX11_setStart_48 : decode cX11_setStart 48 = .ok (.iload_n 1, 1) := by decide +kernel
theorem dX11_setStart_49 : decode cX11_setStart 49 = .ok (.iload_n 2, 1) := by decide +kernel
theorem dX11_setStart_50 : decode cX11_setStart 50 = .ok (.invokevirtual 232, 3) := by decide +kernel
theorem dX11_setStart_53 : decode cX11_setStart 53 = .ok (.aload_n 0, 1) := by decide +kernel
theorem dX11_setStart_54 : decode cX11_setStart 54 = .ok (.getfield 67, 3) := by decide +kernel
theorem dX11_setStart_57 : decode cX11_setStart 57 = .ok (.invokevirtual 235, 3) := by decide +kernel
theorem dX11_setStart_60 : decode cX11_setStart 60 = .ok (.iload_n 3, 1) := by decide +kernel
theorem dX11_setStart_61 : decode cX11_setStart 61 = .ok (.ireturn, 1) := by decide +kernel
theorem dX11_clearStarts_0 : decode cX11_clearStarts 0 = .ok (.aload_n 0, 1) := by decide +kernel
theorem dX11_clearStarts_1 : decode cX11_clearStarts 1 = .ok (.getfield 23, 3) := by decide +kernel
theorem dX11_clearStarts_4 : decode cX11_clearStarts 4 = .ok (.aload_n 0, 1) := by decide +kernel
theorem dX11_clearStarts_5 : decode cX11_clearStarts 5 = .ok (.getfield 67, 3) := by decide +kernel
theorem dX11_clearStarts_8 : decode cX11_clearStarts 8 = .ok (.getfield 222, 3) := by decide +kernel
theorem dX11_clearStarts_11 : decode cX11_clearStarts 11 = .ok (.invokevirtual 225, 3) := by decide +kernel
theorem dX11_clearStarts_14 : decode cX11_clearStarts 14 = .ok (.iconst 0, 1) := by decide +kernel
theorem dX11_clearStarts_15 : decode cX11_clearStarts 15 = .ok (.istore_n 1, 1) := by decide +kernel
theorem dX11_clearStarts_16 : decode cX11_clearStarts 16 = .ok (.iconst 0, 1) := by decide +kernel
theorem dX11_clearStarts_17 : decode cX11_clearStarts 17 = .ok (.istore_n 2, 1) := by decide +kernel
theorem dX11_clearStarts_18 : decode cX11_clearStarts 18 = .ok (.iload_n 2, 1) := by decide +kernel
theorem dX11_clearStarts_19 : decode cX11_clearStarts 19 = .ok (.aload_n 0, 1) := by decide +kernel
theorem dX11_clearStarts_20 : decode cX11_clearStarts 20 = .ok (.getfield 30, 3) := by decide +kernel
theorem dX11_clearStarts_23 : decode cX11_clearStarts 23 = .ok (.getfield 111, 3) := by decide +kernel
theorem dX11_clearStarts_26 : decode cX11_clearStarts 26 = .ok (.getfield 115, 3) := by decide +kernel
theorem dX11_clearStarts_29 : decode cX11_clearStarts 29 = .ok (.if_icmp .ge 24, 3) := by decide +kernel
theorem dX11_clearStarts_32 : decode cX11_clearStarts 32 = .ok (.aload_n 0, 1) := by decide +kernel
theorem dX11_clearStarts_33 : decode cX11_clearStarts 33 = .ok (.getfield 67, 3) := by decide +kernel
theorem dX11_clearStarts_36 : decode cX11_clearStarts 36 = .ok (.iload_n 2, 1) := by decide +kernel
theorem dX11_clearStarts_37 : decode cX11_clearStarts 37 = .ok (.invokevirtual 229, 3) := by decide +kernel
theorem dX11_clearStarts_40 : decode cX11_clearStarts 40 = .ok (.iconst (-1), 1) := by decide +kernel
theorem dX11_clearStarts_41 : decode cX11_clearStarts 41 = .ok (.if_icmp .eq 6, 3) := by decide +kernel
theorem dX11_clearStarts_44 : decode cX11_clearStarts 44 = .ok (.iinc 1 1, 3) := by decide +kernel
theorem dX11_clearStarts_47 : decode cX11_clearStarts 47 = .ok (.iinc 2 1, 3) := by decide +kernel
theorem dX11_clearStarts_50 : decode cX11_clearStarts 50 = .ok (.goto (-32), 3) := by decide +kernel
theorem dX11_clearStarts_53 : decode cX11_clearStarts 53 = .ok (.aload_n 0, 1) := by decide +kernel
theorem dX11_clearStarts_54 : decode cX11_clearStarts 54 = .ok (.getfield 67, 3) := by decide +kernel
theorem dX11_clearStarts_57 : decode cX11_clearStarts 57 = .ok (.invokevirtual 238, 3) := by decide +kernel
theorem dX11_clearStarts_60 : decode cX11_clearStarts 60 = .ok (.aload_n 0, 1) := by decide +kernel
theorem dX11_clearStarts_61 : decode cX11_clearStarts 61 = .ok (.getfield 67, 3) := by decide +kernel
theorem dX11_clearStarts_64 : decode cX11_clearStarts 64 = .ok (.invokevirtual 235, 3) := by decide +kernel
theorem dX11_clearStarts_67 : decode cX11_clearStarts 67 = .ok (.iload_n 1, 1) := by decide +kernel
theorem dX11_clearStarts_68 : decode cX11_clearStarts 68 = .ok (.ireturn, 1) := by decide +kernel
theorem dX11_undo_0 : decode cX11_undo 0 = .ok (.aload_n 0, 1) := by decide +kernel
theorem dX11_undo_1 : decode cX11_undo 1 = .ok (.getfield 23, 3) := by decide +kernel
theorem dX11_undo_4 : decode cX11_undo 4 = .ok (.getfield 241, 3) := by decide +kernel
theorem dX11_undo_7 : decode cX11_undo 7 = .ok (.ifCond .ne 5, 3) := by decide +kernel
theorem dX11_undo_10 : decode cX11_undo 10 = .ok (.iconst (-1), 1) := by decide +kernel
theorem dX11_undo_11 : decode cX11_undo 11 = .ok (.ireturn, 1) := by decide +kernel
theorem dX11_undo_12 : decode cX11_undo 12 = .ok (.aload_n 0, 1) := by decide +kernel
theorem dX11_undo_13 : decode cX11_undo 13 = .ok (.getfield 23, 3) := by decide +kernel
theorem dX11_undo_16 : decode cX11_undo 16 = .ok (.aload_n 0, 1) := by decide +kernel
theorem dX11_undo_17 : decode cX11_undo 17 = .ok (.getfield 67, 3) := by decide +kernel
theorem dX11_undo_20 : decode cX11_undo 20 = .ok (.getfield 222, 3) := by decide +kernel
theorem dX11_undo_23 : decode cX11_undo 23 = .ok (.invokevirtual 244, 3) := by decide +kernel
theorem dX11_undo_26 : decode cX11_undo 26 = .ok (.aload_n 0, 1) := by decide +kernel
theorem dX11_undo_27 : decode cX11_undo 27 = .ok (.getfield 67, 3) := by decide +kernel
theorem dX11_undo_30 : decode cX11_undo 30 = .ok (.invokevirtual 235, 3) := by decide +kernel
theorem dX11_undo_33 : decode cX11_undo 33 = .ok (.aload_n 0, 1) := by decide +kernel
theorem dX11_undo_34 : decode cX11_undo 34 = .ok (.getfield 23, 3) := by decide +kernel
theorem dX11_undo_37 : decode cX11_undo 37 = .ok (.getfield 241, 3) := by decide +kernel
theorem dX11_undo_40 : decode cX11_undo 40 = .ok (.ireturn, 1) := by decide +kernel
theorem dX11_earliestStart_0 : decode cX11_earliestStart 0 = .ok (.iload_n 1, 1) := by decide +kernel
theorem dX11_earliestStart_1 : decode cX11_earliestStart 1 = .ok (.aload_n 0, 1) := by decide +kernel
theorem dX11_earliestStart_2 : decode cX11_earliestStart 2 = .ok (.getfield 30, 3) := by decide +kernel
theorem dX11_earliestStart_5 : decode cX11_earliestStart 5 = .ok (.getfield 111, 3) := by decide +kernel
theorem dX11_earliestStart_8 : decode cX11_earliestStart 8 = .ok (.getfield 115, 3) := by decide +kernel
theorem dX11_earliestStart_11 : decode cX11_earliestStart 11 = .ok (.invokestatic 155, 3) := by decide +kernel
theorem dX11_earliestStart_14 : decode cX11_earliestStart 14 = .ok (.aload_n 0, 1) := by decide +kernel
theorem dX11_earliestStart_15 : decode cX11_earliestStart 15 = .ok (.getfield 71, 3) := by decide +kernel
theorem dX11_earliestStart_18 : decode cX11_earliestStart 18 = .ok (.aload_n 0, 1) := by decide +kernel
theorem dX11_earliestStart_19 : decode cX11_earliestStart 19 = .ok (.getfield 30, 3) := by decide +kernel
theorem dX11_earliestStart_22 : decode cX11_earliestStart 22 = .ok (.invokevirtual 295, 3) := by decide +kernel
theorem dX11_earliestStart_25 : decode cX11_earliestStart 25 = .ok (.aload_n 0, 1) := by decide +kernel
theorem dX11_earliestStart_26 : decode cX11_earliestStart 26 = .ok (.getfield 71, 3) := by decide +kernel
theorem dX11_earliestStart_29 : decode cX11_earliestStart 29 = .ok (.aload_n 0, 1) := by decide +kernel
theorem dX11_earliestStart_30 : decode cX11_earliestStart 30 = .ok (.getfield 67, 3) := by decide +kernel
theorem dX11_earliestStart_33 : decode cX11_earliestStart 33 = .ok (.invokevirtual 298, 3) := by decide +kernel
theorem dX11_earliestStart_36 : decode cX11_earliestStart 36 = .ok (.aload_n 0, 1) := by decide +kernel
theorem dX11_earliestStart_37 : decode cX11_earliestStart 37 = .ok (.getfield 71, 3) := by decide +kernel
theorem dX11_earliestStart_40 : decode cX11_earliestStart 40 = .ok (.iload_n 1, 1) := by decide +kernel
theorem dX11_earliestStart_41 : decode cX11_earliestStart 41 = .ok (.iconst 0, 1) := by decide +kernel
theorem dX11_earliestStart_42 : decode cX11_earliestStart 42 = .ok (.invokevirtual 301, 3) := by decide +kernel
theorem dX11_earliestStart_45 : decode cX11_earliestStart 45 = .ok (.ireturn, 1) := by decide +kernel
theorem dX11_serveLoadedBrigade_0 : decode cX11_serveLoadedBrigade 0 = .ok (.aload_n 0, 1) := by decide +kernel
theorem dX11_serveLoadedBrigade_1 : decode cX11_serveLoadedBrigade 1 = .ok (.getfield 58, 3) := by decide +kernel
theorem dX11_serveLoadedBrigade_4 : decode cX11_serveLoadedBrigade 4 = .ok (.aload_n 0, 1) := by decide +kernel
theorem dX11_serveLoadedBrigade_5 : decode cX11_serveLoadedBrigade 5 = .ok (.getfield 30, 3) := by decide +kernel
theorem dX11_serveLoadedBrigade_8 : decode cX11_serveLoadedBrigade 8 = .ok (.invokevirtual 327, 3) := by decide +kernel
theorem dX11_serveLoadedBrigade_11 : decode cX11_serveLoadedBrigade 11 = .ok (.aload_n 0, 1) := by decide +kernel
theorem dX11_serveLoadedBrigade_12 : decode cX11_serveLoadedBrigade 12 = .ok (.getfield 71, 3) := by decide +kernel
theorem dX11_serveLoadedBrigade_15 : decode cX11_serveLoadedBrigade 15 = .ok (.aload_n 0, 1) := by decide +kernel
theorem dX11_serveLoadedBrigade_16 : decode cX11_serveLoadedBrigade 16 = .ok (.getfield 30, 3) := by decide +kernel
theorem dX11_serveLoadedBrigade_19 : decode cX11_serveLoadedBrigade 19 = .ok (.invokevirtual 330, 3) := by decide +kernel
theorem dX11_serveLoadedBrigade_22 : decode cX11_serveLoadedBrigade 22 = .ok (.aload_n 0, 1) := by decide +kernel
theorem dX11_serveLoadedBrigade_23 : decode cX11_serveLoadedBrigade 23 = .ok (.getfield 67, 3) := by decide +kernel
theorem dX11_serveLoadedBrigade_26 : decode cX11_serveLoadedBrigade 26 = .ok (.aload_n 0, 1) := by decide +kernel
theorem dX11_serveLoadedBrigade_27 : decode cX11_serveLoadedBrigade 27 = .ok (.getfield 30, 3) := by decide +kernel
theorem dX11_serveLoadedBrigade_30 : decode cX11_serveLoadedBrigade 30 = .ok (.invokevirtual 330, 3) := by decide +kernel
theorem dX11_serveLoadedBrigade_33 : decode cX11_serveLoadedBrigade 33 = .ok (.aload_n 0, 1) := by decide +kernel
theorem dX11_serveLoadedBrigade_34 : decode cX11_serveLoadedBrigade 34 = .ok (.getfield 67, 3) := by decide +kernel
theorem dX11_serveLoadedBrigade_37 : decode cX11_serveLoadedBrigade 37 = .ok (.invokevirtual 235, 3) := by decide +kernel
theorem dX11_serveLoadedBrigade_40 : decode cX11_serveLoadedBrigade 40 = .ok (.aload_n 0, 1) := by decide +kernel
theorem dX11_serveLoadedBrigade_41 : decode cX11_serveLoadedBrigade 41 = .ok (.getfield 23, 3) := by decide +kernel
theorem dX11_serveLoadedBrigade_44 : decode cX11_serveLoadedBrigade 44 = .ok (.iconst 0, 1) := by decide +kernel
theorem dX11_serveLoadedBrigade_45 : decode cX11_serveLoadedBrigade 45 = .ok (.putfield 241, 3) := by decide +kernel
theorem dX11_serveLoadedBrigade_48 : decode cX11_serveLoadedBrigade 48 = .ok (.return_, 1) := by decide +kernel
theorem dX11_compactOnce_0 : decode cX11_compactOnce 0 = .ok (.iconst 0, 1) := by decide +kernel
theorem dX11_compactOnce_1 : decode cX11_compactOnce 1 = .ok (.istore_n 1, 1) := by decide +kernel
theorem dX11_compactOnce_2 : decode cX11_compactOnce 2 = .ok (.iconst 0, 1) := by decide +kernel
theorem dX11_compactOnce_3 : decode cX11_compactOnce 3 = .ok (.istore_n 2, 1) := by decide +kernel
theorem dX11_compactOnce_4 : decode cX11_compactOnce 4 = .ok (.iload_n 2, 1) := by decide +kernel
theorem dX11_compactOnce_5 : decode cX11_compactOnce 5 = .ok (.aload_n 0, 1) := by decide +kernel
theorem dX11_compactOnce_6 : decode cX11_compactOnce 6 = .ok (.getfield 30, 3) := by decide +kernel
theorem dX11_compactOnce_9 : decode cX11_compactOnce 9 = .ok (.getfield 111, 3) := by decide +kernel
theorem dX11_compactOnce_12 : decode cX11_compactOnce 12 = .ok (.getfield 115, 3) := by decide +kernel
theorem dX11_compactOnce_15 : decode cX11_compactOnce 15 = .ok (.if_icmp .ge 39, 3) := by decide +kernel
theorem dX11_compactOnce_18 : decode cX11_compactOnce 18 = .ok (.aload_n 0, 1) := by decide +kernel
theorem dX11_compactOnce_19 : decode cX11_compactOnce 19 = .ok (.getfield 71, 3) := by decide +kernel
theorem dX11_compactOnce_22 : decode cX11_compactOnce 22 = .ok (.iload_n 2, 1) := by decide +kernel
theorem dX11_compactOnce_23 : decode cX11_compactOnce 23 = .ok (.invokevirtual 229, 3) := by decide +kernel
theorem dX11_compactOnce_26 : decode cX11_compactOnce 26 = .ok (.istore_n 3, 1) := by decide +kernel
theorem dX11_compactOnce_27 : decode cX11_compactOnce 27 = .ok (.iload_n 3, 1) := by decide +kernel
theorem dX11_compactOnce_28 : decode cX11_compactOnce 28 = .ok (.iconst (-1), 1) := by decide +kernel
theorem dX11_compactOnce_29 : decode cX11_compactOnce 29 = .ok (.if_icmp .eq 19, 3) := by decide +kernel
theorem dX11_compactOnce_32 : decode cX11_compactOnce 32 = .ok (.aload_n 0, 1) := by decide +kernel
theorem dX11_compactOnce_33 : decode cX11_compactOnce 33 = .ok (.getfield 71, 3) := by decide +kernel
theorem dX11_compactOnce_36 : decode cX11_compactOnce 36 = .ok (.iload_n 2, 1) := by decide +kernel
theorem dX11_compactOnce_37 : decode cX11_compactOnce 37 = .ok (.iconst 0, 1) := by decide +kernel
theorem dX11_compactOnce_38 : decode cX11_compactOnce 38 = .ok (.invokevirtual 301, 3) := by decide +kernel
theorem dX11_compactOnce_41 : decode cX11_compactOnce 41 = .ok (.iload_n 3, 1) := by decide +kernel
theorem dX11_compactOnce_42 : decode cX11_compactOnce 42 = .ok (.if_icmp .eq 6, 3) := by decide +kernel
theorem dX11_compactOnce_45 : decode cX11_compactOnce 45 = .ok (.iinc 1 1, 3) := by decide +kernel
theorem dX11_compactOnce_48 : decode cX11_compactOnce 48 = .ok (.iinc 2 1, 3) := by decide +kernel
theorem dX11_compactOnce_51 : decode cX11_compactOnce 51 = .ok (.goto (-47), 3) := by decide +kernel
theorem dX11_compactOnce_54 : decode cX11_compactOnce 54 = .ok (.iload_n 1, 1) := by decide +kernel
theorem dX11_compactOnce_55 : decode cX11_compactOnce 55 = .ok (.ireturn, 1) := by decide +kernel
theorem dX1_readBody_0 : decode cX1_readBody 0 = .ok (.aload_n 1, 1) := by decide +kernel
theorem dX1_readBody_1 : decode cX1_readBody 1 = .ok (.getstatic 120, 3) := by decide +kernel
theorem dX1_readBody_4 : decode cX1_readBody 4 = .ok (.if_acmp .ne 8, 3) := by decide +kernel
theorem dX1_readBody_7 : decode cX1_readBody 7 = .ok (.aload_n 0, 1) := by decide +kernel
theorem dX1_readBody_8 : decode cX1_readBody 8 = .ok (.invokevirtual 123, 3) := by decide +kernel
theorem dX1_readBody_11 : decode cX1_readBody 11 = .ok (.ireturn, 1) := by decide +kernel
theorem dX1_readBody_12 : decode cX1_readBody 12 = .ok (.aload_n 1, 1) := by decide +kernel
theorem dX1_readBody_13 : decode cX1_readBody 13 = .ok (.getstatic 74, 3) := by decide +kernel
theorem dX1_readBody_16 : decode cX1_readBody 16 = .ok (.if_acmp .ne 8, 3) := by decide +kernel
theorem dX1_readBody_19 : decode cX1_readBody 19 = .ok (.aload_n 0, 1) := by decide +kernel
theorem dX1_readBody_20 : decode cX1_readBody 20 = .ok (.invokevirtual 127, 3) := by decide +kernel
theorem dX1_readBody_23 : decode cX1_readBody 23 = .ok (.ireturn, 1) := by decide +kernel
theorem dX1_readBody_24 : decode cX1_readBody 24 = .ok (.aload_n 1, 1) := by decide +kernel
theorem dX1_readBody_25 : decode cX1_readBody 25 = .ok (.getstatic 80, 3) := by decide +kernel
theorem dX1_readBody_28 : decode cX1_readBody 28 = .ok (.if_acmp .ne 8, 3) := by decide +kernel
theorem dX1_readBody_31 : decode cX1_readBody 31 = .ok (.aload_n 0, 1) := by decide +kernel
theorem dX1_readBody_32 : decode cX1_readBody 32 = .ok (.invokevirtual 130, 3) := by decide +kernel
theorem dX1_readBody_35 : decode cX1_readBody 35 = .ok (.ireturn, 1) := by decide +kernel
theorem dX1_readBody_36 : decode cX1_readBody 36 = .ok (.aload_n 1, 1) := by decide +kernel
theorem dX1_readBody_37 : decode cX1_readBody 37 = .ok (.getstatic 86, 3) := by decide +kernel
theorem dX1_readBody_40 : decode cX1_readBody 40 = .ok (.if_acmp .ne 8, 3) := by decide +kernel
theorem dX1_readBody_43 : decode cX1_readBody 43 = .ok (.aload_n 0, 1) := by decide +kernel
theorem dX1_readBody_44 : decode cX1_readBody 44 = .ok (.invokevirtual 133, 3) := by decide +kernel
theorem dX1_readBody_47 : decode cX1_readBody 47 = .ok (.ireturn, 1) := by decide +kernel
theorem dX1_readBody_48 : decode cX1_readBody 48 = .ok (.aload_n 1, 1) := by decide +kernel
theorem dX1_readBody_49 : decode cX1_readBody 49 = .ok (.getstatic 92, 3) := by decide +kernel
theorem dX1_readBody_52 : decode cX1_readBody 52 = .ok (.if_acmp .ne 8, 3) := by decide +kernel
theorem dX1_readBody_55 : decode cX1_readBody 55 = .ok (.aload_n 0, 1) := by decide +kernel
theorem dX1_readBody_56 : decode cX1_readBody 56 = .ok (.invokevirtual 136, 3) := by decide +kernel
theorem dX1_readBody_59 : decode cX1_readBody 59 = .ok (.ireturn, 1) := by decide +kernel
theorem dX1_readBody_60 : decode cX1_readBody 60 = .ok (.aload_n 1, 1) := by decide +kernel
theorem dX1_readBody_61 : decode cX1_readBody 61 = .ok (.getstatic 98, 3) := by decide +kernel
theorem dX1_readBody_64 : decode cX1_readBody 64 = .ok (.if_acmp .ne 8, 3) := by decide +kernel
theorem dX1_readBody_67 : decode cX1_readBody 67 = .ok (.aload_n 0, 1) := by decide +kernel
theorem dX1_readBody_68 : decode cX1_readBody 68 = .ok (.invokevirtual 139, 3) := by decide +kernel
theorem dX1_readBody_71 : decode cX1_readBody 71 = .ok (.ireturn, 1) := by decide +kernel
theorem dX1_readBody_72 : decode cX1_readBody 72 = .ok (.aload_n 1, 1) := by decide +kernel
theorem dX1_readBody_73 : decode cX1_readBody 73 = .ok (.getstatic 110, 3) := by decide +kernel
theorem dX1_readBody_76 : decode cX1_readBody 76 = .ok (.if_acmp .ne 10, 3) := by decide +kernel
theorem dX1_readBody_79 : decode cX1_readBody 79 = .ok (.aload_n 0, 1) := by decide +kernel
theorem dX1_readBody_80 : decode cX1_readBody 80 = .ok (.invokevirtual 142, 3) := by decide +kernel
theorem dX1_readBody_83 : decode cX1_readBody 83 = .ok (.goto 7, 3) := by decide +kernel
theorem dX1_readBody_86 : decode cX1_readBody 86 = .ok (.aload_n 0, 1) := by decide +kernel
theorem dX1_readBody_87 : decode cX1_readBody 87 = .ok (.invokevirtual 145, 3) := by decide +kernel
theorem dX1_readBody_90 : decode cX1_readBody 90 = .ok (.ireturn, 1) := by decide +kernel
theorem dX6_listSchedule_0 : decode cX6_listSchedule 0 = .ok (.aload_n 0, 1) := by decide +kernel
theorem dX6_listSchedule_1 : decode cX6_listSchedule 1 = .ok (.getfield 9, 3) := by decide +kernel
theorem dX6_listSchedule_4 : decode cX6_listSchedule 4 = .ok (.invokevirtual 15, 3) := by decide +kernel
theorem dX6_listSchedule_7 : decode cX6_listSchedule 7 = .ok (.iconst 0, 1) := by decide +kernel
theorem dX6_listSchedule_8 : decode cX6_listSchedule 8 = .ok (.istore_n 2, 1) := by decide +kernel
theorem dX6_listSchedule_9 : decode cX6_listSchedule 9 = .ok (.iload_n 1, 1) := by decide +kernel
theorem dX6_listSchedule_10 : decode cX6_listSchedule 10 = .ok (.istore_n 3, 1) := by decide +kernel
theorem dX6_listSchedule_11 : decode cX6_listSchedule 11 = .ok (.iload_n 3, 1) := by decide +kernel
theorem dX6_listSchedule_12 : decode cX6_listSchedule 12 = .ok (.ifCond .le 33, 3) := by decide +kernel
theorem dX6_listSchedule_15 : decode cX6_listSchedule 15 = .ok (.aload_n 0, 1) := by decide +kernel
theorem dX6_listSchedule_16 : decode cX6_listSchedule 16 = .ok (.getfield 9, 3) := by decide +kernel
theorem dX6_listSchedule_19 : decode cX6_listSchedule 19 = .ok (.iload_n 3, 1) := by decide +kernel
theorem dX6_listSchedule_20 : decode cX6_listSchedule 20 = .ok (.bipush 10, 2) := by decide +kernel
theorem dX6_listSchedule_22 : decode cX6_listSchedule 22 = .ok (.irem, 1) := by decide +kernel
theorem dX6_listSchedule_23 : decode cX6_listSchedule 23 = .ok (.iconst 1, 1) := by decide +kernel
theorem dX6_listSchedule_24 : decode cX6_listSchedule 24 = .ok (.isub, 1) := by decide +kernel
theorem dX6_listSchedule_25 : decode cX6_listSchedule 25 = .ok (.iload_n 2, 1) := by decide +kernel
theorem dX6_listSchedule_26 : decode cX6_listSchedule 26 = .ok (.invokevirtual 20, 3) := by decide +kernel
theorem dX6_listSchedule_29 : decode cX6_listSchedule 29 = .ok (.istore_n 2, 1) := by decide +kernel
theorem dX6_listSchedule_30 : decode cX6_listSchedule 30 = .ok (.iload_n 2, 1) := by decide +kernel
theorem dX6_listSchedule_31 : decode cX6_listSchedule 31 = .ok (.iconst (-1), 1) := by decide +kernel
theorem dX6_listSchedule_32 : decode cX6_listSchedule 32 = .ok (.if_icmp .ne 5, 3) := by decide +kernel
theorem dX6_listSchedule_35 : decode cX6_listSchedule 35 = .ok (.iconst 0, 1) := by decide +kernel
theorem dX6_listSchedule_36 : decode cX6_listSchedule 36 = .ok (.ireturn, 1) := by decide +kernel
theorem dX6_listSchedule_37 : decode cX6_listSchedule 37 = .ok (.iload_n 3, 1) := by decide +kernel
theorem dX6_listSchedule_38 : decode cX6_listSchedule 38 = .ok (.bipush 10, 2) := by decide +kernel
theorem dX6_listSchedule_40 : decode cX6_listSchedule 40 = .ok (.idiv, 1) := by decide +kernel
theorem dX6_listSchedule_41 : decode cX6_listSchedule 41 = .ok (.istore_n 3, 1) := by decide +kernel
theorem dX6_listSchedule_42 : decode cX6_listSchedule 42 = .ok (.goto (-31), 3) := by decide +kernel
theorem dX6_listSchedule_45 : decode cX6_listSchedule 45 = .ok (.iconst 1, 1) := by decide +kernel
theorem dX6_listSchedule_46 : decode cX6_listSchedule 46 = .ok (.ireturn, 1) := by decide +kernel
theorem dX6_extend_0 : decode cX6_extend 0 = .ok (.aload_n 0, 1) := by decide +kernel
theorem dX6_extend_1 : decode cX6_extend 1 = .ok (.getfield 9, 3) := by decide +kernel
theorem dX6_extend_4 : decode cX6_extend 4 = .ok (.invokevirtual 66, 3) := by decide +kernel
theorem dX6_extend_7 : decode cX6_extend 7 = .ok (.istore 6, 2) := by decide +kernel
theorem dX6_extend_9 : decode cX6_extend 9 = .ok (.aload_n 0, 1) := by decide +kernel
theorem dX6_extend_10 : decode cX6_extend 10 = .ok (.getfield 52, 3) := by decide +kernel
theorem dX6_extend_13 : decode cX6_extend 13 = .ok (.iconst (-1), 1) := by decide +kernel
theorem dX6_extend_14 : decode cX6_extend 14 = .ok (.if_icmp .eq 13, 3) := by decide +kernel
theorem dX6_extend_17 : decode cX6_extend 17 = .ok (.iload 6, 2) := by decide +kernel
theorem dX6_extend_19 : decode cX6_extend 19 = .ok (.aload_n 0, 1) := by decide +kernel
theorem dX6_extend_20 : decode cX6_extend 20 = .ok (.getfield 52, 3) := by decide +kernel
theorem dX6_extend_23 : decode cX6_extend 23 = .ok (.if_icmp .lt 4, 3) := by decide +kernel
theorem dX6_extend_26 : decode cX6_extend 26 = .ok (.return_, 1) := by decide +kernel
theorem dX6_extend_27 : decode cX6_extend 27 = .ok (.iload_n 1, 1) := by decide +kernel
theorem dX6_extend_28 : decode cX6_extend 28 = .ok (.aload_n 0, 1) := by decide +kernel
theorem dX6_extend_29 : decode cX6_extend 29 = .ok (.getfield 49, 3) := by decide +kernel
theorem dX6_extend_32 : decode cX6_extend 32 = .ok (.if_icmp .lt 15, 3) := by decide +kernel
theorem dX6_extend_35 : decode cX6_extend 35 = .ok (.aload_n 0, 1) := by decide +kernel
theorem dX6_extend_36 : decode cX6_extend 36 = .ok (.iload 6, 2) := by decide +kernel
theorem dX6_extend_38 : decode cX6_extend 38 = .ok (.putfield 52, 3) := by decide +kernel
theorem dX6_extend_41 : decode cX6_extend 41 = .ok (.aload_n 0, 1) := by decide +kernel
theorem dX6_extend_42 : decode cX6_extend 42 = .ok (.iload_n 3, 1) := by decide +kernel
theorem dX6_extend_43 : decode cX6_extend 43 = .ok (.putfield 55, 3) := by decide +kernel
theorem dX6_extend_46 : decode cX6_extend 46 = .ok (.return_, 1) := by decide +kernel
theorem dX6_extend_47 : decode cX6_extend 47 = .ok (.iconst 0, 1) := by decide +kernel
theorem dX6_extend_48 : decode cX6_extend 48 = .ok (.istore 7, 2) := by decide +kernel
theorem dX6_extend_50 : decode cX6_extend 50 = .ok (.iload 7, 2) := by decide +kernel
theorem dX6_extend_52 : decode cX6_extend 52 = .ok (.aload_n 0, 1) := by decide +kernel
theorem dX6_extend_53 : decode cX6_extend 53 = .ok (.getfield 49, 3) := by decide +kernel
theorem dX6_extend_56 : decode cX6_extend 56 = .ok (.if_icmp .ge 76, 3) := by decide +kernel
theorem dX6_extend_59 : decode cX6_extend 59 = .ok (.iload_n 2, 1) := by decide +kernel
theorem dX6_extend_60 : decode cX6_extend 60 = .ok (.iload 7, 2) := by decide +kernel
theorem dX6_extend_62 : decode cX6_extend 62 = .ok (.ishr, 1) := by decide +kernel
theorem dX6_extend_63 : decode cX6_extend 63 = .ok (.iconst 1, 1) := by decide +kernel
theorem dX6_extend_64 : decode cX6_extend 64 = .ok (.iand, 1) := by decide +kernel
theorem dX6_extend_65 : decode cX6_extend 65 = .ok (.ifCond .ne 61, 3) := by decide +kernel
theorem dX6_extend_68 : decode cX6_extend 68 = .ok (.aload_n 0, 1) := by decide +kernel
theorem dX6_extend_69 : decode cX6_extend 69 = .ok (.getfield 9, 3) := by decide +kernel
theorem dX6_extend_72 : decode cX6_extend 72 = .ok (.iload 7, 2) := by decide +kernel
theorem dX6_extend_74 : decode cX6_extend 74 = .ok (.iload 5, 2) := by decide +kernel
theorem dX6_extend_76 : decode cX6_extend 76 = .ok (.invokevirtual 20, 3) := by decide +kernel
theorem dX6_extend_79 : decode cX6_extend 79 = .ok (.istore 8, 2) := by decide +kernel
theorem dX6_extend_81 : decode cX6_extend 81 = .ok (.iload 8, 2) := by decide +kernel
theorem dX6_extend_83 : decode cX6_extend 83 = .ok (.iconst (-1), 1) := by decide +kernel
theorem dX6_extend_84 : decode cX6_extend 84 = .ok (.if_icmp .eq 32, 3) := by decide +kernel
theorem dX6_extend_87 : decode cX6_extend 87 = .ok (.aload_n 0, 1) := by decide +kernel
theorem dX6_extend_88 : decode cX6_extend 88 = .ok (.iload_n 1, 1) := by decide +kernel
theorem dX6_extend_89 : decode cX6_extend 89 = .ok (.iconst 1, 1) := by decide +kernel
theorem dX6_extend_90 : decode cX6_extend 90 = .ok (.iadd, 1) := by decide +kernel
theorem dX6_extend_91 : decode cX6_extend 91 = .ok (.iload_n 2, 1) := by decide +kernel
theorem dX6_extend_92 : decode cX6_extend 92 = .ok (.iconst 1, 1) := by decide +kernel
theorem dX6_extend_93 : decode cX6_extend 93 = .ok (.iload 7, 2) := by decide +kernel
theorem dX6_extend_95 : decode cX6_extend 95 = .ok (.ishl, 1) := by decide +kernel
theorem dX6_extend_96 : decode cX6_extend 96 = .ok (.ior, 1) := by decide +kernel
theorem dX6_extend_97 : decode cX6_extend 97 = .ok (.iload_n 3, 1) := by decide +kernel
theorem dX6_extend_98 : decode cX6_extend 98 = .ok (.iload 7, 2) := by decide +kernel
theorem dX6_extend_100 : decode cX6_extend 100 = .ok (.iconst 1, 1) := by decide +kernel
theorem dX6_extend_101 : decode cX6_extend 101 = .ok (.iadd, 1) := by decide +kernel
theorem dX6_extend_102 : decode cX6_extend 102 = .ok (.iload 4, 2) := by decide +kernel
theorem dX6_extend_104 : decode cX6_extend 104 = .ok (.imul, 1) := by decide +kernel
theorem dX6_extend_105 : decode cX6_extend 105 = .ok (.iadd, 1) := by decide +kernel
theorem dX6_extend_106 : decode cX6_extend 106 = .ok (.iload 4, 2) := by decide +kernel
theorem dX6_extend_108 : decode cX6_extend 108 = .ok (.bipush 10, 2) := by decide +kernel
theorem dX6_extend_110 : decode cX6_extend 110 = .ok (.imul, 1) := by decide +kernel
theorem dX6_extend_111 : decode cX6_extend 111 = .ok (.iload 8, 2) := by decide +kernel
theorem dX6_extend_113 : decode cX6_extend 113 = .ok (.invokestatic 62, 3) := by decide +kernel
theorem dX6_extend_116 : decode cX6_extend 116 = .ok (.aload_n 0, 1) := by decide +kernel
theorem dX6_extend_117 : decode cX6_extend 117 = .ok (.getfield 9, 3) := by decide +kernel
theorem dX6_extend_120 : decode cX6_extend 120 = .ok (.iload 7, 2) := by decide +kernel
theorem dX6_extend_122 : decode cX6_extend 122 = .ok (.iconst (-1), 1) := by decide +kernel
theorem dX6_extend_123 : decode cX6_extend 123 = .ok (.invokevirtual 70, 3) := by decide +kernel
theorem dX6_extend_126 : decode cX6_extend 126 = .ok (.iinc 7 1, 3) := by decide +kernel
theorem dX6_extend_129 : decode cX6_extend 129 = .ok (.goto (-79), 3) := by decide +kernel
theorem dX6_extend_132 : decode cX6_extend 132 = .ok (.return_, 1) := by decide +kernel
theorem dX10_scan_0 : decode cX10_scan 0 = .ok (.aload_n 0, 1) := by decide +kernel
theorem dX10_scan_1 : decode cX10_scan 1 = .ok (.iconst 0, 1) := by decide +kernel
theorem dX10_scan_2 : decode cX10_scan 2 = .ok (.putfield 24, 3) := by decide +kernel
theorem dX10_scan_5 : decode cX10_scan 5 = .ok (.iconst 0, 1) := by decide +kernel
theorem dX10_scan_6 : decode cX10_scan 6 = .ok (.istore_n 3, 1) := by decide +kernel
theorem dX10_scan_7 : decode cX10_scan 7 = .ok (.iload_n 3, 1) := by decide +kernel
theorem dX10_scan_8 : decode cX10_scan 8 = .ok (.iload_n 2, 1) := by decide +kernel
theorem dX10_scan_9 : decode cX10_scan 9 = .ok (.if_icmp .ge 108, 3) := by decide +kernel
theorem dX10_scan_12 : decode cX10_scan 12 = .ok (.iload_n 3, 1) := by decide +kernel
theorem dX10_scan_13 : decode cX10_scan 13 = .ok (.aload_n 1, 1) := by decide +kernel
theorem dX10_scan_14 : decode cX10_scan 14 = .ok (.arraylength, 1) := by decide +kernel
theorem dX10_scan_15 : decode cX10_scan 15 = .ok (.if_icmp .ge 102, 3) := by decide +kernel
theorem dX10_scan_18 : decode cX10_scan 18 = .ok (.aload_n 1, 1) := by decide +kernel
theorem dX10_scan_19 : decode cX10_scan 19 = .ok (.iload_n 3, 1) := by decide +kernel
theorem dX10_scan_20 : decode cX10_scan 20 = .ok (.baload, 1) := by decide +kernel
theorem dX10_scan_21 : decode cX10_scan 21 = .ok (.bipush 32, 2) := by decide +kernel
theorem dX10_scan_23 : decode cX10_scan 23 = .ok (.if_icmp .eq 88, 3) := by decide +kernel
theorem dX10_scan_26 : decode cX10_scan 26 = .ok (.aload_n 1, 1) := by decide +kernel
theorem dX10_scan_27 : decode cX10_scan 27 = .ok (.iload_n 3, 1) := by decide +kernel
theorem dX10_scan_28 : decode cX10_scan 28 = .ok (.baload, 1) := by decide +kernel
theorem dX10_scan_29 : decode cX10_scan 29 = .ok (.bipush 10, 2) := by decide +kernel
theorem dX10_scan_31 : decode cX10_scan 31 = .ok (.if_icmp .ne 6, 3) := by decide +kernel
theorem dX10_scan_34 : decode cX10_scan 34 = .ok (.goto 77, 3) := by decide +kernel
theorem dX10_scan_37 : decode cX10_scan 37 = .ok (.iload_n 3, 1) := by decide +kernel
theorem dX10_scan_38 : decode cX10_scan 38 = .ok (.iconst 1, 1) := by decide +kernel
theorem dX10_scan_39 : decode cX10_scan 39 = .ok (.iadd, 1) := by decide +kernel
theorem dX10_scan_40 : decode cX10_scan 40 = .ok (.istore 4, 2) := by decide +kernel
theorem dX10_scan_42 : decode cX10_scan 42 = .ok (.iload 4, 2) := by decide +kernel
theorem dX10_scan_44 : decode cX10_scan 44 = .ok (.iload_n 2, 1) := by decide +kernel
theorem dX10_scan_45 : decode cX10_scan 45 = .ok (.if_icmp .ge 29, 3) := by decide +kernel
theorem dX10_scan_48 : decode cX10_scan 48 = .ok (.iload 4, 2) := by decide +kernel
theorem dX10_scan_50 : decode cX10_scan 50 = .ok (.aload_n 1, 1) := by decide +kernel
theorem dX10_scan_51 : decode cX10_scan 51 = .ok (.arraylength, 1) := by decide +kernel
theorem dX10_scan_52 : decode cX10_scan 52 = .ok (.if_icmp .ge 22, 3) := by decide +kernel
theorem dX10_scan_55 : decode cX10_scan 55 = .ok (.aload_n 1, 1) := by decide +kernel
theorem dX10_scan_56 : decode cX10_scan 56 = .ok (.iload_n 3, 1) := by decide +kernel
theorem dX10_scan_57 : decode cX10_scan 57 = .ok (.baload, 1) := by decide +kernel
theorem dX10_scan_58 : decode cX10_scan 58 = .ok (.aload_n 1, 1) := by decide +kernel
theorem dX10_scan_59 : decode cX10_scan 59 = .ok (.iload 4, 2) := by decide +kernel
theorem dX10_scan_61 : decode cX10_scan 61 = .ok (.baload, 1) := by decide +kernel
theorem dX10_scan_62 : decode cX10_scan 62 = .ok (.invokestatic 28, 3) := by decide +kernel
theorem dX10_scan_65 : decode cX10_scan 65 = .ok (.ifCond .eq 9, 3) := by decide +kernel
theorem dX10_scan_68 : decode cX10_scan 68 = .ok (.iinc 4 1, 3) := by decide +kernel
theorem dX10_scan_71 : decode cX10_scan 71 = .ok (.goto (-29), 3) := by decide +kernel
theorem dX10_scan_74 : decode cX10_scan 74 = .ok (.aload_n 1, 1) := by decide +kernel
theorem dX10_scan_75 : decode cX10_scan 75 = .ok (.iload_n 3, 1) := by decide +kernel
theorem dX10_scan_76 : decode cX10_scan 76 = .ok (.iload 4, 2) := by decide +kernel
theorem dX10_scan_78 : decode cX10_scan 78 = .ok (.invokestatic 32, 3) := by decide +kernel
theorem dX10_scan_81 : decode cX10_scan 81 = .ok (.astore 5, 2) := by decide +kernel
theorem dX10_scan_83 : decode cX10_scan 83 = .ok (.aload_n 0, 1) := by decide +kernel
theorem dX10_scan_84 : decode cX10_scan 84 = .ok (.aload 5, 2) := by decide +kernel
theorem dX10_scan_86 : decode cX10_scan 86 = .ok (.iload_n 3, 1) := by decide +kernel
theorem dX10_scan_87 : decode cX10_scan 87 = .ok (.aload_n 1, 1) := by decide +kernel
theorem dX10_scan_88 : decode cX10_scan 88 = .ok (.iload_n 3, 1) := by decide +kernel
theorem dX10_scan_89 : decode cX10_scan 89 = .ok (.iload 4, 2) := by decide +kernel
theorem dX10_scan_91 : decode cX10_scan 91 = .ok (.invokestatic 36, 3) := by decide +kernel
theorem dX10_scan_94 : decode cX10_scan 94 = .ok (.invokevirtual 40, 3) := by decide +kernel
theorem dX10_scan_97 : decode cX10_scan 97 = .ok (.aload 5, 2) := by decide +kernel
theorem dX10_scan_99 : decode cX10_scan 99 = .ok (.getstatic 44, 3) := by decide +kernel
theorem dX10_scan_102 : decode cX10_scan 102 = .ok (.if_acmp .ne 4, 3) := by decide +kernel
theorem dX10_scan_105 : decode cX10_scan 105 = .ok (.return_, 1) := by decide +kernel
theorem dX10_scan_106 : decode cX10_scan 106 = .ok (.iload 4, 2) := by decide +kernel
theorem dX10_scan_108 : decode cX10_scan 108 = .ok (.iconst 1, 1) := by decide +kernel
theorem dX10_scan_109 : decode cX10_scan 109 = .ok (.isub, 1) := by decide +kernel
theorem dX10_scan_110 : decode cX10_scan 110 = .ok (.istore_n 3, 1) := by decide +kernel
theorem dX10_scan_111 : decode cX10_scan 111 = .ok (.iinc 3 1, 3) := by decide +kernel
theorem dX10_scan_114 : decode cX10_scan 114 = .ok (.goto (-107), 3) := by decide +kernel
theorem dX10_scan_117 : decode cX10_scan 117 = .ok (.aload_n 0, 1) := by decide +kernel
theorem dX10_scan_118 : decode cX10_scan 118 = .ok (.getstatic 48, 3) := by decide +kernel
theorem dX10_scan_121 : decode cX10_scan 121 = .ok (.iload_n 2, 1) := by decide +kernel
theorem dX10_scan_122 : decode cX10_scan 122 = .ok (.iconst 0, 1) := by decide +kernel
theorem dX10_scan_123 : decode cX10_scan 123 = .ok (.invokevirtual 40, 3) := by decide +kernel
theorem dX10_scan_126 : decode cX10_scan 126 = .ok (.return_, 1) := by decide +kernel
theorem dX11_init_0 : decode cX11_init 0 = .ok (.aload_n 0, 1) := by decide +kernel
theorem dX11_init_1 : decode cX11_init 1 = .ok (.invokespecial 3, 3) := by decide +kernel
theorem dX11_init_4 : decode cX11_init 4 = .ok (.aload_n 0, 1) := by decide +kernel
theorem dX11_init_5 : decode cX11_init 5 = .ok (.sipush 1000, 3) := by decide +kernel
theorem dX11_init_8 : decode cX11_init 8 = .ok (.newarray .byte, 2) := by decide +kernel
theorem dX11_init_10 : decode cX11_init 10 = .ok (.putfield 9, 3) := by decide +kernel
theorem dX11_init_13 : decode cX11_init 13 = .ok (.aload_n 0, 1) := by decide +kernel
theorem dX11_init_14 : decode cX11_init 14 = .ok (.new 13, 3) := by decide +kernel
theorem dX11_init_17 : decode cX11_init 17 = .ok (.dup, 1) := by decide +kernel
theorem dX11_init_18 : decode cX11_init 18 = .ok (.invokespecial 15, 3) := by decide +kernel
theorem dX11_init_21 : decode cX11_init 21 = .ok (.putfield 16, 3) := by decide +kernel
theorem dX11_init_24 : decode cX11_init 24 = .ok (.aload_n 0, 1) := by decide +kernel
theorem dX11_init_25 : decode cX11_init 25 = .ok (.new 20, 3) := by decide +kernel
theorem dX11_init_28 : decode cX11_init 28 = .ok (.dup, 1) := by decide +kernel
theorem dX11_init_29 : decode cX11_init 29 = .ok (.invokespecial 22, 3) := by decide +kernel
theorem dX11_init_32 : decode cX11_init 32 = .ok (.putfield 23, 3) := by decide +kernel
theorem dX11_init_35 : decode cX11_init 35 = .ok (.aload_n 0, 1) := by decide +kernel
theorem dX11_init_36 : decode cX11_init 36 = .ok (.new 27, 3) := by decide +kernel
theorem dX11_init_39 : decode cX11_init 39 = .ok (.dup, 1) := by decide +kernel
theorem dX11_init_40 : decode cX11_init 40 = .ok (.invokespecial 29, 3) := by decide +kernel
theorem dX11_init_43 : decode cX11_init 43 = .ok (.putfield 30, 3) := by decide +kernel
theorem dX11_init_46 : decode cX11_init 46 = .ok (.aload_n 0, 1) := by decide +kernel
theorem dX11_init_47 : decode cX11_init 47 = .ok (.new 27, 3) := by decide +kernel
theorem dX11_init_50 : decode cX11_init 50 = .ok (.dup, 1) := by decide +kernel
theorem dX11_init_51 : decode cX11_init 51 = .ok (.invokespecial 29, 3) := by decide +kernel
theorem dX11_init_54 : decode cX11_init 54 = .ok (.putfield 34, 3) := by decide +kernel
theorem dX11_init_57 : decode cX11_init 57 = .ok (.aload_n 0, 1) := by decide +kernel
theorem dX11_init_58 : decode cX11_init 58 = .ok (.iconst 0, 1) := by decide +kernel
theorem dX11_init_59 : decode cX11_init 59 = .ok (.putfield 37, 3) := by decide +kernel
theorem dX11_init_62 : decode cX11_init 62 = .ok (.aload_n 0, 1) := by decide +kernel
theorem dX11_init_63 : decode cX11_init 63 = .ok (.iconst (-1), 1) := by decide +kernel
theorem dX11_init_64 : decode cX11_init 64 = .ok (.putfield 41, 3) := by decide +kernel
theorem dX11_init_67 : decode cX11_init 67 = .ok (.aload_n 0, 1) := by decide +kernel
theorem dX11_init_68 : decode cX11_init 68 = .ok (.new 44, 3) := by decide +kernel
theorem dX11_init_71 : decode cX11_init 71 = .ok (.dup, 1) := by decide +kernel
theorem dX11_init_72 : decode cX11_init 72 = .ok (.aload_n 0, 1) := by decide +kernel
theorem dX11_init_73 : decode cX11_init 73 = .ok (.getfield 16, 3) := by decide +kernel
theorem dX11_init_76 : decode cX11_init 76 = .ok (.aload_n 0, 1) := by decide +kernel
theorem dX11_init_77 : decode cX11_init 77 = .ok (.getfield 34, 3) := by decide +kernel
theorem dX11_init_80 : decode cX11_init 80 = .ok (.invokespecial 46, 3) := by decide +kernel
theorem dX11_init_83 : decode cX11_init 83 = .ok (.putfield 49, 3) := by decide +kernel
theorem dX11_init_86 : decode cX11_init 86 = .ok (.aload_n 0, 1) := by decide +kernel
theorem dX11_init_87 : decode cX11_init 87 = .ok (.new 53, 3) := by decide +kernel
theorem dX11_init_90 : decode cX11_init 90 = .ok (.dup, 1) := by decide +kernel
theorem dX11_init_91 : decode cX11_init 91 = .ok (.aload_n 0, 1) := by decide +kernel
theorem dX11_init_92 : decode cX11_init 92 = .ok (.getfield 30, 3) := by decide +kernel
theorem dX11_init_95 : decode cX11_init 95 = .ok (.invokespecial 55, 3) := by decide +kernel
theorem dX11_init_98 : decode cX11_init 98 = .ok (.putfield 58, 3) := by decide +kernel
theorem dX11_init_101 : decode cX11_init 101 = .ok (.aload_n 0, 1) := by decide +kernel
theorem dX11_init_102 : decode cX11_init 102 = .ok (.new 62, 3) := by decide +kernel
theorem dX11_init_105 : decode cX11_init 105 = .ok (.dup, 1) := by decide +kernel
theorem dX11_init_106 : decode cX11_init 106 = .ok (.aload_n 0, 1) := by decide +kernel
theorem dX11_init_107 : decode cX11_init 107 = .ok (.getfield 30, 3) := by decide +kernel
theorem dX11_init_110 : decode cX11_init 110 = .ok (.aload_n 0, 1) := by decide +kernel
theorem dX11_init_111 : decode cX11_init 111 = .ok (.getfield 58, 3) := by decide +kernel
theorem dX11_init_114 : decode cX11_init 114 = .ok (.invokespecial 64, 3) := by decide +kernel
theorem dX11_init_117 : decode cX11_init 117 = .ok (.putfield 67, 3) := by decide +kernel
theorem dX11_init_120 : decode cX11_init 120 = .ok (.aload_n 0, 1) := by decide +kernel
theorem dX11_init_121 : decode cX11_init 121 = .ok (.new 62, 3) := by decide +kernel
theorem dX11_init_124 : decode cX11_init 124 = .ok (.dup, 1) := by decide +kernel
theorem dX11_init_125 : decode cX11_init 125 = .ok (.aload_n 0, 1) := by decide +kernel
theorem dX11_init_126 : decode cX11_init 126 = .ok (.getfield 30, 3) := by decide +kernel
theorem dX11_init_129 : decode cX11_init 129 = .ok (.aload_n 0, 1) := by decide +kernel
theorem dX11_init_130 : decode cX11_init 130 = .ok (.getfield 58, 3) := by decide +kernel
theorem dX11_init_133 : decode cX11_init 133 = .ok (.invokespecial 64, 3) := by decide +kernel
theorem dX11_init_136 : decode cX11_init 136 = .ok (.putfield 71, 3) := by decide +kernel
theorem dX11_init_139 : decode cX11_init 139 = .ok (.aload_n 0, 1) := by decide +kernel
theorem dX11_init_140 : decode cX11_init 140 = .ok (.new 74, 3) := by decide +kernel
theorem dX11_init_143 : decode cX11_init 143 = .ok (.dup, 1) := by decide +kernel
theorem dX11_init_144 : decode cX11_init 144 = .ok (.aload_n 0, 1) := by decide +kernel
theorem dX11_init_145 : decode cX11_init 145 = .ok (.getfield 71, 3) := by decide +kernel
theorem dX11_init_148 : decode cX11_init 148 = .ok (.invokespecial 76, 3) := by decide +kernel
theorem dX11_init_151 : decode cX11_init 151 = .ok (.putfield 79, 3) := by decide +kernel
theorem dX11_init_154 : decode cX11_init 154 = .ok (.aload_n 0, 1) := by decide +kernel
theorem dX11_init_155 : decode cX11_init 155 = .ok (.invokevirtual 83, 3) := by decide +kernel
theorem dX11_init_158 : decode cX11_init 158 = .ok (.return_, 1) := by decide +kernel
theorem dX11_find_0 : decode cX11_find 0 = .ok (.aload_n 0, 1) := by decide +kernel
theorem dX11_find_1 : decode cX11_find 1 = .ok (.getfield 16, 3) := by decide +kernel
theorem dX11_find_4 : decode cX11_find 4 = .ok (.aload_n 0, 1) := by decide +kernel
theorem dX11_find_5 : decode cX11_find 5 = .ok (.getfield 9, 3) := by decide +kernel
theorem dX11_find_8 : decode cX11_find 8 = .ok (.aload_n 0, 1) := by decide +kernel
theorem dX11_find_9 : decode cX11_find 9 = .ok (.getfield 86, 3) := by decide +kernel
theorem dX11_find_12 : decode cX11_find 12 = .ok (.invokevirtual 93, 3) := by decide +kernel
theorem dX11_find_15 : decode cX11_find 15 = .ok (.aload_n 0, 1) := by decide +kernel
theorem dX11_find_16 : decode cX11_find 16 = .ok (.iconst 0, 1) := by decide +kernel
theorem dX11_find_17 : decode cX11_find 17 = .ok (.putfield 86, 3) := by decide +kernel
theorem dX11_find_20 : decode cX11_find 20 = .ok (.aload_n 0, 1) := by decide +kernel
theorem dX11_find_21 : decode cX11_find 21 = .ok (.getfield 16, 3) := by decide +kernel
theorem dX11_find_24 : decode cX11_find 24 = .ok (.iconst 0, 1) := by decide +kernel
theorem dX11_find_25 : decode cX11_find 25 = .ok (.invokevirtual 136, 3) := by decide +kernel
theorem dX11_find_28 : decode cX11_find 28 = .ok (.getstatic 140, 3) := by decide +kernel
theorem dX11_find_31 : decode cX11_find 31 = .ok (.if_acmp .ne 17, 3) := by decide +kernel
theorem dX11_find_34 : decode cX11_find 34 = .ok (.aload_n 0, 1) := by decide +kernel
theorem dX11_find_35 : decode cX11_find 35 = .ok (.getfield 16, 3) := by decide +kernel
theorem dX11_find_38 : decode cX11_find 38 = .ok (.iconst 1, 1) := by decide +kernel
theorem dX11_find_39 : decode cX11_find 39 = .ok (.invokevirtual 136, 3) := by decide +kernel
theorem dX11_find_42 : decode cX11_find 42 = .ok (.getstatic 146, 3) := by decide +kernel
theorem dX11_find_45 : decode cX11_find 45 = .ok (.if_acmp .eq 5, 3) := by decide +kernel
theorem dX11_find_48 : decode cX11_find 48 = .ok (.iconst (-1), 1) := by decide +kernel
theorem dX11_find_49 : decode cX11_find 49 = .ok (.ireturn, 1) := by decide +kernel
theorem dX11_find_50 : decode cX11_find 50 = .ok (.aload_n 0, 1) := by decide +kernel
theorem dX11_find_51 : decode cX11_find 51 = .ok (.getfield 30, 3) := by decide +kernel
theorem dX11_find_54 : decode cX11_find 54 = .ok (.aload_n 0, 1) := by decide +kernel
theorem dX11_find_55 : decode cX11_find 55 = .ok (.getfield 16, 3) := by decide +kernel
theorem dX11_find_58 : decode cX11_find 58 = .ok (.iconst 0, 1) := by decide +kernel
theorem dX11_find_59 : decode cX11_find 59 = .ok (.invokevirtual 149, 3) := by decide +kernel
theorem dX11_find_62 : decode cX11_find 62 = .ok (.invokevirtual 152, 3) := by decide +kernel
theorem dX11_find_65 : decode cX11_find 65 = .ok (.ireturn, 1) := by decide +kernel
theorem dX11_compact_0 : decode cX11_compact 0 = .ok (.aload_n 0, 1) := by decide +kernel
theorem dX11_compact_1 : decode cX11_compact 1 = .ok (.getfield 67, 3) := by decide +kernel
theorem dX11_compact_4 : decode cX11_compact 4 = .ok (.getfield 262, 3) := by decide +kernel
theorem dX11_compact_7 : decode cX11_compact 7 = .ok (.ifCond .le 5, 3) := by decide +kernel
theorem dX11_compact_10 : decode cX11_compact 10 = .ok (.iconst (-1), 1) := by decide +kernel
theorem dX11_compact_11 : decode cX11_compact 11 = .ok (.ireturn, 1) := by decide +kernel
theorem dX11_compact_12 : decode cX11_compact 12 = .ok (.aload_n 0, 1) := by decide +kernel
theorem dX11_compact_13 : decode cX11_compact 13 = .ok (.getfield 23, 3) := by decide +kernel
theorem dX11_compact_16 : decode cX11_compact 16 = .ok (.aload_n 0, 1) := by decide +kernel
theorem dX11_compact_17 : decode cX11_compact 17 = .ok (.getfield 67, 3) := by decide +kernel
theorem dX11_compact_20 : decode cX11_compact 20 = .ok (.getfield 222, 3) := by decide +kernel
theorem dX11_compact_23 : decode cX11_compact 23 = .ok (.invokevirtual 225, 3) := by decide +kernel
theorem dX11_compact_26 : decode cX11_compact 26 = .ok (.aload_n 0, 1) := by decide +kernel
theorem dX11_compact_27 : decode cX11_compact 27 = .ok (.getfield 71, 3) := by decide +kernel
theorem dX11_compact_30 : decode cX11_compact 30 = .ok (.aload_n 0, 1) := by decide +kernel
theorem dX11_compact_31 : decode cX11_compact 31 = .ok (.getfield 30, 3) := by decide +kernel
theorem dX11_compact_34 : decode cX11_compact 34 = .ok (.invokevirtual 295, 3) := by decide +kernel
theorem dX11_compact_37 : decode cX11_compact 37 = .ok (.aload_n 0, 1) := by decide +kernel
theorem dX11_compact_38 : decode cX11_compact 38 = .ok (.getfield 71, 3) := by decide +kernel
theorem dX11_compact_41 : decode cX11_compact 41 = .ok (.aload_n 0, 1) := by decide +kernel
theorem dX11_compact_42 : decode cX11_compact 42 = .ok (.getfield 67, 3) := by decide +kernel
theorem dX11_compact_45 : decode cX11_compact 45 = .ok (.invokevirtual 298, 3) := by decide +kernel
theorem dX11_compact_48 : decode cX11_compact 48 = .ok (.iconst 0, 1) := by decide +kernel
theorem dX11_compact_49 : decode cX11_compact 49 = .ok (.istore_n 1, 1) := by decide +kernel
theorem dX11_compact_50 : decode cX11_compact 50 = .ok (.iconst 0, 1) := by decide +kernel
theorem dX11_compact_51 : decode cX11_compact 51 = .ok (.istore_n 2, 1) := by decide +kernel
theorem dX11_compact_52 : decode cX11_compact 52 = .ok (.iload_n 2, 1) := by decide +kernel
theorem dX11_compact_53 : decode cX11_compact 53 = .ok (.bipush 120, 2) := by decide +kernel
theorem dX11_compact_55 : decode cX11_compact 55 = .ok (.if_icmp .gt 25, 3) := by decide +kernel
theorem dX11_compact_58 : decode cX11_compact 58 = .ok (.aload_n 0, 1) := by decide +kernel
theorem dX11_compact_59 : decode cX11_compact 59 = .ok (.invokevirtual 304, 3) := by decide +kernel
theorem dX11_compact_62 : decode cX11_compact 62 = .ok (.istore_n 3, 1) := by decide +kernel
theorem dX11_compact_63 : decode cX11_compact 63 = .ok (.iload_n 3, 1) := by decide +kernel
theorem dX11_compact_64 : decode cX11_compact 64 = .ok (.ifCond .ne 6, 3) := by decide +kernel
theorem dX11_compact_67 : decode cX11_compact 67 = .ok (.goto 13, 3) := by decide +kernel
theorem dX11_compact_70 : decode cX11_compact 70 = .ok (.iload_n 1, 1) := by decide +kernel
theorem dX11_compact_71 : decode cX11_compact 71 = .ok (.iload_n 3, 1) := by decide +kernel
theorem dX11_compact_72 : decode cX11_compact 72 = .ok (.iadd, 1) := by decide +kernel
theorem dX11_compact_73 : decode cX11_compact 73 = .ok (.istore_n 1, 1) := by decide +kernel
theorem dX11_compact_74 : decode cX11_compact 74 = .ok (.iinc 2 1, 3) := by decide +kernel
theorem dX11_compact_77 : decode cX11_compact 77 = .ok (.goto (-25), 3) := by decide +kernel
theorem dX11_compact_80 : decode cX11_compact 80 = .ok (.aload_n 0, 1) := by decide +kernel
theorem dX11_compact_81 : decode cX11_compact 81 = .ok (.getfield 67, 3) := by decide +kernel
theorem dX11_compact_84 : decode cX11_compact 84 = .ok (.aload_n 0, 1) := by decide +kernel
theorem dX11_compact_85 : decode cX11_compact 85 = .ok (.getfield 71, 3) := by decide +kernel
theorem dX11_compact_88 : decode cX11_compact 88 = .ok (.invokevirtual 298, 3) := by decide +kernel
theorem dX11_compact_91 : decode cX11_compact 91 = .ok (.aload_n 0, 1) := by decide +kernel
theorem dX11_compact_92 : decode cX11_compact 92 = .ok (.getfield 67, 3) := by decide +kernel
theorem dX11_compact_95 : decode cX11_compact 95 = .ok (.invokevirtual 235, 3) := by decide +kernel
theorem dX11_compact_98 : decode cX11_compact 98 = .ok (.iload_n 1, 1) := by decide +kernel
theorem dX11_compact_99 : decode cX11_compact 99 = .ok (.ireturn, 1) := by decide +kernel
theorem dX11_schedule_0 : decode cX11_schedule 0 = .ok (.aload_n 0, 1) := by decide +kernel
theorem dX11_schedule_1 : decode cX11_schedule 1 = .ok (.iload_n 1, 1) := by decide +kernel
theorem dX11_schedule_2 : decode cX11_schedule 2 = .ok (.invokevirtual 307, 3) := by decide +kernel
theorem dX11_schedule_5 : decode cX11_schedule 5 = .ok (.aload_n 0, 1) := by decide +kernel
theorem dX11_schedule_6 : decode cX11_schedule 6 = .ok (.getfield 71, 3) := by decide +kernel
theorem dX11_schedule_9 : decode cX11_schedule 9 = .ok (.aload_n 0, 1) := by decide +kernel
theorem dX11_schedule_10 : decode cX11_schedule 10 = .ok (.getfield 30, 3) := by decide +kernel
theorem dX11_schedule_13 : decode cX11_schedule 13 = .ok (.invokevirtual 295, 3) := by decide +kernel
theorem dX11_schedule_16 : decode cX11_schedule 16 = .ok (.aload_n 0, 1) := by decide +kernel
theorem dX11_schedule_17 : decode cX11_schedule 17 = .ok (.getfield 79, 3) := by decide +kernel
theorem dX11_schedule_20 : decode cX11_schedule 20 = .ok (.iload_n 1, 1) := by decide +kernel
theorem dX11_schedule_21 : decode cX11_schedule 21 = .ok (.invokevirtual 310, 3) := by decide +kernel
theorem dX11_schedule_24 : decode cX11_schedule 24 = .ok (.ifCond .ne 5, 3) := by decide +kernel
theorem dX11_schedule_27 : decode cX11_schedule 27 = .ok (.iconst (-1), 1) := by decide +kernel
theorem dX11_schedule_28 : decode cX11_schedule 28 = .ok (.ireturn, 1) := by decide +kernel
theorem dX11_schedule_29 : decode cX11_schedule 29 = .ok (.aload_n 0, 1) := by decide +kernel
theorem dX11_schedule_30 : decode cX11_schedule 30 = .ok (.getfield 23, 3) := by decide +kernel
theorem dX11_schedule_33 : decode cX11_schedule 33 = .ok (.aload_n 0, 1) := by decide +kernel
theorem dX11_schedule_34 : decode cX11_schedule 34 = .ok (.getfield 67, 3) := by decide +kernel
theorem dX11_schedule_37 : decode cX11_schedule 37 = .ok (.getfield 222, 3) := by decide +kernel
theorem dX11_schedule_40 : decode cX11_schedule 40 = .ok (.invokevirtual 225, 3) := by decide +kernel
theorem dX11_schedule_43 : decode cX11_schedule 43 = .ok (.aload_n 0, 1) := by decide +kernel
theorem dX11_schedule_44 : decode cX11_schedule 44 = .ok (.getfield 67, 3) := by decide +kernel
theorem dX11_schedule_47 : decode cX11_schedule 47 = .ok (.aload_n 0, 1) := by decide +kernel
theorem dX11_schedule_48 : decode cX11_schedule 48 = .ok (.getfield 71, 3) := by decide +kernel
theorem dX11_schedule_51 : decode cX11_schedule 51 = .ok (.invokevirtual 298, 3) := by decide +kernel
theorem dX11_schedule_54 : decode cX11_schedule 54 = .ok (.aload_n 0, 1) := by decide +kernel
theorem dX11_schedule_55 : decode cX11_schedule 55 = .ok (.getfield 67, 3) := by decide +kernel
theorem dX11_schedule_58 : decode cX11_schedule 58 = .ok (.invokevirtual 235, 3) := by decide +kernel
theorem dX11_schedule_61 : decode cX11_schedule 61 = .ok (.aload_n 0, 1) := by decide +kernel
theorem dX11_schedule_62 : decode cX11_schedule 62 = .ok (.getfield 67, 3) := by decide +kernel
theorem dX11_schedule_65 : decode cX11_schedule 65 = .ok (.invokevirtual 292, 3) := by decide +kernel
theorem dX11_schedule_68 : decode cX11_schedule 68 = .ok (.ireturn, 1) := by decide +kernel
theorem dX1_read_0 : decode cX1_read 0 = .ok (.aload_n 0, 1) := by decide +kernel
theorem dX1_read_1 : decode cX1_read 1 = .ok (.aload_n 1, 1) := by decide +kernel
theorem dX1_read_2 : decode cX1_read 2 = .ok (.putfield 15, 3) := by decide +kernel
theorem dX1_read_5 : decode cX1_read 5 = .ok (.aload_n 0, 1) := by decide +kernel
theorem dX1_read_6 : decode cX1_read 6 = .ok (.getfield 15, 3) := by decide +kernel
theorem dX1_read_9 : decode cX1_read 9 = .ok (.invokevirtual 19, 3) := by decide +kernel
theorem dX1_read_12 : decode cX1_read 12 = .ok (.aload_n 0, 1) := by decide +kernel
theorem dX1_read_13 : decode cX1_read 13 = .ok (.iconst 0, 1) := by decide +kernel
theorem dX1_read_14 : decode cX1_read 14 = .ok (.putfield 24, 3) := by decide +kernel
theorem dX1_read_17 : decode cX1_read 17 = .ok (.aload_n 0, 1) := by decide +kernel
theorem dX1_read_18 : decode cX1_read 18 = .ok (.iconst 0, 1) := by decide +kernel
theorem dX1_read_19 : decode cX1_read 19 = .ok (.putfield 28, 3) := by decide +kernel
theorem dX1_read_22 : decode cX1_read 22 = .ok (.aload_n 0, 1) := by decide +kernel
theorem dX1_read_23 : decode cX1_read 23 = .ok (.iconst 0, 1) := by decide +kernel
theorem dX1_read_24 : decode cX1_read 24 = .ok (.putfield 32, 3) := by decide +kernel
theorem dX1_read_27 : decode cX1_read 27 = .ok (.iconst 0, 1) := by decide +kernel
theorem dX1_read_28 : decode cX1_read 28 = .ok (.istore_n 2, 1) := by decide +kernel
theorem dX1_read_29 : decode cX1_read 29 = .ok (.iload_n 2, 1) := by decide +kernel
theorem dX1_read_30 : decode cX1_read 30 = .ok (.sipush 1000, 3) := by decide +kernel
theorem dX1_read_33 : decode cX1_read 33 = .ok (.if_icmp .ge 65, 3) := by decide +kernel
theorem dX1_read_36 : decode cX1_read 36 = .ok (.aload_n 0, 1) := by decide +kernel
theorem dX1_read_37 : decode cX1_read 37 = .ok (.getfield 9, 3) := by decide +kernel
theorem dX1_read_40 : decode cX1_read 40 = .ok (.aload_n 0, 1) := by decide +kernel
theorem dX1_read_41 : decode cX1_read 41 = .ok (.getfield 24, 3) := by decide +kernel
theorem dX1_read_44 : decode cX1_read 44 = .ok (.invokevirtual 35, 3) := by decide +kernel
theorem dX1_read_47 : decode cX1_read 47 = .ok (.astore_n 3, 1) := by decide +kernel
theorem dX1_read_48 : decode cX1_read 48 = .ok (.aload_n 3, 1) := by decide +kernel
theorem dX1_read_49 : decode cX1_read 49 = .ok (.getstatic 41, 3) := by decide +kernel
theorem dX1_read_52 : decode cX1_read 52 = .ok (.if_acmp .ne 12, 3) := by decide +kernel
theorem dX1_read_55 : decode cX1_read 55 = .ok (.aload_n 0, 1) := by decide +kernel
theorem dX1_read_56 : decode cX1_read 56 = .ok (.getfield 15, 3) := by decide +kernel
theorem dX1_read_59 : decode cX1_read 59 = .ok (.invokevirtual 47, 3) := by decide +kernel
theorem dX1_read_62 : decode cX1_read 62 = .ok (.iconst 1, 1) := by decide +kernel
theorem dX1_read_63 : decode cX1_read 63 = .ok (.ireturn, 1) := by decide +kernel
theorem dX1_read_64 : decode cX1_read 64 = .ok (.aload_n 0, 1) := by decide +kernel
theorem dX1_read_65 : decode cX1_read 65 = .ok (.aload_n 3, 1) := by decide +kernel
theorem dX1_read_66 : decode cX1_read 66 = .ok (.invokevirtual 50, 3) := by decide +kernel
theorem dX1_read_69 : decode cX1_read 69 = .ok (.ifCond .eq 21, 3) := by decide +kernel
theorem dX1_read_72 : decode cX1_read 72 = .ok (.aload_n 0, 1) := by decide +kernel
theorem dX1_read_73 : decode cX1_read 73 = .ok (.aload_n 3, 1) := by decide +kernel
theorem dX1_read_74 : decode cX1_read 74 = .ok (.invokevirtual 54, 3) := by decide +kernel
theorem dX1_read_77 : decode cX1_read 77 = .ok (.ifCond .eq 13, 3) := by decide +kernel
theorem dX1_read_80 : decode cX1_read 80 = .ok (.aload_n 0, 1) := by decide +kernel
theorem dX1_read_81 : decode cX1_read 81 = .ok (.getstatic 57, 3) := by decide +kernel
theorem dX1_read_84 : decode cX1_read 84 = .ok (.invokevirtual 60, 3) := by decide +kernel
theorem dX1_read_87 : decode cX1_read 87 = .ok (.ifCond .ne 5, 3) := by decide +kernel
theorem dX1_read_90 : decode cX1_read 90 = .ok (.iconst 0, 1) := by decide +kernel
theorem dX1_read_91 : decode cX1_read 91 = .ok (.ireturn, 1) := by decide +kernel
theorem dX1_read_92 : decode cX1_read 92 = .ok (.iinc 2 1, 3) := by decide +kernel
theorem dX1_read_95 : decode cX1_read 95 = .ok (.goto (-66), 3) := by decide +kernel
theorem dX1_read_98 : decode cX1_read 98 = .ok (.aload_n 0, 1) := by decide +kernel
theorem dX1_read_99 : decode cX1_read 99 = .ok (.iconst 1, 1) := by decide +kernel
theorem dX1_read_100 : decode cX1_read 100 = .ok (.aload_n 0, 1) := by decide +kernel
theorem dX1_read_101 : decode cX1_read 101 = .ok (.getfield 24, 3) := by decide +kernel
theorem dX1_read_104 : decode cX1_read 104 = .ok (.invokevirtual 63, 3) := by decide +kernel
theorem dX1_read_107 : decode cX1_read 107 = .ok (.ireturn, 1) := by decide +kernel
theorem dX6_run_0 : decode cX6_run 0 = .ok (.aload_n 0, 1) := by decide +kernel
theorem dX6_run_1 : decode cX6_run 1 = .ok (.getfield 9, 3) := by decide +kernel
theorem dX6_run_4 : decode cX6_run 4 = .ok (.iload_n 1, 1) := by decide +kernel
theorem dX6_run_5 : decode cX6_run 5 = .ok (.iload_n 2, 1) := by decide +kernel
theorem dX6_run_6 : decode cX6_run 6 = .ok (.iload_n 3, 1) := by decide +kernel
theorem dX6_run_7 : decode cX6_run 7 = .ok (.invokevirtual 24, 3) := by decide +kernel
theorem dX6_run_10 : decode cX6_run 10 = .ok (.aload_n 0, 1) := by decide +kernel
theorem dX6_run_11 : decode cX6_run 11 = .ok (.aload_n 0, 1) := by decide +kernel
theorem dX6_run_12 : decode cX6_run 12 = .ok (.getfield 9, 3) := by decide +kernel
theorem dX6_run_15 : decode cX6_run 15 = .ok (.getfield 28, 3) := by decide +kernel
theorem dX6_run_18 : decode cX6_run 18 = .ok (.getfield 32, 3) := by decide +kernel
theorem dX6_run_21 : decode cX6_run 21 = .ok (.getfield 38, 3) := by decide +kernel
theorem dX6_run_24 : decode cX6_run 24 = .ok (.iconst 5, 1) := by decide +kernel
theorem dX6_run_25 : decode cX6_run 25 = .ok (.invokestatic 44, 3) := by decide +kernel
theorem dX6_run_28 : decode cX6_run 28 = .ok (.putfield 49, 3) := by decide +kernel
theorem dX6_run_31 : decode cX6_run 31 = .ok (.aload_n 0, 1) := by decide +kernel
theorem dX6_run_32 : decode cX6_run 32 = .ok (.iconst (-1), 1) := by decide +kernel
theorem dX6_run_33 : decode cX6_run 33 = .ok (.putfield 52, 3) := by decide +kernel
theorem dX6_run_36 : decode cX6_run 36 = .ok (.aload_n 0, 1) := by decide +kernel
theorem dX6_run_37 : decode cX6_run 37 = .ok (.iconst (-1), 1) := by decide +kernel
theorem dX6_run_38 : decode cX6_run 38 = .ok (.putfield 55, 3) := by decide +kernel
theorem dX6_run_41 : decode cX6_run 41 = .ok (.aload_n 0, 1) := by decide +kernel
theorem dX6_run_42 : decode cX6_run 42 = .ok (.getfield 9, 3) := by decide +kernel
theorem dX6_run_45 : decode cX6_run 45 = .ok (.invokevirtual 15, 3) := by decide +kernel
theorem dX6_run_48 : decode cX6_run 48 = .ok (.aload_n 0, 1) := by decide +kernel
theorem dX6_run_49 : decode cX6_run 49 = .ok (.getfield 9, 3) := by decide +kernel
theorem dX6_run_52 : decode cX6_run 52 = .ok (.iconst 1, 1) := by decide +kernel
theorem dX6_run_53 : decode cX6_run 53 = .ok (.invokevirtual 58, 3) := by decide +kernel
theorem dX6_run_56 : decode cX6_run 56 = .ok (.pop, 1) := by decide +kernel
theorem dX6_run_57 : decode cX6_run 57 = .ok (.aload_n 0, 1) := by decide +kernel
theorem dX6_run_58 : decode cX6_run 58 = .ok (.iconst 0, 1) := by decide +kernel
theorem dX6_run_59 : decode cX6_run 59 = .ok (.iconst 0, 1) := by decide +kernel
theorem dX6_run_60 : decode cX6_run 60 = .ok (.iconst 0, 1) := by decide +kernel
theorem dX6_run_61 : decode cX6_run 61 = .ok (.iconst 1, 1) := by decide +kernel
theorem dX6_run_62 : decode cX6_run 62 = .ok (.iconst 0, 1) := by decide +kernel
theorem dX6_run_63 : decode cX6_run 63 = .ok (.invokestatic 62, 3) := by decide +kernel
theorem dX6_run_66 : decode cX6_run 66 = .ok (.aload_n 0, 1) := by decide +kernel
theorem dX6_run_67 : decode cX6_run 67 = .ok (.getfield 52, 3) := by decide +kernel
theorem dX6_run_70 : decode cX6_run 70 = .ok (.ireturn, 1) := by decide +kernel
theorem dX11_loadBrigade_0 : decode cX11_loadBrigade 0 = .ok (.aload_n 0, 1) := by decide +kernel
theorem dX11_loadBrigade_1 : decode cX11_loadBrigade 1 = .ok (.getfield 16, 3) := by decide +kernel
theorem dX11_loadBrigade_4 : decode cX11_loadBrigade 4 = .ok (.aload_n 0, 1) := by decide +kernel
theorem dX11_loadBrigade_5 : decode cX11_loadBrigade 5 = .ok (.getfield 9, 3) := by decide +kernel
theorem dX11_loadBrigade_8 : decode cX11_loadBrigade 8 = .ok (.aload_n 0, 1) := by decide +kernel
theorem dX11_loadBrigade_9 : decode cX11_loadBrigade 9 = .ok (.getfield 86, 3) := by decide +kernel
theorem dX11_loadBrigade_12 : decode cX11_loadBrigade 12 = .ok (.invokevirtual 93, 3) := by decide +kernel
theorem dX11_loadBrigade_15 : decode cX11_loadBrigade 15 = .ok (.aload_n 0, 1) := by decide +kernel
theorem dX11_loadBrigade_16 : decode cX11_loadBrigade 16 = .ok (.iconst 0, 1) := by decide +kernel
theorem dX11_loadBrigade_17 : decode cX11_loadBrigade 17 = .ok (.putfield 86, 3) := by decide +kernel
theorem dX11_loadBrigade_20 : decode cX11_loadBrigade 20 = .ok (.aload_n 0, 1) := by decide +kernel
theorem dX11_loadBrigade_21 : decode cX11_loadBrigade 21 = .ok (.iconst 0, 1) := by decide +kernel
theorem dX11_loadBrigade_22 : decode cX11_loadBrigade 22 = .ok (.putfield 37, 3) := by decide +kernel
theorem dX11_loadBrigade_25 : decode cX11_loadBrigade 25 = .ok (.aload_n 0, 1) := by decide +kernel
theorem dX11_loadBrigade_26 : decode cX11_loadBrigade 26 = .ok (.iconst (-1), 1) := by decide +kernel
theorem dX11_loadBrigade_27 : decode cX11_loadBrigade 27 = .ok (.putfield 41, 3) := by decide +kernel
theorem dX11_loadBrigade_30 : decode cX11_loadBrigade 30 = .ok (.aload_n 0, 1) := by decide +kernel
theorem dX11_loadBrigade_31 : decode cX11_loadBrigade 31 = .ok (.getfield 49, 3) := by decide +kernel
theorem dX11_loadBrigade_34 : decode cX11_loadBrigade 34 = .ok (.aload_n 0, 1) := by decide +kernel
theorem dX11_loadBrigade_35 : decode cX11_loadBrigade 35 = .ok (.getfield 34, 3) := by decide +kernel
theorem dX11_loadBrigade_38 : decode cX11_loadBrigade 38 = .ok (.invokevirtual 97, 3) := by decide +kernel
theorem dX11_loadBrigade_41 : decode cX11_loadBrigade 41 = .ok (.ifCond .ne 34, 3) := by decide +kernel
theorem dX11_loadBrigade_44 : decode cX11_loadBrigade 44 = .ok (.aload_n 0, 1) := by decide +kernel
theorem dX11_loadBrigade_45 : decode cX11_loadBrigade 45 = .ok (.aload_n 0, 1) := by decide +kernel
theorem dX11_loadBrigade_46 : decode cX11_loadBrigade 46 = .ok (.getfield 49, 3) := by decide +kernel
theorem dX11_loadBrigade_49 : decode cX11_loadBrigade 49 = .ok (.getfield 101, 3) := by decide +kernel
theorem dX11_loadBrigade_52 : decode cX11_loadBrigade 52 = .ok (.putfield 37, 3) := by decide +kernel
theorem dX11_loadBrigade_55 : decode cX11_loadBrigade 55 = .ok (.aload_n 0, 1) := by decide +kernel
theorem dX11_loadBrigade_56 : decode cX11_loadBrigade 56 = .ok (.aload_n 0, 1) := by decide +kernel
theorem dX11_loadBrigade_57 : decode cX11_loadBrigade 57 = .ok (.getfield 16, 3) := by decide +kernel
theorem dX11_loadBrigade_60 : decode cX11_loadBrigade 60 = .ok (.aload_n 0, 1) := by decide +kernel
theorem dX11_loadBrigade_61 : decode cX11_loadBrigade 61 = .ok (.getfield 49, 3) := by decide +kernel
theorem dX11_loadBrigade_64 : decode cX11_loadBrigade 64 = .ok (.getfield 104, 3) := by decide +kernel
theorem dX11_loadBrigade_67 : decode cX11_loadBrigade 67 = .ok (.invokevirtual 107, 3) := by decide +kernel
theorem dX11_loadBrigade_70 : decode cX11_loadBrigade 70 = .ok (.putfield 41, 3) := by decide +kernel
theorem dX11_loadBrigade_73 : decode cX11_loadBrigade 73 = .ok (.iconst (-1), 1) := by decide +kernel
theorem dX11_loadBrigade_74 : decode cX11_loadBrigade 74 = .ok (.ireturn, 1) := by decide +kernel
theorem dX11_loadBrigade_75 : decode cX11_loadBrigade 75 = .ok (.aload_n 0, 1) := by decide +kernel
theorem dX11_loadBrigade_76 : decode cX11_loadBrigade 76 = .ok (.getfield 30, 3) := by decide +kernel
theorem dX11_loadBrigade_79 : decode cX11_loadBrigade 79 = .ok (.astore_n 1, 1) := by decide +kernel
theorem dX11_loadBrigade_80 : decode cX11_loadBrigade 80 = .ok (.aload_n 0, 1) := by decide +kernel
theorem dX11_loadBrigade_81 : decode cX11_loadBrigade 81 = .ok (.aload_n 0, 1) := by decide +kernel
theorem dX11_loadBrigade_82 : decode cX11_loadBrigade 82 = .ok (.getfield 34, 3) := by decide +kernel
theorem dX11_loadBrigade_85 : decode cX11_loadBrigade 85 = .ok (.putfield 30, 3) := by decide +kernel
theorem dX11_loadBrigade_88 : decode cX11_loadBrigade 88 = .ok (.aload_n 0, 1) := by decide +kernel
theorem dX11_loadBrigade_89 : decode cX11_loadBrigade 89 = .ok (.aload_n 1, 1) := by decide +kernel
theorem dX11_loadBrigade_90 : decode cX11_loadBrigade 90 = .ok (.putfield 34, 3) := by decide +kernel
theorem dX11_loadBrigade_93 : decode cX11_loadBrigade 93 = .ok (.aload_n 0, 1) := by decide +kernel
theorem dX11_loadBrigade_94 : decode cX11_loadBrigade 94 = .ok (.invokevirtual 83, 3) := by decide +kernel
theorem dX11_loadBrigade_97 : decode cX11_loadBrigade 97 = .ok (.aload_n 0, 1) := by decide +kernel
theorem dX11_loadBrigade_98 : decode cX11_loadBrigade 98 = .ok (.getfield 30, 3) := by decide +kernel
theorem dX11_loadBrigade_101 : decode cX11_loadBrigade 101 = .ok (.getfield 111, 3) := by decide +kernel
theorem dX11_loadBrigade_104 : decode cX11_loadBrigade 104 = .ok (.getfield 115, 3) := by decide +kernel
theorem dX11_loadBrigade_107 : decode cX11_loadBrigade 107 = .ok (.ireturn, 1) := by decide +kernel
theorem dX11_bestFinish_0 : decode cX11_bestFinish 0 = .ok (.aload_n 0, 1) := by decide +kernel
theorem dX11_bestFinish_1 : decode cX11_bestFinish 1 = .ok (.getfield 79, 3) := by decide +kernel
theorem dX11_bestFinish_4 : decode cX11_bestFinish 4 = .ok (.aload_n 0, 1) := by decide +kernel
theorem dX11_bestFinish_5 : decode cX11_bestFinish 5 = .ok (.getfield 30, 3) := by decide +kernel
theorem dX11_bestFinish_8 : decode cX11_bestFinish 8 = .ok (.invokevirtual 210, 3) := by decide +kernel
theorem dX11_bestFinish_11 : decode cX11_bestFinish 11 = .ok (.aload_n 0, 1) := by decide +kernel
theorem dX11_bestFinish_12 : decode cX11_bestFinish 12 = .ok (.getfield 30, 3) := by decide +kernel
theorem dX11_bestFinish_15 : decode cX11_bestFinish 15 = .ok (.getfield 314, 3) := by decide +kernel
theorem dX11_bestFinish_18 : decode cX11_bestFinish 18 = .ok (.aload_n 0, 1) := by decide +kernel
theorem dX11_bestFinish_19 : decode cX11_bestFinish 19 = .ok (.getfield 30, 3) := by decide +kernel
theorem dX11_bestFinish_22 : decode cX11_bestFinish 22 = .ok (.getfield 317, 3) := by decide +kernel
theorem dX11_bestFinish_25 : decode cX11_bestFinish 25 = .ok (.invokevirtual 320, 3) := by decide +kernel
theorem dX11_bestFinish_28 : decode cX11_bestFinish 28 = .ok (.ireturn, 1) := by decide +kernel
theorem dX11_bestOrder_0 : decode cX11_bestOrder 0 = .ok (.aload_n 0, 1) := by decide +kernel
theorem dX11_bestOrder_1 : decode cX11_bestOrder 1 = .ok (.getfield 79, 3) := by decide +kernel
theorem dX11_bestOrder_4 : decode cX11_bestOrder 4 = .ok (.aload_n 0, 1) := by decide +kernel
theorem dX11_bestOrder_5 : decode cX11_bestOrder 5 = .ok (.getfield 30, 3) := by decide +kernel
theorem dX11_bestOrder_8 : decode cX11_bestOrder 8 = .ok (.invokevirtual 210, 3) := by decide +kernel
theorem dX11_bestOrder_11 : decode cX11_bestOrder 11 = .ok (.aload_n 0, 1) := by decide +kernel
theorem dX11_bestOrder_12 : decode cX11_bestOrder 12 = .ok (.getfield 30, 3) := by decide +kernel
theorem dX11_bestOrder_15 : decode cX11_bestOrder 15 = .ok (.getfield 314, 3) := by decide +kernel
theorem dX11_bestOrder_18 : decode cX11_bestOrder 18 = .ok (.aload_n 0, 1) := by decide +kernel
theorem dX11_bestOrder_19 : decode cX11_bestOrder 19 = .ok (.getfield 30, 3) := by decide +kernel
theorem dX11_bestOrder_22 : decode cX11_bestOrder 22 = .ok (.getfield 317, 3) := by decide +kernel
theorem dX11_bestOrder_25 : decode cX11_bestOrder 25 = .ok (.invokevirtual 320, 3) := by decide +kernel
theorem dX11_bestOrder_28 : decode cX11_bestOrder 28 = .ok (.pop, 1) := by decide +kernel
theorem dX11_bestOrder_29 : decode cX11_bestOrder 29 = .ok (.aload_n 0, 1) := by decide +kernel
theorem dX11_bestOrder_30 : decode cX11_bestOrder 30 = .ok (.getfield 79, 3) := by decide +kernel
theorem dX11_bestOrder_33 : decode cX11_bestOrder 33 = .ok (.getfield 324, 3) := by decide +kernel
theorem dX11_bestOrder_36 : decode cX11_bestOrder 36 = .ok (.ireturn, 1) := by decide +kernel
theorem dX11_bestFinishWithout_0 : decode cX11_bestFinishWithout 0 = .ok (.iload_n 1, 1) := by decide +kernel
theorem dX11_bestFinishWithout_1 : decode cX11_bestFinishWithout 1 = .ok (.aload_n 0, 1) := by decide +kernel
theorem dX11_bestFinishWithout_2 : decode cX11_bestFinishWithout 2 = .ok (.getfield 30, 3) := by decide +kernel
theorem dX11_bestFinishWithout_5 : decode cX11_bestFinishWithout 5 = .ok (.getfield 126, 3) := by decide +kernel
theorem dX11_bestFinishWithout_8 : decode cX11_bestFinishWithout 8 = .ok (.invokestatic 155, 3) := by decide +kernel
theorem dX11_bestFinishWithout_11 : decode cX11_bestFinishWithout 11 = .ok (.aload_n 0, 1) := by decide +kernel
theorem dX11_bestFinishWithout_12 : decode cX11_bestFinishWithout 12 = .ok (.getfield 79, 3) := by decide +kernel
theorem dX11_bestFinishWithout_15 : decode cX11_bestFinishWithout 15 = .ok (.aload_n 0, 1) := by decide +kernel
theorem dX11_bestFinishWithout_16 : decode cX11_bestFinishWithout 16 = .ok (.getfield 30, 3) := by decide +kernel
theorem dX11_bestFinishWithout_19 : decode cX11_bestFinishWithout 19 = .ok (.invokevirtual 210, 3) := by decide +kernel
theorem dX11_bestFinishWithout_22 : decode cX11_bestFinishWithout 22 = .ok (.iconst 1, 1) := by decide +kernel
theorem dX11_bestFinishWithout_23 : decode cX11_bestFinishWithout 23 = .ok (.iload_n 1, 1) := by decide +kernel
theorem dX11_bestFinishWithout_24 : decode cX11_bestFinishWithout 24 = .ok (.ishl, 1) := by decide +kernel
theorem dX11_bestFinishWithout_25 : decode cX11_bestFinishWithout 25 = .ok (.iconst (-1), 1) := by decide +kernel
theorem dX11_bestFinishWithout_26 : decode cX11_bestFinishWithout 26 = .ok (.ixor, 1) := by decide +kernel
theorem dX11_bestFinishWithout_27 : decode cX11_bestFinishWithout 27 = .ok (.iand, 1) := by decide +kernel
theorem dX11_bestFinishWithout_28 : decode cX11_bestFinishWithout 28 = .ok (.aload_n 0, 1) := by decide +kernel
theorem dX11_bestFinishWithout_29 : decode cX11_bestFinishWithout 29 = .ok (.getfield 30, 3) := by decide +kernel
theorem dX11_bestFinishWithout_32 : decode cX11_bestFinishWithout 32 = .ok (.getfield 314, 3) := by decide +kernel
theorem dX11_bestFinishWithout_35 : decode cX11_bestFinishWithout 35 = .ok (.aload_n 0, 1) := by decide +kernel
theorem dX11_bestFinishWithout_36 : decode cX11_bestFinishWithout 36 = .ok (.getfield 30, 3) := by decide +kernel
theorem dX11_bestFinishWithout_39 : decode cX11_bestFinishWithout 39 = .ok (.getfield 317, 3) := by decide +kernel
theorem dX11_bestFinishWithout_42 : decode cX11_bestFinishWithout 42 = .ok (.invokevirtual 320, 3) := by decide +kernel
theorem dX11_bestFinishWithout_45 : decode cX11_bestFinishWithout 45 = .ok (.ireturn, 1) := by decide +kernel
theorem dX11_bestFinishWith_0 : decode cX11_bestFinishWith 0 = .ok (.iload_n 1, 1) := by decide +kernel
theorem dX11_bestFinishWith_1 : decode cX11_bestFinishWith 1 = .ok (.iconst 0, 1) := by decide +kernel
theorem dX11_bestFinishWith_2 : decode cX11_bestFinishWith 2 = .ok (.bipush 40, 2) := by decide +kernel
theorem dX11_bestFinishWith_4 : decode cX11_bestFinishWith 4 = .ok (.invokestatic 218, 3) := by decide +kernel
theorem dX11_bestFinishWith_7 : decode cX11_bestFinishWith 7 = .ok (.iload_n 2, 1) := by decide +kernel
theorem dX11_bestFinishWith_8 : decode cX11_bestFinishWith 8 = .ok (.iconst 1, 1) := by decide +kernel
theorem dX11_bestFinishWith_9 : decode cX11_bestFinishWith 9 = .ok (.bipush 12, 2) := by decide +kernel
theorem dX11_bestFinishWith_11 : decode cX11_bestFinishWith 11 = .ok (.invokestatic 218, 3) := by decide +kernel
theorem dX11_bestFinishWith_14 : decode cX11_bestFinishWith 14 = .ok (.aload_n 0, 1) := by decide +kernel
theorem dX11_bestFinishWith_15 : decode cX11_bestFinishWith 15 = .ok (.getfield 79, 3) := by decide +kernel
theorem dX11_bestFinishWith_18 : decode cX11_bestFinishWith 18 = .ok (.aload_n 0, 1) := by decide +kernel
theorem dX11_bestFinishWith_19 : decode cX11_bestFinishWith 19 = .ok (.getfield 30, 3) := by decide +kernel
theorem dX11_bestFinishWith_22 : decode cX11_bestFinishWith 22 = .ok (.invokevirtual 210, 3) := by decide +kernel
theorem dX11_bestFinishWith_25 : decode cX11_bestFinishWith 25 = .ok (.iload_n 1, 1) := by decide +kernel
theorem dX11_bestFinishWith_26 : decode cX11_bestFinishWith 26 = .ok (.iload_n 2, 1) := by decide +kernel
theorem dX11_bestFinishWith_27 : decode cX11_bestFinishWith 27 = .ok (.invokevirtual 320, 3) := by decide +kernel
theorem dX11_bestFinishWith_30 : decode cX11_bestFinishWith 30 = .ok (.ireturn, 1) := by decide +kernel
theorem dX11_enoughRacks_0 : decode cX11_enoughRacks 0 = .ok (.aload_n 0, 1) := by decide +kernel
theorem dX11_enoughRacks_1 : decode cX11_enoughRacks 1 = .ok (.getfield 79, 3) := by decide +kernel
theorem dX11_enoughRacks_4 : decode cX11_enoughRacks 4 = .ok (.aload_n 0, 1) := by decide +kernel
theorem dX11_enoughRacks_5 : decode cX11_enoughRacks 5 = .ok (.getfield 30, 3) := by decide +kernel
theorem dX11_enoughRacks_8 : decode cX11_enoughRacks 8 = .ok (.invokevirtual 210, 3) := by decide +kernel
theorem dX11_enoughRacks_11 : decode cX11_enoughRacks 11 = .ok (.aload_n 0, 1) := by decide +kernel
theorem dX11_enoughRacks_12 : decode cX11_enoughRacks 12 = .ok (.getfield 30, 3) := by decide +kernel
theorem dX11_enoughRacks_15 : decode cX11_enoughRacks 15 = .ok (.getfield 314, 3) := by decide +kernel
theorem dX11_enoughRacks_18 : decode cX11_enoughRacks 18 = .ok (.bipush 12, 2) := by decide +kernel
theorem dX11_enoughRacks_20 : decode cX11_enoughRacks 20 = .ok (.invokevirtual 320, 3) := by decide +kernel
theorem dX11_enoughRacks_23 : decode cX11_enoughRacks 23 = .ok (.istore_n 1, 1) := by decide +kernel
theorem dX11_enoughRacks_24 : decode cX11_enoughRacks 24 = .ok (.iload_n 1, 1) := by decide +kernel
theorem dX11_enoughRacks_25 : decode cX11_enoughRacks 25 = .ok (.iconst (-1), 1) := by decide +kernel
theorem dX11_enoughRacks_26 : decode cX11_enoughRacks 26 = .ok (.if_icmp .ne 5, 3) := by decide +kernel
theorem dX11_enoughRacks_29 : decode cX11_enoughRacks 29 = .ok (.iconst (-1), 1) := by decide +kernel
theorem dX11_enoughRacks_30 : decode cX11_enoughRacks 30 = .ok (.ireturn, 1) := by decide +kernel
theorem dX11_enoughRacks_31 : decode cX11_enoughRacks 31 = .ok (.iconst 1, 1) := by decide +kernel
theorem dX11_enoughRacks_32 : decode cX11_enoughRacks 32 = .ok (.istore_n 2, 1) := by decide +kernel
theorem dX11_enoughRacks_33 : decode cX11_enoughRacks 33 = .ok (.iload_n 2, 1) := by decide +kernel
theorem dX11_enoughRacks_34 : decode cX11_enoughRacks 34 = .ok (.bipush 12, 2) := by decide +kernel
theorem dX11_enoughRacks_36 : decode cX11_enoughRacks 36 = .ok (.if_icmp .ge 37, 3) := by decide +kernel
theorem dX11_enoughRacks_39 : decode cX11_enoughRacks 39 = .ok (.aload_n 0, 1) := by decide +kernel
theorem dX11_enoughRacks_40 : decode cX11_enoughRacks 40 = .ok (.getfield 79, 3) := by decide +kernel
theorem dX11_enoughRacks_43 : decode cX11_enoughRacks 43 = .ok (.aload_n 0, 1) := by decide +kernel
theorem dX11_enoughRacks_44 : decode cX11_enoughRacks 44 = .ok (.getfield 30, 3) := by decide +kernel
theorem dX11_enoughRacks_47 : decode cX11_enoughRacks 47 = .ok (.invokevirtual 210, 3) := by decide +kernel
theorem dX11_enoughRacks_50 : decode cX11_enoughRacks 50 = .ok (.aload_n 0, 1) := by decide +kernel
theorem dX11_enoughRacks_51 : decode cX11_enoughRacks 51 = .ok (.getfield 30, 3) := by decide +kernel
theorem dX11_enoughRacks_54 : decode cX11_enoughRacks 54 = .ok (.getfield 314, 3) := by decide +kernel
theorem dX11_enoughRacks_57 : decode cX11_enoughRacks 57 = .ok (.iload_n 2, 1) := by decide +kernel
theorem dX11_enoughRacks_58 : decode cX11_enoughRacks 58 = .ok (.invokevirtual 320, 3) := by decide +kernel
theorem dX11_enoughRacks_61 : decode cX11_enoughRacks 61 = .ok (.iload_n 1, 1) := by decide +kernel
theorem dX11_enoughRacks_62 : decode cX11_enoughRacks 62 = .ok (.if_icmp .ne 5, 3) := by decide +kernel
theorem dX11_enoughRacks_65 : decode cX11_enoughRacks 65 = .ok (.iload_n 2, 1) := by decide +kernel
theorem dX11_enoughRacks_66 : decode cX11_enoughRacks 66 = .ok (.ireturn, 1) := by decide +kernel
theorem dX11_enoughRacks_67 : decode cX11_enoughRacks 67 = .ok (.iinc 2 1, 3) := by decide +kernel
theorem dX11_enoughRacks_70 : decode cX11_enoughRacks 70 = .ok (.goto (-37), 3) := by decide +kernel
theorem dX11_enoughRacks_73 : decode cX11_enoughRacks 73 = .ok (.bipush 12, 2) := by decide +kernel
theorem dX11_enoughRacks_75 : decode cX11_enoughRacks 75 = .ok (.ireturn, 1) := by decide +kernel
