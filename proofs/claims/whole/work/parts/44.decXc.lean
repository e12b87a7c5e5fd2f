theorem d_XV_init_0 : decode b_XV_init 0 = .ok (.aload_n 0, 1) := by decide +kernel
theorem d_XV_init_1 : decode b_XV_init 1 = .ok (.invokespecial 3, 3) := by decide +kernel
theorem d_XV_init_4 : decode b_XV_init 4 = .ok (.aload_n 0, 1) := by decide +kernel
theorem d_XV_init_5 : decode b_XV_init 5 = .ok (.iconst 4, 1) := by decide +kernel
theorem d_XV_init_6 : decode b_XV_init 6 = .ok (.anewarray 9, 3) := by decide +kernel
theorem d_XV_init_9 : decode b_XV_init 9 = .ok (.putfield 11, 3) := by decide +kernel
theorem d_XV_init_12 : decode b_XV_init 12 = .ok (.aload_n 0, 1) := by decide +kernel
theorem d_XV_init_13 : decode b_XV_init 13 = .ok (.iconst 4, 1) := by decide +kernel
theorem d_XV_init_14 : decode b_XV_init 14 = .ok (.bipush 100, 2) := by decide +kernel
theorem d_XV_init_16 : decode b_XV_init 16 = .ok (.multianewarray 17 2, 4) := by decide +kernel
theorem d_XV_init_20 : decode b_XV_init 20 = .ok (.putfield 19, 3) := by decide +kernel
theorem d_XV_init_23 : decode b_XV_init 23 = .ok (.return_, 1) := by decide +kernel
theorem d_XV_freeSeat_0 : decode b_XV_freeSeat 0 = .ok (.iconst 0, 1) := by decide +kernel
theorem d_XV_freeSeat_1 : decode b_XV_freeSeat 1 = .ok (.istore_n 1, 1) := by decide +kernel
theorem d_XV_freeSeat_2 : decode b_XV_freeSeat 2 = .ok (.iload_n 1, 1) := by decide +kernel
theorem d_XV_freeSeat_3 : decode b_XV_freeSeat 3 = .ok (.iconst 4, 1) := by decide +kernel
theorem d_XV_freeSeat_4 : decode b_XV_freeSeat 4 = .ok (.if_icmp .ge 20, 3) := by decide +kernel
theorem d_XV_freeSeat_7 : decode b_XV_freeSeat 7 = .ok (.aload_n 0, 1) := by decide +kernel
theorem d_XV_freeSeat_8 : decode b_XV_freeSeat 8 = .ok (.getfield 11, 3) := by decide +kernel
theorem d_XV_freeSeat_11 : decode b_XV_freeSeat 11 = .ok (.iload_n 1, 1) := by decide +kernel
theorem d_XV_freeSeat_12 : decode b_XV_freeSeat 12 = .ok (.aaload, 1) := by decide +kernel
theorem d_XV_freeSeat_13 : decode b_XV_freeSeat 13 = .ok (.ifnonnull 5, 3) := by decide +kernel
theorem d_XV_freeSeat_16 : decode b_XV_freeSeat 16 = .ok (.iload_n 1, 1) := by decide +kernel
theorem d_XV_freeSeat_17 : decode b_XV_freeSeat 17 = .ok (.ireturn, 1) := by decide +kernel
theorem d_XV_freeSeat_18 : decode b_XV_freeSeat 18 = .ok (.iinc 1 1, 3) := by decide +kernel
theorem d_XV_freeSeat_21 : decode b_XV_freeSeat 21 = .ok (.goto (-19), 3) := by decide +kernel
theorem d_XV_freeSeat_24 : decode b_XV_freeSeat 24 = .ok (.iconst (-1), 1) := by decide +kernel
theorem d_XV_freeSeat_25 : decode b_XV_freeSeat 25 = .ok (.ireturn, 1) := by decide +kernel
theorem d_XV_enter_0 : decode b_XV_enter 0 = .ok (.aload_n 0, 1) := by decide +kernel
theorem d_XV_enter_1 : decode b_XV_enter 1 = .ok (.getfield 11, 3) := by decide +kernel
theorem d_XV_enter_4 : decode b_XV_enter 4 = .ok (.aload_n 1, 1) := by decide +kernel
theorem d_XV_enter_5 : decode b_XV_enter 5 = .ok (.getfield 22, 3) := by decide +kernel
theorem d_XV_enter_8 : decode b_XV_enter 8 = .ok (.aload_n 1, 1) := by decide +kernel
theorem d_XV_enter_9 : decode b_XV_enter 9 = .ok (.aastore, 1) := by decide +kernel
theorem d_XV_enter_10 : decode b_XV_enter 10 = .ok (.return_, 1) := by decide +kernel
theorem d_XV_leave_0 : decode b_XV_leave 0 = .ok (.aload_n 1, 1) := by decide +kernel
theorem d_XV_leave_1 : decode b_XV_leave 1 = .ok (.iload_n 2, 1) := by decide +kernel
theorem d_XV_leave_2 : decode b_XV_leave 2 = .ok (.putfield 26, 3) := by decide +kernel
theorem d_XV_leave_5 : decode b_XV_leave 5 = .ok (.aload_n 0, 1) := by decide +kernel
theorem d_XV_leave_6 : decode b_XV_leave 6 = .ok (.getfield 11, 3) := by decide +kernel
theorem d_XV_leave_9 : decode b_XV_leave 9 = .ok (.aload_n 1, 1) := by decide +kernel
theorem d_XV_leave_10 : decode b_XV_leave 10 = .ok (.getfield 22, 3) := by decide +kernel
theorem d_XV_leave_13 : decode b_XV_leave 13 = .ok (.aconst_null, 1) := by decide +kernel
theorem d_XV_leave_14 : decode b_XV_leave 14 = .ok (.aastore, 1) := by decide +kernel
theorem d_XV_leave_15 : decode b_XV_leave 15 = .ok (.iconst 0, 1) := by decide +kernel
theorem d_XV_leave_16 : decode b_XV_leave 16 = .ok (.istore_n 3, 1) := by decide +kernel
theorem d_XV_leave_17 : decode b_XV_leave 17 = .ok (.iload_n 3, 1) := by decide +kernel
theorem d_XV_leave_18 : decode b_XV_leave 18 = .ok (.bipush 100, 2) := by decide +kernel
theorem d_XV_leave_20 : decode b_XV_leave 20 = .ok (.if_icmp .ge 21, 3) := by decide +kernel
theorem d_XV_leave_23 : decode b_XV_leave 23 = .ok (.aload_n 0, 1) := by decide +kernel
theorem d_XV_leave_24 : decode b_XV_leave 24 = .ok (.getfield 19, 3) := by decide +kernel
theorem d_XV_leave_27 : decode b_XV_leave 27 = .ok (.aload_n 1, 1) := by decide +kernel
theorem d_XV_leave_28 : decode b_XV_leave 28 = .ok (.getfield 22, 3) := by decide +kernel
theorem d_XV_leave_31 : decode b_XV_leave 31 = .ok (.aaload, 1) := by decide +kernel
theorem d_XV_leave_32 : decode b_XV_leave 32 = .ok (.iload_n 3, 1) := by decide +kernel
theorem d_XV_leave_33 : decode b_XV_leave 33 = .ok (.iconst 0, 1) := by decide +kernel
theorem d_XV_leave_34 : decode b_XV_leave 34 = .ok (.iastore, 1) := by decide +kernel
theorem d_XV_leave_35 : decode b_XV_leave 35 = .ok (.iinc 3 1, 3) := by decide +kernel
theorem d_XV_leave_38 : decode b_XV_leave 38 = .ok (.goto (-21), 3) := by decide +kernel
theorem d_XV_leave_41 : decode b_XV_leave 41 = .ok (.return_, 1) := by decide +kernel
theorem d_XV_leaveAllInDoubt_0 : decode b_XV_leaveAllInDoubt 0 = .ok (.iconst 0, 1) := by decide +kernel
theorem d_XV_leaveAllInDoubt_1 : decode b_XV_leaveAllInDoubt 1 = .ok (.istore_n 1, 1) := by decide +kernel
theorem d_XV_leaveAllInDoubt_2 : decode b_XV_leaveAllInDoubt 2 = .ok (.iload_n 1, 1) := by decide +kernel
theorem d_XV_leaveAllInDoubt_3 : decode b_XV_leaveAllInDoubt 3 = .ok (.iconst 4, 1) := by decide +kernel
theorem d_XV_leaveAllInDoubt_4 : decode b_XV_leaveAllInDoubt 4 = .ok (.if_icmp .ge 30, 3) := by decide +kernel
theorem d_XV_leaveAllInDoubt_7 : decode b_XV_leaveAllInDoubt 7 = .ok (.aload_n 0, 1) := by decide +kernel
theorem d_XV_leaveAllInDoubt_8 : decode b_XV_leaveAllInDoubt 8 = .ok (.getfield 11, 3) := by decide +kernel
theorem d_XV_leaveAllInDoubt_11 : decode b_XV_leaveAllInDoubt 11 = .ok (.iload_n 1, 1) := by decide +kernel
theorem d_XV_leaveAllInDoubt_12 : decode b_XV_leaveAllInDoubt 12 = .ok (.aaload, 1) := by decide +kernel
theorem d_XV_leaveAllInDoubt_13 : decode b_XV_leaveAllInDoubt 13 = .ok (.ifnull 15, 3) := by decide +kernel
theorem d_XV_leaveAllInDoubt_16 : decode b_XV_leaveAllInDoubt 16 = .ok (.aload_n 0, 1) := by decide +kernel
theorem d_XV_leaveAllInDoubt_17 : decode b_XV_leaveAllInDoubt 17 = .ok (.aload_n 0, 1) := by decide +kernel
theorem d_XV_leaveAllInDoubt_18 : decode b_XV_leaveAllInDoubt 18 = .ok (.getfield 11, 3) := by decide +kernel
theorem d_XV_leaveAllInDoubt_21 : decode b_XV_leaveAllInDoubt 21 = .ok (.iload_n 1, 1) := by decide +kernel
theorem d_XV_leaveAllInDoubt_22 : decode b_XV_leaveAllInDoubt 22 = .ok (.aaload, 1) := by decide +kernel
theorem d_XV_leaveAllInDoubt_23 : decode b_XV_leaveAllInDoubt 23 = .ok (.bipush 6, 2) := by decide +kernel
theorem d_XV_leaveAllInDoubt_25 : decode b_XV_leaveAllInDoubt 25 = .ok (.invokevirtual 29, 3) := by decide +kernel
theorem d_XV_leaveAllInDoubt_28 : decode b_XV_leaveAllInDoubt 28 = .ok (.iinc 1 1, 3) := by decide +kernel
theorem d_XV_leaveAllInDoubt_31 : decode b_XV_leaveAllInDoubt 31 = .ok (.goto (-29), 3) := by decide +kernel
theorem d_XV_leaveAllInDoubt_34 : decode b_XV_leaveAllInDoubt 34 = .ok (.return_, 1) := by decide +kernel
theorem d_XV_hold_0 : decode b_XV_hold 0 = .ok (.aload_n 0, 1) := by decide +kernel
theorem d_XV_hold_1 : decode b_XV_hold 1 = .ok (.getfield 19, 3) := by decide +kernel
theorem d_XV_hold_4 : decode b_XV_hold 4 = .ok (.aload_n 1, 1) := by decide +kernel
theorem d_XV_hold_5 : decode b_XV_hold 5 = .ok (.getfield 22, 3) := by decide +kernel
theorem d_XV_hold_8 : decode b_XV_hold 8 = .ok (.aaload, 1) := by decide +kernel
theorem d_XV_hold_9 : decode b_XV_hold 9 = .ok (.aload_n 1, 1) := by decide +kernel
theorem d_XV_hold_10 : decode b_XV_hold 10 = .ok (.getfield 33, 3) := by decide +kernel
theorem d_XV_hold_13 : decode b_XV_hold 13 = .ok (.aload_n 0, 1) := by decide +kernel
theorem d_XV_hold_14 : decode b_XV_hold 14 = .ok (.getfield 19, 3) := by decide +kernel
theorem d_XV_hold_17 : decode b_XV_hold 17 = .ok (.aload_n 1, 1) := by decide +kernel
theorem d_XV_hold_18 : decode b_XV_hold 18 = .ok (.getfield 22, 3) := by decide +kernel
theorem d_XV_hold_21 : decode b_XV_hold 21 = .ok (.aaload, 1) := by decide +kernel
theorem d_XV_hold_22 : decode b_XV_hold 22 = .ok (.aload_n 1, 1) := by decide +kernel
theorem d_XV_hold_23 : decode b_XV_hold 23 = .ok (.getfield 33, 3) := by decide +kernel
theorem d_XV_hold_26 : decode b_XV_hold 26 = .ok (.iaload, 1) := by decide +kernel
theorem d_XV_hold_27 : decode b_XV_hold 27 = .ok (.aload_n 1, 1) := by decide +kernel
theorem d_XV_hold_28 : decode b_XV_hold 28 = .ok (.getfield 36, 3) := by decide +kernel
theorem d_XV_hold_31 : decode b_XV_hold 31 = .ok (.invokestatic 39, 3) := by decide +kernel
theorem d_XV_hold_34 : decode b_XV_hold 34 = .ok (.iastore, 1) := by decide +kernel
theorem d_XV_hold_35 : decode b_XV_hold 35 = .ok (.return_, 1) := by decide +kernel
theorem d_XV_isFit_0 : decode b_XV_isFit 0 = .ok (.aload_n 0, 1) := by decide +kernel
theorem d_XV_isFit_1 : decode b_XV_isFit 1 = .ok (.getfield 19, 3) := by decide +kernel
theorem d_XV_isFit_4 : decode b_XV_isFit 4 = .ok (.aload_n 1, 1) := by decide +kernel
theorem d_XV_isFit_5 : decode b_XV_isFit 5 = .ok (.getfield 22, 3) := by decide +kernel
theorem d_XV_isFit_8 : decode b_XV_isFit 8 = .ok (.aaload, 1) := by decide +kernel
theorem d_XV_isFit_9 : decode b_XV_isFit 9 = .ok (.aload_n 1, 1) := by decide +kernel
theorem d_XV_isFit_10 : decode b_XV_isFit 10 = .ok (.getfield 33, 3) := by decide +kernel
theorem d_XV_isFit_13 : decode b_XV_isFit 13 = .ok (.iaload, 1) := by decide +kernel
theorem d_XV_isFit_14 : decode b_XV_isFit 14 = .ok (.istore_n 2, 1) := by decide +kernel
theorem d_XV_isFit_15 : decode b_XV_isFit 15 = .ok (.iload_n 2, 1) := by decide +kernel
theorem d_XV_isFit_16 : decode b_XV_isFit 16 = .ok (.aload_n 1, 1) := by decide +kernel
theorem d_XV_isFit_17 : decode b_XV_isFit 17 = .ok (.getfield 36, 3) := by decide +kernel
theorem d_XV_isFit_20 : decode b_XV_isFit 20 = .ok (.if_icmp .ge 11, 3) := by decide +kernel
theorem d_XV_isFit_23 : decode b_XV_isFit 23 = .ok (.aload_n 0, 1) := by decide +kernel
theorem d_XV_isFit_24 : decode b_XV_isFit 24 = .ok (.aload_n 1, 1) := by decide +kernel
theorem d_XV_isFit_25 : decode b_XV_isFit 25 = .ok (.invokevirtual 45, 3) := by decide +kernel
theorem d_XV_isFit_28 : decode b_XV_isFit 28 = .ok (.ifCond .ne 7, 3) := by decide +kernel
theorem d_XV_isFit_31 : decode b_XV_isFit 31 = .ok (.iconst 1, 1) := by decide +kernel
theorem d_XV_isFit_32 : decode b_XV_isFit 32 = .ok (.goto 4, 3) := by decide +kernel
theorem d_XV_isFit_35 : decode b_XV_isFit 35 = .ok (.iconst 0, 1) := by decide +kernel
theorem d_XV_isFit_36 : decode b_XV_isFit 36 = .ok (.ireturn, 1) := by decide +kernel
theorem d_XV_obstacles_0 : decode b_XV_obstacles 0 = .ok (.aload_n 0, 1) := by decide +kernel
theorem d_XV_obstacles_1 : decode b_XV_obstacles 1 = .ok (.getfield 19, 3) := by decide +kernel
theorem d_XV_obstacles_4 : decode b_XV_obstacles 4 = .ok (.aload_n 1, 1) := by decide +kernel
theorem d_XV_obstacles_5 : decode b_XV_obstacles 5 = .ok (.getfield 22, 3) := by decide +kernel
theorem d_XV_obstacles_8 : decode b_XV_obstacles 8 = .ok (.aaload, 1) := by decide +kernel
theorem d_XV_obstacles_9 : decode b_XV_obstacles 9 = .ok (.aload_n 1, 1) := by decide +kernel
theorem d_XV_obstacles_10 : decode b_XV_obstacles 10 = .ok (.getfield 33, 3) := by decide +kernel
theorem d_XV_obstacles_13 : decode b_XV_obstacles 13 = .ok (.iaload, 1) := by decide +kernel
theorem d_XV_obstacles_14 : decode b_XV_obstacles 14 = .ok (.ifCond .ne 7, 3) := by decide +kernel
theorem d_XV_obstacles_17 : decode b_XV_obstacles 17 = .ok (.iconst 1, 1) := by decide +kernel
theorem d_XV_obstacles_18 : decode b_XV_obstacles 18 = .ok (.goto 4, 3) := by decide +kernel
theorem d_XV_obstacles_21 : decode b_XV_obstacles 21 = .ok (.iconst 0, 1) := by decide +kernel
theorem d_XV_obstacles_22 : decode b_XV_obstacles 22 = .ok (.istore_n 2, 1) := by decide +kernel
theorem d_XV_obstacles_23 : decode b_XV_obstacles 23 = .ok (.iconst 0, 1) := by decide +kernel
theorem d_XV_obstacles_24 : decode b_XV_obstacles 24 = .ok (.istore_n 3, 1) := by decide +kernel
theorem d_XV_obstacles_25 : decode b_XV_obstacles 25 = .ok (.iconst 0, 1) := by decide +kernel
theorem d_XV_obstacles_26 : decode b_XV_obstacles 26 = .ok (.istore 4, 2) := by decide +kernel
theorem d_XV_obstacles_28 : decode b_XV_obstacles 28 = .ok (.iload 4, 2) := by decide +kernel
theorem d_XV_obstacles_30 : decode b_XV_obstacles 30 = .ok (.iconst 4, 1) := by decide +kernel
theorem d_XV_obstacles_31 : decode b_XV_obstacles 31 = .ok (.if_icmp .ge 110, 3) := by decide +kernel
theorem d_XV_obstacles_34 : decode b_XV_obstacles 34 = .ok (.aload_n 0, 1) := by decide +kernel
theorem d_XV_obstacles_35 : decode b_XV_obstacles 35 = .ok (.getfield 11, 3) := by decide +kernel
theorem d_XV_obstacles_38 : decode b_XV_obstacles 38 = .ok (.iload 4, 2) := by decide +kernel
theorem d_XV_obstacles_40 : decode b_XV_obstacles 40 = .ok (.aaload, 1) := by decide +kernel
theorem d_XV_obstacles_41 : decode b_XV_obstacles 41 = .ok (.astore 5, 2) := by decide +kernel
theorem d_XV_obstacles_43 : decode b_XV_obstacles 43 = .ok (.aload 5, 2) := by decide +kernel
theorem d_XV_obstacles_45 : decode b_XV_obstacles 45 = .ok (.ifnull 90, 3) := by decide +kernel
theorem d_XV_obstacles_48 : decode b_XV_obstacles 48 = .ok (.aload 5, 2) := by decide +kernel
theorem d_XV_obstacles_50 : decode b_XV_obstacles 50 = .ok (.aload_n 1, 1) := by decide +kernel
theorem d_XV_obstacles_51 : decode b_XV_obstacles 51 = .ok (.if_acmp .ne 6, 3) := by decide +kernel
theorem d_XV_obstacles_54 : decode b_XV_obstacles 54 = .ok (.goto 81, 3) := by decide +kernel
theorem d_XV_obstacles_57 : decode b_XV_obstacles 57 = .ok (.aload 5, 2) := by decide +kernel
theorem d_XV_obstacles_59 : decode b_XV_obstacles 59 = .ok (.getfield 26, 3) := by decide +kernel
theorem d_XV_obstacles_62 : decode b_XV_obstacles 62 = .ok (.iconst 2, 1) := by decide +kernel
theorem d_XV_obstacles_63 : decode b_XV_obstacles 63 = .ok (.if_icmp .ne 31, 3) := by decide +kernel
theorem d_XV_obstacles_66 : decode b_XV_obstacles 66 = .ok (.aload 5, 2) := by decide +kernel
theorem d_XV_obstacles_68 : decode b_XV_obstacles 68 = .ok (.getfield 33, 3) := by decide +kernel
theorem d_XV_obstacles_71 : decode b_XV_obstacles 71 = .ok (.aload_n 1, 1) := by decide +kernel
theorem d_XV_obstacles_72 : decode b_XV_obstacles 72 = .ok (.getfield 33, 3) := by decide +kernel
theorem d_XV_obstacles_75 : decode b_XV_obstacles 75 = .ok (.if_icmp .ne 19, 3) := by decide +kernel
theorem d_XV_obstacles_78 : decode b_XV_obstacles 78 = .ok (.aload 5, 2) := by decide +kernel
theorem d_XV_obstacles_80 : decode b_XV_obstacles 80 = .ok (.getfield 49, 3) := by decide +kernel
theorem d_XV_obstacles_83 : decode b_XV_obstacles 83 = .ok (.aload_n 1, 1) := by decide +kernel
theorem d_XV_obstacles_84 : decode b_XV_obstacles 84 = .ok (.getfield 49, 3) := by decide +kernel
theorem d_XV_obstacles_87 : decode b_XV_obstacles 87 = .ok (.if_icmp .ge 7, 3) := by decide +kernel
theorem d_XV_obstacles_90 : decode b_XV_obstacles 90 = .ok (.iconst 1, 1) := by decide +kernel
theorem d_XV_obstacles_91 : decode b_XV_obstacles 91 = .ok (.goto 4, 3) := by decide +kernel
theorem d_XV_obstacles_94 : decode b_XV_obstacles 94 = .ok (.iconst 0, 1) := by decide +kernel
theorem d_XV_obstacles_95 : decode b_XV_obstacles 95 = .ok (.istore 6, 2) := by decide +kernel
theorem d_XV_obstacles_97 : decode b_XV_obstacles 97 = .ok (.aload_n 0, 1) := by decide +kernel
theorem d_XV_obstacles_98 : decode b_XV_obstacles 98 = .ok (.getfield 19, 3) := by decide +kernel
theorem d_XV_obstacles_101 : decode b_XV_obstacles 101 = .ok (.iload 4, 2) := by decide +kernel
theorem d_XV_obstacles_103 : decode b_XV_obstacles 103 = .ok (.aaload, 1) := by decide +kernel
theorem d_XV_obstacles_104 : decode b_XV_obstacles 104 = .ok (.aload_n 1, 1) := by decide +kernel
theorem d_XV_obstacles_105 : decode b_XV_obstacles 105 = .ok (.getfield 33, 3) := by decide +kernel
theorem d_XV_obstacles_108 : decode b_XV_obstacles 108 = .ok (.iaload, 1) := by decide +kernel
theorem d_XV_obstacles_109 : decode b_XV_obstacles 109 = .ok (.aload_n 1, 1) := by decide +kernel
theorem d_XV_obstacles_110 : decode b_XV_obstacles 110 = .ok (.getfield 36, 3) := by decide +kernel
theorem d_XV_obstacles_113 : decode b_XV_obstacles 113 = .ok (.invokestatic 52, 3) := by decide +kernel
theorem d_XV_obstacles_116 : decode b_XV_obstacles 116 = .ok (.ifCond .ne 12, 3) := by decide +kernel
theorem d_XV_obstacles_119 : decode b_XV_obstacles 119 = .ok (.iload_n 2, 1) := by decide +kernel
theorem d_XV_obstacles_120 : decode b_XV_obstacles 120 = .ok (.ifCond .eq 15, 3) := by decide +kernel
theorem d_XV_obstacles_123 : decode b_XV_obstacles 123 = .ok (.iload 6, 2) := by decide +kernel
theorem d_XV_obstacles_125 : decode b_XV_obstacles 125 = .ok (.ifCond .eq 10, 3) := by decide +kernel
theorem d_XV_obstacles_128 : decode b_XV_obstacles 128 = .ok (.iload_n 3, 1) := by decide +kernel
theorem d_XV_obstacles_129 : decode b_XV_obstacles 129 = .ok (.iconst 1, 1) := by decide +kernel
theorem d_XV_obstacles_130 : decode b_XV_obstacles 130 = .ok (.iload 4, 2) := by decide +kernel
theorem d_XV_obstacles_132 : decode b_XV_obstacles 132 = .ok (.ishl, 1) := by decide +kernel
theorem d_XV_obstacles_133 : decode b_XV_obstacles 133 = .ok (.ior, 1) := by decide +kernel
theorem d_XV_obstacles_134 : decode b_XV_obstacles 134 = .ok (.istore_n 3, 1) := by decide +kernel
theorem d_XV_obstacles_135 : decode b_XV_obstacles 135 = .ok (.iinc 4 1, 3) := by decide +kernel
theorem d_XV_obstacles_138 : decode b_XV_obstacles 138 = .ok (.goto (-110), 3) := by decide +kernel
theorem d_XV_obstacles_141 : decode b_XV_obstacles 141 = .ok (.iload_n 3, 1) := by decide +kernel
theorem d_XV_obstacles_142 : decode b_XV_obstacles 142 = .ok (.ireturn, 1) := by decide +kernel
theorem d_XV_conflicts_0 : decode b_XV_conflicts 0 = .ok (.iload_n 0, 1) := by decide +kernel
theorem d_XV_conflicts_1 : decode b_XV_conflicts 1 = .ok (.iconst 2, 1) := by decide +kernel
theorem d_XV_conflicts_2 : decode b_XV_conflicts 2 = .ok (.if_icmp .eq 13, 3) := by decide +kernel
theorem d_XV_conflicts_5 : decode b_XV_conflicts 5 = .ok (.iload_n 0, 1) := by decide +kernel
theorem d_XV_conflicts_6 : decode b_XV_conflicts 6 = .ok (.iconst 1, 1) := by decide +kernel
theorem d_XV_conflicts_7 : decode b_XV_conflicts 7 = .ok (.if_icmp .ne 12, 3) := by decide +kernel
theorem d_XV_conflicts_10 : decode b_XV_conflicts 10 = .ok (.iload_n 1, 1) := by decide +kernel
theorem d_XV_conflicts_11 : decode b_XV_conflicts 11 = .ok (.iconst 2, 1) := by decide +kernel
theorem d_XV_conflicts_12 : decode b_XV_conflicts 12 = .ok (.if_icmp .ne 7, 3) := by decide +kernel
theorem d_XV_conflicts_15 : decode b_XV_conflicts 15 = .ok (.iconst 1, 1) := by decide +kernel
theorem d_XV_conflicts_16 : decode b_XV_conflicts 16 = .ok (.goto 4, 3) := by decide +kernel
theorem d_XV_conflicts_19 : decode b_XV_conflicts 19 = .ok (.iconst 0, 1) := by decide +kernel
theorem d_XV_conflicts_20 : decode b_XV_conflicts 20 = .ok (.ireturn, 1) := by decide +kernel
theorem d_XV_waitsForItself_0 : decode b_XV_waitsForItself 0 = .ok (.aload_n 0, 1) := by decide +kernel
theorem d_XV_waitsForItself_1 : decode b_XV_waitsForItself 1 = .ok (.aload_n 1, 1) := by decide +kernel
theorem d_XV_waitsForItself_2 : decode b_XV_waitsForItself 2 = .ok (.invokevirtual 45, 3) := by decide +kernel
theorem d_XV_waitsForItself_5 : decode b_XV_waitsForItself 5 = .ok (.istore_n 2, 1) := by decide +kernel
theorem d_XV_waitsForItself_6 : decode b_XV_waitsForItself 6 = .ok (.iconst 1, 1) := by decide +kernel
theorem d_XV_waitsForItself_7 : decode b_XV_waitsForItself 7 = .ok (.istore_n 3, 1) := by decide +kernel
theorem d_XV_waitsForItself_8 : decode b_XV_waitsForItself 8 = .ok (.iload_n 3, 1) := by decide +kernel
theorem d_XV_waitsForItself_9 : decode b_XV_waitsForItself 9 = .ok (.iconst 4, 1) := by decide +kernel
theorem d_XV_waitsForItself_10 : decode b_XV_waitsForItself 10 = .ok (.if_icmp .ge 17, 3) := by decide +kernel
theorem d_XV_waitsForItself_13 : decode b_XV_waitsForItself 13 = .ok (.iload_n 2, 1) := by decide +kernel
theorem d_XV_waitsForItself_14 : decode b_XV_waitsForItself 14 = .ok (.aload_n 0, 1) := by decide +kernel
theorem d_XV_waitsForItself_15 : decode b_XV_waitsForItself 15 = .ok (.iload_n 2, 1) := by decide +kernel
theorem d_XV_waitsForItself_16 : decode b_XV_waitsForItself 16 = .ok (.invokevirtual 56, 3) := by decide +kernel
theorem d_XV_waitsForItself_19 : decode b_XV_waitsForItself 19 = .ok (.ior, 1) := by decide +kernel
theorem d_XV_waitsForItself_20 : decode b_XV_waitsForItself 20 = .ok (.istore_n 2, 1) := by decide +kernel
theorem d_XV_waitsForItself_21 : decode b_XV_waitsForItself 21 = .ok (.iinc 3 1, 3) := by decide +kernel
theorem d_XV_waitsForItself_24 : decode b_XV_waitsForItself 24 = .ok (.goto (-16), 3) := by decide +kernel
theorem d_XV_waitsForItself_27 : decode b_XV_waitsForItself 27 = .ok (.iload_n 2, 1) := by decide +kernel
theorem d_XV_waitsForItself_28 : decode b_XV_waitsForItself 28 = .ok (.aload_n 1, 1) := by decide +kernel
theorem d_XV_waitsForItself_29 : decode b_XV_waitsForItself 29 = .ok (.getfield 22, 3) := by decide +kernel
theorem d_XV_waitsForItself_32 : decode b_XV_waitsForItself 32 = .ok (.ishr, 1) := by decide +kernel
theorem d_XV_waitsForItself_33 : decode b_XV_waitsForItself 33 = .ok (.iconst 1, 1) := by decide +kernel
theorem d_XV_waitsForItself_34 : decode b_XV_waitsForItself 34 = .ok (.iand, 1) := by decide +kernel
theorem d_XV_waitsForItself_35 : decode b_XV_waitsForItself 35 = .ok (.iconst 1, 1) := by decide +kernel
theorem d_XV_waitsForItself_36 : decode b_XV_waitsForItself 36 = .ok (.if_icmp .ne 7, 3) := by decide +kernel
theorem d_XV_waitsForItself_39 : decode b_XV_waitsForItself 39 = .ok (.iconst 1, 1) := by decide +kernel
theorem d_XV_waitsForItself_40 : decode b_XV_waitsForItself 40 = .ok (.goto 4, 3) := by decide +kernel
theorem d_XV_waitsForItself_43 : decode b_XV_waitsForItself 43 = .ok (.iconst 0, 1) := by decide +kernel
theorem d_XV_waitsForItself_44 : decode b_XV_waitsForItself 44 = .ok (.ireturn, 1) := by decide +kernel
theorem d_XV_stepFrom_0 : decode b_XV_stepFrom 0 = .ok (.iconst 0, 1) := by decide +kernel
theorem d_XV_stepFrom_1 : decode b_XV_stepFrom 1 = .ok (.istore_n 2, 1) := by decide +kernel
theorem d_XV_stepFrom_2 : decode b_XV_stepFrom 2 = .ok (.iconst 0, 1) := by decide +kernel
theorem d_XV_stepFrom_3 : decode b_XV_stepFrom 3 = .ok (.istore_n 3, 1) := by decide +kernel
theorem d_XV_stepFrom_4 : decode b_XV_stepFrom 4 = .ok (.iload_n 3, 1) := by decide +kernel
theorem d_XV_stepFrom_5 : decode b_XV_stepFrom 5 = .ok (.iconst 4, 1) := by decide +kernel
theorem d_XV_stepFrom_6 : decode b_XV_stepFrom 6 = .ok (.if_icmp .ge 65, 3) := by decide +kernel
theorem d_XV_stepFrom_9 : decode b_XV_stepFrom 9 = .ok (.iload_n 1, 1) := by decide +kernel
theorem d_XV_stepFrom_10 : decode b_XV_stepFrom 10 = .ok (.iload_n 3, 1) := by decide +kernel
theorem d_XV_stepFrom_11 : decode b_XV_stepFrom 11 = .ok (.ishr, 1) := by decide +kernel
theorem d_XV_stepFrom_12 : decode b_XV_stepFrom 12 = .ok (.iconst 1, 1) := by decide +kernel
theorem d_XV_stepFrom_13 : decode b_XV_stepFrom 13 = .ok (.iand, 1) := by decide +kernel
theorem d_XV_stepFrom_14 : decode b_XV_stepFrom 14 = .ok (.iconst 1, 1) := by decide +kernel
theorem d_XV_stepFrom_15 : decode b_XV_stepFrom 15 = .ok (.if_icmp .ne 7, 3) := by decide +kernel
theorem d_XV_stepFrom_18 : decode b_XV_stepFrom 18 = .ok (.iconst 1, 1) := by decide +kernel
theorem d_XV_stepFrom_19 : decode b_XV_stepFrom 19 = .ok (.goto 4, 3) := by decide +kernel
theorem d_XV_stepFrom_22 : decode b_XV_stepFrom 22 = .ok (.iconst 0, 1) := by decide +kernel
theorem d_XV_stepFrom_23 : decode b_XV_stepFrom 23 = .ok (.istore 4, 2) := by decide +kernel
theorem d_XV_stepFrom_25 : decode b_XV_stepFrom 25 = .ok (.iload 4, 2) := by decide +kernel
theorem d_XV_stepFrom_27 : decode b_XV_stepFrom 27 = .ok (.ifCond .eq 38, 3) := by decide +kernel
theorem d_XV_stepFrom_30 : decode b_XV_stepFrom 30 = .ok (.aload_n 0, 1) := by decide +kernel
theorem d_XV_stepFrom_31 : decode b_XV_stepFrom 31 = .ok (.getfield 11, 3) := by decide +kernel
theorem d_XV_stepFrom_34 : decode b_XV_stepFrom 34 = .ok (.iload_n 3, 1) := by decide +kernel
theorem d_XV_stepFrom_35 : decode b_XV_stepFrom 35 = .ok (.aaload, 1) := by decide +kernel
theorem d_XV_stepFrom_36 : decode b_XV_stepFrom 36 = .ok (.ifnull 29, 3) := by decide +kernel
theorem d_XV_stepFrom_39 : decode b_XV_stepFrom 39 = .ok (.aload_n 0, 1) := by decide +kernel
theorem d_XV_stepFrom_40 : decode b_XV_stepFrom 40 = .ok (.getfield 11, 3) := by decide +kernel
theorem d_XV_stepFrom_43 : decode b_XV_stepFrom 43 = .ok (.iload_n 3, 1) := by decide +kernel
theorem d_XV_stepFrom_44 : decode b_XV_stepFrom 44 = .ok (.aaload, 1) := by decide +kernel
theorem d_XV_stepFrom_45 : decode b_XV_stepFrom 45 = .ok (.getfield 26, 3) := by decide +kernel
theorem d_XV_stepFrom_48 : decode b_XV_stepFrom 48 = .ok (.iconst 2, 1) := by decide +kernel
theorem d_XV_stepFrom_49 : decode b_XV_stepFrom 49 = .ok (.if_icmp .ne 16, 3) := by decide +kernel
theorem d_XV_stepFrom_52 : decode b_XV_stepFrom 52 = .ok (.iload_n 2, 1) := by decide +kernel
theorem d_XV_stepFrom_53 : decode b_XV_stepFrom 53 = .ok (.aload_n 0, 1) := by decide +kernel
theorem d_XV_stepFrom_54 : decode b_XV_stepFrom 54 = .ok (.aload_n 0, 1) := by decide +kernel
theorem d_XV_stepFrom_55 : decode b_XV_stepFrom 55 = .ok (.getfield 11, 3) := by decide +kernel
theorem d_XV_stepFrom_58 : decode b_XV_stepFrom 58 = .ok (.iload_n 3, 1) := by decide +kernel
theorem d_XV_stepFrom_59 : decode b_XV_stepFrom 59 = .ok (.aaload, 1) := by decide +kernel
theorem d_XV_stepFrom_60 : decode b_XV_stepFrom 60 = .ok (.invokevirtual 45, 3) := by decide +kernel
theorem d_XV_stepFrom_63 : decode b_XV_stepFrom 63 = .ok (.ior, 1) := by decide +kernel
theorem d_XV_stepFrom_64 : decode b_XV_stepFrom 64 = .ok (.istore_n 2, 1) := by decide +kernel
theorem d_XV_stepFrom_65 : decode b_XV_stepFrom 65 = .ok (.iinc 3 1, 3) := by decide +kernel
theorem d_XV_stepFrom_68 : decode b_XV_stepFrom 68 = .ok (.goto (-64), 3) := by decide +kernel
theorem d_XV_stepFrom_71 : decode b_XV_stepFrom 71 = .ok (.iload_n 2, 1) := by decide +kernel
theorem d_XV_stepFrom_72 : decode b_XV_stepFrom 72 = .ok (.ireturn, 1) := by decide +kernel
theorem d_XV_leastStableCommit_0 : decode b_XV_leastStableCommit 0 = .ok (.aconst_null, 1) := by decide +kernel
theorem d_XV_leastStableCommit_1 : decode b_XV_leastStableCommit 1 = .ok (.astore_n 2, 1) := by decide +kernel
theorem d_XV_leastStableCommit_2 : decode b_XV_leastStableCommit 2 = .ok (.iconst 0, 1) := by decide +kernel
theorem d_XV_leastStableCommit_3 : decode b_XV_leastStableCommit 3 = .ok (.istore_n 3, 1) := by decide +kernel
theorem d_XV_leastStableCommit_4 : decode b_XV_leastStableCommit 4 = .ok (.iload_n 3, 1) := by decide +kernel
theorem d_XV_leastStableCommit_5 : decode b_XV_leastStableCommit 5 = .ok (.iconst 4, 1) := by decide +kernel
theorem d_XV_leastStableCommit_6 : decode b_XV_leastStableCommit 6 = .ok (.if_icmp .ge 77, 3) := by decide +kernel
theorem d_XV_leastStableCommit_9 : decode b_XV_leastStableCommit 9 = .ok (.aload_n 0, 1) := by decide +kernel
theorem d_XV_leastStableCommit_10 : decode b_XV_leastStableCommit 10 = .ok (.getfield 11, 3) := by decide +kernel
theorem d_XV_leastStableCommit_13 : decode b_XV_leastStableCommit 13 = .ok (.iload_n 3, 1) := by decide +kernel
theorem d_XV_leastStableCommit_14 : decode b_XV_leastStableCommit 14 = .ok (.aaload, 1) := by decide +kernel
theorem d_XV_leastStableCommit_15 : decode b_XV_leastStableCommit 15 = .ok (.astore 4, 2) := by decide +kernel
theorem d_XV_leastStableCommit_17 : decode b_XV_leastStableCommit 17 = .ok (.aload 4, 2) := by decide +kernel
theorem d_XV_leastStableCommit_19 : decode b_XV_leastStableCommit 19 = .ok (.ifnull 58, 3) := by decide +kernel
theorem d_XV_leastStableCommit_22 : decode b_XV_leastStableCommit 22 = .ok (.aload 4, 2) := by decide +kernel
theorem d_XV_leastStableCommit_24 : decode b_XV_leastStableCommit 24 = .ok (.getfield 26, 3) := by decide +kernel
theorem d_XV_leastStableCommit_27 : decode b_XV_leastStableCommit 27 = .ok (.iconst 3, 1) := by decide +kernel
theorem d_XV_leastStableCommit_28 : decode b_XV_leastStableCommit 28 = .ok (.if_icmp .ne 49, 3) := by decide +kernel
theorem d_XV_leastStableCommit_31 : decode b_XV_leastStableCommit 31 = .ok (.aload_n 1, 1) := by decide +kernel
theorem d_XV_leastStableCommit_32 : decode b_XV_leastStableCommit 32 = .ok (.getfield 60, 3) := by decide +kernel
theorem d_XV_leastStableCommit_35 : decode b_XV_leastStableCommit 35 = .ok (.aload 4, 2) := by decide +kernel
theorem d_XV_leastStableCommit_37 : decode b_XV_leastStableCommit 37 = .ok (.getfield 66, 3) := by decide +kernel
theorem d_XV_leastStableCommit_40 : decode b_XV_leastStableCommit 40 = .ok (.iaload, 1) := by decide +kernel
theorem d_XV_leastStableCommit_41 : decode b_XV_leastStableCommit 41 = .ok (.aload_n 1, 1) := by decide +kernel
theorem d_XV_leastStableCommit_42 : decode b_XV_leastStableCommit 42 = .ok (.getfield 69, 3) := by decide +kernel
theorem d_XV_leastStableCommit_45 : decode b_XV_leastStableCommit 45 = .ok (.if_icmp .gt 32, 3) := by decide +kernel
theorem d_XV_leastStableCommit_48 : decode b_XV_leastStableCommit 48 = .ok (.aload_n 2, 1) := by decide +kernel
theorem d_XV_leastStableCommit_49 : decode b_XV_leastStableCommit 49 = .ok (.ifnull 25, 3) := by decide +kernel
theorem d_XV_leastStableCommit_52 : decode b_XV_leastStableCommit 52 = .ok (.aload_n 1, 1) := by decide +kernel
theorem d_XV_leastStableCommit_53 : decode b_XV_leastStableCommit 53 = .ok (.getfield 60, 3) := by decide +kernel
theorem d_XV_leastStableCommit_56 : decode b_XV_leastStableCommit 56 = .ok (.aload 4, 2) := by decide +kernel
theorem d_XV_leastStableCommit_58 : decode b_XV_leastStableCommit 58 = .ok (.getfield 66, 3) := by decide +kernel
theorem d_XV_leastStableCommit_61 : decode b_XV_leastStableCommit 61 = .ok (.iaload, 1) := by decide +kernel
theorem d_XV_leastStableCommit_62 : decode b_XV_leastStableCommit 62 = .ok (.aload_n 1, 1) := by decide +kernel
theorem d_XV_leastStableCommit_63 : decode b_XV_leastStableCommit 63 = .ok (.getfield 60, 3) := by decide +kernel
theorem d_XV_leastStableCommit_66 : decode b_XV_leastStableCommit 66 = .ok (.aload_n 2, 1) := by decide +kernel
theorem d_XV_leastStableCommit_67 : decode b_XV_leastStableCommit 67 = .ok (.getfield 66, 3) := by decide +kernel
theorem d_XV_leastStableCommit_70 : decode b_XV_leastStableCommit 70 = .ok (.iaload, 1) := by decide +kernel
theorem d_XV_leastStableCommit_71 : decode b_XV_leastStableCommit 71 = .ok (.if_icmp .ge 6, 3) := by decide +kernel
theorem d_XV_leastStableCommit_74 : decode b_XV_leastStableCommit 74 = .ok (.aload 4, 2) := by decide +kernel
theorem d_XV_leastStableCommit_76 : decode b_XV_leastStableCommit 76 = .ok (.astore_n 2, 1) := by decide +kernel
theorem d_XV_leastStableCommit_77 : decode b_XV_leastStableCommit 77 = .ok (.iinc 3 1, 3) := by decide +kernel
theorem d_XV_leastStableCommit_80 : decode b_XV_leastStableCommit 80 = .ok (.goto (-76), 3) := by decide +kernel
theorem d_XV_leastStableCommit_83 : decode b_XV_leastStableCommit 83 = .ok (.aload_n 2, 1) := by decide +kernel
theorem d_XV_leastStableCommit_84 : decode b_XV_leastStableCommit 84 = .ok (.areturn, 1) := by decide +kernel
theorem d_XV_firstFitWaiting_0 : decode b_XV_firstFitWaiting 0 = .ok (.aconst_null, 1) := by decide +kernel
theorem d_XV_firstFitWaiting_1 : decode b_XV_firstFitWaiting 1 = .ok (.astore_n 1, 1) := by decide +kernel
theorem d_XV_firstFitWaiting_2 : decode b_XV_firstFitWaiting 2 = .ok (.iconst 0, 1) := by decide +kernel
theorem d_XV_firstFitWaiting_3 : decode b_XV_firstFitWaiting 3 = .ok (.istore_n 2, 1) := by decide +kernel
theorem d_XV_firstFitWaiting_4 : decode b_XV_firstFitWaiting 4 = .ok (.iload_n 2, 1) := by decide +kernel
theorem d_XV_firstFitWaiting_5 : decode b_XV_firstFitWaiting 5 = .ok (.iconst 4, 1) := by decide +kernel
theorem d_XV_firstFitWaiting_6 : decode b_XV_firstFitWaiting 6 = .ok (.if_icmp .ge 53, 3) := by decide +kernel
theorem d_XV_firstFitWaiting_9 : decode b_XV_firstFitWaiting 9 = .ok (.aload_n 0, 1) := by decide +kernel
theorem d_XV_firstFitWaiting_10 : decode b_XV_firstFitWaiting 10 = .ok (.getfield 11, 3) := by decide +kernel
theorem d_XV_firstFitWaiting_13 : decode b_XV_firstFitWaiting 13 = .ok (.iload_n 2, 1) := by decide +kernel
theorem d_XV_firstFitWaiting_14 : decode b_XV_firstFitWaiting 14 = .ok (.aaload, 1) := by decide +kernel
theorem d_XV_firstFitWaiting_15 : decode b_XV_firstFitWaiting 15 = .ok (.astore_n 3, 1) := by decide +kernel
theorem d_XV_firstFitWaiting_16 : decode b_XV_firstFitWaiting 16 = .ok (.aload_n 3, 1) := by decide +kernel
theorem d_XV_firstFitWaiting_17 : decode b_XV_firstFitWaiting 17 = .ok (.ifnull 36, 3) := by decide +kernel
theorem d_XV_firstFitWaiting_20 : decode b_XV_firstFitWaiting 20 = .ok (.aload_n 3, 1) := by decide +kernel
theorem d_XV_firstFitWaiting_21 : decode b_XV_firstFitWaiting 21 = .ok (.getfield 26, 3) := by decide +kernel
theorem d_XV_firstFitWaiting_24 : decode b_XV_firstFitWaiting 24 = .ok (.iconst 2, 1) := by decide +kernel
theorem d_XV_firstFitWaiting_25 : decode b_XV_firstFitWaiting 25 = .ok (.if_icmp .ne 28, 3) := by decide +kernel
theorem d_XV_firstFitWaiting_28 : decode b_XV_firstFitWaiting 28 = .ok (.aload_n 1, 1) := by decide +kernel
theorem d_XV_firstFitWaiting_29 : decode b_XV_firstFitWaiting 29 = .ok (.ifnull 14, 3) := by decide +kernel
theorem d_XV_firstFitWaiting_32 : decode b_XV_firstFitWaiting 32 = .ok (.aload_n 3, 1) := by decide +kernel
theorem d_XV_firstFitWaiting_33 : decode b_XV_firstFitWaiting 33 = .ok (.getfield 49, 3) := by decide +kernel
theorem d_XV_firstFitWaiting_36 : decode b_XV_firstFitWaiting 36 = .ok (.aload_n 1, 1) := by decide +kernel
theorem d_XV_firstFitWaiting_37 : decode b_XV_firstFitWaiting 37 = .ok (.getfield 49, 3) := by decide +kernel
theorem d_XV_firstFitWaiting_40 : decode b_XV_firstFitWaiting 40 = .ok (.if_icmp .ge 13, 3) := by decide +kernel
theorem d_XV_firstFitWaiting_43 : decode b_XV_firstFitWaiting 43 = .ok (.aload_n 0, 1) := by decide +kernel
theorem d_XV_firstFitWaiting_44 : decode b_XV_firstFitWaiting 44 = .ok (.aload_n 3, 1) := by decide +kernel
theorem d_XV_firstFitWaiting_45 : decode b_XV_firstFitWaiting 45 = .ok (.invokevirtual 72, 3) := by decide +kernel
theorem d_XV_firstFitWaiting_48 : decode b_XV_firstFitWaiting 48 = .ok (.ifCond .eq 5, 3) := by decide +kernel
theorem d_XV_firstFitWaiting_51 : decode b_XV_firstFitWaiting 51 = .ok (.aload_n 3, 1) := by decide +kernel
theorem d_XV_firstFitWaiting_52 : decode b_XV_firstFitWaiting 52 = .ok (.astore_n 1, 1) := by decide +kernel
theorem d_XV_firstFitWaiting_53 : decode b_XV_firstFitWaiting 53 = .ok (.iinc 2 1, 3) := by decide +kernel
theorem d_XV_firstFitWaiting_56 : decode b_XV_firstFitWaiting 56 = .ok (.goto (-52), 3) := by decide +kernel
theorem d_XV_firstFitWaiting_59 : decode b_XV_firstFitWaiting 59 = .ok (.aload_n 1, 1) := by decide +kernel
theorem d_XV_firstFitWaiting_60 : decode b_XV_firstFitWaiting 60 = .ok (.areturn, 1) := by decide +kernel

