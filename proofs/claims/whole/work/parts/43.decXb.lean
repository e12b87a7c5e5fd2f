theorem d_XP_init_0 : decode b_XP_init 0 = .ok (.aload_n 0, 1) := by decide +kernel
theorem d_XP_init_1 : decode b_XP_init 1 = .ok (.invokespecial 3, 3) := by decide +kernel
theorem d_XP_init_4 : decode b_XP_init 4 = .ok (.aload_n 0, 1) := by decide +kernel
theorem d_XP_init_5 : decode b_XP_init 5 = .ok (.bipush 6, 2) := by decide +kernel
theorem d_XP_init_7 : decode b_XP_init 7 = .ok (.anewarray 9, 3) := by decide +kernel
theorem d_XP_init_10 : decode b_XP_init 10 = .ok (.putfield 11, 3) := by decide +kernel
theorem d_XP_init_13 : decode b_XP_init 13 = .ok (.aload_n 0, 1) := by decide +kernel
theorem d_XP_init_14 : decode b_XP_init 14 = .ok (.bipush 6, 2) := by decide +kernel
theorem d_XP_init_16 : decode b_XP_init 16 = .ok (.anewarray 9, 3) := by decide +kernel
theorem d_XP_init_19 : decode b_XP_init 19 = .ok (.putfield 17, 3) := by decide +kernel
theorem d_XP_init_22 : decode b_XP_init 22 = .ok (.aload_n 0, 1) := by decide +kernel
theorem d_XP_init_23 : decode b_XP_init 23 = .ok (.bipush 6, 2) := by decide +kernel
theorem d_XP_init_25 : decode b_XP_init 25 = .ok (.newarray .boolean, 2) := by decide +kernel
theorem d_XP_init_27 : decode b_XP_init 27 = .ok (.putfield 20, 3) := by decide +kernel
theorem d_XP_init_30 : decode b_XP_init 30 = .ok (.aload_n 0, 1) := by decide +kernel
theorem d_XP_init_31 : decode b_XP_init 31 = .ok (.bipush 6, 2) := by decide +kernel
theorem d_XP_init_33 : decode b_XP_init 33 = .ok (.newarray .int, 2) := by decide +kernel
theorem d_XP_init_35 : decode b_XP_init 35 = .ok (.putfield 24, 3) := by decide +kernel
theorem d_XP_init_38 : decode b_XP_init 38 = .ok (.aload_n 0, 1) := by decide +kernel
theorem d_XP_init_39 : decode b_XP_init 39 = .ok (.bipush 6, 2) := by decide +kernel
theorem d_XP_init_41 : decode b_XP_init 41 = .ok (.newarray .int, 2) := by decide +kernel
theorem d_XP_init_43 : decode b_XP_init 43 = .ok (.putfield 28, 3) := by decide +kernel
theorem d_XP_init_46 : decode b_XP_init 46 = .ok (.aload_n 0, 1) := by decide +kernel
theorem d_XP_init_47 : decode b_XP_init 47 = .ok (.aload_n 1, 1) := by decide +kernel
theorem d_XP_init_48 : decode b_XP_init 48 = .ok (.putfield 31, 3) := by decide +kernel
theorem d_XP_init_51 : decode b_XP_init 51 = .ok (.iconst 0, 1) := by decide +kernel
theorem d_XP_init_52 : decode b_XP_init 52 = .ok (.istore_n 2, 1) := by decide +kernel
theorem d_XP_init_53 : decode b_XP_init 53 = .ok (.iload_n 2, 1) := by decide +kernel
theorem d_XP_init_54 : decode b_XP_init 54 = .ok (.bipush 6, 2) := by decide +kernel
theorem d_XP_init_56 : decode b_XP_init 56 = .ok (.if_icmp .ge 35, 3) := by decide +kernel
theorem d_XP_init_59 : decode b_XP_init 59 = .ok (.aload_n 0, 1) := by decide +kernel
theorem d_XP_init_60 : decode b_XP_init 60 = .ok (.getfield 11, 3) := by decide +kernel
theorem d_XP_init_63 : decode b_XP_init 63 = .ok (.iload_n 2, 1) := by decide +kernel
theorem d_XP_init_64 : decode b_XP_init 64 = .ok (.new 9, 3) := by decide +kernel
theorem d_XP_init_67 : decode b_XP_init 67 = .ok (.dup, 1) := by decide +kernel
theorem d_XP_init_68 : decode b_XP_init 68 = .ok (.invokespecial 35, 3) := by decide +kernel
theorem d_XP_init_71 : decode b_XP_init 71 = .ok (.aastore, 1) := by decide +kernel
theorem d_XP_init_72 : decode b_XP_init 72 = .ok (.aload_n 0, 1) := by decide +kernel
theorem d_XP_init_73 : decode b_XP_init 73 = .ok (.getfield 17, 3) := by decide +kernel
theorem d_XP_init_76 : decode b_XP_init 76 = .ok (.iload_n 2, 1) := by decide +kernel
theorem d_XP_init_77 : decode b_XP_init 77 = .ok (.new 9, 3) := by decide +kernel
theorem d_XP_init_80 : decode b_XP_init 80 = .ok (.dup, 1) := by decide +kernel
theorem d_XP_init_81 : decode b_XP_init 81 = .ok (.invokespecial 35, 3) := by decide +kernel
theorem d_XP_init_84 : decode b_XP_init 84 = .ok (.aastore, 1) := by decide +kernel
theorem d_XP_init_85 : decode b_XP_init 85 = .ok (.iinc 2 1, 3) := by decide +kernel
theorem d_XP_init_88 : decode b_XP_init 88 = .ok (.goto (-35), 3) := by decide +kernel
theorem d_XP_init_91 : decode b_XP_init 91 = .ok (.return_, 1) := by decide +kernel
theorem d_XP_isDirty_0 : decode b_XP_isDirty 0 = .ok (.aload_n 0, 1) := by decide +kernel
theorem d_XP_isDirty_1 : decode b_XP_isDirty 1 = .ok (.getfield 24, 3) := by decide +kernel
theorem d_XP_isDirty_4 : decode b_XP_isDirty 4 = .ok (.iload_n 1, 1) := by decide +kernel
theorem d_XP_isDirty_5 : decode b_XP_isDirty 5 = .ok (.iaload, 1) := by decide +kernel
theorem d_XP_isDirty_6 : decode b_XP_isDirty 6 = .ok (.ifCond .eq 7, 3) := by decide +kernel
theorem d_XP_isDirty_9 : decode b_XP_isDirty 9 = .ok (.iconst 1, 1) := by decide +kernel
theorem d_XP_isDirty_10 : decode b_XP_isDirty 10 = .ok (.goto 4, 3) := by decide +kernel
theorem d_XP_isDirty_13 : decode b_XP_isDirty 13 = .ok (.iconst 0, 1) := by decide +kernel
theorem d_XP_isDirty_14 : decode b_XP_isDirty 14 = .ok (.ireturn, 1) := by decide +kernel
theorem d_XP_writeOut_0 : decode b_XP_writeOut 0 = .ok (.aload_n 0, 1) := by decide +kernel
theorem d_XP_writeOut_1 : decode b_XP_writeOut 1 = .ok (.getfield 31, 3) := by decide +kernel
theorem d_XP_writeOut_4 : decode b_XP_writeOut 4 = .ok (.aload_n 0, 1) := by decide +kernel
theorem d_XP_writeOut_5 : decode b_XP_writeOut 5 = .ok (.getfield 17, 3) := by decide +kernel
theorem d_XP_writeOut_8 : decode b_XP_writeOut 8 = .ok (.iload_n 1, 1) := by decide +kernel
theorem d_XP_writeOut_9 : decode b_XP_writeOut 9 = .ok (.aaload, 1) := by decide +kernel
theorem d_XP_writeOut_10 : decode b_XP_writeOut 10 = .ok (.getfield 36, 3) := by decide +kernel
theorem d_XP_writeOut_13 : decode b_XP_writeOut 13 = .ok (.invokevirtual 40, 3) := by decide +kernel
theorem d_XP_writeOut_16 : decode b_XP_writeOut 16 = .ok (.aload_n 0, 1) := by decide +kernel
theorem d_XP_writeOut_17 : decode b_XP_writeOut 17 = .ok (.getfield 11, 3) := by decide +kernel
theorem d_XP_writeOut_20 : decode b_XP_writeOut 20 = .ok (.iload_n 1, 1) := by decide +kernel
theorem d_XP_writeOut_21 : decode b_XP_writeOut 21 = .ok (.aaload, 1) := by decide +kernel
theorem d_XP_writeOut_22 : decode b_XP_writeOut 22 = .ok (.aload_n 0, 1) := by decide +kernel
theorem d_XP_writeOut_23 : decode b_XP_writeOut 23 = .ok (.getfield 17, 3) := by decide +kernel
theorem d_XP_writeOut_26 : decode b_XP_writeOut 26 = .ok (.iload_n 1, 1) := by decide +kernel
theorem d_XP_writeOut_27 : decode b_XP_writeOut 27 = .ok (.aaload, 1) := by decide +kernel
theorem d_XP_writeOut_28 : decode b_XP_writeOut 28 = .ok (.invokevirtual 46, 3) := by decide +kernel
theorem d_XP_writeOut_31 : decode b_XP_writeOut 31 = .ok (.aload_n 0, 1) := by decide +kernel
theorem d_XP_writeOut_32 : decode b_XP_writeOut 32 = .ok (.getfield 24, 3) := by decide +kernel
theorem d_XP_writeOut_35 : decode b_XP_writeOut 35 = .ok (.iload_n 1, 1) := by decide +kernel
theorem d_XP_writeOut_36 : decode b_XP_writeOut 36 = .ok (.iconst 0, 1) := by decide +kernel
theorem d_XP_writeOut_37 : decode b_XP_writeOut 37 = .ok (.iastore, 1) := by decide +kernel
theorem d_XP_writeOut_38 : decode b_XP_writeOut 38 = .ok (.aload_n 0, 1) := by decide +kernel
theorem d_XP_writeOut_39 : decode b_XP_writeOut 39 = .ok (.dup, 1) := by decide +kernel
theorem d_XP_writeOut_40 : decode b_XP_writeOut 40 = .ok (.getfield 50, 3) := by decide +kernel
theorem d_XP_writeOut_43 : decode b_XP_writeOut 43 = .ok (.iconst 1, 1) := by decide +kernel
theorem d_XP_writeOut_44 : decode b_XP_writeOut 44 = .ok (.iadd, 1) := by decide +kernel
theorem d_XP_writeOut_45 : decode b_XP_writeOut 45 = .ok (.putfield 50, 3) := by decide +kernel
theorem d_XP_writeOut_48 : decode b_XP_writeOut 48 = .ok (.return_, 1) := by decide +kernel
theorem d_XP_fetch_0 : decode b_XP_fetch 0 = .ok (.aload_n 0, 1) := by decide +kernel
theorem d_XP_fetch_1 : decode b_XP_fetch 1 = .ok (.getfield 20, 3) := by decide +kernel
theorem d_XP_fetch_4 : decode b_XP_fetch 4 = .ok (.iload_n 1, 1) := by decide +kernel
theorem d_XP_fetch_5 : decode b_XP_fetch 5 = .ok (.baload, 1) := by decide +kernel
theorem d_XP_fetch_6 : decode b_XP_fetch 6 = .ok (.ifCond .ne 65, 3) := by decide +kernel
theorem d_XP_fetch_9 : decode b_XP_fetch 9 = .ok (.aload_n 0, 1) := by decide +kernel
theorem d_XP_fetch_10 : decode b_XP_fetch 10 = .ok (.invokevirtual 53, 3) := by decide +kernel
theorem d_XP_fetch_13 : decode b_XP_fetch 13 = .ok (.istore_n 2, 1) := by decide +kernel
theorem d_XP_fetch_14 : decode b_XP_fetch 14 = .ok (.iload_n 2, 1) := by decide +kernel
theorem d_XP_fetch_15 : decode b_XP_fetch 15 = .ok (.iconst (-1), 1) := by decide +kernel
theorem d_XP_fetch_16 : decode b_XP_fetch 16 = .ok (.if_icmp .eq 23, 3) := by decide +kernel
theorem d_XP_fetch_19 : decode b_XP_fetch 19 = .ok (.aload_n 0, 1) := by decide +kernel
theorem d_XP_fetch_20 : decode b_XP_fetch 20 = .ok (.iload_n 2, 1) := by decide +kernel
theorem d_XP_fetch_21 : decode b_XP_fetch 21 = .ok (.invokevirtual 57, 3) := by decide +kernel
theorem d_XP_fetch_24 : decode b_XP_fetch 24 = .ok (.ifCond .eq 8, 3) := by decide +kernel
theorem d_XP_fetch_27 : decode b_XP_fetch 27 = .ok (.aload_n 0, 1) := by decide +kernel
theorem d_XP_fetch_28 : decode b_XP_fetch 28 = .ok (.iload_n 2, 1) := by decide +kernel
theorem d_XP_fetch_29 : decode b_XP_fetch 29 = .ok (.invokevirtual 61, 3) := by decide +kernel
theorem d_XP_fetch_32 : decode b_XP_fetch 32 = .ok (.aload_n 0, 1) := by decide +kernel
theorem d_XP_fetch_33 : decode b_XP_fetch 33 = .ok (.getfield 20, 3) := by decide +kernel
theorem d_XP_fetch_36 : decode b_XP_fetch 36 = .ok (.iload_n 2, 1) := by decide +kernel
theorem d_XP_fetch_37 : decode b_XP_fetch 37 = .ok (.iconst 0, 1) := by decide +kernel
theorem d_XP_fetch_38 : decode b_XP_fetch 38 = .ok (.bastore, 1) := by decide +kernel
theorem d_XP_fetch_39 : decode b_XP_fetch 39 = .ok (.aload_n 0, 1) := by decide +kernel
theorem d_XP_fetch_40 : decode b_XP_fetch 40 = .ok (.getfield 17, 3) := by decide +kernel
theorem d_XP_fetch_43 : decode b_XP_fetch 43 = .ok (.iload_n 1, 1) := by decide +kernel
theorem d_XP_fetch_44 : decode b_XP_fetch 44 = .ok (.aaload, 1) := by decide +kernel
theorem d_XP_fetch_45 : decode b_XP_fetch 45 = .ok (.aload_n 0, 1) := by decide +kernel
theorem d_XP_fetch_46 : decode b_XP_fetch 46 = .ok (.getfield 11, 3) := by decide +kernel
theorem d_XP_fetch_49 : decode b_XP_fetch 49 = .ok (.iload_n 1, 1) := by decide +kernel
theorem d_XP_fetch_50 : decode b_XP_fetch 50 = .ok (.aaload, 1) := by decide +kernel
theorem d_XP_fetch_51 : decode b_XP_fetch 51 = .ok (.invokevirtual 46, 3) := by decide +kernel
theorem d_XP_fetch_54 : decode b_XP_fetch 54 = .ok (.aload_n 0, 1) := by decide +kernel
theorem d_XP_fetch_55 : decode b_XP_fetch 55 = .ok (.getfield 20, 3) := by decide +kernel
theorem d_XP_fetch_58 : decode b_XP_fetch 58 = .ok (.iload_n 1, 1) := by decide +kernel
theorem d_XP_fetch_59 : decode b_XP_fetch 59 = .ok (.iconst 1, 1) := by decide +kernel
theorem d_XP_fetch_60 : decode b_XP_fetch 60 = .ok (.bastore, 1) := by decide +kernel
theorem d_XP_fetch_61 : decode b_XP_fetch 61 = .ok (.aload_n 0, 1) := by decide +kernel
theorem d_XP_fetch_62 : decode b_XP_fetch 62 = .ok (.dup, 1) := by decide +kernel
theorem d_XP_fetch_63 : decode b_XP_fetch 63 = .ok (.getfield 64, 3) := by decide +kernel
theorem d_XP_fetch_66 : decode b_XP_fetch 66 = .ok (.iconst 1, 1) := by decide +kernel
theorem d_XP_fetch_67 : decode b_XP_fetch 67 = .ok (.iadd, 1) := by decide +kernel
theorem d_XP_fetch_68 : decode b_XP_fetch 68 = .ok (.putfield 64, 3) := by decide +kernel
theorem d_XP_fetch_71 : decode b_XP_fetch 71 = .ok (.aload_n 0, 1) := by decide +kernel
theorem d_XP_fetch_72 : decode b_XP_fetch 72 = .ok (.dup, 1) := by decide +kernel
theorem d_XP_fetch_73 : decode b_XP_fetch 73 = .ok (.getfield 67, 3) := by decide +kernel
theorem d_XP_fetch_76 : decode b_XP_fetch 76 = .ok (.iconst 1, 1) := by decide +kernel
theorem d_XP_fetch_77 : decode b_XP_fetch 77 = .ok (.iadd, 1) := by decide +kernel
theorem d_XP_fetch_78 : decode b_XP_fetch 78 = .ok (.putfield 67, 3) := by decide +kernel
theorem d_XP_fetch_81 : decode b_XP_fetch 81 = .ok (.aload_n 0, 1) := by decide +kernel
theorem d_XP_fetch_82 : decode b_XP_fetch 82 = .ok (.getfield 28, 3) := by decide +kernel
theorem d_XP_fetch_85 : decode b_XP_fetch 85 = .ok (.iload_n 1, 1) := by decide +kernel
theorem d_XP_fetch_86 : decode b_XP_fetch 86 = .ok (.aload_n 0, 1) := by decide +kernel
theorem d_XP_fetch_87 : decode b_XP_fetch 87 = .ok (.getfield 67, 3) := by decide +kernel
theorem d_XP_fetch_90 : decode b_XP_fetch 90 = .ok (.iastore, 1) := by decide +kernel
theorem d_XP_fetch_91 : decode b_XP_fetch 91 = .ok (.return_, 1) := by decide +kernel
theorem d_XP_pageToLeave_0 : decode b_XP_pageToLeave 0 = .ok (.iconst 0, 1) := by decide +kernel
theorem d_XP_pageToLeave_1 : decode b_XP_pageToLeave 1 = .ok (.istore_n 1, 1) := by decide +kernel
theorem d_XP_pageToLeave_2 : decode b_XP_pageToLeave 2 = .ok (.iconst (-1), 1) := by decide +kernel
theorem d_XP_pageToLeave_3 : decode b_XP_pageToLeave 3 = .ok (.istore_n 2, 1) := by decide +kernel
theorem d_XP_pageToLeave_4 : decode b_XP_pageToLeave 4 = .ok (.iconst 0, 1) := by decide +kernel
theorem d_XP_pageToLeave_5 : decode b_XP_pageToLeave 5 = .ok (.istore_n 3, 1) := by decide +kernel
theorem d_XP_pageToLeave_6 : decode b_XP_pageToLeave 6 = .ok (.iload_n 3, 1) := by decide +kernel
theorem d_XP_pageToLeave_7 : decode b_XP_pageToLeave 7 = .ok (.bipush 6, 2) := by decide +kernel
theorem d_XP_pageToLeave_9 : decode b_XP_pageToLeave 9 = .ok (.if_icmp .ge 43, 3) := by decide +kernel
theorem d_XP_pageToLeave_12 : decode b_XP_pageToLeave 12 = .ok (.aload_n 0, 1) := by decide +kernel
theorem d_XP_pageToLeave_13 : decode b_XP_pageToLeave 13 = .ok (.getfield 20, 3) := by decide +kernel
theorem d_XP_pageToLeave_16 : decode b_XP_pageToLeave 16 = .ok (.iload_n 3, 1) := by decide +kernel
theorem d_XP_pageToLeave_17 : decode b_XP_pageToLeave 17 = .ok (.baload, 1) := by decide +kernel
theorem d_XP_pageToLeave_18 : decode b_XP_pageToLeave 18 = .ok (.ifCond .eq 28, 3) := by decide +kernel
theorem d_XP_pageToLeave_21 : decode b_XP_pageToLeave 21 = .ok (.iinc 1 1, 3) := by decide +kernel
theorem d_XP_pageToLeave_24 : decode b_XP_pageToLeave 24 = .ok (.iload_n 2, 1) := by decide +kernel
theorem d_XP_pageToLeave_25 : decode b_XP_pageToLeave 25 = .ok (.iconst (-1), 1) := by decide +kernel
theorem d_XP_pageToLeave_26 : decode b_XP_pageToLeave 26 = .ok (.if_icmp .eq 18, 3) := by decide +kernel
theorem d_XP_pageToLeave_29 : decode b_XP_pageToLeave 29 = .ok (.aload_n 0, 1) := by decide +kernel
theorem d_XP_pageToLeave_30 : decode b_XP_pageToLeave 30 = .ok (.getfield 28, 3) := by decide +kernel
theorem d_XP_pageToLeave_33 : decode b_XP_pageToLeave 33 = .ok (.iload_n 3, 1) := by decide +kernel
theorem d_XP_pageToLeave_34 : decode b_XP_pageToLeave 34 = .ok (.iaload, 1) := by decide +kernel
theorem d_XP_pageToLeave_35 : decode b_XP_pageToLeave 35 = .ok (.aload_n 0, 1) := by decide +kernel
theorem d_XP_pageToLeave_36 : decode b_XP_pageToLeave 36 = .ok (.getfield 28, 3) := by decide +kernel
theorem d_XP_pageToLeave_39 : decode b_XP_pageToLeave 39 = .ok (.iload_n 2, 1) := by decide +kernel
theorem d_XP_pageToLeave_40 : decode b_XP_pageToLeave 40 = .ok (.iaload, 1) := by decide +kernel
theorem d_XP_pageToLeave_41 : decode b_XP_pageToLeave 41 = .ok (.if_icmp .ge 5, 3) := by decide +kernel
theorem d_XP_pageToLeave_44 : decode b_XP_pageToLeave 44 = .ok (.iload_n 3, 1) := by decide +kernel
theorem d_XP_pageToLeave_45 : decode b_XP_pageToLeave 45 = .ok (.istore_n 2, 1) := by decide +kernel
theorem d_XP_pageToLeave_46 : decode b_XP_pageToLeave 46 = .ok (.iinc 3 1, 3) := by decide +kernel
theorem d_XP_pageToLeave_49 : decode b_XP_pageToLeave 49 = .ok (.goto (-43), 3) := by decide +kernel
theorem d_XP_pageToLeave_52 : decode b_XP_pageToLeave 52 = .ok (.iload_n 1, 1) := by decide +kernel
theorem d_XP_pageToLeave_53 : decode b_XP_pageToLeave 53 = .ok (.iconst 3, 1) := by decide +kernel
theorem d_XP_pageToLeave_54 : decode b_XP_pageToLeave 54 = .ok (.if_icmp .ge 7, 3) := by decide +kernel
theorem d_XP_pageToLeave_57 : decode b_XP_pageToLeave 57 = .ok (.iconst (-1), 1) := by decide +kernel
theorem d_XP_pageToLeave_58 : decode b_XP_pageToLeave 58 = .ok (.goto 4, 3) := by decide +kernel
theorem d_XP_pageToLeave_61 : decode b_XP_pageToLeave 61 = .ok (.iload_n 2, 1) := by decide +kernel
theorem d_XP_pageToLeave_62 : decode b_XP_pageToLeave 62 = .ok (.ireturn, 1) := by decide +kernel
theorem d_XP_empty_0 : decode b_XP_empty 0 = .ok (.iconst 0, 1) := by decide +kernel
theorem d_XP_empty_1 : decode b_XP_empty 1 = .ok (.istore_n 1, 1) := by decide +kernel
theorem d_XP_empty_2 : decode b_XP_empty 2 = .ok (.iload_n 1, 1) := by decide +kernel
theorem d_XP_empty_3 : decode b_XP_empty 3 = .ok (.bipush 6, 2) := by decide +kernel
theorem d_XP_empty_5 : decode b_XP_empty 5 = .ok (.if_icmp .ge 23, 3) := by decide +kernel
theorem d_XP_empty_8 : decode b_XP_empty 8 = .ok (.aload_n 0, 1) := by decide +kernel
theorem d_XP_empty_9 : decode b_XP_empty 9 = .ok (.getfield 20, 3) := by decide +kernel
theorem d_XP_empty_12 : decode b_XP_empty 12 = .ok (.iload_n 1, 1) := by decide +kernel
theorem d_XP_empty_13 : decode b_XP_empty 13 = .ok (.iconst 0, 1) := by decide +kernel
theorem d_XP_empty_14 : decode b_XP_empty 14 = .ok (.bastore, 1) := by decide +kernel
theorem d_XP_empty_15 : decode b_XP_empty 15 = .ok (.aload_n 0, 1) := by decide +kernel
theorem d_XP_empty_16 : decode b_XP_empty 16 = .ok (.getfield 24, 3) := by decide +kernel
theorem d_XP_empty_19 : decode b_XP_empty 19 = .ok (.iload_n 1, 1) := by decide +kernel
theorem d_XP_empty_20 : decode b_XP_empty 20 = .ok (.iconst 0, 1) := by decide +kernel
theorem d_XP_empty_21 : decode b_XP_empty 21 = .ok (.iastore, 1) := by decide +kernel
theorem d_XP_empty_22 : decode b_XP_empty 22 = .ok (.iinc 1 1, 3) := by decide +kernel
theorem d_XP_empty_25 : decode b_XP_empty 25 = .ok (.goto (-23), 3) := by decide +kernel
theorem d_XP_empty_28 : decode b_XP_empty 28 = .ok (.return_, 1) := by decide +kernel
theorem d_XP_seen_0 : decode b_XP_seen 0 = .ok (.aload_n 0, 1) := by decide +kernel
theorem d_XP_seen_1 : decode b_XP_seen 1 = .ok (.getfield 20, 3) := by decide +kernel
theorem d_XP_seen_4 : decode b_XP_seen 4 = .ok (.iload_n 1, 1) := by decide +kernel
theorem d_XP_seen_5 : decode b_XP_seen 5 = .ok (.baload, 1) := by decide +kernel
theorem d_XP_seen_6 : decode b_XP_seen 6 = .ok (.ifCond .eq 12, 3) := by decide +kernel
theorem d_XP_seen_9 : decode b_XP_seen 9 = .ok (.aload_n 0, 1) := by decide +kernel
theorem d_XP_seen_10 : decode b_XP_seen 10 = .ok (.getfield 17, 3) := by decide +kernel
theorem d_XP_seen_13 : decode b_XP_seen 13 = .ok (.iload_n 1, 1) := by decide +kernel
theorem d_XP_seen_14 : decode b_XP_seen 14 = .ok (.aaload, 1) := by decide +kernel
theorem d_XP_seen_15 : decode b_XP_seen 15 = .ok (.goto 9, 3) := by decide +kernel
theorem d_XP_seen_18 : decode b_XP_seen 18 = .ok (.aload_n 0, 1) := by decide +kernel
theorem d_XP_seen_19 : decode b_XP_seen 19 = .ok (.getfield 11, 3) := by decide +kernel
theorem d_XP_seen_22 : decode b_XP_seen 22 = .ok (.iload_n 1, 1) := by decide +kernel
theorem d_XP_seen_23 : decode b_XP_seen 23 = .ok (.aaload, 1) := by decide +kernel
theorem d_XP_seen_24 : decode b_XP_seen 24 = .ok (.areturn, 1) := by decide +kernel
theorem d_XP_keyAt_0 : decode b_XP_keyAt 0 = .ok (.aload_n 0, 1) := by decide +kernel
theorem d_XP_keyAt_1 : decode b_XP_keyAt 1 = .ok (.iload_n 1, 1) := by decide +kernel
theorem d_XP_keyAt_2 : decode b_XP_keyAt 2 = .ok (.iconst 4, 1) := by decide +kernel
theorem d_XP_keyAt_3 : decode b_XP_keyAt 3 = .ok (.idiv, 1) := by decide +kernel
theorem d_XP_keyAt_4 : decode b_XP_keyAt 4 = .ok (.invokevirtual 70, 3) := by decide +kernel
theorem d_XP_keyAt_7 : decode b_XP_keyAt 7 = .ok (.getfield 74, 3) := by decide +kernel
theorem d_XP_keyAt_10 : decode b_XP_keyAt 10 = .ok (.iload_n 1, 1) := by decide +kernel
theorem d_XP_keyAt_11 : decode b_XP_keyAt 11 = .ok (.iconst 4, 1) := by decide +kernel
theorem d_XP_keyAt_12 : decode b_XP_keyAt 12 = .ok (.irem, 1) := by decide +kernel
theorem d_XP_keyAt_13 : decode b_XP_keyAt 13 = .ok (.iaload, 1) := by decide +kernel
theorem d_XP_keyAt_14 : decode b_XP_keyAt 14 = .ok (.ireturn, 1) := by decide +kernel
theorem d_XP_valueAt_0 : decode b_XP_valueAt 0 = .ok (.aload_n 0, 1) := by decide +kernel
theorem d_XP_valueAt_1 : decode b_XP_valueAt 1 = .ok (.iload_n 1, 1) := by decide +kernel
theorem d_XP_valueAt_2 : decode b_XP_valueAt 2 = .ok (.iconst 4, 1) := by decide +kernel
theorem d_XP_valueAt_3 : decode b_XP_valueAt 3 = .ok (.idiv, 1) := by decide +kernel
theorem d_XP_valueAt_4 : decode b_XP_valueAt 4 = .ok (.invokevirtual 70, 3) := by decide +kernel
theorem d_XP_valueAt_7 : decode b_XP_valueAt 7 = .ok (.getfield 77, 3) := by decide +kernel
theorem d_XP_valueAt_10 : decode b_XP_valueAt 10 = .ok (.iload_n 1, 1) := by decide +kernel
theorem d_XP_valueAt_11 : decode b_XP_valueAt 11 = .ok (.iconst 4, 1) := by decide +kernel
theorem d_XP_valueAt_12 : decode b_XP_valueAt 12 = .ok (.irem, 1) := by decide +kernel
theorem d_XP_valueAt_13 : decode b_XP_valueAt 13 = .ok (.iaload, 1) := by decide +kernel
theorem d_XP_valueAt_14 : decode b_XP_valueAt 14 = .ok (.ireturn, 1) := by decide +kernel
theorem d_XP_placeOf_0 : decode b_XP_placeOf 0 = .ok (.iconst 0, 1) := by decide +kernel
theorem d_XP_placeOf_1 : decode b_XP_placeOf 1 = .ok (.istore_n 2, 1) := by decide +kernel
theorem d_XP_placeOf_2 : decode b_XP_placeOf 2 = .ok (.iload_n 2, 1) := by decide +kernel
theorem d_XP_placeOf_3 : decode b_XP_placeOf 3 = .ok (.bipush 24, 2) := by decide +kernel
theorem d_XP_placeOf_5 : decode b_XP_placeOf 5 = .ok (.if_icmp .ge 20, 3) := by decide +kernel
theorem d_XP_placeOf_8 : decode b_XP_placeOf 8 = .ok (.aload_n 0, 1) := by decide +kernel
theorem d_XP_placeOf_9 : decode b_XP_placeOf 9 = .ok (.iload_n 2, 1) := by decide +kernel
theorem d_XP_placeOf_10 : decode b_XP_placeOf 10 = .ok (.invokevirtual 80, 3) := by decide +kernel
theorem d_XP_placeOf_13 : decode b_XP_placeOf 13 = .ok (.iload_n 1, 1) := by decide +kernel
theorem d_XP_placeOf_14 : decode b_XP_placeOf 14 = .ok (.if_icmp .ne 5, 3) := by decide +kernel
theorem d_XP_placeOf_17 : decode b_XP_placeOf 17 = .ok (.iload_n 2, 1) := by decide +kernel
theorem d_XP_placeOf_18 : decode b_XP_placeOf 18 = .ok (.ireturn, 1) := by decide +kernel
theorem d_XP_placeOf_19 : decode b_XP_placeOf 19 = .ok (.iinc 2 1, 3) := by decide +kernel
theorem d_XP_placeOf_22 : decode b_XP_placeOf 22 = .ok (.goto (-20), 3) := by decide +kernel
theorem d_XP_placeOf_25 : decode b_XP_placeOf 25 = .ok (.iconst (-1), 1) := by decide +kernel
theorem d_XP_placeOf_26 : decode b_XP_placeOf 26 = .ok (.ireturn, 1) := by decide +kernel
theorem d_XP_leastKeyAbove_0 : decode b_XP_leastKeyAbove 0 = .ok (.iconst (-1), 1) := by decide +kernel
theorem d_XP_leastKeyAbove_1 : decode b_XP_leastKeyAbove 1 = .ok (.istore_n 2, 1) := by decide +kernel
theorem d_XP_leastKeyAbove_2 : decode b_XP_leastKeyAbove 2 = .ok (.iconst 0, 1) := by decide +kernel
theorem d_XP_leastKeyAbove_3 : decode b_XP_leastKeyAbove 3 = .ok (.istore_n 3, 1) := by decide +kernel
theorem d_XP_leastKeyAbove_4 : decode b_XP_leastKeyAbove 4 = .ok (.iload_n 3, 1) := by decide +kernel
theorem d_XP_leastKeyAbove_5 : decode b_XP_leastKeyAbove 5 = .ok (.bipush 24, 2) := by decide +kernel
theorem d_XP_leastKeyAbove_7 : decode b_XP_leastKeyAbove 7 = .ok (.if_icmp .ge 42, 3) := by decide +kernel
theorem d_XP_leastKeyAbove_10 : decode b_XP_leastKeyAbove 10 = .ok (.aload_n 0, 1) := by decide +kernel
theorem d_XP_leastKeyAbove_11 : decode b_XP_leastKeyAbove 11 = .ok (.iload_n 3, 1) := by decide +kernel
theorem d_XP_leastKeyAbove_12 : decode b_XP_leastKeyAbove 12 = .ok (.invokevirtual 80, 3) := by decide +kernel
theorem d_XP_leastKeyAbove_15 : decode b_XP_leastKeyAbove 15 = .ok (.istore 4, 2) := by decide +kernel
theorem d_XP_leastKeyAbove_17 : decode b_XP_leastKeyAbove 17 = .ok (.iload 4, 2) := by decide +kernel
theorem d_XP_leastKeyAbove_19 : decode b_XP_leastKeyAbove 19 = .ok (.iconst (-1), 1) := by decide +kernel
theorem d_XP_leastKeyAbove_20 : decode b_XP_leastKeyAbove 20 = .ok (.if_icmp .eq 23, 3) := by decide +kernel
theorem d_XP_leastKeyAbove_23 : decode b_XP_leastKeyAbove 23 = .ok (.iload 4, 2) := by decide +kernel
theorem d_XP_leastKeyAbove_25 : decode b_XP_leastKeyAbove 25 = .ok (.iload_n 1, 1) := by decide +kernel
theorem d_XP_leastKeyAbove_26 : decode b_XP_leastKeyAbove 26 = .ok (.if_icmp .le 17, 3) := by decide +kernel
theorem d_XP_leastKeyAbove_29 : decode b_XP_leastKeyAbove 29 = .ok (.iload_n 2, 1) := by decide +kernel
theorem d_XP_leastKeyAbove_30 : decode b_XP_leastKeyAbove 30 = .ok (.iconst (-1), 1) := by decide +kernel
theorem d_XP_leastKeyAbove_31 : decode b_XP_leastKeyAbove 31 = .ok (.if_icmp .eq 9, 3) := by decide +kernel
theorem d_XP_leastKeyAbove_34 : decode b_XP_leastKeyAbove 34 = .ok (.iload 4, 2) := by decide +kernel
theorem d_XP_leastKeyAbove_36 : decode b_XP_leastKeyAbove 36 = .ok (.iload_n 2, 1) := by decide +kernel
theorem d_XP_leastKeyAbove_37 : decode b_XP_leastKeyAbove 37 = .ok (.if_icmp .ge 6, 3) := by decide +kernel
theorem d_XP_leastKeyAbove_40 : decode b_XP_leastKeyAbove 40 = .ok (.iload 4, 2) := by decide +kernel
theorem d_XP_leastKeyAbove_42 : decode b_XP_leastKeyAbove 42 = .ok (.istore_n 2, 1) := by decide +kernel
theorem d_XP_leastKeyAbove_43 : decode b_XP_leastKeyAbove 43 = .ok (.iinc 3 1, 3) := by decide +kernel
theorem d_XP_leastKeyAbove_46 : decode b_XP_leastKeyAbove 46 = .ok (.goto (-42), 3) := by decide +kernel
theorem d_XP_leastKeyAbove_49 : decode b_XP_leastKeyAbove 49 = .ok (.iload_n 2, 1) := by decide +kernel
theorem d_XP_leastKeyAbove_50 : decode b_XP_leastKeyAbove 50 = .ok (.ireturn, 1) := by decide +kernel
theorem d_XP_takeBack_0 : decode b_XP_takeBack 0 = .ok (.aload_n 0, 1) := by decide +kernel
theorem d_XP_takeBack_1 : decode b_XP_takeBack 1 = .ok (.aload_n 0, 1) := by decide +kernel
theorem d_XP_takeBack_2 : decode b_XP_takeBack 2 = .ok (.getfield 31, 3) := by decide +kernel
theorem d_XP_takeBack_5 : decode b_XP_takeBack 5 = .ok (.getfield 84, 3) := by decide +kernel
theorem d_XP_takeBack_8 : decode b_XP_takeBack 8 = .ok (.iload_n 1, 1) := by decide +kernel
theorem d_XP_takeBack_9 : decode b_XP_takeBack 9 = .ok (.iaload, 1) := by decide +kernel
theorem d_XP_takeBack_10 : decode b_XP_takeBack 10 = .ok (.iconst 4, 1) := by decide +kernel
theorem d_XP_takeBack_11 : decode b_XP_takeBack 11 = .ok (.idiv, 1) := by decide +kernel
theorem d_XP_takeBack_12 : decode b_XP_takeBack 12 = .ok (.invokevirtual 87, 3) := by decide +kernel
theorem d_XP_takeBack_15 : decode b_XP_takeBack 15 = .ok (.aload_n 0, 1) := by decide +kernel
theorem d_XP_takeBack_16 : decode b_XP_takeBack 16 = .ok (.aload_n 0, 1) := by decide +kernel
theorem d_XP_takeBack_17 : decode b_XP_takeBack 17 = .ok (.getfield 31, 3) := by decide +kernel
theorem d_XP_takeBack_20 : decode b_XP_takeBack 20 = .ok (.iload_n 1, 1) := by decide +kernel
theorem d_XP_takeBack_21 : decode b_XP_takeBack 21 = .ok (.invokevirtual 90, 3) := by decide +kernel
theorem d_XP_takeBack_24 : decode b_XP_takeBack 24 = .ok (.invokevirtual 93, 3) := by decide +kernel
theorem d_XP_takeBack_27 : decode b_XP_takeBack 27 = .ok (.return_, 1) := by decide +kernel
theorem d_XP_redo_0 : decode b_XP_redo 0 = .ok (.aload_n 0, 1) := by decide +kernel
theorem d_XP_redo_1 : decode b_XP_redo 1 = .ok (.getfield 31, 3) := by decide +kernel
theorem d_XP_redo_4 : decode b_XP_redo 4 = .ok (.getfield 84, 3) := by decide +kernel
theorem d_XP_redo_7 : decode b_XP_redo 7 = .ok (.iload_n 1, 1) := by decide +kernel
theorem d_XP_redo_8 : decode b_XP_redo 8 = .ok (.iaload, 1) := by decide +kernel
theorem d_XP_redo_9 : decode b_XP_redo 9 = .ok (.iconst 4, 1) := by decide +kernel
theorem d_XP_redo_10 : decode b_XP_redo 10 = .ok (.idiv, 1) := by decide +kernel
theorem d_XP_redo_11 : decode b_XP_redo 11 = .ok (.istore_n 2, 1) := by decide +kernel
theorem d_XP_redo_12 : decode b_XP_redo 12 = .ok (.aload_n 0, 1) := by decide +kernel
theorem d_XP_redo_13 : decode b_XP_redo 13 = .ok (.iload_n 2, 1) := by decide +kernel
theorem d_XP_redo_14 : decode b_XP_redo 14 = .ok (.invokevirtual 87, 3) := by decide +kernel
theorem d_XP_redo_17 : decode b_XP_redo 17 = .ok (.aload_n 0, 1) := by decide +kernel
theorem d_XP_redo_18 : decode b_XP_redo 18 = .ok (.getfield 17, 3) := by decide +kernel
theorem d_XP_redo_21 : decode b_XP_redo 21 = .ok (.iload_n 2, 1) := by decide +kernel
theorem d_XP_redo_22 : decode b_XP_redo 22 = .ok (.aaload, 1) := by decide +kernel
theorem d_XP_redo_23 : decode b_XP_redo 23 = .ok (.getfield 36, 3) := by decide +kernel
theorem d_XP_redo_26 : decode b_XP_redo 26 = .ok (.iload_n 1, 1) := by decide +kernel
theorem d_XP_redo_27 : decode b_XP_redo 27 = .ok (.if_icmp .ge 8, 3) := by decide +kernel
theorem d_XP_redo_30 : decode b_XP_redo 30 = .ok (.aload_n 0, 1) := by decide +kernel
theorem d_XP_redo_31 : decode b_XP_redo 31 = .ok (.iload_n 1, 1) := by decide +kernel
theorem d_XP_redo_32 : decode b_XP_redo 32 = .ok (.invokevirtual 93, 3) := by decide +kernel
theorem d_XP_redo_35 : decode b_XP_redo 35 = .ok (.return_, 1) := by decide +kernel
theorem d_XP_apply_0 : decode b_XP_apply 0 = .ok (.aload_n 0, 1) := by decide +kernel
theorem d_XP_apply_1 : decode b_XP_apply 1 = .ok (.getfield 31, 3) := by decide +kernel
theorem d_XP_apply_4 : decode b_XP_apply 4 = .ok (.getfield 84, 3) := by decide +kernel
theorem d_XP_apply_7 : decode b_XP_apply 7 = .ok (.iload_n 1, 1) := by decide +kernel
theorem d_XP_apply_8 : decode b_XP_apply 8 = .ok (.iaload, 1) := by decide +kernel
theorem d_XP_apply_9 : decode b_XP_apply 9 = .ok (.iconst 4, 1) := by decide +kernel
theorem d_XP_apply_10 : decode b_XP_apply 10 = .ok (.idiv, 1) := by decide +kernel
theorem d_XP_apply_11 : decode b_XP_apply 11 = .ok (.istore_n 2, 1) := by decide +kernel
theorem d_XP_apply_12 : decode b_XP_apply 12 = .ok (.aload_n 0, 1) := by decide +kernel
theorem d_XP_apply_13 : decode b_XP_apply 13 = .ok (.getfield 31, 3) := by decide +kernel
theorem d_XP_apply_16 : decode b_XP_apply 16 = .ok (.getfield 84, 3) := by decide +kernel
theorem d_XP_apply_19 : decode b_XP_apply 19 = .ok (.iload_n 1, 1) := by decide +kernel
theorem d_XP_apply_20 : decode b_XP_apply 20 = .ok (.iaload, 1) := by decide +kernel
theorem d_XP_apply_21 : decode b_XP_apply 21 = .ok (.iconst 4, 1) := by decide +kernel
theorem d_XP_apply_22 : decode b_XP_apply 22 = .ok (.irem, 1) := by decide +kernel
theorem d_XP_apply_23 : decode b_XP_apply 23 = .ok (.istore_n 3, 1) := by decide +kernel
theorem d_XP_apply_24 : decode b_XP_apply 24 = .ok (.aload_n 0, 1) := by decide +kernel
theorem d_XP_apply_25 : decode b_XP_apply 25 = .ok (.getfield 17, 3) := by decide +kernel
theorem d_XP_apply_28 : decode b_XP_apply 28 = .ok (.iload_n 2, 1) := by decide +kernel
theorem d_XP_apply_29 : decode b_XP_apply 29 = .ok (.aaload, 1) := by decide +kernel
theorem d_XP_apply_30 : decode b_XP_apply 30 = .ok (.getfield 74, 3) := by decide +kernel
theorem d_XP_apply_33 : decode b_XP_apply 33 = .ok (.iload_n 3, 1) := by decide +kernel
theorem d_XP_apply_34 : decode b_XP_apply 34 = .ok (.aload_n 0, 1) := by decide +kernel
theorem d_XP_apply_35 : decode b_XP_apply 35 = .ok (.getfield 31, 3) := by decide +kernel
theorem d_XP_apply_38 : decode b_XP_apply 38 = .ok (.getfield 96, 3) := by decide +kernel
theorem d_XP_apply_41 : decode b_XP_apply 41 = .ok (.iload_n 1, 1) := by decide +kernel
theorem d_XP_apply_42 : decode b_XP_apply 42 = .ok (.iaload, 1) := by decide +kernel
theorem d_XP_apply_43 : decode b_XP_apply 43 = .ok (.iastore, 1) := by decide +kernel
theorem d_XP_apply_44 : decode b_XP_apply 44 = .ok (.aload_n 0, 1) := by decide +kernel
theorem d_XP_apply_45 : decode b_XP_apply 45 = .ok (.getfield 17, 3) := by decide +kernel
theorem d_XP_apply_48 : decode b_XP_apply 48 = .ok (.iload_n 2, 1) := by decide +kernel
theorem d_XP_apply_49 : decode b_XP_apply 49 = .ok (.aaload, 1) := by decide +kernel
theorem d_XP_apply_50 : decode b_XP_apply 50 = .ok (.getfield 77, 3) := by decide +kernel
theorem d_XP_apply_53 : decode b_XP_apply 53 = .ok (.iload_n 3, 1) := by decide +kernel
theorem d_XP_apply_54 : decode b_XP_apply 54 = .ok (.aload_n 0, 1) := by decide +kernel
theorem d_XP_apply_55 : decode b_XP_apply 55 = .ok (.getfield 31, 3) := by decide +kernel
theorem d_XP_apply_58 : decode b_XP_apply 58 = .ok (.getfield 99, 3) := by decide +kernel
theorem d_XP_apply_61 : decode b_XP_apply 61 = .ok (.iload_n 1, 1) := by decide +kernel
theorem d_XP_apply_62 : decode b_XP_apply 62 = .ok (.iaload, 1) := by decide +kernel
theorem d_XP_apply_63 : decode b_XP_apply 63 = .ok (.iastore, 1) := by decide +kernel
theorem d_XP_apply_64 : decode b_XP_apply 64 = .ok (.aload_n 0, 1) := by decide +kernel
theorem d_XP_apply_65 : decode b_XP_apply 65 = .ok (.getfield 17, 3) := by decide +kernel
theorem d_XP_apply_68 : decode b_XP_apply 68 = .ok (.iload_n 2, 1) := by decide +kernel
theorem d_XP_apply_69 : decode b_XP_apply 69 = .ok (.aaload, 1) := by decide +kernel
theorem d_XP_apply_70 : decode b_XP_apply 70 = .ok (.iload_n 1, 1) := by decide +kernel
theorem d_XP_apply_71 : decode b_XP_apply 71 = .ok (.putfield 36, 3) := by decide +kernel
theorem d_XP_apply_74 : decode b_XP_apply 74 = .ok (.aload_n 0, 1) := by decide +kernel
theorem d_XP_apply_75 : decode b_XP_apply 75 = .ok (.iload_n 2, 1) := by decide +kernel
theorem d_XP_apply_76 : decode b_XP_apply 76 = .ok (.invokevirtual 57, 3) := by decide +kernel
theorem d_XP_apply_79 : decode b_XP_apply 79 = .ok (.ifCond .ne 10, 3) := by decide +kernel
theorem d_XP_apply_82 : decode b_XP_apply 82 = .ok (.aload_n 0, 1) := by decide +kernel
theorem d_XP_apply_83 : decode b_XP_apply 83 = .ok (.getfield 24, 3) := by decide +kernel
theorem d_XP_apply_86 : decode b_XP_apply 86 = .ok (.iload_n 2, 1) := by decide +kernel
theorem d_XP_apply_87 : decode b_XP_apply 87 = .ok (.iload_n 1, 1) := by decide +kernel
theorem d_XP_apply_88 : decode b_XP_apply 88 = .ok (.iastore, 1) := by decide +kernel
theorem d_XP_apply_89 : decode b_XP_apply 89 = .ok (.return_, 1) := by decide +kernel
theorem d_XR_init_0 : decode b_XR_init 0 = .ok (.aload_n 0, 1) := by decide +kernel
theorem d_XR_init_1 : decode b_XR_init 1 = .ok (.invokespecial 3, 3) := by decide +kernel
theorem d_XR_init_4 : decode b_XR_init 4 = .ok (.aload_n 0, 1) := by decide +kernel
theorem d_XR_init_5 : decode b_XR_init 5 = .ok (.bipush 6, 2) := by decide +kernel
theorem d_XR_init_7 : decode b_XR_init 7 = .ok (.newarray .int, 2) := by decide +kernel
theorem d_XR_init_9 : decode b_XR_init 9 = .ok (.putfield 9, 3) := by decide +kernel
theorem d_XR_init_12 : decode b_XR_init 12 = .ok (.aload_n 0, 1) := by decide +kernel
theorem d_XR_init_13 : decode b_XR_init 13 = .ok (.aload_n 1, 1) := by decide +kernel
theorem d_XR_init_14 : decode b_XR_init 14 = .ok (.putfield 15, 3) := by decide +kernel
theorem d_XR_init_17 : decode b_XR_init 17 = .ok (.aload_n 0, 1) := by decide +kernel
theorem d_XR_init_18 : decode b_XR_init 18 = .ok (.aload_n 2, 1) := by decide +kernel
theorem d_XR_init_19 : decode b_XR_init 19 = .ok (.putfield 19, 3) := by decide +kernel
theorem d_XR_init_22 : decode b_XR_init 22 = .ok (.return_, 1) := by decide +kernel
theorem d_XR_startAnew_0 : decode b_XR_startAnew 0 = .ok (.aload_n 0, 1) := by decide +kernel
theorem d_XR_startAnew_1 : decode b_XR_startAnew 1 = .ok (.iconst 0, 1) := by decide +kernel
theorem d_XR_startAnew_2 : decode b_XR_startAnew 2 = .ok (.putfield 23, 3) := by decide +kernel
theorem d_XR_startAnew_5 : decode b_XR_startAnew 5 = .ok (.return_, 1) := by decide +kernel
theorem d_XR_isFinished_0 : decode b_XR_isFinished 0 = .ok (.aload_n 0, 1) := by decide +kernel
theorem d_XR_isFinished_1 : decode b_XR_isFinished 1 = .ok (.getfield 23, 3) := by decide +kernel
theorem d_XR_isFinished_4 : decode b_XR_isFinished 4 = .ok (.ifCond .eq 28, 3) := by decide +kernel
theorem d_XR_isFinished_7 : decode b_XR_isFinished 7 = .ok (.aload_n 0, 1) := by decide +kernel
theorem d_XR_isFinished_8 : decode b_XR_isFinished 8 = .ok (.getfield 27, 3) := by decide +kernel
theorem d_XR_isFinished_11 : decode b_XR_isFinished 11 = .ok (.aload_n 0, 1) := by decide +kernel
theorem d_XR_isFinished_12 : decode b_XR_isFinished 12 = .ok (.getfield 31, 3) := by decide +kernel
theorem d_XR_isFinished_15 : decode b_XR_isFinished 15 = .ok (.if_icmp .le 17, 3) := by decide +kernel
theorem d_XR_isFinished_18 : decode b_XR_isFinished 18 = .ok (.aload_n 0, 1) := by decide +kernel
theorem d_XR_isFinished_19 : decode b_XR_isFinished 19 = .ok (.getfield 15, 3) := by decide +kernel
theorem d_XR_isFinished_22 : decode b_XR_isFinished 22 = .ok (.invokevirtual 34, 3) := by decide +kernel
theorem d_XR_isFinished_25 : decode b_XR_isFinished 25 = .ok (.ifCond .ne 7, 3) := by decide +kernel
theorem d_XR_isFinished_28 : decode b_XR_isFinished 28 = .ok (.iconst 1, 1) := by decide +kernel
theorem d_XR_isFinished_29 : decode b_XR_isFinished 29 = .ok (.goto 4, 3) := by decide +kernel
theorem d_XR_isFinished_32 : decode b_XR_isFinished 32 = .ok (.iconst 0, 1) := by decide +kernel
theorem d_XR_isFinished_33 : decode b_XR_isFinished 33 = .ok (.ireturn, 1) := by decide +kernel
theorem d_XR_makeUnit_0 : decode b_XR_makeUnit 0 = .ok (.aload_n 0, 1) := by decide +kernel
theorem d_XR_makeUnit_1 : decode b_XR_makeUnit 1 = .ok (.getfield 23, 3) := by decide +kernel
theorem d_XR_makeUnit_4 : decode b_XR_makeUnit 4 = .ok (.ifCond .ne 10, 3) := by decide +kernel
theorem d_XR_makeUnit_7 : decode b_XR_makeUnit 7 = .ok (.aload_n 0, 1) := by decide +kernel
theorem d_XR_makeUnit_8 : decode b_XR_makeUnit 8 = .ok (.invokevirtual 40, 3) := by decide +kernel
theorem d_XR_makeUnit_11 : decode b_XR_makeUnit 11 = .ok (.goto 25, 3) := by decide +kernel
theorem d_XR_makeUnit_14 : decode b_XR_makeUnit 14 = .ok (.aload_n 0, 1) := by decide +kernel
theorem d_XR_makeUnit_15 : decode b_XR_makeUnit 15 = .ok (.getfield 27, 3) := by decide +kernel
theorem d_XR_makeUnit_18 : decode b_XR_makeUnit 18 = .ok (.aload_n 0, 1) := by decide +kernel
theorem d_XR_makeUnit_19 : decode b_XR_makeUnit 19 = .ok (.getfield 31, 3) := by decide +kernel
theorem d_XR_makeUnit_22 : decode b_XR_makeUnit 22 = .ok (.if_icmp .gt 10, 3) := by decide +kernel
theorem d_XR_makeUnit_25 : decode b_XR_makeUnit 25 = .ok (.aload_n 0, 1) := by decide +kernel
theorem d_XR_makeUnit_26 : decode b_XR_makeUnit 26 = .ok (.invokevirtual 43, 3) := by decide +kernel
theorem d_XR_makeUnit_29 : decode b_XR_makeUnit 29 = .ok (.goto 7, 3) := by decide +kernel
theorem d_XR_makeUnit_32 : decode b_XR_makeUnit 32 = .ok (.aload_n 0, 1) := by decide +kernel
theorem d_XR_makeUnit_33 : decode b_XR_makeUnit 33 = .ok (.invokevirtual 46, 3) := by decide +kernel
theorem d_XR_makeUnit_36 : decode b_XR_makeUnit 36 = .ok (.return_, 1) := by decide +kernel
theorem d_XR_analyse_0 : decode b_XR_analyse 0 = .ok (.aload_n 0, 1) := by decide +kernel
theorem d_XR_analyse_1 : decode b_XR_analyse 1 = .ok (.invokevirtual 49, 3) := by decide +kernel
theorem d_XR_analyse_4 : decode b_XR_analyse 4 = .ok (.aload_n 0, 1) := by decide +kernel
theorem d_XR_analyse_5 : decode b_XR_analyse 5 = .ok (.aload_n 0, 1) := by decide +kernel
theorem d_XR_analyse_6 : decode b_XR_analyse 6 = .ok (.getfield 15, 3) := by decide +kernel
theorem d_XR_analyse_9 : decode b_XR_analyse 9 = .ok (.getfield 52, 3) := by decide +kernel
theorem d_XR_analyse_12 : decode b_XR_analyse 12 = .ok (.putfield 31, 3) := by decide +kernel
theorem d_XR_analyse_15 : decode b_XR_analyse 15 = .ok (.aload_n 0, 1) := by decide +kernel
theorem d_XR_analyse_16 : decode b_XR_analyse 16 = .ok (.aload_n 0, 1) := by decide +kernel
theorem d_XR_analyse_17 : decode b_XR_analyse 17 = .ok (.getfield 15, 3) := by decide +kernel
theorem d_XR_analyse_20 : decode b_XR_analyse 20 = .ok (.getfield 52, 3) := by decide +kernel
theorem d_XR_analyse_23 : decode b_XR_analyse 23 = .ok (.iconst 1, 1) := by decide +kernel
theorem d_XR_analyse_24 : decode b_XR_analyse 24 = .ok (.iadd, 1) := by decide +kernel
theorem d_XR_analyse_25 : decode b_XR_analyse 25 = .ok (.putfield 27, 3) := by decide +kernel
theorem d_XR_analyse_28 : decode b_XR_analyse 28 = .ok (.iconst 0, 1) := by decide +kernel
theorem d_XR_analyse_29 : decode b_XR_analyse 29 = .ok (.istore_n 1, 1) := by decide +kernel
theorem d_XR_analyse_30 : decode b_XR_analyse 30 = .ok (.iload_n 1, 1) := by decide +kernel
theorem d_XR_analyse_31 : decode b_XR_analyse 31 = .ok (.bipush 6, 2) := by decide +kernel
theorem d_XR_analyse_33 : decode b_XR_analyse 33 = .ok (.if_icmp .ge 35, 3) := by decide +kernel
theorem d_XR_analyse_36 : decode b_XR_analyse 36 = .ok (.aload_n 0, 1) := by decide +kernel
theorem d_XR_analyse_37 : decode b_XR_analyse 37 = .ok (.getfield 9, 3) := by decide +kernel
theorem d_XR_analyse_40 : decode b_XR_analyse 40 = .ok (.iload_n 1, 1) := by decide +kernel
theorem d_XR_analyse_41 : decode b_XR_analyse 41 = .ok (.iaload, 1) := by decide +kernel
theorem d_XR_analyse_42 : decode b_XR_analyse 42 = .ok (.ifCond .eq 20, 3) := by decide +kernel
theorem d_XR_analyse_45 : decode b_XR_analyse 45 = .ok (.aload_n 0, 1) := by decide +kernel
theorem d_XR_analyse_46 : decode b_XR_analyse 46 = .ok (.aload_n 0, 1) := by decide +kernel
theorem d_XR_analyse_47 : decode b_XR_analyse 47 = .ok (.getfield 27, 3) := by decide +kernel
theorem d_XR_analyse_50 : decode b_XR_analyse 50 = .ok (.aload_n 0, 1) := by decide +kernel
theorem d_XR_analyse_51 : decode b_XR_analyse 51 = .ok (.getfield 9, 3) := by decide +kernel
theorem d_XR_analyse_54 : decode b_XR_analyse 54 = .ok (.iload_n 1, 1) := by decide +kernel
theorem d_XR_analyse_55 : decode b_XR_analyse 55 = .ok (.iaload, 1) := by decide +kernel
theorem d_XR_analyse_56 : decode b_XR_analyse 56 = .ok (.invokestatic 55, 3) := by decide +kernel
theorem d_XR_analyse_59 : decode b_XR_analyse 59 = .ok (.putfield 27, 3) := by decide +kernel
theorem d_XR_analyse_62 : decode b_XR_analyse 62 = .ok (.iinc 1 1, 3) := by decide +kernel
theorem d_XR_analyse_65 : decode b_XR_analyse 65 = .ok (.goto (-35), 3) := by decide +kernel
theorem d_XR_analyse_68 : decode b_XR_analyse 68 = .ok (.aload_n 0, 1) := by decide +kernel
theorem d_XR_analyse_69 : decode b_XR_analyse 69 = .ok (.iconst 1, 1) := by decide +kernel
theorem d_XR_analyse_70 : decode b_XR_analyse 70 = .ok (.putfield 23, 3) := by decide +kernel
theorem d_XR_analyse_73 : decode b_XR_analyse 73 = .ok (.return_, 1) := by decide +kernel
theorem d_XR_fillTable_0 : decode b_XR_fillTable 0 = .ok (.aload_n 0, 1) := by decide +kernel
theorem d_XR_fillTable_1 : decode b_XR_fillTable 1 = .ok (.getfield 15, 3) := by decide +kernel
theorem d_XR_fillTable_4 : decode b_XR_fillTable 4 = .ok (.getfield 61, 3) := by decide +kernel
theorem d_XR_fillTable_7 : decode b_XR_fillTable 7 = .ok (.iconst 1, 1) := by decide +kernel
theorem d_XR_fillTable_8 : decode b_XR_fillTable 8 = .ok (.isub, 1) := by decide +kernel
theorem d_XR_fillTable_9 : decode b_XR_fillTable 9 = .ok (.istore_n 1, 1) := by decide +kernel
theorem d_XR_fillTable_10 : decode b_XR_fillTable 10 = .ok (.iconst 0, 1) := by decide +kernel
theorem d_XR_fillTable_11 : decode b_XR_fillTable 11 = .ok (.istore_n 2, 1) := by decide +kernel
theorem d_XR_fillTable_12 : decode b_XR_fillTable 12 = .ok (.iload_n 2, 1) := by decide +kernel
theorem d_XR_fillTable_13 : decode b_XR_fillTable 13 = .ok (.bipush 6, 2) := by decide +kernel
theorem d_XR_fillTable_15 : decode b_XR_fillTable 15 = .ok (.if_icmp .ge 34, 3) := by decide +kernel
theorem d_XR_fillTable_18 : decode b_XR_fillTable 18 = .ok (.aload_n 0, 1) := by decide +kernel
theorem d_XR_fillTable_19 : decode b_XR_fillTable 19 = .ok (.getfield 9, 3) := by decide +kernel
theorem d_XR_fillTable_22 : decode b_XR_fillTable 22 = .ok (.iload_n 2, 1) := by decide +kernel
theorem d_XR_fillTable_23 : decode b_XR_fillTable 23 = .ok (.iload_n 1, 1) := by decide +kernel
theorem d_XR_fillTable_24 : decode b_XR_fillTable 24 = .ok (.ifCond .ge 7, 3) := by decide +kernel
theorem d_XR_fillTable_27 : decode b_XR_fillTable 27 = .ok (.iconst 0, 1) := by decide +kernel
theorem d_XR_fillTable_28 : decode b_XR_fillTable 28 = .ok (.goto 14, 3) := by decide +kernel
theorem d_XR_fillTable_31 : decode b_XR_fillTable 31 = .ok (.aload_n 0, 1) := by decide +kernel
theorem d_XR_fillTable_32 : decode b_XR_fillTable 32 = .ok (.getfield 15, 3) := by decide +kernel
theorem d_XR_fillTable_35 : decode b_XR_fillTable 35 = .ok (.getfield 64, 3) := by decide +kernel
theorem d_XR_fillTable_38 : decode b_XR_fillTable 38 = .ok (.iload_n 1, 1) := by decide +kernel
theorem d_XR_fillTable_39 : decode b_XR_fillTable 39 = .ok (.aaload, 1) := by decide +kernel
theorem d_XR_fillTable_40 : decode b_XR_fillTable 40 = .ok (.iload_n 2, 1) := by decide +kernel
theorem d_XR_fillTable_41 : decode b_XR_fillTable 41 = .ok (.iaload, 1) := by decide +kernel
theorem d_XR_fillTable_42 : decode b_XR_fillTable 42 = .ok (.iastore, 1) := by decide +kernel
theorem d_XR_fillTable_43 : decode b_XR_fillTable 43 = .ok (.iinc 2 1, 3) := by decide +kernel
theorem d_XR_fillTable_46 : decode b_XR_fillTable 46 = .ok (.goto (-34), 3) := by decide +kernel
theorem d_XR_fillTable_49 : decode b_XR_fillTable 49 = .ok (.iload_n 1, 1) := by decide +kernel
theorem d_XR_fillTable_50 : decode b_XR_fillTable 50 = .ok (.ifCond .ge 7, 3) := by decide +kernel
theorem d_XR_fillTable_53 : decode b_XR_fillTable 53 = .ok (.iconst 1, 1) := by decide +kernel
theorem d_XR_fillTable_54 : decode b_XR_fillTable 54 = .ok (.goto 14, 3) := by decide +kernel
theorem d_XR_fillTable_57 : decode b_XR_fillTable 57 = .ok (.aload_n 0, 1) := by decide +kernel
theorem d_XR_fillTable_58 : decode b_XR_fillTable 58 = .ok (.getfield 15, 3) := by decide +kernel
theorem d_XR_fillTable_61 : decode b_XR_fillTable 61 = .ok (.getfield 68, 3) := by decide +kernel
theorem d_XR_fillTable_64 : decode b_XR_fillTable 64 = .ok (.iload_n 1, 1) := by decide +kernel
theorem d_XR_fillTable_65 : decode b_XR_fillTable 65 = .ok (.iaload, 1) := by decide +kernel
theorem d_XR_fillTable_66 : decode b_XR_fillTable 66 = .ok (.iconst 1, 1) := by decide +kernel
theorem d_XR_fillTable_67 : decode b_XR_fillTable 67 = .ok (.iadd, 1) := by decide +kernel
theorem d_XR_fillTable_68 : decode b_XR_fillTable 68 = .ok (.istore_n 2, 1) := by decide +kernel
theorem d_XR_fillTable_69 : decode b_XR_fillTable 69 = .ok (.iload_n 2, 1) := by decide +kernel
theorem d_XR_fillTable_70 : decode b_XR_fillTable 70 = .ok (.istore_n 3, 1) := by decide +kernel
theorem d_XR_fillTable_71 : decode b_XR_fillTable 71 = .ok (.iload_n 3, 1) := by decide +kernel
theorem d_XR_fillTable_72 : decode b_XR_fillTable 72 = .ok (.aload_n 0, 1) := by decide +kernel
theorem d_XR_fillTable_73 : decode b_XR_fillTable 73 = .ok (.getfield 15, 3) := by decide +kernel
theorem d_XR_fillTable_76 : decode b_XR_fillTable 76 = .ok (.getfield 52, 3) := by decide +kernel
theorem d_XR_fillTable_79 : decode b_XR_fillTable 79 = .ok (.if_icmp .gt 51, 3) := by decide +kernel
theorem d_XR_fillTable_82 : decode b_XR_fillTable 82 = .ok (.aload_n 0, 1) := by decide +kernel
theorem d_XR_fillTable_83 : decode b_XR_fillTable 83 = .ok (.getfield 15, 3) := by decide +kernel
theorem d_XR_fillTable_86 : decode b_XR_fillTable 86 = .ok (.getfield 71, 3) := by decide +kernel
theorem d_XR_fillTable_89 : decode b_XR_fillTable 89 = .ok (.iload_n 3, 1) := by decide +kernel
theorem d_XR_fillTable_90 : decode b_XR_fillTable 90 = .ok (.iaload, 1) := by decide +kernel
theorem d_XR_fillTable_91 : decode b_XR_fillTable 91 = .ok (.iconst 4, 1) := by decide +kernel
theorem d_XR_fillTable_92 : decode b_XR_fillTable 92 = .ok (.idiv, 1) := by decide +kernel
theorem d_XR_fillTable_93 : decode b_XR_fillTable 93 = .ok (.istore 4, 2) := by decide +kernel
theorem d_XR_fillTable_95 : decode b_XR_fillTable 95 = .ok (.aload_n 0, 1) := by decide +kernel
theorem d_XR_fillTable_96 : decode b_XR_fillTable 96 = .ok (.getfield 15, 3) := by decide +kernel
theorem d_XR_fillTable_99 : decode b_XR_fillTable 99 = .ok (.iload_n 3, 1) := by decide +kernel
theorem d_XR_fillTable_100 : decode b_XR_fillTable 100 = .ok (.invokevirtual 74, 3) := by decide +kernel
theorem d_XR_fillTable_103 : decode b_XR_fillTable 103 = .ok (.ifCond .eq 21, 3) := by decide +kernel
theorem d_XR_fillTable_106 : decode b_XR_fillTable 106 = .ok (.aload_n 0, 1) := by decide +kernel
theorem d_XR_fillTable_107 : decode b_XR_fillTable 107 = .ok (.getfield 9, 3) := by decide +kernel
theorem d_XR_fillTable_110 : decode b_XR_fillTable 110 = .ok (.iload 4, 2) := by decide +kernel
theorem d_XR_fillTable_112 : decode b_XR_fillTable 112 = .ok (.iaload, 1) := by decide +kernel
theorem d_XR_fillTable_113 : decode b_XR_fillTable 113 = .ok (.ifCond .ne 11, 3) := by decide +kernel
theorem d_XR_fillTable_116 : decode b_XR_fillTable 116 = .ok (.aload_n 0, 1) := by decide +kernel
theorem d_XR_fillTable_117 : decode b_XR_fillTable 117 = .ok (.getfield 9, 3) := by decide +kernel
theorem d_XR_fillTable_120 : decode b_XR_fillTable 120 = .ok (.iload 4, 2) := by decide +kernel
theorem d_XR_fillTable_122 : decode b_XR_fillTable 122 = .ok (.iload_n 3, 1) := by decide +kernel
theorem d_XR_fillTable_123 : decode b_XR_fillTable 123 = .ok (.iastore, 1) := by decide +kernel
theorem d_XR_fillTable_124 : decode b_XR_fillTable 124 = .ok (.iinc 3 1, 3) := by decide +kernel
theorem d_XR_fillTable_127 : decode b_XR_fillTable 127 = .ok (.goto (-56), 3) := by decide +kernel
theorem d_XR_fillTable_130 : decode b_XR_fillTable 130 = .ok (.return_, 1) := by decide +kernel
theorem d_XR_repeatNext_0 : decode b_XR_repeatNext 0 = .ok (.aload_n 0, 1) := by decide +kernel
theorem d_XR_repeatNext_1 : decode b_XR_repeatNext 1 = .ok (.getfield 27, 3) := by decide +kernel
theorem d_XR_repeatNext_4 : decode b_XR_repeatNext 4 = .ok (.istore_n 1, 1) := by decide +kernel
theorem d_XR_repeatNext_5 : decode b_XR_repeatNext 5 = .ok (.aload_n 0, 1) := by decide +kernel
theorem d_XR_repeatNext_6 : decode b_XR_repeatNext 6 = .ok (.dup, 1) := by decide +kernel
theorem d_XR_repeatNext_7 : decode b_XR_repeatNext 7 = .ok (.getfield 27, 3) := by decide +kernel
theorem d_XR_repeatNext_10 : decode b_XR_repeatNext 10 = .ok (.iconst 1, 1) := by decide +kernel
theorem d_XR_repeatNext_11 : decode b_XR_repeatNext 11 = .ok (.iadd, 1) := by decide +kernel
theorem d_XR_repeatNext_12 : decode b_XR_repeatNext 12 = .ok (.putfield 27, 3) := by decide +kernel
theorem d_XR_repeatNext_15 : decode b_XR_repeatNext 15 = .ok (.aload_n 0, 1) := by decide +kernel
theorem d_XR_repeatNext_16 : decode b_XR_repeatNext 16 = .ok (.getfield 15, 3) := by decide +kernel
theorem d_XR_repeatNext_19 : decode b_XR_repeatNext 19 = .ok (.iload_n 1, 1) := by decide +kernel
theorem d_XR_repeatNext_20 : decode b_XR_repeatNext 20 = .ok (.invokevirtual 74, 3) := by decide +kernel
theorem d_XR_repeatNext_23 : decode b_XR_repeatNext 23 = .ok (.ifCond .ne 4, 3) := by decide +kernel
theorem d_XR_repeatNext_26 : decode b_XR_repeatNext 26 = .ok (.return_, 1) := by decide +kernel
theorem d_XR_repeatNext_27 : decode b_XR_repeatNext 27 = .ok (.aload_n 0, 1) := by decide +kernel
theorem d_XR_repeatNext_28 : decode b_XR_repeatNext 28 = .ok (.getfield 9, 3) := by decide +kernel
theorem d_XR_repeatNext_31 : decode b_XR_repeatNext 31 = .ok (.aload_n 0, 1) := by decide +kernel
theorem d_XR_repeatNext_32 : decode b_XR_repeatNext 32 = .ok (.getfield 15, 3) := by decide +kernel
theorem d_XR_repeatNext_35 : decode b_XR_repeatNext 35 = .ok (.getfield 71, 3) := by decide +kernel
theorem d_XR_repeatNext_38 : decode b_XR_repeatNext 38 = .ok (.iload_n 1, 1) := by decide +kernel
theorem d_XR_repeatNext_39 : decode b_XR_repeatNext 39 = .ok (.iaload, 1) := by decide +kernel
theorem d_XR_repeatNext_40 : decode b_XR_repeatNext 40 = .ok (.iconst 4, 1) := by decide +kernel
theorem d_XR_repeatNext_41 : decode b_XR_repeatNext 41 = .ok (.idiv, 1) := by decide +kernel
theorem d_XR_repeatNext_42 : decode b_XR_repeatNext 42 = .ok (.iaload, 1) := by decide +kernel
theorem d_XR_repeatNext_43 : decode b_XR_repeatNext 43 = .ok (.istore_n 2, 1) := by decide +kernel
theorem d_XR_repeatNext_44 : decode b_XR_repeatNext 44 = .ok (.iload_n 2, 1) := by decide +kernel
theorem d_XR_repeatNext_45 : decode b_XR_repeatNext 45 = .ok (.ifCond .eq 16, 3) := by decide +kernel
theorem d_XR_repeatNext_48 : decode b_XR_repeatNext 48 = .ok (.iload_n 2, 1) := by decide +kernel
theorem d_XR_repeatNext_49 : decode b_XR_repeatNext 49 = .ok (.iload_n 1, 1) := by decide +kernel
theorem d_XR_repeatNext_50 : decode b_XR_repeatNext 50 = .ok (.if_icmp .gt 11, 3) := by decide +kernel
theorem d_XR_repeatNext_53 : decode b_XR_repeatNext 53 = .ok (.aload_n 0, 1) := by decide +kernel
theorem d_XR_repeatNext_54 : decode b_XR_repeatNext 54 = .ok (.getfield 19, 3) := by decide +kernel
theorem d_XR_repeatNext_57 : decode b_XR_repeatNext 57 = .ok (.iload_n 1, 1) := by decide +kernel
theorem d_XR_repeatNext_58 : decode b_XR_repeatNext 58 = .ok (.invokevirtual 78, 3) := by decide +kernel
theorem d_XR_repeatNext_61 : decode b_XR_repeatNext 61 = .ok (.return_, 1) := by decide +kernel
theorem d_XR_takeBackNext_0 : decode b_XR_takeBackNext 0 = .ok (.aload_n 0, 1) := by decide +kernel
theorem d_XR_takeBackNext_1 : decode b_XR_takeBackNext 1 = .ok (.getfield 15, 3) := by decide +kernel
theorem d_XR_takeBackNext_4 : decode b_XR_takeBackNext 4 = .ok (.invokevirtual 34, 3) := by decide +kernel
theorem d_XR_takeBackNext_7 : decode b_XR_takeBackNext 7 = .ok (.istore_n 1, 1) := by decide +kernel
theorem d_XR_takeBackNext_8 : decode b_XR_takeBackNext 8 = .ok (.iload_n 1, 1) := by decide +kernel
theorem d_XR_takeBackNext_9 : decode b_XR_takeBackNext 9 = .ok (.ifCond .eq 11, 3) := by decide +kernel
theorem d_XR_takeBackNext_12 : decode b_XR_takeBackNext 12 = .ok (.aload_n 0, 1) := by decide +kernel
theorem d_XR_takeBackNext_13 : decode b_XR_takeBackNext 13 = .ok (.getfield 19, 3) := by decide +kernel
theorem d_XR_takeBackNext_16 : decode b_XR_takeBackNext 16 = .ok (.iload_n 1, 1) := by decide +kernel
theorem d_XR_takeBackNext_17 : decode b_XR_takeBackNext 17 = .ok (.invokevirtual 84, 3) := by decide +kernel
theorem d_XR_takeBackNext_20 : decode b_XR_takeBackNext 20 = .ok (.return_, 1) := by decide +kernel

