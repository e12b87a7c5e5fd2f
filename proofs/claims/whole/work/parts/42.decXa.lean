theorem d_XC_init_0 : decode b_XC_init 0 = .ok (.aload_n 0, 1) := by decide +kernel
theorem d_XC_init_1 : decode b_XC_init 1 = .ok (.invokespecial 3, 3) := by decide +kernel
theorem d_XC_init_4 : decode b_XC_init 4 = .ok (.aload_n 0, 1) := by decide +kernel
theorem d_XC_init_5 : decode b_XC_init 5 = .ok (.iconst 4, 1) := by decide +kernel
theorem d_XC_init_6 : decode b_XC_init 6 = .ok (.newarray .int, 2) := by decide +kernel
theorem d_XC_init_8 : decode b_XC_init 8 = .ok (.putfield 9, 3) := by decide +kernel
theorem d_XC_init_11 : decode b_XC_init 11 = .ok (.aload_n 0, 1) := by decide +kernel
theorem d_XC_init_12 : decode b_XC_init 12 = .ok (.iconst 4, 1) := by decide +kernel
theorem d_XC_init_13 : decode b_XC_init 13 = .ok (.newarray .int, 2) := by decide +kernel
theorem d_XC_init_15 : decode b_XC_init 15 = .ok (.putfield 15, 3) := by decide +kernel
theorem d_XC_init_18 : decode b_XC_init 18 = .ok (.iconst 0, 1) := by decide +kernel
theorem d_XC_init_19 : decode b_XC_init 19 = .ok (.istore_n 1, 1) := by decide +kernel
theorem d_XC_init_20 : decode b_XC_init 20 = .ok (.iload_n 1, 1) := by decide +kernel
theorem d_XC_init_21 : decode b_XC_init 21 = .ok (.iconst 4, 1) := by decide +kernel
theorem d_XC_init_22 : decode b_XC_init 22 = .ok (.if_icmp .ge 16, 3) := by decide +kernel
theorem d_XC_init_25 : decode b_XC_init 25 = .ok (.aload_n 0, 1) := by decide +kernel
theorem d_XC_init_26 : decode b_XC_init 26 = .ok (.getfield 9, 3) := by decide +kernel
theorem d_XC_init_29 : decode b_XC_init 29 = .ok (.iload_n 1, 1) := by decide +kernel
theorem d_XC_init_30 : decode b_XC_init 30 = .ok (.iconst (-1), 1) := by decide +kernel
theorem d_XC_init_31 : decode b_XC_init 31 = .ok (.iastore, 1) := by decide +kernel
theorem d_XC_init_32 : decode b_XC_init 32 = .ok (.iinc 1 1, 3) := by decide +kernel
theorem d_XC_init_35 : decode b_XC_init 35 = .ok (.goto (-15), 3) := by decide +kernel
theorem d_XC_init_38 : decode b_XC_init 38 = .ok (.return_, 1) := by decide +kernel
theorem d_XC_copy_0 : decode b_XC_copy 0 = .ok (.iconst 0, 1) := by decide +kernel
theorem d_XC_copy_1 : decode b_XC_copy 1 = .ok (.istore_n 2, 1) := by decide +kernel
theorem d_XC_copy_2 : decode b_XC_copy 2 = .ok (.iload_n 2, 1) := by decide +kernel
theorem d_XC_copy_3 : decode b_XC_copy 3 = .ok (.iconst 4, 1) := by decide +kernel
theorem d_XC_copy_4 : decode b_XC_copy 4 = .ok (.if_icmp .ge 33, 3) := by decide +kernel
theorem d_XC_copy_7 : decode b_XC_copy 7 = .ok (.aload_n 0, 1) := by decide +kernel
theorem d_XC_copy_8 : decode b_XC_copy 8 = .ok (.getfield 9, 3) := by decide +kernel
theorem d_XC_copy_11 : decode b_XC_copy 11 = .ok (.iload_n 2, 1) := by decide +kernel
theorem d_XC_copy_12 : decode b_XC_copy 12 = .ok (.aload_n 1, 1) := by decide +kernel
theorem d_XC_copy_13 : decode b_XC_copy 13 = .ok (.getfield 9, 3) := by decide +kernel
theorem d_XC_copy_16 : decode b_XC_copy 16 = .ok (.iload_n 2, 1) := by decide +kernel
theorem d_XC_copy_17 : decode b_XC_copy 17 = .ok (.iaload, 1) := by decide +kernel
theorem d_XC_copy_18 : decode b_XC_copy 18 = .ok (.iastore, 1) := by decide +kernel
theorem d_XC_copy_19 : decode b_XC_copy 19 = .ok (.aload_n 0, 1) := by decide +kernel
theorem d_XC_copy_20 : decode b_XC_copy 20 = .ok (.getfield 15, 3) := by decide +kernel
theorem d_XC_copy_23 : decode b_XC_copy 23 = .ok (.iload_n 2, 1) := by decide +kernel
theorem d_XC_copy_24 : decode b_XC_copy 24 = .ok (.aload_n 1, 1) := by decide +kernel
theorem d_XC_copy_25 : decode b_XC_copy 25 = .ok (.getfield 15, 3) := by decide +kernel
theorem d_XC_copy_28 : decode b_XC_copy 28 = .ok (.iload_n 2, 1) := by decide +kernel
theorem d_XC_copy_29 : decode b_XC_copy 29 = .ok (.iaload, 1) := by decide +kernel
theorem d_XC_copy_30 : decode b_XC_copy 30 = .ok (.iastore, 1) := by decide +kernel
theorem d_XC_copy_31 : decode b_XC_copy 31 = .ok (.iinc 2 1, 3) := by decide +kernel
theorem d_XC_copy_34 : decode b_XC_copy 34 = .ok (.goto (-32), 3) := by decide +kernel
theorem d_XC_copy_37 : decode b_XC_copy 37 = .ok (.aload_n 0, 1) := by decide +kernel
theorem d_XC_copy_38 : decode b_XC_copy 38 = .ok (.aload_n 1, 1) := by decide +kernel
theorem d_XC_copy_39 : decode b_XC_copy 39 = .ok (.getfield 18, 3) := by decide +kernel
theorem d_XC_copy_42 : decode b_XC_copy 42 = .ok (.putfield 18, 3) := by decide +kernel
theorem d_XC_copy_45 : decode b_XC_copy 45 = .ok (.return_, 1) := by decide +kernel
theorem d_XL_init_0 : decode b_XL_init 0 = .ok (.aload_n 0, 1) := by decide +kernel
theorem d_XL_init_1 : decode b_XL_init 1 = .ok (.invokespecial 3, 3) := by decide +kernel
theorem d_XL_init_4 : decode b_XL_init 4 = .ok (.aload_n 0, 1) := by decide +kernel
theorem d_XL_init_5 : decode b_XL_init 5 = .ok (.sipush 201, 3) := by decide +kernel
theorem d_XL_init_8 : decode b_XL_init 8 = .ok (.newarray .int, 2) := by decide +kernel
theorem d_XL_init_10 : decode b_XL_init 10 = .ok (.putfield 9, 3) := by decide +kernel
theorem d_XL_init_13 : decode b_XL_init 13 = .ok (.aload_n 0, 1) := by decide +kernel
theorem d_XL_init_14 : decode b_XL_init 14 = .ok (.sipush 201, 3) := by decide +kernel
theorem d_XL_init_17 : decode b_XL_init 17 = .ok (.newarray .int, 2) := by decide +kernel
theorem d_XL_init_19 : decode b_XL_init 19 = .ok (.putfield 15, 3) := by decide +kernel
theorem d_XL_init_22 : decode b_XL_init 22 = .ok (.aload_n 0, 1) := by decide +kernel
theorem d_XL_init_23 : decode b_XL_init 23 = .ok (.sipush 201, 3) := by decide +kernel
theorem d_XL_init_26 : decode b_XL_init 26 = .ok (.newarray .int, 2) := by decide +kernel
theorem d_XL_init_28 : decode b_XL_init 28 = .ok (.putfield 18, 3) := by decide +kernel
theorem d_XL_init_31 : decode b_XL_init 31 = .ok (.aload_n 0, 1) := by decide +kernel
theorem d_XL_init_32 : decode b_XL_init 32 = .ok (.sipush 201, 3) := by decide +kernel
theorem d_XL_init_35 : decode b_XL_init 35 = .ok (.newarray .int, 2) := by decide +kernel
theorem d_XL_init_37 : decode b_XL_init 37 = .ok (.putfield 21, 3) := by decide +kernel
theorem d_XL_init_40 : decode b_XL_init 40 = .ok (.aload_n 0, 1) := by decide +kernel
theorem d_XL_init_41 : decode b_XL_init 41 = .ok (.sipush 201, 3) := by decide +kernel
theorem d_XL_init_44 : decode b_XL_init 44 = .ok (.newarray .int, 2) := by decide +kernel
theorem d_XL_init_46 : decode b_XL_init 46 = .ok (.putfield 24, 3) := by decide +kernel
theorem d_XL_init_49 : decode b_XL_init 49 = .ok (.aload_n 0, 1) := by decide +kernel
theorem d_XL_init_50 : decode b_XL_init 50 = .ok (.sipush 201, 3) := by decide +kernel
theorem d_XL_init_53 : decode b_XL_init 53 = .ok (.newarray .int, 2) := by decide +kernel
theorem d_XL_init_55 : decode b_XL_init 55 = .ok (.putfield 27, 3) := by decide +kernel
theorem d_XL_init_58 : decode b_XL_init 58 = .ok (.aload_n 0, 1) := by decide +kernel
theorem d_XL_init_59 : decode b_XL_init 59 = .ok (.sipush 201, 3) := by decide +kernel
theorem d_XL_init_62 : decode b_XL_init 62 = .ok (.newarray .int, 2) := by decide +kernel
theorem d_XL_init_64 : decode b_XL_init 64 = .ok (.putfield 30, 3) := by decide +kernel
theorem d_XL_init_67 : decode b_XL_init 67 = .ok (.aload_n 0, 1) := by decide +kernel
theorem d_XL_init_68 : decode b_XL_init 68 = .ok (.sipush 201, 3) := by decide +kernel
theorem d_XL_init_71 : decode b_XL_init 71 = .ok (.newarray .int, 2) := by decide +kernel
theorem d_XL_init_73 : decode b_XL_init 73 = .ok (.putfield 33, 3) := by decide +kernel
theorem d_XL_init_76 : decode b_XL_init 76 = .ok (.aload_n 0, 1) := by decide +kernel
theorem d_XL_init_77 : decode b_XL_init 77 = .ok (.bipush 61, 2) := by decide +kernel
theorem d_XL_init_79 : decode b_XL_init 79 = .ok (.newarray .int, 2) := by decide +kernel
theorem d_XL_init_81 : decode b_XL_init 81 = .ok (.putfield 36, 3) := by decide +kernel
theorem d_XL_init_84 : decode b_XL_init 84 = .ok (.aload_n 0, 1) := by decide +kernel
theorem d_XL_init_85 : decode b_XL_init 85 = .ok (.bipush 20, 2) := by decide +kernel
theorem d_XL_init_87 : decode b_XL_init 87 = .ok (.newarray .int, 2) := by decide +kernel
theorem d_XL_init_89 : decode b_XL_init 89 = .ok (.putfield 39, 3) := by decide +kernel
theorem d_XL_init_92 : decode b_XL_init 92 = .ok (.aload_n 0, 1) := by decide +kernel
theorem d_XL_init_93 : decode b_XL_init 93 = .ok (.bipush 20, 2) := by decide +kernel
theorem d_XL_init_95 : decode b_XL_init 95 = .ok (.bipush 6, 2) := by decide +kernel
theorem d_XL_init_97 : decode b_XL_init 97 = .ok (.multianewarray 42 2, 4) := by decide +kernel
theorem d_XL_init_101 : decode b_XL_init 101 = .ok (.putfield 44, 3) := by decide +kernel
theorem d_XL_init_104 : decode b_XL_init 104 = .ok (.return_, 1) := by decide +kernel
theorem d_XL_append_0 : decode b_XL_append 0 = .ok (.aload_n 0, 1) := by decide +kernel
theorem d_XL_append_1 : decode b_XL_append 1 = .ok (.getfield 47, 3) := by decide +kernel
theorem d_XL_append_4 : decode b_XL_append 4 = .ok (.sipush 200, 3) := by decide +kernel
theorem d_XL_append_7 : decode b_XL_append 7 = .ok (.if_icmp .lt 5, 3) := by decide +kernel
theorem d_XL_append_10 : decode b_XL_append 10 = .ok (.iconst 0, 1) := by decide +kernel
theorem d_XL_append_11 : decode b_XL_append 11 = .ok (.ireturn, 1) := by decide +kernel
theorem d_XL_append_12 : decode b_XL_append 12 = .ok (.aload_n 0, 1) := by decide +kernel
theorem d_XL_append_13 : decode b_XL_append 13 = .ok (.dup, 1) := by decide +kernel
theorem d_XL_append_14 : decode b_XL_append 14 = .ok (.getfield 47, 3) := by decide +kernel
theorem d_XL_append_17 : decode b_XL_append 17 = .ok (.iconst 1, 1) := by decide +kernel
theorem d_XL_append_18 : decode b_XL_append 18 = .ok (.iadd, 1) := by decide +kernel
theorem d_XL_append_19 : decode b_XL_append 19 = .ok (.putfield 47, 3) := by decide +kernel
theorem d_XL_append_22 : decode b_XL_append 22 = .ok (.aload_n 0, 1) := by decide +kernel
theorem d_XL_append_23 : decode b_XL_append 23 = .ok (.getfield 9, 3) := by decide +kernel
theorem d_XL_append_26 : decode b_XL_append 26 = .ok (.aload_n 0, 1) := by decide +kernel
theorem d_XL_append_27 : decode b_XL_append 27 = .ok (.getfield 47, 3) := by decide +kernel
theorem d_XL_append_30 : decode b_XL_append 30 = .ok (.iload_n 1, 1) := by decide +kernel
theorem d_XL_append_31 : decode b_XL_append 31 = .ok (.iastore, 1) := by decide +kernel
theorem d_XL_append_32 : decode b_XL_append 32 = .ok (.aload_n 0, 1) := by decide +kernel
theorem d_XL_append_33 : decode b_XL_append 33 = .ok (.getfield 15, 3) := by decide +kernel
theorem d_XL_append_36 : decode b_XL_append 36 = .ok (.aload_n 0, 1) := by decide +kernel
theorem d_XL_append_37 : decode b_XL_append 37 = .ok (.getfield 47, 3) := by decide +kernel
theorem d_XL_append_40 : decode b_XL_append 40 = .ok (.iload_n 2, 1) := by decide +kernel
theorem d_XL_append_41 : decode b_XL_append 41 = .ok (.iastore, 1) := by decide +kernel
theorem d_XL_append_42 : decode b_XL_append 42 = .ok (.aload_n 0, 1) := by decide +kernel
theorem d_XL_append_43 : decode b_XL_append 43 = .ok (.getfield 33, 3) := by decide +kernel
theorem d_XL_append_46 : decode b_XL_append 46 = .ok (.aload_n 0, 1) := by decide +kernel
theorem d_XL_append_47 : decode b_XL_append 47 = .ok (.getfield 47, 3) := by decide +kernel
theorem d_XL_append_50 : decode b_XL_append 50 = .ok (.iconst 0, 1) := by decide +kernel
theorem d_XL_append_51 : decode b_XL_append 51 = .ok (.iastore, 1) := by decide +kernel
theorem d_XL_append_52 : decode b_XL_append 52 = .ok (.aload_n 0, 1) := by decide +kernel
theorem d_XL_append_53 : decode b_XL_append 53 = .ok (.getfield 47, 3) := by decide +kernel
theorem d_XL_append_56 : decode b_XL_append 56 = .ok (.ireturn, 1) := by decide +kernel
theorem d_XL_addUpdate_0 : decode b_XL_addUpdate 0 = .ok (.aload_n 0, 1) := by decide +kernel
theorem d_XL_addUpdate_1 : decode b_XL_addUpdate 1 = .ok (.iconst 1, 1) := by decide +kernel
theorem d_XL_addUpdate_2 : decode b_XL_addUpdate 2 = .ok (.iload_n 1, 1) := by decide +kernel
theorem d_XL_addUpdate_3 : decode b_XL_addUpdate 3 = .ok (.invokevirtual 51, 3) := by decide +kernel
theorem d_XL_addUpdate_6 : decode b_XL_addUpdate 6 = .ok (.istore 7, 2) := by decide +kernel
theorem d_XL_addUpdate_8 : decode b_XL_addUpdate 8 = .ok (.aload_n 0, 1) := by decide +kernel
theorem d_XL_addUpdate_9 : decode b_XL_addUpdate 9 = .ok (.getfield 18, 3) := by decide +kernel
theorem d_XL_addUpdate_12 : decode b_XL_addUpdate 12 = .ok (.iload 7, 2) := by decide +kernel
theorem d_XL_addUpdate_14 : decode b_XL_addUpdate 14 = .ok (.iload_n 2, 1) := by decide +kernel
theorem d_XL_addUpdate_15 : decode b_XL_addUpdate 15 = .ok (.iastore, 1) := by decide +kernel
theorem d_XL_addUpdate_16 : decode b_XL_addUpdate 16 = .ok (.aload_n 0, 1) := by decide +kernel
theorem d_XL_addUpdate_17 : decode b_XL_addUpdate 17 = .ok (.getfield 21, 3) := by decide +kernel
theorem d_XL_addUpdate_20 : decode b_XL_addUpdate 20 = .ok (.iload 7, 2) := by decide +kernel
theorem d_XL_addUpdate_22 : decode b_XL_addUpdate 22 = .ok (.iload_n 3, 1) := by decide +kernel
theorem d_XL_addUpdate_23 : decode b_XL_addUpdate 23 = .ok (.iastore, 1) := by decide +kernel
theorem d_XL_addUpdate_24 : decode b_XL_addUpdate 24 = .ok (.aload_n 0, 1) := by decide +kernel
theorem d_XL_addUpdate_25 : decode b_XL_addUpdate 25 = .ok (.getfield 24, 3) := by decide +kernel
theorem d_XL_addUpdate_28 : decode b_XL_addUpdate 28 = .ok (.iload 7, 2) := by decide +kernel
theorem d_XL_addUpdate_30 : decode b_XL_addUpdate 30 = .ok (.iload 4, 2) := by decide +kernel
theorem d_XL_addUpdate_32 : decode b_XL_addUpdate 32 = .ok (.iastore, 1) := by decide +kernel
theorem d_XL_addUpdate_33 : decode b_XL_addUpdate 33 = .ok (.aload_n 0, 1) := by decide +kernel
theorem d_XL_addUpdate_34 : decode b_XL_addUpdate 34 = .ok (.getfield 27, 3) := by decide +kernel
theorem d_XL_addUpdate_37 : decode b_XL_addUpdate 37 = .ok (.iload 7, 2) := by decide +kernel
theorem d_XL_addUpdate_39 : decode b_XL_addUpdate 39 = .ok (.iload 5, 2) := by decide +kernel
theorem d_XL_addUpdate_41 : decode b_XL_addUpdate 41 = .ok (.iastore, 1) := by decide +kernel
theorem d_XL_addUpdate_42 : decode b_XL_addUpdate 42 = .ok (.aload_n 0, 1) := by decide +kernel
theorem d_XL_addUpdate_43 : decode b_XL_addUpdate 43 = .ok (.getfield 30, 3) := by decide +kernel
theorem d_XL_addUpdate_46 : decode b_XL_addUpdate 46 = .ok (.iload 7, 2) := by decide +kernel
theorem d_XL_addUpdate_48 : decode b_XL_addUpdate 48 = .ok (.iload 6, 2) := by decide +kernel
theorem d_XL_addUpdate_50 : decode b_XL_addUpdate 50 = .ok (.iastore, 1) := by decide +kernel
theorem d_XL_addUpdate_51 : decode b_XL_addUpdate 51 = .ok (.aload_n 0, 1) := by decide +kernel
theorem d_XL_addUpdate_52 : decode b_XL_addUpdate 52 = .ok (.dup, 1) := by decide +kernel
theorem d_XL_addUpdate_53 : decode b_XL_addUpdate 53 = .ok (.getfield 55, 3) := by decide +kernel
theorem d_XL_addUpdate_56 : decode b_XL_addUpdate 56 = .ok (.iconst 1, 1) := by decide +kernel
theorem d_XL_addUpdate_57 : decode b_XL_addUpdate 57 = .ok (.iadd, 1) := by decide +kernel
theorem d_XL_addUpdate_58 : decode b_XL_addUpdate 58 = .ok (.putfield 55, 3) := by decide +kernel
theorem d_XL_addUpdate_61 : decode b_XL_addUpdate 61 = .ok (.iload 7, 2) := by decide +kernel
theorem d_XL_addUpdate_63 : decode b_XL_addUpdate 63 = .ok (.ireturn, 1) := by decide +kernel
theorem d_XL_addClr_0 : decode b_XL_addClr 0 = .ok (.aload_n 0, 1) := by decide +kernel
theorem d_XL_addClr_1 : decode b_XL_addClr 1 = .ok (.iconst 2, 1) := by decide +kernel
theorem d_XL_addClr_2 : decode b_XL_addClr 2 = .ok (.aload_n 0, 1) := by decide +kernel
theorem d_XL_addClr_3 : decode b_XL_addClr 3 = .ok (.getfield 15, 3) := by decide +kernel
theorem d_XL_addClr_6 : decode b_XL_addClr 6 = .ok (.iload_n 1, 1) := by decide +kernel
theorem d_XL_addClr_7 : decode b_XL_addClr 7 = .ok (.iaload, 1) := by decide +kernel
theorem d_XL_addClr_8 : decode b_XL_addClr 8 = .ok (.invokevirtual 51, 3) := by decide +kernel
theorem d_XL_addClr_11 : decode b_XL_addClr 11 = .ok (.istore_n 2, 1) := by decide +kernel
theorem d_XL_addClr_12 : decode b_XL_addClr 12 = .ok (.aload_n 0, 1) := by decide +kernel
theorem d_XL_addClr_13 : decode b_XL_addClr 13 = .ok (.getfield 18, 3) := by decide +kernel
theorem d_XL_addClr_16 : decode b_XL_addClr 16 = .ok (.iload_n 2, 1) := by decide +kernel
theorem d_XL_addClr_17 : decode b_XL_addClr 17 = .ok (.aload_n 0, 1) := by decide +kernel
theorem d_XL_addClr_18 : decode b_XL_addClr 18 = .ok (.getfield 18, 3) := by decide +kernel
theorem d_XL_addClr_21 : decode b_XL_addClr 21 = .ok (.iload_n 1, 1) := by decide +kernel
theorem d_XL_addClr_22 : decode b_XL_addClr 22 = .ok (.iaload, 1) := by decide +kernel
theorem d_XL_addClr_23 : decode b_XL_addClr 23 = .ok (.iastore, 1) := by decide +kernel
theorem d_XL_addClr_24 : decode b_XL_addClr 24 = .ok (.aload_n 0, 1) := by decide +kernel
theorem d_XL_addClr_25 : decode b_XL_addClr 25 = .ok (.getfield 27, 3) := by decide +kernel
theorem d_XL_addClr_28 : decode b_XL_addClr 28 = .ok (.iload_n 2, 1) := by decide +kernel
theorem d_XL_addClr_29 : decode b_XL_addClr 29 = .ok (.aload_n 0, 1) := by decide +kernel
theorem d_XL_addClr_30 : decode b_XL_addClr 30 = .ok (.getfield 21, 3) := by decide +kernel
theorem d_XL_addClr_33 : decode b_XL_addClr 33 = .ok (.iload_n 1, 1) := by decide +kernel
theorem d_XL_addClr_34 : decode b_XL_addClr 34 = .ok (.iaload, 1) := by decide +kernel
theorem d_XL_addClr_35 : decode b_XL_addClr 35 = .ok (.iastore, 1) := by decide +kernel
theorem d_XL_addClr_36 : decode b_XL_addClr 36 = .ok (.aload_n 0, 1) := by decide +kernel
theorem d_XL_addClr_37 : decode b_XL_addClr 37 = .ok (.getfield 30, 3) := by decide +kernel
theorem d_XL_addClr_40 : decode b_XL_addClr 40 = .ok (.iload_n 2, 1) := by decide +kernel
theorem d_XL_addClr_41 : decode b_XL_addClr 41 = .ok (.aload_n 0, 1) := by decide +kernel
theorem d_XL_addClr_42 : decode b_XL_addClr 42 = .ok (.getfield 24, 3) := by decide +kernel
theorem d_XL_addClr_45 : decode b_XL_addClr 45 = .ok (.iload_n 1, 1) := by decide +kernel
theorem d_XL_addClr_46 : decode b_XL_addClr 46 = .ok (.iaload, 1) := by decide +kernel
theorem d_XL_addClr_47 : decode b_XL_addClr 47 = .ok (.iastore, 1) := by decide +kernel
theorem d_XL_addClr_48 : decode b_XL_addClr 48 = .ok (.aload_n 0, 1) := by decide +kernel
theorem d_XL_addClr_49 : decode b_XL_addClr 49 = .ok (.getfield 33, 3) := by decide +kernel
theorem d_XL_addClr_52 : decode b_XL_addClr 52 = .ok (.iload_n 2, 1) := by decide +kernel
theorem d_XL_addClr_53 : decode b_XL_addClr 53 = .ok (.iload_n 1, 1) := by decide +kernel
theorem d_XL_addClr_54 : decode b_XL_addClr 54 = .ok (.iastore, 1) := by decide +kernel
theorem d_XL_addClr_55 : decode b_XL_addClr 55 = .ok (.aload_n 0, 1) := by decide +kernel
theorem d_XL_addClr_56 : decode b_XL_addClr 56 = .ok (.getfield 33, 3) := by decide +kernel
theorem d_XL_addClr_59 : decode b_XL_addClr 59 = .ok (.iload_n 1, 1) := by decide +kernel
theorem d_XL_addClr_60 : decode b_XL_addClr 60 = .ok (.iload_n 2, 1) := by decide +kernel
theorem d_XL_addClr_61 : decode b_XL_addClr 61 = .ok (.iastore, 1) := by decide +kernel
theorem d_XL_addClr_62 : decode b_XL_addClr 62 = .ok (.iload_n 2, 1) := by decide +kernel
theorem d_XL_addClr_63 : decode b_XL_addClr 63 = .ok (.ireturn, 1) := by decide +kernel
theorem d_XL_addCommit_0 : decode b_XL_addCommit 0 = .ok (.aload_n 0, 1) := by decide +kernel
theorem d_XL_addCommit_1 : decode b_XL_addCommit 1 = .ok (.getfield 36, 3) := by decide +kernel
theorem d_XL_addCommit_4 : decode b_XL_addCommit 4 = .ok (.iload_n 1, 1) := by decide +kernel
theorem d_XL_addCommit_5 : decode b_XL_addCommit 5 = .ok (.aload_n 0, 1) := by decide +kernel
theorem d_XL_addCommit_6 : decode b_XL_addCommit 6 = .ok (.iconst 3, 1) := by decide +kernel
theorem d_XL_addCommit_7 : decode b_XL_addCommit 7 = .ok (.iload_n 1, 1) := by decide +kernel
theorem d_XL_addCommit_8 : decode b_XL_addCommit 8 = .ok (.invokevirtual 51, 3) := by decide +kernel
theorem d_XL_addCommit_11 : decode b_XL_addCommit 11 = .ok (.iastore, 1) := by decide +kernel
theorem d_XL_addCommit_12 : decode b_XL_addCommit 12 = .ok (.return_, 1) := by decide +kernel
theorem d_XL_addCheckpoint_0 : decode b_XL_addCheckpoint 0 = .ok (.aload_n 0, 1) := by decide +kernel
theorem d_XL_addCheckpoint_1 : decode b_XL_addCheckpoint 1 = .ok (.iconst 4, 1) := by decide +kernel
theorem d_XL_addCheckpoint_2 : decode b_XL_addCheckpoint 2 = .ok (.iconst 0, 1) := by decide +kernel
theorem d_XL_addCheckpoint_3 : decode b_XL_addCheckpoint 3 = .ok (.invokevirtual 51, 3) := by decide +kernel
theorem d_XL_addCheckpoint_6 : decode b_XL_addCheckpoint 6 = .ok (.istore_n 2, 1) := by decide +kernel
theorem d_XL_addCheckpoint_7 : decode b_XL_addCheckpoint 7 = .ok (.aload_n 1, 1) := by decide +kernel
theorem d_XL_addCheckpoint_8 : decode b_XL_addCheckpoint 8 = .ok (.iconst 0, 1) := by decide +kernel
theorem d_XL_addCheckpoint_9 : decode b_XL_addCheckpoint 9 = .ok (.aload_n 0, 1) := by decide +kernel
theorem d_XL_addCheckpoint_10 : decode b_XL_addCheckpoint 10 = .ok (.getfield 44, 3) := by decide +kernel
theorem d_XL_addCheckpoint_13 : decode b_XL_addCheckpoint 13 = .ok (.aload_n 0, 1) := by decide +kernel
theorem d_XL_addCheckpoint_14 : decode b_XL_addCheckpoint 14 = .ok (.getfield 58, 3) := by decide +kernel
theorem d_XL_addCheckpoint_17 : decode b_XL_addCheckpoint 17 = .ok (.aaload, 1) := by decide +kernel
theorem d_XL_addCheckpoint_18 : decode b_XL_addCheckpoint 18 = .ok (.iconst 0, 1) := by decide +kernel
theorem d_XL_addCheckpoint_19 : decode b_XL_addCheckpoint 19 = .ok (.bipush 6, 2) := by decide +kernel
theorem d_XL_addCheckpoint_21 : decode b_XL_addCheckpoint 21 = .ok (.invokestatic 61, 3) := by decide +kernel
theorem d_XL_addCheckpoint_24 : decode b_XL_addCheckpoint 24 = .ok (.aload_n 0, 1) := by decide +kernel
theorem d_XL_addCheckpoint_25 : decode b_XL_addCheckpoint 25 = .ok (.getfield 39, 3) := by decide +kernel
theorem d_XL_addCheckpoint_28 : decode b_XL_addCheckpoint 28 = .ok (.aload_n 0, 1) := by decide +kernel
theorem d_XL_addCheckpoint_29 : decode b_XL_addCheckpoint 29 = .ok (.getfield 58, 3) := by decide +kernel
theorem d_XL_addCheckpoint_32 : decode b_XL_addCheckpoint 32 = .ok (.iload_n 2, 1) := by decide +kernel
theorem d_XL_addCheckpoint_33 : decode b_XL_addCheckpoint 33 = .ok (.iastore, 1) := by decide +kernel
theorem d_XL_addCheckpoint_34 : decode b_XL_addCheckpoint 34 = .ok (.aload_n 0, 1) := by decide +kernel
theorem d_XL_addCheckpoint_35 : decode b_XL_addCheckpoint 35 = .ok (.dup, 1) := by decide +kernel
theorem d_XL_addCheckpoint_36 : decode b_XL_addCheckpoint 36 = .ok (.getfield 58, 3) := by decide +kernel
theorem d_XL_addCheckpoint_39 : decode b_XL_addCheckpoint 39 = .ok (.iconst 1, 1) := by decide +kernel
theorem d_XL_addCheckpoint_40 : decode b_XL_addCheckpoint 40 = .ok (.iadd, 1) := by decide +kernel
theorem d_XL_addCheckpoint_41 : decode b_XL_addCheckpoint 41 = .ok (.putfield 58, 3) := by decide +kernel
theorem d_XL_addCheckpoint_44 : decode b_XL_addCheckpoint 44 = .ok (.iload_n 2, 1) := by decide +kernel
theorem d_XL_addCheckpoint_45 : decode b_XL_addCheckpoint 45 = .ok (.ireturn, 1) := by decide +kernel
theorem d_XL_isChange_0 : decode b_XL_isChange 0 = .ok (.aload_n 0, 1) := by decide +kernel
theorem d_XL_isChange_1 : decode b_XL_isChange 1 = .ok (.getfield 9, 3) := by decide +kernel
theorem d_XL_isChange_4 : decode b_XL_isChange 4 = .ok (.iload_n 1, 1) := by decide +kernel
theorem d_XL_isChange_5 : decode b_XL_isChange 5 = .ok (.iaload, 1) := by decide +kernel
theorem d_XL_isChange_6 : decode b_XL_isChange 6 = .ok (.iconst 1, 1) := by decide +kernel
theorem d_XL_isChange_7 : decode b_XL_isChange 7 = .ok (.if_icmp .eq 13, 3) := by decide +kernel
theorem d_XL_isChange_10 : decode b_XL_isChange 10 = .ok (.aload_n 0, 1) := by decide +kernel
theorem d_XL_isChange_11 : decode b_XL_isChange 11 = .ok (.getfield 9, 3) := by decide +kernel
theorem d_XL_isChange_14 : decode b_XL_isChange 14 = .ok (.iload_n 1, 1) := by decide +kernel
theorem d_XL_isChange_15 : decode b_XL_isChange 15 = .ok (.iaload, 1) := by decide +kernel
theorem d_XL_isChange_16 : decode b_XL_isChange 16 = .ok (.iconst 2, 1) := by decide +kernel
theorem d_XL_isChange_17 : decode b_XL_isChange 17 = .ok (.if_icmp .ne 7, 3) := by decide +kernel
theorem d_XL_isChange_20 : decode b_XL_isChange 20 = .ok (.iconst 1, 1) := by decide +kernel
theorem d_XL_isChange_21 : decode b_XL_isChange 21 = .ok (.goto 4, 3) := by decide +kernel
theorem d_XL_isChange_24 : decode b_XL_isChange 24 = .ok (.iconst 0, 1) := by decide +kernel
theorem d_XL_isChange_25 : decode b_XL_isChange 25 = .ok (.ireturn, 1) := by decide +kernel
theorem d_XL_isOpen_0 : decode b_XL_isOpen 0 = .ok (.aload_n 0, 1) := by decide +kernel
theorem d_XL_isOpen_1 : decode b_XL_isOpen 1 = .ok (.getfield 9, 3) := by decide +kernel
theorem d_XL_isOpen_4 : decode b_XL_isOpen 4 = .ok (.iload_n 1, 1) := by decide +kernel
theorem d_XL_isOpen_5 : decode b_XL_isOpen 5 = .ok (.iaload, 1) := by decide +kernel
theorem d_XL_isOpen_6 : decode b_XL_isOpen 6 = .ok (.iconst 1, 1) := by decide +kernel
theorem d_XL_isOpen_7 : decode b_XL_isOpen 7 = .ok (.if_icmp .ne 30, 3) := by decide +kernel
theorem d_XL_isOpen_10 : decode b_XL_isOpen 10 = .ok (.aload_n 0, 1) := by decide +kernel
theorem d_XL_isOpen_11 : decode b_XL_isOpen 11 = .ok (.getfield 33, 3) := by decide +kernel
theorem d_XL_isOpen_14 : decode b_XL_isOpen 14 = .ok (.iload_n 1, 1) := by decide +kernel
theorem d_XL_isOpen_15 : decode b_XL_isOpen 15 = .ok (.iaload, 1) := by decide +kernel
theorem d_XL_isOpen_16 : decode b_XL_isOpen 16 = .ok (.ifCond .ne 21, 3) := by decide +kernel
theorem d_XL_isOpen_19 : decode b_XL_isOpen 19 = .ok (.aload_n 0, 1) := by decide +kernel
theorem d_XL_isOpen_20 : decode b_XL_isOpen 20 = .ok (.getfield 36, 3) := by decide +kernel
theorem d_XL_isOpen_23 : decode b_XL_isOpen 23 = .ok (.aload_n 0, 1) := by decide +kernel
theorem d_XL_isOpen_24 : decode b_XL_isOpen 24 = .ok (.getfield 15, 3) := by decide +kernel
theorem d_XL_isOpen_27 : decode b_XL_isOpen 27 = .ok (.iload_n 1, 1) := by decide +kernel
theorem d_XL_isOpen_28 : decode b_XL_isOpen 28 = .ok (.iaload, 1) := by decide +kernel
theorem d_XL_isOpen_29 : decode b_XL_isOpen 29 = .ok (.iaload, 1) := by decide +kernel
theorem d_XL_isOpen_30 : decode b_XL_isOpen 30 = .ok (.ifCond .ne 7, 3) := by decide +kernel
theorem d_XL_isOpen_33 : decode b_XL_isOpen 33 = .ok (.iconst 1, 1) := by decide +kernel
theorem d_XL_isOpen_34 : decode b_XL_isOpen 34 = .ok (.goto 4, 3) := by decide +kernel
theorem d_XL_isOpen_37 : decode b_XL_isOpen 37 = .ok (.iconst 0, 1) := by decide +kernel
theorem d_XL_isOpen_38 : decode b_XL_isOpen 38 = .ok (.ireturn, 1) := by decide +kernel
theorem d_XL_greatestOpen_0 : decode b_XL_greatestOpen 0 = .ok (.aload_n 0, 1) := by decide +kernel
theorem d_XL_greatestOpen_1 : decode b_XL_greatestOpen 1 = .ok (.getfield 47, 3) := by decide +kernel
theorem d_XL_greatestOpen_4 : decode b_XL_greatestOpen 4 = .ok (.istore_n 1, 1) := by decide +kernel
theorem d_XL_greatestOpen_5 : decode b_XL_greatestOpen 5 = .ok (.iload_n 1, 1) := by decide +kernel
theorem d_XL_greatestOpen_6 : decode b_XL_greatestOpen 6 = .ok (.iconst 1, 1) := by decide +kernel
theorem d_XL_greatestOpen_7 : decode b_XL_greatestOpen 7 = .ok (.if_icmp .lt 19, 3) := by decide +kernel
theorem d_XL_greatestOpen_10 : decode b_XL_greatestOpen 10 = .ok (.aload_n 0, 1) := by decide +kernel
theorem d_XL_greatestOpen_11 : decode b_XL_greatestOpen 11 = .ok (.iload_n 1, 1) := by decide +kernel
theorem d_XL_greatestOpen_12 : decode b_XL_greatestOpen 12 = .ok (.invokevirtual 67, 3) := by decide +kernel
theorem d_XL_greatestOpen_15 : decode b_XL_greatestOpen 15 = .ok (.ifCond .eq 5, 3) := by decide +kernel
theorem d_XL_greatestOpen_18 : decode b_XL_greatestOpen 18 = .ok (.iload_n 1, 1) := by decide +kernel
theorem d_XL_greatestOpen_19 : decode b_XL_greatestOpen 19 = .ok (.ireturn, 1) := by decide +kernel
theorem d_XL_greatestOpen_20 : decode b_XL_greatestOpen 20 = .ok (.iinc 1 (-1), 3) := by decide +kernel
theorem d_XL_greatestOpen_23 : decode b_XL_greatestOpen 23 = .ok (.goto (-18), 3) := by decide +kernel
theorem d_XL_greatestOpen_26 : decode b_XL_greatestOpen 26 = .ok (.iconst 0, 1) := by decide +kernel
theorem d_XL_greatestOpen_27 : decode b_XL_greatestOpen 27 = .ok (.ireturn, 1) := by decide +kernel
theorem d_XL_makeStable_0 : decode b_XL_makeStable 0 = .ok (.aload_n 0, 1) := by decide +kernel
theorem d_XL_makeStable_1 : decode b_XL_makeStable 1 = .ok (.getfield 71, 3) := by decide +kernel
theorem d_XL_makeStable_4 : decode b_XL_makeStable 4 = .ok (.iload_n 1, 1) := by decide +kernel
theorem d_XL_makeStable_5 : decode b_XL_makeStable 5 = .ok (.if_icmp .ge 8, 3) := by decide +kernel
theorem d_XL_makeStable_8 : decode b_XL_makeStable 8 = .ok (.aload_n 0, 1) := by decide +kernel
theorem d_XL_makeStable_9 : decode b_XL_makeStable 9 = .ok (.iload_n 1, 1) := by decide +kernel
theorem d_XL_makeStable_10 : decode b_XL_makeStable 10 = .ok (.putfield 71, 3) := by decide +kernel
theorem d_XL_makeStable_13 : decode b_XL_makeStable 13 = .ok (.return_, 1) := by decide +kernel
theorem d_XL_loseUnstable_0 : decode b_XL_loseUnstable 0 = .ok (.aload_n 0, 1) := by decide +kernel
theorem d_XL_loseUnstable_1 : decode b_XL_loseUnstable 1 = .ok (.getfield 47, 3) := by decide +kernel
theorem d_XL_loseUnstable_4 : decode b_XL_loseUnstable 4 = .ok (.istore_n 1, 1) := by decide +kernel
theorem d_XL_loseUnstable_5 : decode b_XL_loseUnstable 5 = .ok (.iload_n 1, 1) := by decide +kernel
theorem d_XL_loseUnstable_6 : decode b_XL_loseUnstable 6 = .ok (.aload_n 0, 1) := by decide +kernel
theorem d_XL_loseUnstable_7 : decode b_XL_loseUnstable 7 = .ok (.getfield 71, 3) := by decide +kernel
theorem d_XL_loseUnstable_10 : decode b_XL_loseUnstable 10 = .ok (.if_icmp .le 14, 3) := by decide +kernel
theorem d_XL_loseUnstable_13 : decode b_XL_loseUnstable 13 = .ok (.aload_n 0, 1) := by decide +kernel
theorem d_XL_loseUnstable_14 : decode b_XL_loseUnstable 14 = .ok (.iload_n 1, 1) := by decide +kernel
theorem d_XL_loseUnstable_15 : decode b_XL_loseUnstable 15 = .ok (.invokevirtual 74, 3) := by decide +kernel
theorem d_XL_loseUnstable_18 : decode b_XL_loseUnstable 18 = .ok (.iinc 1 (-1), 3) := by decide +kernel
theorem d_XL_loseUnstable_21 : decode b_XL_loseUnstable 21 = .ok (.goto (-16), 3) := by decide +kernel
theorem d_XL_loseUnstable_24 : decode b_XL_loseUnstable 24 = .ok (.aload_n 0, 1) := by decide +kernel
theorem d_XL_loseUnstable_25 : decode b_XL_loseUnstable 25 = .ok (.aload_n 0, 1) := by decide +kernel
theorem d_XL_loseUnstable_26 : decode b_XL_loseUnstable 26 = .ok (.getfield 71, 3) := by decide +kernel
theorem d_XL_loseUnstable_29 : decode b_XL_loseUnstable 29 = .ok (.putfield 47, 3) := by decide +kernel
theorem d_XL_loseUnstable_32 : decode b_XL_loseUnstable 32 = .ok (.return_, 1) := by decide +kernel
theorem d_XL_forget_0 : decode b_XL_forget 0 = .ok (.aload_n 0, 1) := by decide +kernel
theorem d_XL_forget_1 : decode b_XL_forget 1 = .ok (.getfield 9, 3) := by decide +kernel
theorem d_XL_forget_4 : decode b_XL_forget 4 = .ok (.iload_n 1, 1) := by decide +kernel
theorem d_XL_forget_5 : decode b_XL_forget 5 = .ok (.iaload, 1) := by decide +kernel
theorem d_XL_forget_6 : decode b_XL_forget 6 = .ok (.tableswitch 69 1 3 #[26, 39, 54], 26) := by decide +kernel
theorem d_XL_forget_32 : decode b_XL_forget 32 = .ok (.aload_n 0, 1) := by decide +kernel
theorem d_XL_forget_33 : decode b_XL_forget 33 = .ok (.dup, 1) := by decide +kernel
theorem d_XL_forget_34 : decode b_XL_forget 34 = .ok (.getfield 55, 3) := by decide +kernel
theorem d_XL_forget_37 : decode b_XL_forget 37 = .ok (.iconst 1, 1) := by decide +kernel
theorem d_XL_forget_38 : decode b_XL_forget 38 = .ok (.isub, 1) := by decide +kernel
theorem d_XL_forget_39 : decode b_XL_forget 39 = .ok (.putfield 55, 3) := by decide +kernel
theorem d_XL_forget_42 : decode b_XL_forget 42 = .ok (.goto 43, 3) := by decide +kernel
theorem d_XL_forget_45 : decode b_XL_forget 45 = .ok (.aload_n 0, 1) := by decide +kernel
theorem d_XL_forget_46 : decode b_XL_forget 46 = .ok (.getfield 33, 3) := by decide +kernel
theorem d_XL_forget_49 : decode b_XL_forget 49 = .ok (.aload_n 0, 1) := by decide +kernel
theorem d_XL_forget_50 : decode b_XL_forget 50 = .ok (.getfield 33, 3) := by decide +kernel
theorem d_XL_forget_53 : decode b_XL_forget 53 = .ok (.iload_n 1, 1) := by decide +kernel
theorem d_XL_forget_54 : decode b_XL_forget 54 = .ok (.iaload, 1) := by decide +kernel
theorem d_XL_forget_55 : decode b_XL_forget 55 = .ok (.iconst 0, 1) := by decide +kernel
theorem d_XL_forget_56 : decode b_XL_forget 56 = .ok (.iastore, 1) := by decide +kernel
theorem d_XL_forget_57 : decode b_XL_forget 57 = .ok (.goto 28, 3) := by decide +kernel
theorem d_XL_forget_60 : decode b_XL_forget 60 = .ok (.aload_n 0, 1) := by decide +kernel
theorem d_XL_forget_61 : decode b_XL_forget 61 = .ok (.getfield 36, 3) := by decide +kernel
theorem d_XL_forget_64 : decode b_XL_forget 64 = .ok (.aload_n 0, 1) := by decide +kernel
theorem d_XL_forget_65 : decode b_XL_forget 65 = .ok (.getfield 15, 3) := by decide +kernel
theorem d_XL_forget_68 : decode b_XL_forget 68 = .ok (.iload_n 1, 1) := by decide +kernel
theorem d_XL_forget_69 : decode b_XL_forget 69 = .ok (.iaload, 1) := by decide +kernel
theorem d_XL_forget_70 : decode b_XL_forget 70 = .ok (.iconst 0, 1) := by decide +kernel
theorem d_XL_forget_71 : decode b_XL_forget 71 = .ok (.iastore, 1) := by decide +kernel
theorem d_XL_forget_72 : decode b_XL_forget 72 = .ok (.goto 13, 3) := by decide +kernel
theorem d_XL_forget_75 : decode b_XL_forget 75 = .ok (.aload_n 0, 1) := by decide +kernel
theorem d_XL_forget_76 : decode b_XL_forget 76 = .ok (.dup, 1) := by decide +kernel
theorem d_XL_forget_77 : decode b_XL_forget 77 = .ok (.getfield 58, 3) := by decide +kernel
theorem d_XL_forget_80 : decode b_XL_forget 80 = .ok (.iconst 1, 1) := by decide +kernel
theorem d_XL_forget_81 : decode b_XL_forget 81 = .ok (.isub, 1) := by decide +kernel
theorem d_XL_forget_82 : decode b_XL_forget 82 = .ok (.putfield 58, 3) := by decide +kernel
theorem d_XL_forget_85 : decode b_XL_forget 85 = .ok (.return_, 1) := by decide +kernel
theorem d_XT_init_0 : decode b_XT_init 0 = .ok (.aload_n 0, 1) := by decide +kernel
theorem d_XT_init_1 : decode b_XT_init 1 = .ok (.invokespecial 3, 3) := by decide +kernel
theorem d_XT_init_4 : decode b_XT_init 4 = .ok (.aload_n 0, 1) := by decide +kernel
theorem d_XT_init_5 : decode b_XT_init 5 = .ok (.iload_n 1, 1) := by decide +kernel
theorem d_XT_init_6 : decode b_XT_init 6 = .ok (.putfield 9, 3) := by decide +kernel
theorem d_XT_init_9 : decode b_XT_init 9 = .ok (.aload_n 0, 1) := by decide +kernel
theorem d_XT_init_10 : decode b_XT_init 10 = .ok (.iload_n 2, 1) := by decide +kernel
theorem d_XT_init_11 : decode b_XT_init 11 = .ok (.putfield 15, 3) := by decide +kernel
theorem d_XT_init_14 : decode b_XT_init 14 = .ok (.aload_n 0, 1) := by decide +kernel
theorem d_XT_init_15 : decode b_XT_init 15 = .ok (.iconst 1, 1) := by decide +kernel
theorem d_XT_init_16 : decode b_XT_init 16 = .ok (.putfield 18, 3) := by decide +kernel
theorem d_XT_init_19 : decode b_XT_init 19 = .ok (.aload_n 0, 1) := by decide +kernel
theorem d_XT_init_20 : decode b_XT_init 20 = .ok (.iconst (-1), 1) := by decide +kernel
theorem d_XT_init_21 : decode b_XT_init 21 = .ok (.putfield 21, 3) := by decide +kernel
theorem d_XT_init_24 : decode b_XT_init 24 = .ok (.return_, 1) := by decide +kernel
theorem d_XT_ask_0 : decode b_XT_ask 0 = .ok (.aload_n 0, 1) := by decide +kernel
theorem d_XT_ask_1 : decode b_XT_ask 1 = .ok (.iload_n 1, 1) := by decide +kernel
theorem d_XT_ask_2 : decode b_XT_ask 2 = .ok (.putfield 24, 3) := by decide +kernel
theorem d_XT_ask_5 : decode b_XT_ask 5 = .ok (.aload_n 0, 1) := by decide +kernel
theorem d_XT_ask_6 : decode b_XT_ask 6 = .ok (.iload_n 2, 1) := by decide +kernel
theorem d_XT_ask_7 : decode b_XT_ask 7 = .ok (.putfield 27, 3) := by decide +kernel
theorem d_XT_ask_10 : decode b_XT_ask 10 = .ok (.aload_n 0, 1) := by decide +kernel
theorem d_XT_ask_11 : decode b_XT_ask 11 = .ok (.iload_n 3, 1) := by decide +kernel
theorem d_XT_ask_12 : decode b_XT_ask 12 = .ok (.putfield 30, 3) := by decide +kernel
theorem d_XT_ask_15 : decode b_XT_ask 15 = .ok (.aload_n 0, 1) := by decide +kernel
theorem d_XT_ask_16 : decode b_XT_ask 16 = .ok (.iload 4, 2) := by decide +kernel
theorem d_XT_ask_18 : decode b_XT_ask 18 = .ok (.putfield 33, 3) := by decide +kernel
theorem d_XT_ask_21 : decode b_XT_ask 21 = .ok (.return_, 1) := by decide +kernel

