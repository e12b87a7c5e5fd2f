theorem d_X_init_0 : decode b_X_init 0 = .ok (.aload_n 0, 1) := by decide +kernel
theorem d_X_init_1 : decode b_X_init 1 = .ok (.invokespecial 3, 3) := by decide +kernel
theorem d_X_init_4 : decode b_X_init 4 = .ok (.aload_n 0, 1) := by decide +kernel
theorem d_X_init_5 : decode b_X_init 5 = .ok (.new 9, 3) := by decide +kernel
theorem d_X_init_8 : decode b_X_init 8 = .ok (.dup, 1) := by decide +kernel
theorem d_X_init_9 : decode b_X_init 9 = .ok (.invokespecial 11, 3) := by decide +kernel
theorem d_X_init_12 : decode b_X_init 12 = .ok (.putfield 12, 3) := by decide +kernel
theorem d_X_init_15 : decode b_X_init 15 = .ok (.aload_n 0, 1) := by decide +kernel
theorem d_X_init_16 : decode b_X_init 16 = .ok (.new 16, 3) := by decide +kernel
theorem d_X_init_19 : decode b_X_init 19 = .ok (.dup, 1) := by decide +kernel
theorem d_X_init_20 : decode b_X_init 20 = .ok (.aload_n 0, 1) := by decide +kernel
theorem d_X_init_21 : decode b_X_init 21 = .ok (.getfield 12, 3) := by decide +kernel
theorem d_X_init_24 : decode b_X_init 24 = .ok (.invokespecial 18, 3) := by decide +kernel
theorem d_X_init_27 : decode b_X_init 27 = .ok (.putfield 21, 3) := by decide +kernel
theorem d_X_init_30 : decode b_X_init 30 = .ok (.aload_n 0, 1) := by decide +kernel
theorem d_X_init_31 : decode b_X_init 31 = .ok (.new 25, 3) := by decide +kernel
theorem d_X_init_34 : decode b_X_init 34 = .ok (.dup, 1) := by decide +kernel
theorem d_X_init_35 : decode b_X_init 35 = .ok (.invokespecial 27, 3) := by decide +kernel
theorem d_X_init_38 : decode b_X_init 38 = .ok (.putfield 28, 3) := by decide +kernel
theorem d_X_init_41 : decode b_X_init 41 = .ok (.aload_n 0, 1) := by decide +kernel
theorem d_X_init_42 : decode b_X_init 42 = .ok (.new 32, 3) := by decide +kernel
theorem d_X_init_45 : decode b_X_init 45 = .ok (.dup, 1) := by decide +kernel
theorem d_X_init_46 : decode b_X_init 46 = .ok (.aload_n 0, 1) := by decide +kernel
theorem d_X_init_47 : decode b_X_init 47 = .ok (.getfield 12, 3) := by decide +kernel
theorem d_X_init_50 : decode b_X_init 50 = .ok (.aload_n 0, 1) := by decide +kernel
theorem d_X_init_51 : decode b_X_init 51 = .ok (.getfield 21, 3) := by decide +kernel
theorem d_X_init_54 : decode b_X_init 54 = .ok (.invokespecial 34, 3) := by decide +kernel
theorem d_X_init_57 : decode b_X_init 57 = .ok (.putfield 37, 3) := by decide +kernel
theorem d_X_init_60 : decode b_X_init 60 = .ok (.aload_n 0, 1) := by decide +kernel
theorem d_X_init_61 : decode b_X_init 61 = .ok (.bipush 61, 2) := by decide +kernel
theorem d_X_init_63 : decode b_X_init 63 = .ok (.anewarray 41, 3) := by decide +kernel
theorem d_X_init_66 : decode b_X_init 66 = .ok (.putfield 43, 3) := by decide +kernel
theorem d_X_init_69 : decode b_X_init 69 = .ok (.aload_n 0, 1) := by decide +kernel
theorem d_X_init_70 : decode b_X_init 70 = .ok (.iconst 1, 1) := by decide +kernel
theorem d_X_init_71 : decode b_X_init 71 = .ok (.putfield 47, 3) := by decide +kernel
theorem d_X_init_74 : decode b_X_init 74 = .ok (.return_, 1) := by decide +kernel
theorem d_X_begin_0 : decode b_X_begin 0 = .ok (.aload_n 0, 1) := by decide +kernel
theorem d_X_begin_1 : decode b_X_begin 1 = .ok (.getfield 28, 3) := by decide +kernel
theorem d_X_begin_4 : decode b_X_begin 4 = .ok (.invokevirtual 51, 3) := by decide +kernel
theorem d_X_begin_7 : decode b_X_begin 7 = .ok (.istore_n 1, 1) := by decide +kernel
theorem d_X_begin_8 : decode b_X_begin 8 = .ok (.aload_n 0, 1) := by decide +kernel
theorem d_X_begin_9 : decode b_X_begin 9 = .ok (.getfield 47, 3) := by decide +kernel
theorem d_X_begin_12 : decode b_X_begin 12 = .ok (.ifCond .eq 17, 3) := by decide +kernel
theorem d_X_begin_15 : decode b_X_begin 15 = .ok (.iload_n 1, 1) := by decide +kernel
theorem d_X_begin_16 : decode b_X_begin 16 = .ok (.iconst (-1), 1) := by decide +kernel
theorem d_X_begin_17 : decode b_X_begin 17 = .ok (.if_icmp .eq 12, 3) := by decide +kernel
theorem d_X_begin_20 : decode b_X_begin 20 = .ok (.aload_n 0, 1) := by decide +kernel
theorem d_X_begin_21 : decode b_X_begin 21 = .ok (.getfield 55, 3) := by decide +kernel
theorem d_X_begin_24 : decode b_X_begin 24 = .ok (.bipush 60, 2) := by decide +kernel
theorem d_X_begin_26 : decode b_X_begin 26 = .ok (.if_icmp .lt 5, 3) := by decide +kernel
theorem d_X_begin_29 : decode b_X_begin 29 = .ok (.iconst (-1), 1) := by decide +kernel
theorem d_X_begin_30 : decode b_X_begin 30 = .ok (.ireturn, 1) := by decide +kernel
theorem d_X_begin_31 : decode b_X_begin 31 = .ok (.aload_n 0, 1) := by decide +kernel
theorem d_X_begin_32 : decode b_X_begin 32 = .ok (.dup, 1) := by decide +kernel
theorem d_X_begin_33 : decode b_X_begin 33 = .ok (.getfield 55, 3) := by decide +kernel
theorem d_X_begin_36 : decode b_X_begin 36 = .ok (.iconst 1, 1) := by decide +kernel
theorem d_X_begin_37 : decode b_X_begin 37 = .ok (.iadd, 1) := by decide +kernel
theorem d_X_begin_38 : decode b_X_begin 38 = .ok (.putfield 55, 3) := by decide +kernel
theorem d_X_begin_41 : decode b_X_begin 41 = .ok (.aload_n 0, 1) := by decide +kernel
theorem d_X_begin_42 : decode b_X_begin 42 = .ok (.getfield 43, 3) := by decide +kernel
theorem d_X_begin_45 : decode b_X_begin 45 = .ok (.aload_n 0, 1) := by decide +kernel
theorem d_X_begin_46 : decode b_X_begin 46 = .ok (.getfield 55, 3) := by decide +kernel
theorem d_X_begin_49 : decode b_X_begin 49 = .ok (.new 41, 3) := by decide +kernel
theorem d_X_begin_52 : decode b_X_begin 52 = .ok (.dup, 1) := by decide +kernel
theorem d_X_begin_53 : decode b_X_begin 53 = .ok (.aload_n 0, 1) := by decide +kernel
theorem d_X_begin_54 : decode b_X_begin 54 = .ok (.getfield 55, 3) := by decide +kernel
theorem d_X_begin_57 : decode b_X_begin 57 = .ok (.iload_n 1, 1) := by decide +kernel
theorem d_X_begin_58 : decode b_X_begin 58 = .ok (.invokespecial 59, 3) := by decide +kernel
theorem d_X_begin_61 : decode b_X_begin 61 = .ok (.aastore, 1) := by decide +kernel
theorem d_X_begin_62 : decode b_X_begin 62 = .ok (.aload_n 0, 1) := by decide +kernel
theorem d_X_begin_63 : decode b_X_begin 63 = .ok (.getfield 28, 3) := by decide +kernel
theorem d_X_begin_66 : decode b_X_begin 66 = .ok (.aload_n 0, 1) := by decide +kernel
theorem d_X_begin_67 : decode b_X_begin 67 = .ok (.getfield 43, 3) := by decide +kernel
theorem d_X_begin_70 : decode b_X_begin 70 = .ok (.aload_n 0, 1) := by decide +kernel
theorem d_X_begin_71 : decode b_X_begin 71 = .ok (.getfield 55, 3) := by decide +kernel
theorem d_X_begin_74 : decode b_X_begin 74 = .ok (.aaload, 1) := by decide +kernel
theorem d_X_begin_75 : decode b_X_begin 75 = .ok (.invokevirtual 62, 3) := by decide +kernel
theorem d_X_begin_78 : decode b_X_begin 78 = .ok (.aload_n 0, 1) := by decide +kernel
theorem d_X_begin_79 : decode b_X_begin 79 = .ok (.invokevirtual 66, 3) := by decide +kernel
theorem d_X_begin_82 : decode b_X_begin 82 = .ok (.aload_n 0, 1) := by decide +kernel
theorem d_X_begin_83 : decode b_X_begin 83 = .ok (.getfield 55, 3) := by decide +kernel
theorem d_X_begin_86 : decode b_X_begin 86 = .ok (.ireturn, 1) := by decide +kernel
theorem d_X_read_0 : decode b_X_read 0 = .ok (.aload_n 0, 1) := by decide +kernel
theorem d_X_read_1 : decode b_X_read 1 = .ok (.iload_n 1, 1) := by decide +kernel
theorem d_X_read_2 : decode b_X_read 2 = .ok (.iload_n 2, 1) := by decide +kernel
theorem d_X_read_3 : decode b_X_read 3 = .ok (.iconst 1, 1) := by decide +kernel
theorem d_X_read_4 : decode b_X_read 4 = .ok (.iconst 0, 1) := by decide +kernel
theorem d_X_read_5 : decode b_X_read 5 = .ok (.invokevirtual 69, 3) := by decide +kernel
theorem d_X_read_8 : decode b_X_read 8 = .ok (.istore_n 3, 1) := by decide +kernel
theorem d_X_read_9 : decode b_X_read 9 = .ok (.aload_n 0, 1) := by decide +kernel
theorem d_X_read_10 : decode b_X_read 10 = .ok (.invokevirtual 66, 3) := by decide +kernel
theorem d_X_read_13 : decode b_X_read 13 = .ok (.iload_n 3, 1) := by decide +kernel
theorem d_X_read_14 : decode b_X_read 14 = .ok (.ireturn, 1) := by decide +kernel
theorem d_X_write_0 : decode b_X_write 0 = .ok (.aload_n 0, 1) := by decide +kernel
theorem d_X_write_1 : decode b_X_write 1 = .ok (.iload_n 1, 1) := by decide +kernel
theorem d_X_write_2 : decode b_X_write 2 = .ok (.iload_n 2, 1) := by decide +kernel
theorem d_X_write_3 : decode b_X_write 3 = .ok (.iconst 2, 1) := by decide +kernel
theorem d_X_write_4 : decode b_X_write 4 = .ok (.iload_n 3, 1) := by decide +kernel
theorem d_X_write_5 : decode b_X_write 5 = .ok (.invokevirtual 69, 3) := by decide +kernel
theorem d_X_write_8 : decode b_X_write 8 = .ok (.istore 4, 2) := by decide +kernel
theorem d_X_write_10 : decode b_X_write 10 = .ok (.aload_n 0, 1) := by decide +kernel
theorem d_X_write_11 : decode b_X_write 11 = .ok (.invokevirtual 66, 3) := by decide +kernel
theorem d_X_write_14 : decode b_X_write 14 = .ok (.iload 4, 2) := by decide +kernel
theorem d_X_write_16 : decode b_X_write 16 = .ok (.ireturn, 1) := by decide +kernel
theorem d_X_commit_0 : decode b_X_commit 0 = .ok (.aload_n 0, 1) := by decide +kernel
theorem d_X_commit_1 : decode b_X_commit 1 = .ok (.iload_n 1, 1) := by decide +kernel
theorem d_X_commit_2 : decode b_X_commit 2 = .ok (.invokevirtual 73, 3) := by decide +kernel
theorem d_X_commit_5 : decode b_X_commit 5 = .ok (.astore_n 2, 1) := by decide +kernel
theorem d_X_commit_6 : decode b_X_commit 6 = .ok (.aload_n 2, 1) := by decide +kernel
theorem d_X_commit_7 : decode b_X_commit 7 = .ok (.ifnull 11, 3) := by decide +kernel
theorem d_X_commit_10 : decode b_X_commit 10 = .ok (.aload_n 2, 1) := by decide +kernel
theorem d_X_commit_11 : decode b_X_commit 11 = .ok (.getfield 77, 3) := by decide +kernel
theorem d_X_commit_14 : decode b_X_commit 14 = .ok (.iconst 1, 1) := by decide +kernel
theorem d_X_commit_15 : decode b_X_commit 15 = .ok (.if_icmp .eq 5, 3) := by decide +kernel
theorem d_X_commit_18 : decode b_X_commit 18 = .ok (.iconst 0, 1) := by decide +kernel
theorem d_X_commit_19 : decode b_X_commit 19 = .ok (.ireturn, 1) := by decide +kernel
theorem d_X_commit_20 : decode b_X_commit 20 = .ok (.aload_n 0, 1) := by decide +kernel
theorem d_X_commit_21 : decode b_X_commit 21 = .ok (.getfield 12, 3) := by decide +kernel
theorem d_X_commit_24 : decode b_X_commit 24 = .ok (.iload_n 1, 1) := by decide +kernel
theorem d_X_commit_25 : decode b_X_commit 25 = .ok (.invokevirtual 80, 3) := by decide +kernel
theorem d_X_commit_28 : decode b_X_commit 28 = .ok (.aload_n 2, 1) := by decide +kernel
theorem d_X_commit_29 : decode b_X_commit 29 = .ok (.iconst 3, 1) := by decide +kernel
theorem d_X_commit_30 : decode b_X_commit 30 = .ok (.putfield 77, 3) := by decide +kernel
theorem d_X_commit_33 : decode b_X_commit 33 = .ok (.aload_n 0, 1) := by decide +kernel
theorem d_X_commit_34 : decode b_X_commit 34 = .ok (.invokevirtual 66, 3) := by decide +kernel
theorem d_X_commit_37 : decode b_X_commit 37 = .ok (.iconst 1, 1) := by decide +kernel
theorem d_X_commit_38 : decode b_X_commit 38 = .ok (.ireturn, 1) := by decide +kernel
theorem d_X_abort_0 : decode b_X_abort 0 = .ok (.aload_n 0, 1) := by decide +kernel
theorem d_X_abort_1 : decode b_X_abort 1 = .ok (.iload_n 1, 1) := by decide +kernel
theorem d_X_abort_2 : decode b_X_abort 2 = .ok (.invokevirtual 73, 3) := by decide +kernel
theorem d_X_abort_5 : decode b_X_abort 5 = .ok (.astore_n 2, 1) := by decide +kernel
theorem d_X_abort_6 : decode b_X_abort 6 = .ok (.aload_n 2, 1) := by decide +kernel
theorem d_X_abort_7 : decode b_X_abort 7 = .ok (.ifnull 19, 3) := by decide +kernel
theorem d_X_abort_10 : decode b_X_abort 10 = .ok (.aload_n 2, 1) := by decide +kernel
theorem d_X_abort_11 : decode b_X_abort 11 = .ok (.getfield 77, 3) := by decide +kernel
theorem d_X_abort_14 : decode b_X_abort 14 = .ok (.iconst 1, 1) := by decide +kernel
theorem d_X_abort_15 : decode b_X_abort 15 = .ok (.if_icmp .eq 13, 3) := by decide +kernel
theorem d_X_abort_18 : decode b_X_abort 18 = .ok (.aload_n 2, 1) := by decide +kernel
theorem d_X_abort_19 : decode b_X_abort 19 = .ok (.getfield 77, 3) := by decide +kernel
theorem d_X_abort_22 : decode b_X_abort 22 = .ok (.iconst 2, 1) := by decide +kernel
theorem d_X_abort_23 : decode b_X_abort 23 = .ok (.if_icmp .eq 5, 3) := by decide +kernel
theorem d_X_abort_26 : decode b_X_abort 26 = .ok (.iconst 0, 1) := by decide +kernel
theorem d_X_abort_27 : decode b_X_abort 27 = .ok (.ireturn, 1) := by decide +kernel
theorem d_X_abort_28 : decode b_X_abort 28 = .ok (.aload_n 0, 1) := by decide +kernel
theorem d_X_abort_29 : decode b_X_abort 29 = .ok (.aload_n 2, 1) := by decide +kernel
theorem d_X_abort_30 : decode b_X_abort 30 = .ok (.invokevirtual 84, 3) := by decide +kernel
theorem d_X_abort_33 : decode b_X_abort 33 = .ok (.aload_n 0, 1) := by decide +kernel
theorem d_X_abort_34 : decode b_X_abort 34 = .ok (.invokevirtual 66, 3) := by decide +kernel
theorem d_X_abort_37 : decode b_X_abort 37 = .ok (.iconst 1, 1) := by decide +kernel
theorem d_X_abort_38 : decode b_X_abort 38 = .ok (.ireturn, 1) := by decide +kernel
theorem d_X_force_0 : decode b_X_force 0 = .ok (.aload_n 0, 1) := by decide +kernel
theorem d_X_force_1 : decode b_X_force 1 = .ok (.getfield 47, 3) := by decide +kernel
theorem d_X_force_4 : decode b_X_force 4 = .ok (.ifCond .ne 5, 3) := by decide +kernel
theorem d_X_force_7 : decode b_X_force 7 = .ok (.iconst 0, 1) := by decide +kernel
theorem d_X_force_8 : decode b_X_force 8 = .ok (.ireturn, 1) := by decide +kernel
theorem d_X_force_9 : decode b_X_force 9 = .ok (.aload_n 0, 1) := by decide +kernel
theorem d_X_force_10 : decode b_X_force 10 = .ok (.getfield 12, 3) := by decide +kernel
theorem d_X_force_13 : decode b_X_force 13 = .ok (.aload_n 0, 1) := by decide +kernel
theorem d_X_force_14 : decode b_X_force 14 = .ok (.getfield 12, 3) := by decide +kernel
theorem d_X_force_17 : decode b_X_force 17 = .ok (.getfield 87, 3) := by decide +kernel
theorem d_X_force_20 : decode b_X_force 20 = .ok (.invokevirtual 90, 3) := by decide +kernel
theorem d_X_force_23 : decode b_X_force 23 = .ok (.aload_n 0, 1) := by decide +kernel
theorem d_X_force_24 : decode b_X_force 24 = .ok (.invokevirtual 66, 3) := by decide +kernel
theorem d_X_force_27 : decode b_X_force 27 = .ok (.iconst 1, 1) := by decide +kernel
theorem d_X_force_28 : decode b_X_force 28 = .ok (.ireturn, 1) := by decide +kernel
theorem d_X_checkpoint_0 : decode b_X_checkpoint 0 = .ok (.aload_n 0, 1) := by decide +kernel
theorem d_X_checkpoint_1 : decode b_X_checkpoint 1 = .ok (.getfield 47, 3) := by decide +kernel
theorem d_X_checkpoint_4 : decode b_X_checkpoint 4 = .ok (.ifCond .eq 15, 3) := by decide +kernel
theorem d_X_checkpoint_7 : decode b_X_checkpoint 7 = .ok (.aload_n 0, 1) := by decide +kernel
theorem d_X_checkpoint_8 : decode b_X_checkpoint 8 = .ok (.getfield 12, 3) := by decide +kernel
theorem d_X_checkpoint_11 : decode b_X_checkpoint 11 = .ok (.getfield 93, 3) := by decide +kernel
theorem d_X_checkpoint_14 : decode b_X_checkpoint 14 = .ok (.bipush 20, 2) := by decide +kernel
theorem d_X_checkpoint_16 : decode b_X_checkpoint 16 = .ok (.if_icmp .lt 5, 3) := by decide +kernel
theorem d_X_checkpoint_19 : decode b_X_checkpoint 19 = .ok (.iconst (-1), 1) := by decide +kernel
theorem d_X_checkpoint_20 : decode b_X_checkpoint 20 = .ok (.ireturn, 1) := by decide +kernel
theorem d_X_checkpoint_21 : decode b_X_checkpoint 21 = .ok (.aload_n 0, 1) := by decide +kernel
theorem d_X_checkpoint_22 : decode b_X_checkpoint 22 = .ok (.getfield 12, 3) := by decide +kernel
theorem d_X_checkpoint_25 : decode b_X_checkpoint 25 = .ok (.aload_n 0, 1) := by decide +kernel
theorem d_X_checkpoint_26 : decode b_X_checkpoint 26 = .ok (.getfield 21, 3) := by decide +kernel
theorem d_X_checkpoint_29 : decode b_X_checkpoint 29 = .ok (.getfield 96, 3) := by decide +kernel
theorem d_X_checkpoint_32 : decode b_X_checkpoint 32 = .ok (.invokevirtual 100, 3) := by decide +kernel
theorem d_X_checkpoint_35 : decode b_X_checkpoint 35 = .ok (.istore_n 1, 1) := by decide +kernel
theorem d_X_checkpoint_36 : decode b_X_checkpoint 36 = .ok (.aload_n 0, 1) := by decide +kernel
theorem d_X_checkpoint_37 : decode b_X_checkpoint 37 = .ok (.invokevirtual 66, 3) := by decide +kernel
theorem d_X_checkpoint_40 : decode b_X_checkpoint 40 = .ok (.iload_n 1, 1) := by decide +kernel
theorem d_X_checkpoint_41 : decode b_X_checkpoint 41 = .ok (.ireturn, 1) := by decide +kernel
theorem d_X_flush_0 : decode b_X_flush 0 = .ok (.aload_n 0, 1) := by decide +kernel
theorem d_X_flush_1 : decode b_X_flush 1 = .ok (.getfield 47, 3) := by decide +kernel
theorem d_X_flush_4 : decode b_X_flush 4 = .ok (.ifCond .eq 21, 3) := by decide +kernel
theorem d_X_flush_7 : decode b_X_flush 7 = .ok (.iload_n 1, 1) := by decide +kernel
theorem d_X_flush_8 : decode b_X_flush 8 = .ok (.invokestatic 104, 3) := by decide +kernel
theorem d_X_flush_11 : decode b_X_flush 11 = .ok (.ifCond .eq 14, 3) := by decide +kernel
theorem d_X_flush_14 : decode b_X_flush 14 = .ok (.aload_n 0, 1) := by decide +kernel
theorem d_X_flush_15 : decode b_X_flush 15 = .ok (.getfield 21, 3) := by decide +kernel
theorem d_X_flush_18 : decode b_X_flush 18 = .ok (.iload_n 1, 1) := by decide +kernel
theorem d_X_flush_19 : decode b_X_flush 19 = .ok (.invokevirtual 108, 3) := by decide +kernel
theorem d_X_flush_22 : decode b_X_flush 22 = .ok (.ifCond .ne 5, 3) := by decide +kernel
theorem d_X_flush_25 : decode b_X_flush 25 = .ok (.iconst 0, 1) := by decide +kernel
theorem d_X_flush_26 : decode b_X_flush 26 = .ok (.ireturn, 1) := by decide +kernel
theorem d_X_flush_27 : decode b_X_flush 27 = .ok (.aload_n 0, 1) := by decide +kernel
theorem d_X_flush_28 : decode b_X_flush 28 = .ok (.getfield 21, 3) := by decide +kernel
theorem d_X_flush_31 : decode b_X_flush 31 = .ok (.iload_n 1, 1) := by decide +kernel
theorem d_X_flush_32 : decode b_X_flush 32 = .ok (.invokevirtual 111, 3) := by decide +kernel
theorem d_X_flush_35 : decode b_X_flush 35 = .ok (.aload_n 0, 1) := by decide +kernel
theorem d_X_flush_36 : decode b_X_flush 36 = .ok (.invokevirtual 66, 3) := by decide +kernel
theorem d_X_flush_39 : decode b_X_flush 39 = .ok (.iconst 1, 1) := by decide +kernel
theorem d_X_flush_40 : decode b_X_flush 40 = .ok (.ireturn, 1) := by decide +kernel
theorem d_X_crash_0 : decode b_X_crash 0 = .ok (.iload_n 1, 1) := by decide +kernel
theorem d_X_crash_1 : decode b_X_crash 1 = .ok (.ifCond .lt 12, 3) := by decide +kernel
theorem d_X_crash_4 : decode b_X_crash 4 = .ok (.aload_n 0, 1) := by decide +kernel
theorem d_X_crash_5 : decode b_X_crash 5 = .ok (.getfield 114, 3) := by decide +kernel
theorem d_X_crash_8 : decode b_X_crash 8 = .ok (.bipush 8, 2) := by decide +kernel
theorem d_X_crash_10 : decode b_X_crash 10 = .ok (.if_icmp .lt 5, 3) := by decide +kernel
theorem d_X_crash_13 : decode b_X_crash 13 = .ok (.iconst (-1), 1) := by decide +kernel
theorem d_X_crash_14 : decode b_X_crash 14 = .ok (.ireturn, 1) := by decide +kernel
theorem d_X_crash_15 : decode b_X_crash 15 = .ok (.aload_n 0, 1) := by decide +kernel
theorem d_X_crash_16 : decode b_X_crash 16 = .ok (.dup, 1) := by decide +kernel
theorem d_X_crash_17 : decode b_X_crash 17 = .ok (.getfield 114, 3) := by decide +kernel
theorem d_X_crash_20 : decode b_X_crash 20 = .ok (.iconst 1, 1) := by decide +kernel
theorem d_X_crash_21 : decode b_X_crash 21 = .ok (.iadd, 1) := by decide +kernel
theorem d_X_crash_22 : decode b_X_crash 22 = .ok (.putfield 114, 3) := by decide +kernel
theorem d_X_crash_25 : decode b_X_crash 25 = .ok (.aload_n 0, 1) := by decide +kernel
theorem d_X_crash_26 : decode b_X_crash 26 = .ok (.iconst 0, 1) := by decide +kernel
theorem d_X_crash_27 : decode b_X_crash 27 = .ok (.putfield 47, 3) := by decide +kernel
theorem d_X_crash_30 : decode b_X_crash 30 = .ok (.aload_n 0, 1) := by decide +kernel
theorem d_X_crash_31 : decode b_X_crash 31 = .ok (.getfield 12, 3) := by decide +kernel
theorem d_X_crash_34 : decode b_X_crash 34 = .ok (.aload_n 0, 1) := by decide +kernel
theorem d_X_crash_35 : decode b_X_crash 35 = .ok (.getfield 12, 3) := by decide +kernel
theorem d_X_crash_38 : decode b_X_crash 38 = .ok (.getfield 117, 3) := by decide +kernel
theorem d_X_crash_41 : decode b_X_crash 41 = .ok (.iload_n 1, 1) := by decide +kernel
theorem d_X_crash_42 : decode b_X_crash 42 = .ok (.aload_n 0, 1) := by decide +kernel
theorem d_X_crash_43 : decode b_X_crash 43 = .ok (.getfield 12, 3) := by decide +kernel
theorem d_X_crash_46 : decode b_X_crash 46 = .ok (.getfield 87, 3) := by decide +kernel
theorem d_X_crash_49 : decode b_X_crash 49 = .ok (.aload_n 0, 1) := by decide +kernel
theorem d_X_crash_50 : decode b_X_crash 50 = .ok (.getfield 12, 3) := by decide +kernel
theorem d_X_crash_53 : decode b_X_crash 53 = .ok (.getfield 117, 3) := by decide +kernel
theorem d_X_crash_56 : decode b_X_crash 56 = .ok (.isub, 1) := by decide +kernel
theorem d_X_crash_57 : decode b_X_crash 57 = .ok (.invokestatic 120, 3) := by decide +kernel
theorem d_X_crash_60 : decode b_X_crash 60 = .ok (.iadd, 1) := by decide +kernel
theorem d_X_crash_61 : decode b_X_crash 61 = .ok (.invokevirtual 90, 3) := by decide +kernel
theorem d_X_crash_64 : decode b_X_crash 64 = .ok (.aload_n 0, 1) := by decide +kernel
theorem d_X_crash_65 : decode b_X_crash 65 = .ok (.getfield 12, 3) := by decide +kernel
theorem d_X_crash_68 : decode b_X_crash 68 = .ok (.invokevirtual 126, 3) := by decide +kernel
theorem d_X_crash_71 : decode b_X_crash 71 = .ok (.aload_n 0, 1) := by decide +kernel
theorem d_X_crash_72 : decode b_X_crash 72 = .ok (.getfield 21, 3) := by decide +kernel
theorem d_X_crash_75 : decode b_X_crash 75 = .ok (.invokevirtual 129, 3) := by decide +kernel
theorem d_X_crash_78 : decode b_X_crash 78 = .ok (.aload_n 0, 1) := by decide +kernel
theorem d_X_crash_79 : decode b_X_crash 79 = .ok (.getfield 28, 3) := by decide +kernel
theorem d_X_crash_82 : decode b_X_crash 82 = .ok (.invokevirtual 132, 3) := by decide +kernel
theorem d_X_crash_85 : decode b_X_crash 85 = .ok (.aload_n 0, 1) := by decide +kernel
theorem d_X_crash_86 : decode b_X_crash 86 = .ok (.getfield 37, 3) := by decide +kernel
theorem d_X_crash_89 : decode b_X_crash 89 = .ok (.invokevirtual 135, 3) := by decide +kernel
theorem d_X_crash_92 : decode b_X_crash 92 = .ok (.aload_n 0, 1) := by decide +kernel
theorem d_X_crash_93 : decode b_X_crash 93 = .ok (.getfield 12, 3) := by decide +kernel
theorem d_X_crash_96 : decode b_X_crash 96 = .ok (.getfield 87, 3) := by decide +kernel
theorem d_X_crash_99 : decode b_X_crash 99 = .ok (.ireturn, 1) := by decide +kernel
theorem d_X_restart_0 : decode b_X_restart 0 = .ok (.aload_n 0, 1) := by decide +kernel
theorem d_X_restart_1 : decode b_X_restart 1 = .ok (.getfield 47, 3) := by decide +kernel
theorem d_X_restart_4 : decode b_X_restart 4 = .ok (.ifCond .ne 14, 3) := by decide +kernel
theorem d_X_restart_7 : decode b_X_restart 7 = .ok (.iload_n 1, 1) := by decide +kernel
theorem d_X_restart_8 : decode b_X_restart 8 = .ok (.iconst 1, 1) := by decide +kernel
theorem d_X_restart_9 : decode b_X_restart 9 = .ok (.if_icmp .lt 9, 3) := by decide +kernel
theorem d_X_restart_12 : decode b_X_restart 12 = .ok (.iload_n 1, 1) := by decide +kernel
theorem d_X_restart_13 : decode b_X_restart 13 = .ok (.bipush 100, 2) := by decide +kernel
theorem d_X_restart_15 : decode b_X_restart 15 = .ok (.if_icmp .le 5, 3) := by decide +kernel
theorem d_X_restart_18 : decode b_X_restart 18 = .ok (.iconst (-1), 1) := by decide +kernel
theorem d_X_restart_19 : decode b_X_restart 19 = .ok (.ireturn, 1) := by decide +kernel
theorem d_X_restart_20 : decode b_X_restart 20 = .ok (.iconst 0, 1) := by decide +kernel
theorem d_X_restart_21 : decode b_X_restart 21 = .ok (.istore_n 2, 1) := by decide +kernel
theorem d_X_restart_22 : decode b_X_restart 22 = .ok (.iload_n 2, 1) := by decide +kernel
theorem d_X_restart_23 : decode b_X_restart 23 = .ok (.iload_n 1, 1) := by decide +kernel
theorem d_X_restart_24 : decode b_X_restart 24 = .ok (.if_icmp .ge 37, 3) := by decide +kernel
theorem d_X_restart_27 : decode b_X_restart 27 = .ok (.aload_n 0, 1) := by decide +kernel
theorem d_X_restart_28 : decode b_X_restart 28 = .ok (.getfield 47, 3) := by decide +kernel
theorem d_X_restart_31 : decode b_X_restart 31 = .ok (.ifCond .ne 30, 3) := by decide +kernel
theorem d_X_restart_34 : decode b_X_restart 34 = .ok (.aload_n 0, 1) := by decide +kernel
theorem d_X_restart_35 : decode b_X_restart 35 = .ok (.getfield 37, 3) := by decide +kernel
theorem d_X_restart_38 : decode b_X_restart 38 = .ok (.invokevirtual 138, 3) := by decide +kernel
theorem d_X_restart_41 : decode b_X_restart 41 = .ok (.iinc 2 1, 3) := by decide +kernel
theorem d_X_restart_44 : decode b_X_restart 44 = .ok (.aload_n 0, 1) := by decide +kernel
theorem d_X_restart_45 : decode b_X_restart 45 = .ok (.getfield 37, 3) := by decide +kernel
theorem d_X_restart_48 : decode b_X_restart 48 = .ok (.invokevirtual 141, 3) := by decide +kernel
theorem d_X_restart_51 : decode b_X_restart 51 = .ok (.ifCond .eq (-29), 3) := by decide +kernel
theorem d_X_restart_54 : decode b_X_restart 54 = .ok (.aload_n 0, 1) := by decide +kernel
theorem d_X_restart_55 : decode b_X_restart 55 = .ok (.invokevirtual 145, 3) := by decide +kernel
theorem d_X_restart_58 : decode b_X_restart 58 = .ok (.goto (-36), 3) := by decide +kernel
theorem d_X_restart_61 : decode b_X_restart 61 = .ok (.iload_n 2, 1) := by decide +kernel
theorem d_X_restart_62 : decode b_X_restart 62 = .ok (.ireturn, 1) := by decide +kernel
theorem d_X_up_0 : decode b_X_up 0 = .ok (.aload_n 0, 1) := by decide +kernel
theorem d_X_up_1 : decode b_X_up 1 = .ok (.getfield 47, 3) := by decide +kernel
theorem d_X_up_4 : decode b_X_up 4 = .ok (.ireturn, 1) := by decide +kernel
theorem d_X_state_0 : decode b_X_state 0 = .ok (.aload_n 0, 1) := by decide +kernel
theorem d_X_state_1 : decode b_X_state 1 = .ok (.iload_n 1, 1) := by decide +kernel
theorem d_X_state_2 : decode b_X_state 2 = .ok (.invokevirtual 73, 3) := by decide +kernel
theorem d_X_state_5 : decode b_X_state 5 = .ok (.astore_n 2, 1) := by decide +kernel
theorem d_X_state_6 : decode b_X_state 6 = .ok (.aload_n 2, 1) := by decide +kernel
theorem d_X_state_7 : decode b_X_state 7 = .ok (.ifnonnull 7, 3) := by decide +kernel
theorem d_X_state_10 : decode b_X_state 10 = .ok (.iconst 0, 1) := by decide +kernel
theorem d_X_state_11 : decode b_X_state 11 = .ok (.goto 7, 3) := by decide +kernel
theorem d_X_state_14 : decode b_X_state 14 = .ok (.aload_n 2, 1) := by decide +kernel
theorem d_X_state_15 : decode b_X_state 15 = .ok (.getfield 77, 3) := by decide +kernel
theorem d_X_state_18 : decode b_X_state 18 = .ok (.ireturn, 1) := by decide +kernel
theorem d_X_outcome_0 : decode b_X_outcome 0 = .ok (.aload_n 0, 1) := by decide +kernel
theorem d_X_outcome_1 : decode b_X_outcome 1 = .ok (.iload_n 1, 1) := by decide +kernel
theorem d_X_outcome_2 : decode b_X_outcome 2 = .ok (.invokevirtual 73, 3) := by decide +kernel
theorem d_X_outcome_5 : decode b_X_outcome 5 = .ok (.astore_n 2, 1) := by decide +kernel
theorem d_X_outcome_6 : decode b_X_outcome 6 = .ok (.aload_n 2, 1) := by decide +kernel
theorem d_X_outcome_7 : decode b_X_outcome 7 = .ok (.ifnonnull 7, 3) := by decide +kernel
theorem d_X_outcome_10 : decode b_X_outcome 10 = .ok (.iconst (-1), 1) := by decide +kernel
theorem d_X_outcome_11 : decode b_X_outcome 11 = .ok (.goto 7, 3) := by decide +kernel
theorem d_X_outcome_14 : decode b_X_outcome 14 = .ok (.aload_n 2, 1) := by decide +kernel
theorem d_X_outcome_15 : decode b_X_outcome 15 = .ok (.getfield 148, 3) := by decide +kernel
theorem d_X_outcome_18 : decode b_X_outcome 18 = .ok (.ireturn, 1) := by decide +kernel
theorem d_X_value_0 : decode b_X_value 0 = .ok (.aload_n 0, 1) := by decide +kernel
theorem d_X_value_1 : decode b_X_value 1 = .ok (.iload_n 1, 1) := by decide +kernel
theorem d_X_value_2 : decode b_X_value 2 = .ok (.invokevirtual 73, 3) := by decide +kernel
theorem d_X_value_5 : decode b_X_value 5 = .ok (.astore_n 2, 1) := by decide +kernel
theorem d_X_value_6 : decode b_X_value 6 = .ok (.aload_n 2, 1) := by decide +kernel
theorem d_X_value_7 : decode b_X_value 7 = .ok (.ifnonnull 7, 3) := by decide +kernel
theorem d_X_value_10 : decode b_X_value 10 = .ok (.iconst 0, 1) := by decide +kernel
theorem d_X_value_11 : decode b_X_value 11 = .ok (.goto 7, 3) := by decide +kernel
theorem d_X_value_14 : decode b_X_value 14 = .ok (.aload_n 2, 1) := by decide +kernel
theorem d_X_value_15 : decode b_X_value 15 = .ok (.getfield 151, 3) := by decide +kernel
theorem d_X_value_18 : decode b_X_value 18 = .ok (.ireturn, 1) := by decide +kernel
theorem d_X_stored_0 : decode b_X_stored 0 = .ok (.aload_n 0, 1) := by decide +kernel
theorem d_X_stored_1 : decode b_X_stored 1 = .ok (.iload_n 1, 1) := by decide +kernel
theorem d_X_stored_2 : decode b_X_stored 2 = .ok (.invokevirtual 154, 3) := by decide +kernel
theorem d_X_stored_5 : decode b_X_stored 5 = .ok (.istore_n 2, 1) := by decide +kernel
theorem d_X_stored_6 : decode b_X_stored 6 = .ok (.iload_n 2, 1) := by decide +kernel
theorem d_X_stored_7 : decode b_X_stored 7 = .ok (.iconst (-1), 1) := by decide +kernel
theorem d_X_stored_8 : decode b_X_stored 8 = .ok (.if_icmp .ne 7, 3) := by decide +kernel
theorem d_X_stored_11 : decode b_X_stored 11 = .ok (.iconst 0, 1) := by decide +kernel
theorem d_X_stored_12 : decode b_X_stored 12 = .ok (.goto 11, 3) := by decide +kernel
theorem d_X_stored_15 : decode b_X_stored 15 = .ok (.aload_n 0, 1) := by decide +kernel
theorem d_X_stored_16 : decode b_X_stored 16 = .ok (.getfield 21, 3) := by decide +kernel
theorem d_X_stored_19 : decode b_X_stored 19 = .ok (.iload_n 2, 1) := by decide +kernel
theorem d_X_stored_20 : decode b_X_stored 20 = .ok (.invokevirtual 158, 3) := by decide +kernel
theorem d_X_stored_23 : decode b_X_stored 23 = .ok (.ireturn, 1) := by decide +kernel
theorem d_X_place_0 : decode b_X_place 0 = .ok (.iload_n 1, 1) := by decide +kernel
theorem d_X_place_1 : decode b_X_place 1 = .ok (.invokestatic 161, 3) := by decide +kernel
theorem d_X_place_4 : decode b_X_place 4 = .ok (.ifCond .eq 14, 3) := by decide +kernel
theorem d_X_place_7 : decode b_X_place 7 = .ok (.aload_n 0, 1) := by decide +kernel
theorem d_X_place_8 : decode b_X_place 8 = .ok (.getfield 21, 3) := by decide +kernel
theorem d_X_place_11 : decode b_X_place 11 = .ok (.iload_n 1, 1) := by decide +kernel
theorem d_X_place_12 : decode b_X_place 12 = .ok (.invokevirtual 164, 3) := by decide +kernel
theorem d_X_place_15 : decode b_X_place 15 = .ok (.goto 4, 3) := by decide +kernel
theorem d_X_place_18 : decode b_X_place 18 = .ok (.iconst (-1), 1) := by decide +kernel
theorem d_X_place_19 : decode b_X_place 19 = .ok (.ireturn, 1) := by decide +kernel
theorem d_X_after_0 : decode b_X_after 0 = .ok (.aload_n 0, 1) := by decide +kernel
theorem d_X_after_1 : decode b_X_after 1 = .ok (.getfield 47, 3) := by decide +kernel
theorem d_X_after_4 : decode b_X_after 4 = .ok (.ifCond .eq 14, 3) := by decide +kernel
theorem d_X_after_7 : decode b_X_after 7 = .ok (.aload_n 0, 1) := by decide +kernel
theorem d_X_after_8 : decode b_X_after 8 = .ok (.getfield 21, 3) := by decide +kernel
theorem d_X_after_11 : decode b_X_after 11 = .ok (.iload_n 1, 1) := by decide +kernel
theorem d_X_after_12 : decode b_X_after 12 = .ok (.invokevirtual 167, 3) := by decide +kernel
theorem d_X_after_15 : decode b_X_after 15 = .ok (.goto 4, 3) := by decide +kernel
theorem d_X_after_18 : decode b_X_after 18 = .ok (.iconst (-1), 1) := by decide +kernel
theorem d_X_after_19 : decode b_X_after 19 = .ok (.ireturn, 1) := by decide +kernel
theorem d_X_count_0 : decode b_X_count 0 = .ok (.iload_n 1, 1) := by decide +kernel
theorem d_X_count_1 : decode b_X_count 1 = .ok (.tableswitch 63 0 3 #[31, 39, 47, 55], 31) := by decide +kernel
theorem d_X_count_32 : decode b_X_count 32 = .ok (.aload_n 0, 1) := by decide +kernel
theorem d_X_count_33 : decode b_X_count 33 = .ok (.getfield 12, 3) := by decide +kernel
theorem d_X_count_36 : decode b_X_count 36 = .ok (.getfield 87, 3) := by decide +kernel
theorem d_X_count_39 : decode b_X_count 39 = .ok (.ireturn, 1) := by decide +kernel
theorem d_X_count_40 : decode b_X_count 40 = .ok (.aload_n 0, 1) := by decide +kernel
theorem d_X_count_41 : decode b_X_count 41 = .ok (.getfield 12, 3) := by decide +kernel
theorem d_X_count_44 : decode b_X_count 44 = .ok (.getfield 117, 3) := by decide +kernel
theorem d_X_count_47 : decode b_X_count 47 = .ok (.ireturn, 1) := by decide +kernel
theorem d_X_count_48 : decode b_X_count 48 = .ok (.aload_n 0, 1) := by decide +kernel
theorem d_X_count_49 : decode b_X_count 49 = .ok (.getfield 21, 3) := by decide +kernel
theorem d_X_count_52 : decode b_X_count 52 = .ok (.getfield 170, 3) := by decide +kernel
theorem d_X_count_55 : decode b_X_count 55 = .ok (.ireturn, 1) := by decide +kernel
theorem d_X_count_56 : decode b_X_count 56 = .ok (.aload_n 0, 1) := by decide +kernel
theorem d_X_count_57 : decode b_X_count 57 = .ok (.getfield 21, 3) := by decide +kernel
theorem d_X_count_60 : decode b_X_count 60 = .ok (.getfield 173, 3) := by decide +kernel
theorem d_X_count_63 : decode b_X_count 63 = .ok (.ireturn, 1) := by decide +kernel
theorem d_X_count_64 : decode b_X_count 64 = .ok (.iconst (-1), 1) := by decide +kernel
theorem d_X_count_65 : decode b_X_count 65 = .ok (.ireturn, 1) := by decide +kernel
theorem d_X_page_0 : decode b_X_page 0 = .ok (.iload_n 1, 1) := by decide +kernel
theorem d_X_page_1 : decode b_X_page 1 = .ok (.invokestatic 104, 3) := by decide +kernel
theorem d_X_page_4 : decode b_X_page 4 = .ok (.ifCond .ne 5, 3) := by decide +kernel
theorem d_X_page_7 : decode b_X_page 7 = .ok (.iconst (-1), 1) := by decide +kernel
theorem d_X_page_8 : decode b_X_page 8 = .ok (.ireturn, 1) := by decide +kernel
theorem d_X_page_9 : decode b_X_page 9 = .ok (.iload_n 2, 1) := by decide +kernel
theorem d_X_page_10 : decode b_X_page 10 = .ok (.tableswitch 94 0 2 #[26, 52, 81], 26) := by decide +kernel
theorem d_X_page_36 : decode b_X_page 36 = .ok (.aload_n 0, 1) := by decide +kernel
theorem d_X_page_37 : decode b_X_page 37 = .ok (.getfield 21, 3) := by decide +kernel
theorem d_X_page_40 : decode b_X_page 40 = .ok (.getfield 176, 3) := by decide +kernel
theorem d_X_page_43 : decode b_X_page 43 = .ok (.iload_n 1, 1) := by decide +kernel
theorem d_X_page_44 : decode b_X_page 44 = .ok (.baload, 1) := by decide +kernel
theorem d_X_page_45 : decode b_X_page 45 = .ok (.ifCond .eq 15, 3) := by decide +kernel
theorem d_X_page_48 : decode b_X_page 48 = .ok (.aload_n 0, 1) := by decide +kernel
theorem d_X_page_49 : decode b_X_page 49 = .ok (.getfield 21, 3) := by decide +kernel
theorem d_X_page_52 : decode b_X_page 52 = .ok (.getfield 96, 3) := by decide +kernel
theorem d_X_page_55 : decode b_X_page 55 = .ok (.iload_n 1, 1) := by decide +kernel
theorem d_X_page_56 : decode b_X_page 56 = .ok (.iaload, 1) := by decide +kernel
theorem d_X_page_57 : decode b_X_page 57 = .ok (.goto 4, 3) := by decide +kernel
theorem d_X_page_60 : decode b_X_page 60 = .ok (.iconst (-1), 1) := by decide +kernel
theorem d_X_page_61 : decode b_X_page 61 = .ok (.ireturn, 1) := by decide +kernel
theorem d_X_page_62 : decode b_X_page 62 = .ok (.aload_n 0, 1) := by decide +kernel
theorem d_X_page_63 : decode b_X_page 63 = .ok (.getfield 21, 3) := by decide +kernel
theorem d_X_page_66 : decode b_X_page 66 = .ok (.getfield 176, 3) := by decide +kernel
theorem d_X_page_69 : decode b_X_page 69 = .ok (.iload_n 1, 1) := by decide +kernel
theorem d_X_page_70 : decode b_X_page 70 = .ok (.baload, 1) := by decide +kernel
theorem d_X_page_71 : decode b_X_page 71 = .ok (.ifCond .eq 18, 3) := by decide +kernel
theorem d_X_page_74 : decode b_X_page 74 = .ok (.aload_n 0, 1) := by decide +kernel
theorem d_X_page_75 : decode b_X_page 75 = .ok (.getfield 21, 3) := by decide +kernel
theorem d_X_page_78 : decode b_X_page 78 = .ok (.getfield 180, 3) := by decide +kernel
theorem d_X_page_81 : decode b_X_page 81 = .ok (.iload_n 1, 1) := by decide +kernel
theorem d_X_page_82 : decode b_X_page 82 = .ok (.aaload, 1) := by decide +kernel
theorem d_X_page_83 : decode b_X_page 83 = .ok (.getfield 184, 3) := by decide +kernel
theorem d_X_page_86 : decode b_X_page 86 = .ok (.goto 4, 3) := by decide +kernel
theorem d_X_page_89 : decode b_X_page 89 = .ok (.iconst (-1), 1) := by decide +kernel
theorem d_X_page_90 : decode b_X_page 90 = .ok (.ireturn, 1) := by decide +kernel
theorem d_X_page_91 : decode b_X_page 91 = .ok (.aload_n 0, 1) := by decide +kernel
theorem d_X_page_92 : decode b_X_page 92 = .ok (.getfield 21, 3) := by decide +kernel
theorem d_X_page_95 : decode b_X_page 95 = .ok (.getfield 189, 3) := by decide +kernel
theorem d_X_page_98 : decode b_X_page 98 = .ok (.iload_n 1, 1) := by decide +kernel
theorem d_X_page_99 : decode b_X_page 99 = .ok (.aaload, 1) := by decide +kernel
theorem d_X_page_100 : decode b_X_page 100 = .ok (.getfield 184, 3) := by decide +kernel
theorem d_X_page_103 : decode b_X_page 103 = .ok (.ireturn, 1) := by decide +kernel
theorem d_X_page_104 : decode b_X_page 104 = .ok (.iconst (-1), 1) := by decide +kernel
theorem d_X_page_105 : decode b_X_page 105 = .ok (.ireturn, 1) := by decide +kernel
theorem d_X_isKey_0 : decode b_X_isKey 0 = .ok (.iload_n 0, 1) := by decide +kernel
theorem d_X_isKey_1 : decode b_X_isKey 1 = .ok (.ifCond .lt 13, 3) := by decide +kernel
theorem d_X_isKey_4 : decode b_X_isKey 4 = .ok (.iload_n 0, 1) := by decide +kernel
theorem d_X_isKey_5 : decode b_X_isKey 5 = .ok (.bipush 100, 2) := by decide +kernel
theorem d_X_isKey_7 : decode b_X_isKey 7 = .ok (.if_icmp .ge 7, 3) := by decide +kernel
theorem d_X_isKey_10 : decode b_X_isKey 10 = .ok (.iconst 1, 1) := by decide +kernel
theorem d_X_isKey_11 : decode b_X_isKey 11 = .ok (.goto 4, 3) := by decide +kernel
theorem d_X_isKey_14 : decode b_X_isKey 14 = .ok (.iconst 0, 1) := by decide +kernel
theorem d_X_isKey_15 : decode b_X_isKey 15 = .ok (.ireturn, 1) := by decide +kernel
theorem d_X_isPage_0 : decode b_X_isPage 0 = .ok (.iload_n 0, 1) := by decide +kernel
theorem d_X_isPage_1 : decode b_X_isPage 1 = .ok (.ifCond .lt 13, 3) := by decide +kernel
theorem d_X_isPage_4 : decode b_X_isPage 4 = .ok (.iload_n 0, 1) := by decide +kernel
theorem d_X_isPage_5 : decode b_X_isPage 5 = .ok (.bipush 6, 2) := by decide +kernel
theorem d_X_isPage_7 : decode b_X_isPage 7 = .ok (.if_icmp .ge 7, 3) := by decide +kernel
theorem d_X_isPage_10 : decode b_X_isPage 10 = .ok (.iconst 1, 1) := by decide +kernel
theorem d_X_isPage_11 : decode b_X_isPage 11 = .ok (.goto 4, 3) := by decide +kernel
theorem d_X_isPage_14 : decode b_X_isPage 14 = .ok (.iconst 0, 1) := by decide +kernel
theorem d_X_isPage_15 : decode b_X_isPage 15 = .ok (.ireturn, 1) := by decide +kernel
theorem d_X_find_0 : decode b_X_find 0 = .ok (.iload_n 1, 1) := by decide +kernel
theorem d_X_find_1 : decode b_X_find 1 = .ok (.iconst 1, 1) := by decide +kernel
theorem d_X_find_2 : decode b_X_find 2 = .ok (.if_icmp .lt 20, 3) := by decide +kernel
theorem d_X_find_5 : decode b_X_find 5 = .ok (.iload_n 1, 1) := by decide +kernel
theorem d_X_find_6 : decode b_X_find 6 = .ok (.aload_n 0, 1) := by decide +kernel
theorem d_X_find_7 : decode b_X_find 7 = .ok (.getfield 55, 3) := by decide +kernel
theorem d_X_find_10 : decode b_X_find 10 = .ok (.if_icmp .gt 12, 3) := by decide +kernel
theorem d_X_find_13 : decode b_X_find 13 = .ok (.aload_n 0, 1) := by decide +kernel
theorem d_X_find_14 : decode b_X_find 14 = .ok (.getfield 43, 3) := by decide +kernel
theorem d_X_find_17 : decode b_X_find 17 = .ok (.iload_n 1, 1) := by decide +kernel
theorem d_X_find_18 : decode b_X_find 18 = .ok (.aaload, 1) := by decide +kernel
theorem d_X_find_19 : decode b_X_find 19 = .ok (.goto 4, 3) := by decide +kernel
theorem d_X_find_22 : decode b_X_find 22 = .ok (.aconst_null, 1) := by decide +kernel
theorem d_X_find_23 : decode b_X_find 23 = .ok (.areturn, 1) := by decide +kernel
theorem d_X_request_0 : decode b_X_request 0 = .ok (.aload_n 0, 1) := by decide +kernel
theorem d_X_request_1 : decode b_X_request 1 = .ok (.iload_n 1, 1) := by decide +kernel
theorem d_X_request_2 : decode b_X_request 2 = .ok (.invokevirtual 73, 3) := by decide +kernel
theorem d_X_request_5 : decode b_X_request 5 = .ok (.astore 5, 2) := by decide +kernel
theorem d_X_request_7 : decode b_X_request 7 = .ok (.aload 5, 2) := by decide +kernel
theorem d_X_request_9 : decode b_X_request 9 = .ok (.ifnull 19, 3) := by decide +kernel
theorem d_X_request_12 : decode b_X_request 12 = .ok (.aload 5, 2) := by decide +kernel
theorem d_X_request_14 : decode b_X_request 14 = .ok (.getfield 77, 3) := by decide +kernel
theorem d_X_request_17 : decode b_X_request 17 = .ok (.iconst 1, 1) := by decide +kernel
theorem d_X_request_18 : decode b_X_request 18 = .ok (.if_icmp .ne 10, 3) := by decide +kernel
theorem d_X_request_21 : decode b_X_request 21 = .ok (.iload_n 2, 1) := by decide +kernel
theorem d_X_request_22 : decode b_X_request 22 = .ok (.invokestatic 161, 3) := by decide +kernel
theorem d_X_request_25 : decode b_X_request 25 = .ok (.ifCond .ne 5, 3) := by decide +kernel
theorem d_X_request_28 : decode b_X_request 28 = .ok (.iconst (-1), 1) := by decide +kernel
theorem d_X_request_29 : decode b_X_request 29 = .ok (.ireturn, 1) := by decide +kernel
theorem d_X_request_30 : decode b_X_request 30 = .ok (.aload_n 0, 1) := by decide +kernel
theorem d_X_request_31 : decode b_X_request 31 = .ok (.dup, 1) := by decide +kernel
theorem d_X_request_32 : decode b_X_request 32 = .ok (.getfield 192, 3) := by decide +kernel
theorem d_X_request_35 : decode b_X_request 35 = .ok (.iconst 1, 1) := by decide +kernel
theorem d_X_request_36 : decode b_X_request 36 = .ok (.iadd, 1) := by decide +kernel
theorem d_X_request_37 : decode b_X_request 37 = .ok (.putfield 192, 3) := by decide +kernel
theorem d_X_request_40 : decode b_X_request 40 = .ok (.aload 5, 2) := by decide +kernel
theorem d_X_request_42 : decode b_X_request 42 = .ok (.aload_n 0, 1) := by decide +kernel
theorem d_X_request_43 : decode b_X_request 43 = .ok (.getfield 192, 3) := by decide +kernel
theorem d_X_request_46 : decode b_X_request 46 = .ok (.iload_n 2, 1) := by decide +kernel
theorem d_X_request_47 : decode b_X_request 47 = .ok (.iload_n 3, 1) := by decide +kernel
theorem d_X_request_48 : decode b_X_request 48 = .ok (.iload 4, 2) := by decide +kernel
theorem d_X_request_50 : decode b_X_request 50 = .ok (.invokevirtual 195, 3) := by decide +kernel
theorem d_X_request_53 : decode b_X_request 53 = .ok (.aload_n 0, 1) := by decide +kernel
theorem d_X_request_54 : decode b_X_request 54 = .ok (.getfield 28, 3) := by decide +kernel
theorem d_X_request_57 : decode b_X_request 57 = .ok (.aload 5, 2) := by decide +kernel
theorem d_X_request_59 : decode b_X_request 59 = .ok (.invokevirtual 199, 3) := by decide +kernel
theorem d_X_request_62 : decode b_X_request 62 = .ok (.ifCond .eq 15, 3) := by decide +kernel
theorem d_X_request_65 : decode b_X_request 65 = .ok (.aload_n 0, 1) := by decide +kernel
theorem d_X_request_66 : decode b_X_request 66 = .ok (.aload 5, 2) := by decide +kernel
theorem d_X_request_68 : decode b_X_request 68 = .ok (.invokevirtual 203, 3) := by decide +kernel
theorem d_X_request_71 : decode b_X_request 71 = .ok (.aload 5, 2) := by decide +kernel
theorem d_X_request_73 : decode b_X_request 73 = .ok (.getfield 148, 3) := by decide +kernel
theorem d_X_request_76 : decode b_X_request 76 = .ok (.ireturn, 1) := by decide +kernel
theorem d_X_request_77 : decode b_X_request 77 = .ok (.aload 5, 2) := by decide +kernel
theorem d_X_request_79 : decode b_X_request 79 = .ok (.iconst 2, 1) := by decide +kernel
theorem d_X_request_80 : decode b_X_request 80 = .ok (.putfield 77, 3) := by decide +kernel
theorem d_X_request_83 : decode b_X_request 83 = .ok (.aload 5, 2) := by decide +kernel
theorem d_X_request_85 : decode b_X_request 85 = .ok (.iconst 1, 1) := by decide +kernel
theorem d_X_request_86 : decode b_X_request 86 = .ok (.putfield 148, 3) := by decide +kernel
theorem d_X_request_89 : decode b_X_request 89 = .ok (.aload_n 0, 1) := by decide +kernel
theorem d_X_request_90 : decode b_X_request 90 = .ok (.getfield 28, 3) := by decide +kernel
theorem d_X_request_93 : decode b_X_request 93 = .ok (.aload 5, 2) := by decide +kernel
theorem d_X_request_95 : decode b_X_request 95 = .ok (.invokevirtual 206, 3) := by decide +kernel
theorem d_X_request_98 : decode b_X_request 98 = .ok (.ifCond .eq 15, 3) := by decide +kernel
theorem d_X_request_101 : decode b_X_request 101 = .ok (.aload 5, 2) := by decide +kernel
theorem d_X_request_103 : decode b_X_request 103 = .ok (.iconst 2, 1) := by decide +kernel
theorem d_X_request_104 : decode b_X_request 104 = .ok (.putfield 148, 3) := by decide +kernel
theorem d_X_request_107 : decode b_X_request 107 = .ok (.aload_n 0, 1) := by decide +kernel
theorem d_X_request_108 : decode b_X_request 108 = .ok (.aload 5, 2) := by decide +kernel
theorem d_X_request_110 : decode b_X_request 110 = .ok (.invokevirtual 84, 3) := by decide +kernel
theorem d_X_request_113 : decode b_X_request 113 = .ok (.aload 5, 2) := by decide +kernel
theorem d_X_request_115 : decode b_X_request 115 = .ok (.getfield 148, 3) := by decide +kernel
theorem d_X_request_118 : decode b_X_request 118 = .ok (.ireturn, 1) := by decide +kernel
theorem d_X_grant_0 : decode b_X_grant 0 = .ok (.aload_n 0, 1) := by decide +kernel
theorem d_X_grant_1 : decode b_X_grant 1 = .ok (.getfield 28, 3) := by decide +kernel
theorem d_X_grant_4 : decode b_X_grant 4 = .ok (.aload_n 1, 1) := by decide +kernel
theorem d_X_grant_5 : decode b_X_grant 5 = .ok (.invokevirtual 209, 3) := by decide +kernel
theorem d_X_grant_8 : decode b_X_grant 8 = .ok (.aload_n 1, 1) := by decide +kernel
theorem d_X_grant_9 : decode b_X_grant 9 = .ok (.iconst 1, 1) := by decide +kernel
theorem d_X_grant_10 : decode b_X_grant 10 = .ok (.putfield 77, 3) := by decide +kernel
theorem d_X_grant_13 : decode b_X_grant 13 = .ok (.aload_n 1, 1) := by decide +kernel
theorem d_X_grant_14 : decode b_X_grant 14 = .ok (.getfield 212, 3) := by decide +kernel
theorem d_X_grant_17 : decode b_X_grant 17 = .ok (.iconst 1, 1) := by decide +kernel
theorem d_X_grant_18 : decode b_X_grant 18 = .ok (.if_icmp .ne 11, 3) := by decide +kernel
theorem d_X_grant_21 : decode b_X_grant 21 = .ok (.aload_n 0, 1) := by decide +kernel
theorem d_X_grant_22 : decode b_X_grant 22 = .ok (.aload_n 1, 1) := by decide +kernel
theorem d_X_grant_23 : decode b_X_grant 23 = .ok (.invokevirtual 215, 3) := by decide +kernel
theorem d_X_grant_26 : decode b_X_grant 26 = .ok (.goto 8, 3) := by decide +kernel
theorem d_X_grant_29 : decode b_X_grant 29 = .ok (.aload_n 0, 1) := by decide +kernel
theorem d_X_grant_30 : decode b_X_grant 30 = .ok (.aload_n 1, 1) := by decide +kernel
theorem d_X_grant_31 : decode b_X_grant 31 = .ok (.invokevirtual 218, 3) := by decide +kernel
theorem d_X_grant_34 : decode b_X_grant 34 = .ok (.return_, 1) := by decide +kernel
theorem d_X_readFor_0 : decode b_X_readFor 0 = .ok (.aload_n 0, 1) := by decide +kernel
theorem d_X_readFor_1 : decode b_X_readFor 1 = .ok (.getfield 21, 3) := by decide +kernel
theorem d_X_readFor_4 : decode b_X_readFor 4 = .ok (.aload_n 1, 1) := by decide +kernel
theorem d_X_readFor_5 : decode b_X_readFor 5 = .ok (.getfield 221, 3) := by decide +kernel
theorem d_X_readFor_8 : decode b_X_readFor 8 = .ok (.invokevirtual 164, 3) := by decide +kernel
theorem d_X_readFor_11 : decode b_X_readFor 11 = .ok (.istore_n 2, 1) := by decide +kernel
theorem d_X_readFor_12 : decode b_X_readFor 12 = .ok (.iload_n 2, 1) := by decide +kernel
theorem d_X_readFor_13 : decode b_X_readFor 13 = .ok (.iconst (-1), 1) := by decide +kernel
theorem d_X_readFor_14 : decode b_X_readFor 14 = .ok (.if_icmp .ne 11, 3) := by decide +kernel
theorem d_X_readFor_17 : decode b_X_readFor 17 = .ok (.aload_n 1, 1) := by decide +kernel
theorem d_X_readFor_18 : decode b_X_readFor 18 = .ok (.iconst 0, 1) := by decide +kernel
theorem d_X_readFor_19 : decode b_X_readFor 19 = .ok (.putfield 151, 3) := by decide +kernel
theorem d_X_readFor_22 : decode b_X_readFor 22 = .ok (.goto 25, 3) := by decide +kernel
theorem d_X_readFor_25 : decode b_X_readFor 25 = .ok (.aload_n 0, 1) := by decide +kernel
theorem d_X_readFor_26 : decode b_X_readFor 26 = .ok (.getfield 21, 3) := by decide +kernel
theorem d_X_readFor_29 : decode b_X_readFor 29 = .ok (.iload_n 2, 1) := by decide +kernel
theorem d_X_readFor_30 : decode b_X_readFor 30 = .ok (.iconst 4, 1) := by decide +kernel
theorem d_X_readFor_31 : decode b_X_readFor 31 = .ok (.idiv, 1) := by decide +kernel
theorem d_X_readFor_32 : decode b_X_readFor 32 = .ok (.invokevirtual 224, 3) := by decide +kernel
theorem d_X_readFor_35 : decode b_X_readFor 35 = .ok (.aload_n 1, 1) := by decide +kernel
theorem d_X_readFor_36 : decode b_X_readFor 36 = .ok (.aload_n 0, 1) := by decide +kernel
theorem d_X_readFor_37 : decode b_X_readFor 37 = .ok (.getfield 21, 3) := by decide +kernel
theorem d_X_readFor_40 : decode b_X_readFor 40 = .ok (.iload_n 2, 1) := by decide +kernel
theorem d_X_readFor_41 : decode b_X_readFor 41 = .ok (.invokevirtual 158, 3) := by decide +kernel
theorem d_X_readFor_44 : decode b_X_readFor 44 = .ok (.putfield 151, 3) := by decide +kernel
theorem d_X_readFor_47 : decode b_X_readFor 47 = .ok (.aload_n 1, 1) := by decide +kernel
theorem d_X_readFor_48 : decode b_X_readFor 48 = .ok (.iconst 0, 1) := by decide +kernel
theorem d_X_readFor_49 : decode b_X_readFor 49 = .ok (.putfield 148, 3) := by decide +kernel
theorem d_X_readFor_52 : decode b_X_readFor 52 = .ok (.return_, 1) := by decide +kernel
theorem d_X_writeFor_0 : decode b_X_writeFor 0 = .ok (.aload_n 0, 1) := by decide +kernel
theorem d_X_writeFor_1 : decode b_X_writeFor 1 = .ok (.getfield 21, 3) := by decide +kernel
theorem d_X_writeFor_4 : decode b_X_writeFor 4 = .ok (.aload_n 1, 1) := by decide +kernel
theorem d_X_writeFor_5 : decode b_X_writeFor 5 = .ok (.getfield 221, 3) := by decide +kernel
theorem d_X_writeFor_8 : decode b_X_writeFor 8 = .ok (.invokevirtual 164, 3) := by decide +kernel
theorem d_X_writeFor_11 : decode b_X_writeFor 11 = .ok (.istore_n 2, 1) := by decide +kernel
theorem d_X_writeFor_12 : decode b_X_writeFor 12 = .ok (.iload_n 2, 1) := by decide +kernel
theorem d_X_writeFor_13 : decode b_X_writeFor 13 = .ok (.iconst (-1), 1) := by decide +kernel
theorem d_X_writeFor_14 : decode b_X_writeFor 14 = .ok (.if_icmp .ne 12, 3) := by decide +kernel
theorem d_X_writeFor_17 : decode b_X_writeFor 17 = .ok (.aload_n 0, 1) := by decide +kernel
theorem d_X_writeFor_18 : decode b_X_writeFor 18 = .ok (.getfield 21, 3) := by decide +kernel
theorem d_X_writeFor_21 : decode b_X_writeFor 21 = .ok (.iconst (-1), 1) := by decide +kernel
theorem d_X_writeFor_22 : decode b_X_writeFor 22 = .ok (.invokevirtual 164, 3) := by decide +kernel
theorem d_X_writeFor_25 : decode b_X_writeFor 25 = .ok (.istore_n 2, 1) := by decide +kernel
theorem d_X_writeFor_26 : decode b_X_writeFor 26 = .ok (.aload_n 0, 1) := by decide +kernel
theorem d_X_writeFor_27 : decode b_X_writeFor 27 = .ok (.getfield 12, 3) := by decide +kernel
theorem d_X_writeFor_30 : decode b_X_writeFor 30 = .ok (.getfield 227, 3) := by decide +kernel
theorem d_X_writeFor_33 : decode b_X_writeFor 33 = .ok (.bipush 60, 2) := by decide +kernel
theorem d_X_writeFor_35 : decode b_X_writeFor 35 = .ok (.if_icmp .ge 8, 3) := by decide +kernel
theorem d_X_writeFor_38 : decode b_X_writeFor 38 = .ok (.iload_n 2, 1) := by decide +kernel
theorem d_X_writeFor_39 : decode b_X_writeFor 39 = .ok (.iconst (-1), 1) := by decide +kernel
theorem d_X_writeFor_40 : decode b_X_writeFor 40 = .ok (.if_icmp .ne 9, 3) := by decide +kernel
theorem d_X_writeFor_43 : decode b_X_writeFor 43 = .ok (.aload_n 1, 1) := by decide +kernel
theorem d_X_writeFor_44 : decode b_X_writeFor 44 = .ok (.iconst 3, 1) := by decide +kernel
theorem d_X_writeFor_45 : decode b_X_writeFor 45 = .ok (.putfield 148, 3) := by decide +kernel
theorem d_X_writeFor_48 : decode b_X_writeFor 48 = .ok (.return_, 1) := by decide +kernel
theorem d_X_writeFor_49 : decode b_X_writeFor 49 = .ok (.aload_n 0, 1) := by decide +kernel
theorem d_X_writeFor_50 : decode b_X_writeFor 50 = .ok (.getfield 21, 3) := by decide +kernel
theorem d_X_writeFor_53 : decode b_X_writeFor 53 = .ok (.iload_n 2, 1) := by decide +kernel
theorem d_X_writeFor_54 : decode b_X_writeFor 54 = .ok (.iconst 4, 1) := by decide +kernel
theorem d_X_writeFor_55 : decode b_X_writeFor 55 = .ok (.idiv, 1) := by decide +kernel
theorem d_X_writeFor_56 : decode b_X_writeFor 56 = .ok (.invokevirtual 224, 3) := by decide +kernel
theorem d_X_writeFor_59 : decode b_X_writeFor 59 = .ok (.aload_n 0, 1) := by decide +kernel
theorem d_X_writeFor_60 : decode b_X_writeFor 60 = .ok (.getfield 21, 3) := by decide +kernel
theorem d_X_writeFor_63 : decode b_X_writeFor 63 = .ok (.aload_n 0, 1) := by decide +kernel
theorem d_X_writeFor_64 : decode b_X_writeFor 64 = .ok (.getfield 12, 3) := by decide +kernel
theorem d_X_writeFor_67 : decode b_X_writeFor 67 = .ok (.aload_n 1, 1) := by decide +kernel
theorem d_X_writeFor_68 : decode b_X_writeFor 68 = .ok (.getfield 230, 3) := by decide +kernel
theorem d_X_writeFor_71 : decode b_X_writeFor 71 = .ok (.iload_n 2, 1) := by decide +kernel
theorem d_X_writeFor_72 : decode b_X_writeFor 72 = .ok (.aload_n 0, 1) := by decide +kernel
theorem d_X_writeFor_73 : decode b_X_writeFor 73 = .ok (.getfield 21, 3) := by decide +kernel
theorem d_X_writeFor_76 : decode b_X_writeFor 76 = .ok (.iload_n 2, 1) := by decide +kernel
theorem d_X_writeFor_77 : decode b_X_writeFor 77 = .ok (.invokevirtual 233, 3) := by decide +kernel
theorem d_X_writeFor_80 : decode b_X_writeFor 80 = .ok (.aload_n 0, 1) := by decide +kernel
theorem d_X_writeFor_81 : decode b_X_writeFor 81 = .ok (.getfield 21, 3) := by decide +kernel
theorem d_X_writeFor_84 : decode b_X_writeFor 84 = .ok (.iload_n 2, 1) := by decide +kernel
theorem d_X_writeFor_85 : decode b_X_writeFor 85 = .ok (.invokevirtual 158, 3) := by decide +kernel
theorem d_X_writeFor_88 : decode b_X_writeFor 88 = .ok (.aload_n 1, 1) := by decide +kernel
theorem d_X_writeFor_89 : decode b_X_writeFor 89 = .ok (.getfield 221, 3) := by decide +kernel
theorem d_X_writeFor_92 : decode b_X_writeFor 92 = .ok (.aload_n 1, 1) := by decide +kernel
theorem d_X_writeFor_93 : decode b_X_writeFor 93 = .ok (.getfield 236, 3) := by decide +kernel
theorem d_X_writeFor_96 : decode b_X_writeFor 96 = .ok (.invokevirtual 239, 3) := by decide +kernel
theorem d_X_writeFor_99 : decode b_X_writeFor 99 = .ok (.invokevirtual 243, 3) := by decide +kernel
theorem d_X_writeFor_102 : decode b_X_writeFor 102 = .ok (.aload_n 1, 1) := by decide +kernel
theorem d_X_writeFor_103 : decode b_X_writeFor 103 = .ok (.iconst 0, 1) := by decide +kernel
theorem d_X_writeFor_104 : decode b_X_writeFor 104 = .ok (.putfield 148, 3) := by decide +kernel
theorem d_X_writeFor_107 : decode b_X_writeFor 107 = .ok (.return_, 1) := by decide +kernel
theorem d_X_rollBack_0 : decode b_X_rollBack 0 = .ok (.aload_n 0, 1) := by decide +kernel
theorem d_X_rollBack_1 : decode b_X_rollBack 1 = .ok (.getfield 12, 3) := by decide +kernel
theorem d_X_rollBack_4 : decode b_X_rollBack 4 = .ok (.getfield 87, 3) := by decide +kernel
theorem d_X_rollBack_7 : decode b_X_rollBack 7 = .ok (.istore_n 2, 1) := by decide +kernel
theorem d_X_rollBack_8 : decode b_X_rollBack 8 = .ok (.iload_n 2, 1) := by decide +kernel
theorem d_X_rollBack_9 : decode b_X_rollBack 9 = .ok (.iconst 1, 1) := by decide +kernel
theorem d_X_rollBack_10 : decode b_X_rollBack 10 = .ok (.if_icmp .lt 44, 3) := by decide +kernel
theorem d_X_rollBack_13 : decode b_X_rollBack 13 = .ok (.aload_n 0, 1) := by decide +kernel
theorem d_X_rollBack_14 : decode b_X_rollBack 14 = .ok (.getfield 12, 3) := by decide +kernel
theorem d_X_rollBack_17 : decode b_X_rollBack 17 = .ok (.getfield 246, 3) := by decide +kernel
theorem d_X_rollBack_20 : decode b_X_rollBack 20 = .ok (.iload_n 2, 1) := by decide +kernel
theorem d_X_rollBack_21 : decode b_X_rollBack 21 = .ok (.iaload, 1) := by decide +kernel
theorem d_X_rollBack_22 : decode b_X_rollBack 22 = .ok (.aload_n 1, 1) := by decide +kernel
theorem d_X_rollBack_23 : decode b_X_rollBack 23 = .ok (.getfield 230, 3) := by decide +kernel
theorem d_X_rollBack_26 : decode b_X_rollBack 26 = .ok (.if_icmp .ne 22, 3) := by decide +kernel
theorem d_X_rollBack_29 : decode b_X_rollBack 29 = .ok (.aload_n 0, 1) := by decide +kernel
theorem d_X_rollBack_30 : decode b_X_rollBack 30 = .ok (.getfield 12, 3) := by decide +kernel
theorem d_X_rollBack_33 : decode b_X_rollBack 33 = .ok (.iload_n 2, 1) := by decide +kernel
theorem d_X_rollBack_34 : decode b_X_rollBack 34 = .ok (.invokevirtual 249, 3) := by decide +kernel
theorem d_X_rollBack_37 : decode b_X_rollBack 37 = .ok (.ifCond .eq 11, 3) := by decide +kernel
theorem d_X_rollBack_40 : decode b_X_rollBack 40 = .ok (.aload_n 0, 1) := by decide +kernel
theorem d_X_rollBack_41 : decode b_X_rollBack 41 = .ok (.getfield 21, 3) := by decide +kernel
theorem d_X_rollBack_44 : decode b_X_rollBack 44 = .ok (.iload_n 2, 1) := by decide +kernel
theorem d_X_rollBack_45 : decode b_X_rollBack 45 = .ok (.invokevirtual 252, 3) := by decide +kernel
theorem d_X_rollBack_48 : decode b_X_rollBack 48 = .ok (.iinc 2 (-1), 3) := by decide +kernel
theorem d_X_rollBack_51 : decode b_X_rollBack 51 = .ok (.goto (-43), 3) := by decide +kernel
theorem d_X_rollBack_54 : decode b_X_rollBack 54 = .ok (.aload_n 0, 1) := by decide +kernel
theorem d_X_rollBack_55 : decode b_X_rollBack 55 = .ok (.getfield 28, 3) := by decide +kernel
theorem d_X_rollBack_58 : decode b_X_rollBack 58 = .ok (.aload_n 1, 1) := by decide +kernel
theorem d_X_rollBack_59 : decode b_X_rollBack 59 = .ok (.iconst 5, 1) := by decide +kernel
theorem d_X_rollBack_60 : decode b_X_rollBack 60 = .ok (.invokevirtual 255, 3) := by decide +kernel
theorem d_X_rollBack_63 : decode b_X_rollBack 63 = .ok (.return_, 1) := by decide +kernel
theorem d_X_settle_0 : decode b_X_settle 0 = .ok (.iconst 0, 1) := by decide +kernel
theorem d_X_settle_1 : decode b_X_settle 1 = .ok (.istore_n 1, 1) := by decide +kernel
theorem d_X_settle_2 : decode b_X_settle 2 = .ok (.iload_n 1, 1) := by decide +kernel
theorem d_X_settle_3 : decode b_X_settle 3 = .ok (.iconst 4, 1) := by decide +kernel
theorem d_X_settle_4 : decode b_X_settle 4 = .ok (.if_icmp .ge 57, 3) := by decide +kernel
theorem d_X_settle_7 : decode b_X_settle 7 = .ok (.aload_n 0, 1) := by decide +kernel
theorem d_X_settle_8 : decode b_X_settle 8 = .ok (.getfield 28, 3) := by decide +kernel
theorem d_X_settle_11 : decode b_X_settle 11 = .ok (.aload_n 0, 1) := by decide +kernel
theorem d_X_settle_12 : decode b_X_settle 12 = .ok (.getfield 12, 3) := by decide +kernel
theorem d_X_settle_15 : decode b_X_settle 15 = .ok (.invokevirtual 259, 3) := by decide +kernel
theorem d_X_settle_18 : decode b_X_settle 18 = .ok (.astore_n 2, 1) := by decide +kernel
theorem d_X_settle_19 : decode b_X_settle 19 = .ok (.aload_n 2, 1) := by decide +kernel
theorem d_X_settle_20 : decode b_X_settle 20 = .ok (.ifnull 15, 3) := by decide +kernel
theorem d_X_settle_23 : decode b_X_settle 23 = .ok (.aload_n 0, 1) := by decide +kernel
theorem d_X_settle_24 : decode b_X_settle 24 = .ok (.getfield 28, 3) := by decide +kernel
theorem d_X_settle_27 : decode b_X_settle 27 = .ok (.aload_n 2, 1) := by decide +kernel
theorem d_X_settle_28 : decode b_X_settle 28 = .ok (.iconst 4, 1) := by decide +kernel
theorem d_X_settle_29 : decode b_X_settle 29 = .ok (.invokevirtual 255, 3) := by decide +kernel
theorem d_X_settle_32 : decode b_X_settle 32 = .ok (.goto 23, 3) := by decide +kernel
theorem d_X_settle_35 : decode b_X_settle 35 = .ok (.aload_n 0, 1) := by decide +kernel
theorem d_X_settle_36 : decode b_X_settle 36 = .ok (.getfield 28, 3) := by decide +kernel
theorem d_X_settle_39 : decode b_X_settle 39 = .ok (.invokevirtual 263, 3) := by decide +kernel
theorem d_X_settle_42 : decode b_X_settle 42 = .ok (.astore_n 3, 1) := by decide +kernel
theorem d_X_settle_43 : decode b_X_settle 43 = .ok (.aload_n 3, 1) := by decide +kernel
theorem d_X_settle_44 : decode b_X_settle 44 = .ok (.ifnonnull 6, 3) := by decide +kernel
theorem d_X_settle_47 : decode b_X_settle 47 = .ok (.goto 14, 3) := by decide +kernel
theorem d_X_settle_50 : decode b_X_settle 50 = .ok (.aload_n 0, 1) := by decide +kernel
theorem d_X_settle_51 : decode b_X_settle 51 = .ok (.aload_n 3, 1) := by decide +kernel
theorem d_X_settle_52 : decode b_X_settle 52 = .ok (.invokevirtual 203, 3) := by decide +kernel
theorem d_X_settle_55 : decode b_X_settle 55 = .ok (.iinc 1 1, 3) := by decide +kernel
theorem d_X_settle_58 : decode b_X_settle 58 = .ok (.goto (-56), 3) := by decide +kernel
theorem d_X_settle_61 : decode b_X_settle 61 = .ok (.return_, 1) := by decide +kernel
theorem d_X_comeUp_0 : decode b_X_comeUp 0 = .ok (.aload_n 0, 1) := by decide +kernel
theorem d_X_comeUp_1 : decode b_X_comeUp 1 = .ok (.iconst 1, 1) := by decide +kernel
theorem d_X_comeUp_2 : decode b_X_comeUp 2 = .ok (.putfield 47, 3) := by decide +kernel
theorem d_X_comeUp_5 : decode b_X_comeUp 5 = .ok (.iconst 1, 1) := by decide +kernel
theorem d_X_comeUp_6 : decode b_X_comeUp 6 = .ok (.istore_n 1, 1) := by decide +kernel
theorem d_X_comeUp_7 : decode b_X_comeUp 7 = .ok (.iload_n 1, 1) := by decide +kernel
theorem d_X_comeUp_8 : decode b_X_comeUp 8 = .ok (.aload_n 0, 1) := by decide +kernel
theorem d_X_comeUp_9 : decode b_X_comeUp 9 = .ok (.getfield 55, 3) := by decide +kernel
theorem d_X_comeUp_12 : decode b_X_comeUp 12 = .ok (.if_icmp .gt 49, 3) := by decide +kernel
theorem d_X_comeUp_15 : decode b_X_comeUp 15 = .ok (.aload_n 0, 1) := by decide +kernel
theorem d_X_comeUp_16 : decode b_X_comeUp 16 = .ok (.getfield 43, 3) := by decide +kernel
theorem d_X_comeUp_19 : decode b_X_comeUp 19 = .ok (.iload_n 1, 1) := by decide +kernel
theorem d_X_comeUp_20 : decode b_X_comeUp 20 = .ok (.aaload, 1) := by decide +kernel
theorem d_X_comeUp_21 : decode b_X_comeUp 21 = .ok (.getfield 77, 3) := by decide +kernel
theorem d_X_comeUp_24 : decode b_X_comeUp 24 = .ok (.bipush 6, 2) := by decide +kernel
theorem d_X_comeUp_26 : decode b_X_comeUp 26 = .ok (.if_icmp .ne 29, 3) := by decide +kernel
theorem d_X_comeUp_29 : decode b_X_comeUp 29 = .ok (.aload_n 0, 1) := by decide +kernel
theorem d_X_comeUp_30 : decode b_X_comeUp 30 = .ok (.getfield 43, 3) := by decide +kernel
theorem d_X_comeUp_33 : decode b_X_comeUp 33 = .ok (.iload_n 1, 1) := by decide +kernel
theorem d_X_comeUp_34 : decode b_X_comeUp 34 = .ok (.aaload, 1) := by decide +kernel
theorem d_X_comeUp_35 : decode b_X_comeUp 35 = .ok (.aload_n 0, 1) := by decide +kernel
theorem d_X_comeUp_36 : decode b_X_comeUp 36 = .ok (.getfield 12, 3) := by decide +kernel
theorem d_X_comeUp_39 : decode b_X_comeUp 39 = .ok (.getfield 267, 3) := by decide +kernel
theorem d_X_comeUp_42 : decode b_X_comeUp 42 = .ok (.iload_n 1, 1) := by decide +kernel
theorem d_X_comeUp_43 : decode b_X_comeUp 43 = .ok (.iaload, 1) := by decide +kernel
theorem d_X_comeUp_44 : decode b_X_comeUp 44 = .ok (.ifCond .ne 7, 3) := by decide +kernel
theorem d_X_comeUp_47 : decode b_X_comeUp 47 = .ok (.iconst 5, 1) := by decide +kernel
theorem d_X_comeUp_48 : decode b_X_comeUp 48 = .ok (.goto 4, 3) := by decide +kernel
theorem d_X_comeUp_51 : decode b_X_comeUp 51 = .ok (.iconst 4, 1) := by decide +kernel
theorem d_X_comeUp_52 : decode b_X_comeUp 52 = .ok (.putfield 77, 3) := by decide +kernel
theorem d_X_comeUp_55 : decode b_X_comeUp 55 = .ok (.iinc 1 1, 3) := by decide +kernel
theorem d_X_comeUp_58 : decode b_X_comeUp 58 = .ok (.goto (-51), 3) := by decide +kernel
theorem d_X_comeUp_61 : decode b_X_comeUp 61 = .ok (.return_, 1) := by decide +kernel

