theorem dX4_init_0 : decode cX4_init 0 = .ok (.aload_n 0, 1) := by decide +kernel
theorem dX4_init_1 : decode cX4_init 1 = .ok (.invokespecial 3, 3) := by decide +kernel
theorem dX4_init_4 : decode cX4_init 4 = .ok (.aload_n 0, 1) := by decide +kernel
theorem dX4_init_5 : decode cX4_init 5 = .ok (.sipush 256, 3) := by decide +kernel
theorem dX4_init_8 : decode cX4_init 8 = .ok (.newarray .int, 2) := by decide +kernel
theorem dX4_init_10 : decode cX4_init 10 = .ok (.putfield 9, 3) := by decide +kernel
theorem dX4_init_13 : decode cX4_init 13 = .ok (.aload_n 0, 1) := by decide +kernel
theorem dX4_init_14 : decode cX4_init 14 = .ok (.sipush 256, 3) := by decide +kernel
theorem dX4_init_17 : decode cX4_init 17 = .ok (.newarray .int, 2) := by decide +kernel
theorem dX4_init_19 : decode cX4_init 19 = .ok (.putfield 15, 3) := by decide +kernel
theorem dX4_init_22 : decode cX4_init 22 = .ok (.aload_n 0, 1) := by decide +kernel
theorem dX4_init_23 : decode cX4_init 23 = .ok (.sipush 256, 3) := by decide +kernel
theorem dX4_init_26 : decode cX4_init 26 = .ok (.newarray .int, 2) := by decide +kernel
theorem dX4_init_28 : decode cX4_init 28 = .ok (.putfield 18, 3) := by decide +kernel
theorem dX4_init_31 : decode cX4_init 31 = .ok (.aload_n 0, 1) := by decide +kernel
theorem dX4_init_32 : decode cX4_init 32 = .ok (.sipush 256, 3) := by decide +kernel
theorem dX4_init_35 : decode cX4_init 35 = .ok (.newarray .int, 2) := by decide +kernel
theorem dX4_init_37 : decode cX4_init 37 = .ok (.putfield 21, 3) := by decide +kernel
theorem dX4_init_40 : decode cX4_init 40 = .ok (.aload_n 0, 1) := by decide +kernel
theorem dX4_init_41 : decode cX4_init 41 = .ok (.iconst 1, 1) := by decide +kernel
theorem dX4_init_42 : decode cX4_init 42 = .ok (.putfield 24, 3) := by decide +kernel
theorem dX4_init_45 : decode cX4_init 45 = .ok (.return_, 1) := by decide +kernel
theorem dX4_takeFrom_0 : decode cX4_takeFrom 0 = .ok (.aload_n 0, 1) := by decide +kernel
theorem dX4_takeFrom_1 : decode cX4_takeFrom 1 = .ok (.aload_n 1, 1) := by decide +kernel
theorem dX4_takeFrom_2 : decode cX4_takeFrom 2 = .ok (.getfield 28, 3) := by decide +kernel
theorem dX4_takeFrom_5 : decode cX4_takeFrom 5 = .ok (.bipush 8, 2) := by decide +kernel
theorem dX4_takeFrom_7 : decode cX4_takeFrom 7 = .ok (.invokestatic 33, 3) := by decide +kernel
theorem dX4_takeFrom_10 : decode cX4_takeFrom 10 = .ok (.putfield 39, 3) := by decide +kernel
theorem dX4_takeFrom_13 : decode cX4_takeFrom 13 = .ok (.aload_n 0, 1) := by decide +kernel
theorem dX4_takeFrom_14 : decode cX4_takeFrom 14 = .ok (.iconst 1, 1) := by decide +kernel
theorem dX4_takeFrom_15 : decode cX4_takeFrom 15 = .ok (.aload_n 0, 1) := by decide +kernel
theorem dX4_takeFrom_16 : decode cX4_takeFrom 16 = .ok (.getfield 39, 3) := by decide +kernel
theorem dX4_takeFrom_19 : decode cX4_takeFrom 19 = .ok (.ishl, 1) := by decide +kernel
theorem dX4_takeFrom_20 : decode cX4_takeFrom 20 = .ok (.putfield 24, 3) := by decide +kernel
theorem dX4_takeFrom_23 : decode cX4_takeFrom 23 = .ok (.iconst 0, 1) := by decide +kernel
theorem dX4_takeFrom_24 : decode cX4_takeFrom 24 = .ok (.istore_n 2, 1) := by decide +kernel
theorem dX4_takeFrom_25 : decode cX4_takeFrom 25 = .ok (.iload_n 2, 1) := by decide +kernel
theorem dX4_takeFrom_26 : decode cX4_takeFrom 26 = .ok (.aload_n 0, 1) := by decide +kernel
theorem dX4_takeFrom_27 : decode cX4_takeFrom 27 = .ok (.getfield 39, 3) := by decide +kernel
theorem dX4_takeFrom_30 : decode cX4_takeFrom 30 = .ok (.if_icmp .ge 50, 3) := by decide +kernel
theorem dX4_takeFrom_33 : decode cX4_takeFrom 33 = .ok (.iconst 1, 1) := by decide +kernel
theorem dX4_takeFrom_34 : decode cX4_takeFrom 34 = .ok (.iload_n 2, 1) := by decide +kernel
theorem dX4_takeFrom_35 : decode cX4_takeFrom 35 = .ok (.ishl, 1) := by decide +kernel
theorem dX4_takeFrom_36 : decode cX4_takeFrom 36 = .ok (.istore_n 3, 1) := by decide +kernel
theorem dX4_takeFrom_37 : decode cX4_takeFrom 37 = .ok (.iconst 0, 1) := by decide +kernel
theorem dX4_takeFrom_38 : decode cX4_takeFrom 38 = .ok (.istore 4, 2) := by decide +kernel
theorem dX4_takeFrom_40 : decode cX4_takeFrom 40 = .ok (.iload 4, 2) := by decide +kernel
theorem dX4_takeFrom_42 : decode cX4_takeFrom 42 = .ok (.iload_n 3, 1) := by decide +kernel
theorem dX4_takeFrom_43 : decode cX4_takeFrom 43 = .ok (.if_icmp .ge 31, 3) := by decide +kernel
theorem dX4_takeFrom_46 : decode cX4_takeFrom 46 = .ok (.aload_n 0, 1) := by decide +kernel
theorem dX4_takeFrom_47 : decode cX4_takeFrom 47 = .ok (.getfield 9, 3) := by decide +kernel
theorem dX4_takeFrom_50 : decode cX4_takeFrom 50 = .ok (.iload_n 3, 1) := by decide +kernel
theorem dX4_takeFrom_51 : decode cX4_takeFrom 51 = .ok (.iload 4, 2) := by decide +kernel
theorem dX4_takeFrom_53 : decode cX4_takeFrom 53 = .ok (.iadd, 1) := by decide +kernel
theorem dX4_takeFrom_54 : decode cX4_takeFrom 54 = .ok (.aload_n 0, 1) := by decide +kernel
theorem dX4_takeFrom_55 : decode cX4_takeFrom 55 = .ok (.getfield 9, 3) := by decide +kernel
theorem dX4_takeFrom_58 : decode cX4_takeFrom 58 = .ok (.iload 4, 2) := by decide +kernel
theorem dX4_takeFrom_60 : decode cX4_takeFrom 60 = .ok (.iaload, 1) := by decide +kernel
theorem dX4_takeFrom_61 : decode cX4_takeFrom 61 = .ok (.aload_n 1, 1) := by decide +kernel
theorem dX4_takeFrom_62 : decode cX4_takeFrom 62 = .ok (.iload_n 2, 1) := by decide +kernel
theorem dX4_takeFrom_63 : decode cX4_takeFrom 63 = .ok (.invokevirtual 42, 3) := by decide +kernel
theorem dX4_takeFrom_66 : decode cX4_takeFrom 66 = .ok (.ixor, 1) := by decide +kernel
theorem dX4_takeFrom_67 : decode cX4_takeFrom 67 = .ok (.iastore, 1) := by decide +kernel
theorem dX4_takeFrom_68 : decode cX4_takeFrom 68 = .ok (.iinc 4 1, 3) := by decide +kernel
theorem dX4_takeFrom_71 : decode cX4_takeFrom 71 = .ok (.goto (-31), 3) := by decide +kernel
theorem dX4_takeFrom_74 : decode cX4_takeFrom 74 = .ok (.iinc 2 1, 3) := by decide +kernel
theorem dX4_takeFrom_77 : decode cX4_takeFrom 77 = .ok (.goto (-52), 3) := by decide +kernel
theorem dX4_takeFrom_80 : decode cX4_takeFrom 80 = .ok (.return_, 1) := by decide +kernel
theorem dX4_independent_0 : decode cX4_independent 0 = .ok (.iconst 0, 1) := by decide +kernel
theorem dX4_independent_1 : decode cX4_independent 1 = .ok (.istore_n 1, 1) := by decide +kernel
theorem dX4_independent_2 : decode cX4_independent 2 = .ok (.iconst 0, 1) := by decide +kernel
theorem dX4_independent_3 : decode cX4_independent 3 = .ok (.istore_n 2, 1) := by decide +kernel
theorem dX4_independent_4 : decode cX4_independent 4 = .ok (.iload_n 2, 1) := by decide +kernel
theorem dX4_independent_5 : decode cX4_independent 5 = .ok (.aload_n 0, 1) := by decide +kernel
theorem dX4_independent_6 : decode cX4_independent 6 = .ok (.getfield 39, 3) := by decide +kernel
theorem dX4_independent_9 : decode cX4_independent 9 = .ok (.if_icmp .ge 31, 3) := by decide +kernel
theorem dX4_independent_12 : decode cX4_independent 12 = .ok (.aload_n 0, 1) := by decide +kernel
theorem dX4_independent_13 : decode cX4_independent 13 = .ok (.iload_n 1, 1) := by decide +kernel
theorem dX4_independent_14 : decode cX4_independent 14 = .ok (.aload_n 0, 1) := by decide +kernel
theorem dX4_independent_15 : decode cX4_independent 15 = .ok (.getfield 9, 3) := by decide +kernel
theorem dX4_independent_18 : decode cX4_independent 18 = .ok (.iconst 1, 1) := by decide +kernel
theorem dX4_independent_19 : decode cX4_independent 19 = .ok (.iload_n 2, 1) := by decide +kernel
theorem dX4_independent_20 : decode cX4_independent 20 = .ok (.ishl, 1) := by decide +kernel
theorem dX4_independent_21 : decode cX4_independent 21 = .ok (.iaload, 1) := by decide +kernel
theorem dX4_independent_22 : decode cX4_independent 22 = .ok (.invokevirtual 46, 3) := by decide +kernel
theorem dX4_independent_25 : decode cX4_independent 25 = .ok (.ifCond .ne 9, 3) := by decide +kernel
theorem dX4_independent_28 : decode cX4_independent 28 = .ok (.iload_n 1, 1) := by decide +kernel
theorem dX4_independent_29 : decode cX4_independent 29 = .ok (.iconst 1, 1) := by decide +kernel
theorem dX4_independent_30 : decode cX4_independent 30 = .ok (.iload_n 2, 1) := by decide +kernel
theorem dX4_independent_31 : decode cX4_independent 31 = .ok (.ishl, 1) := by decide +kernel
theorem dX4_independent_32 : decode cX4_independent 32 = .ok (.ior, 1) := by decide +kernel
theorem dX4_independent_33 : decode cX4_independent 33 = .ok (.istore_n 1, 1) := by decide +kernel
theorem dX4_independent_34 : decode cX4_independent 34 = .ok (.iinc 2 1, 3) := by decide +kernel
theorem dX4_independent_37 : decode cX4_independent 37 = .ok (.goto (-33), 3) := by decide +kernel
theorem dX4_independent_40 : decode cX4_independent 40 = .ok (.iload_n 1, 1) := by decide +kernel
theorem dX4_independent_41 : decode cX4_independent 41 = .ok (.ireturn, 1) := by decide +kernel
theorem dX4_isTurnedByOthers_0 : decode cX4_isTurnedByOthers 0 = .ok (.iload_n 1, 1) := by decide +kernel
theorem dX4_isTurnedByOthers_1 : decode cX4_isTurnedByOthers 1 = .ok (.ifCond .lt 11, 3) := by decide +kernel
theorem dX4_isTurnedByOthers_4 : decode cX4_isTurnedByOthers 4 = .ok (.iload_n 1, 1) := by decide +kernel
theorem dX4_isTurnedByOthers_5 : decode cX4_isTurnedByOthers 5 = .ok (.aload_n 0, 1) := by decide +kernel
theorem dX4_isTurnedByOthers_6 : decode cX4_isTurnedByOthers 6 = .ok (.getfield 39, 3) := by decide +kernel
theorem dX4_isTurnedByOthers_9 : decode cX4_isTurnedByOthers 9 = .ok (.if_icmp .lt 5, 3) := by decide +kernel
theorem dX4_isTurnedByOthers_12 : decode cX4_isTurnedByOthers 12 = .ok (.iconst 0, 1) := by decide +kernel
theorem dX4_isTurnedByOthers_13 : decode cX4_isTurnedByOthers 13 = .ok (.ireturn, 1) := by decide +kernel
theorem dX4_isTurnedByOthers_14 : decode cX4_isTurnedByOthers 14 = .ok (.aload_n 0, 1) := by decide +kernel
theorem dX4_isTurnedByOthers_15 : decode cX4_isTurnedByOthers 15 = .ok (.aload_n 0, 1) := by decide +kernel
theorem dX4_isTurnedByOthers_16 : decode cX4_isTurnedByOthers 16 = .ok (.getfield 24, 3) := by decide +kernel
theorem dX4_isTurnedByOthers_19 : decode cX4_isTurnedByOthers 19 = .ok (.iconst 1, 1) := by decide +kernel
theorem dX4_isTurnedByOthers_20 : decode cX4_isTurnedByOthers 20 = .ok (.isub, 1) := by decide +kernel
theorem dX4_isTurnedByOthers_21 : decode cX4_isTurnedByOthers 21 = .ok (.iconst 1, 1) := by decide +kernel
theorem dX4_isTurnedByOthers_22 : decode cX4_isTurnedByOthers 22 = .ok (.iload_n 1, 1) := by decide +kernel
theorem dX4_isTurnedByOthers_23 : decode cX4_isTurnedByOthers 23 = .ok (.ishl, 1) := by decide +kernel
theorem dX4_isTurnedByOthers_24 : decode cX4_isTurnedByOthers 24 = .ok (.iconst (-1), 1) := by decide +kernel
theorem dX4_isTurnedByOthers_25 : decode cX4_isTurnedByOthers 25 = .ok (.ixor, 1) := by decide +kernel
theorem dX4_isTurnedByOthers_26 : decode cX4_isTurnedByOthers 26 = .ok (.iand, 1) := by decide +kernel
theorem dX4_isTurnedByOthers_27 : decode cX4_isTurnedByOthers 27 = .ok (.aload_n 0, 1) := by decide +kernel
theorem dX4_isTurnedByOthers_28 : decode cX4_isTurnedByOthers 28 = .ok (.getfield 9, 3) := by decide +kernel
theorem dX4_isTurnedByOthers_31 : decode cX4_isTurnedByOthers 31 = .ok (.iconst 1, 1) := by decide +kernel
theorem dX4_isTurnedByOthers_32 : decode cX4_isTurnedByOthers 32 = .ok (.iload_n 1, 1) := by decide +kernel
theorem dX4_isTurnedByOthers_33 : decode cX4_isTurnedByOthers 33 = .ok (.ishl, 1) := by decide +kernel
theorem dX4_isTurnedByOthers_34 : decode cX4_isTurnedByOthers 34 = .ok (.iaload, 1) := by decide +kernel
theorem dX4_isTurnedByOthers_35 : decode cX4_isTurnedByOthers 35 = .ok (.invokevirtual 46, 3) := by decide +kernel
theorem dX4_isTurnedByOthers_38 : decode cX4_isTurnedByOthers 38 = .ok (.ireturn, 1) := by decide +kernel
theorem dX4_isTurnedWithin_0 : decode cX4_isTurnedWithin 0 = .ok (.iconst 0, 1) := by decide +kernel
theorem dX4_isTurnedWithin_1 : decode cX4_isTurnedWithin 1 = .ok (.istore_n 3, 1) := by decide +kernel
theorem dX4_isTurnedWithin_2 : decode cX4_isTurnedWithin 2 = .ok (.iload_n 3, 1) := by decide +kernel
theorem dX4_isTurnedWithin_3 : decode cX4_isTurnedWithin 3 = .ok (.aload_n 0, 1) := by decide +kernel
theorem dX4_isTurnedWithin_4 : decode cX4_isTurnedWithin 4 = .ok (.getfield 24, 3) := by decide +kernel
theorem dX4_isTurnedWithin_7 : decode cX4_isTurnedWithin 7 = .ok (.if_icmp .ge 29, 3) := by decide +kernel
theorem dX4_isTurnedWithin_10 : decode cX4_isTurnedWithin 10 = .ok (.iload_n 3, 1) := by decide +kernel
theorem dX4_isTurnedWithin_11 : decode cX4_isTurnedWithin 11 = .ok (.iload_n 1, 1) := by decide +kernel
theorem dX4_isTurnedWithin_12 : decode cX4_isTurnedWithin 12 = .ok (.iconst (-1), 1) := by decide +kernel
theorem dX4_isTurnedWithin_13 : decode cX4_isTurnedWithin 13 = .ok (.ixor, 1) := by decide +kernel
theorem dX4_isTurnedWithin_14 : decode cX4_isTurnedWithin 14 = .ok (.iand, 1) := by decide +kernel
theorem dX4_isTurnedWithin_15 : decode cX4_isTurnedWithin 15 = .ok (.ifCond .ne 15, 3) := by decide +kernel
theorem dX4_isTurnedWithin_18 : decode cX4_isTurnedWithin 18 = .ok (.aload_n 0, 1) := by decide +kernel
theorem dX4_isTurnedWithin_19 : decode cX4_isTurnedWithin 19 = .ok (.getfield 9, 3) := by decide +kernel
theorem dX4_isTurnedWithin_22 : decode cX4_isTurnedWithin 22 = .ok (.iload_n 3, 1) := by decide +kernel
theorem dX4_isTurnedWithin_23 : decode cX4_isTurnedWithin 23 = .ok (.iaload, 1) := by decide +kernel
theorem dX4_isTurnedWithin_24 : decode cX4_isTurnedWithin 24 = .ok (.iload_n 2, 1) := by decide +kernel
theorem dX4_isTurnedWithin_25 : decode cX4_isTurnedWithin 25 = .ok (.if_icmp .ne 5, 3) := by decide +kernel
theorem dX4_isTurnedWithin_28 : decode cX4_isTurnedWithin 28 = .ok (.iconst 1, 1) := by decide +kernel
theorem dX4_isTurnedWithin_29 : decode cX4_isTurnedWithin 29 = .ok (.ireturn, 1) := by decide +kernel
theorem dX4_isTurnedWithin_30 : decode cX4_isTurnedWithin 30 = .ok (.iinc 3 1, 3) := by decide +kernel
theorem dX4_isTurnedWithin_33 : decode cX4_isTurnedWithin 33 = .ok (.goto (-31), 3) := by decide +kernel
theorem dX4_isTurnedWithin_36 : decode cX4_isTurnedWithin 36 = .ok (.iconst 0, 1) := by decide +kernel
theorem dX4_isTurnedWithin_37 : decode cX4_isTurnedWithin 37 = .ok (.ireturn, 1) := by decide +kernel
theorem dX4_fewestFor_0 : decode cX4_fewestFor 0 = .ok (.iconst (-1), 1) := by decide +kernel
theorem dX4_fewestFor_1 : decode cX4_fewestFor 1 = .ok (.istore_n 2, 1) := by decide +kernel
theorem dX4_fewestFor_2 : decode cX4_fewestFor 2 = .ok (.iconst 0, 1) := by decide +kernel
theorem dX4_fewestFor_3 : decode cX4_fewestFor 3 = .ok (.istore_n 3, 1) := by decide +kernel
theorem dX4_fewestFor_4 : decode cX4_fewestFor 4 = .ok (.iload_n 3, 1) := by decide +kernel
theorem dX4_fewestFor_5 : decode cX4_fewestFor 5 = .ok (.aload_n 0, 1) := by decide +kernel
theorem dX4_fewestFor_6 : decode cX4_fewestFor 6 = .ok (.getfield 24, 3) := by decide +kernel
theorem dX4_fewestFor_9 : decode cX4_fewestFor 9 = .ok (.if_icmp .ge 29, 3) := by decide +kernel
theorem dX4_fewestFor_12 : decode cX4_fewestFor 12 = .ok (.aload_n 0, 1) := by decide +kernel
theorem dX4_fewestFor_13 : decode cX4_fewestFor 13 = .ok (.getfield 9, 3) := by decide +kernel
theorem dX4_fewestFor_16 : decode cX4_fewestFor 16 = .ok (.iload_n 3, 1) := by decide +kernel
theorem dX4_fewestFor_17 : decode cX4_fewestFor 17 = .ok (.iaload, 1) := by decide +kernel
theorem dX4_fewestFor_18 : decode cX4_fewestFor 18 = .ok (.iload_n 1, 1) := by decide +kernel
theorem dX4_fewestFor_19 : decode cX4_fewestFor 19 = .ok (.if_icmp .ne 13, 3) := by decide +kernel
theorem dX4_fewestFor_22 : decode cX4_fewestFor 22 = .ok (.iload_n 3, 1) := by decide +kernel
theorem dX4_fewestFor_23 : decode cX4_fewestFor 23 = .ok (.iload_n 2, 1) := by decide +kernel
theorem dX4_fewestFor_24 : decode cX4_fewestFor 24 = .ok (.invokestatic 50, 3) := by decide +kernel
theorem dX4_fewestFor_27 : decode cX4_fewestFor 27 = .ok (.ifCond .eq 5, 3) := by decide +kernel
theorem dX4_fewestFor_30 : decode cX4_fewestFor 30 = .ok (.iload_n 3, 1) := by decide +kernel
theorem dX4_fewestFor_31 : decode cX4_fewestFor 31 = .ok (.istore_n 2, 1) := by decide +kernel
theorem dX4_fewestFor_32 : decode cX4_fewestFor 32 = .ok (.iinc 3 1, 3) := by decide +kernel
theorem dX4_fewestFor_35 : decode cX4_fewestFor 35 = .ok (.goto (-31), 3) := by decide +kernel
theorem dX4_fewestFor_38 : decode cX4_fewestFor 38 = .ok (.iload_n 2, 1) := by decide +kernel
theorem dX4_fewestFor_39 : decode cX4_fewestFor 39 = .ok (.ireturn, 1) := by decide +kernel
theorem dX4_isFewer_0 : decode cX4_isFewer 0 = .ok (.iload_n 1, 1) := by decide +kernel
theorem dX4_isFewer_1 : decode cX4_isFewer 1 = .ok (.iconst (-1), 1) := by decide +kernel
theorem dX4_isFewer_2 : decode cX4_isFewer 2 = .ok (.if_icmp .eq 14, 3) := by decide +kernel
theorem dX4_isFewer_5 : decode cX4_isFewer 5 = .ok (.iload_n 0, 1) := by decide +kernel
theorem dX4_isFewer_6 : decode cX4_isFewer 6 = .ok (.invokestatic 53, 3) := by decide +kernel
theorem dX4_isFewer_9 : decode cX4_isFewer 9 = .ok (.iload_n 1, 1) := by decide +kernel
theorem dX4_isFewer_10 : decode cX4_isFewer 10 = .ok (.invokestatic 53, 3) := by decide +kernel
theorem dX4_isFewer_13 : decode cX4_isFewer 13 = .ok (.if_icmp .ge 7, 3) := by decide +kernel
theorem dX4_isFewer_16 : decode cX4_isFewer 16 = .ok (.iconst 1, 1) := by decide +kernel
theorem dX4_isFewer_17 : decode cX4_isFewer 17 = .ok (.goto 4, 3) := by decide +kernel
theorem dX4_isFewer_20 : decode cX4_isFewer 20 = .ok (.iconst 0, 1) := by decide +kernel
theorem dX4_isFewer_21 : decode cX4_isFewer 21 = .ok (.ireturn, 1) := by decide +kernel
theorem dX4_howMany_0 : decode cX4_howMany 0 = .ok (.iconst 0, 1) := by decide +kernel
theorem dX4_howMany_1 : decode cX4_howMany 1 = .ok (.istore_n 2, 1) := by decide +kernel
theorem dX4_howMany_2 : decode cX4_howMany 2 = .ok (.iconst 0, 1) := by decide +kernel
theorem dX4_howMany_3 : decode cX4_howMany 3 = .ok (.istore_n 3, 1) := by decide +kernel
theorem dX4_howMany_4 : decode cX4_howMany 4 = .ok (.iload_n 3, 1) := by decide +kernel
theorem dX4_howMany_5 : decode cX4_howMany 5 = .ok (.aload_n 0, 1) := by decide +kernel
theorem dX4_howMany_6 : decode cX4_howMany 6 = .ok (.getfield 24, 3) := by decide +kernel
theorem dX4_howMany_9 : decode cX4_howMany 9 = .ok (.if_icmp .ge 22, 3) := by decide +kernel
theorem dX4_howMany_12 : decode cX4_howMany 12 = .ok (.aload_n 0, 1) := by decide +kernel
theorem dX4_howMany_13 : decode cX4_howMany 13 = .ok (.getfield 9, 3) := by decide +kernel
theorem dX4_howMany_16 : decode cX4_howMany 16 = .ok (.iload_n 3, 1) := by decide +kernel
theorem dX4_howMany_17 : decode cX4_howMany 17 = .ok (.iaload, 1) := by decide +kernel
theorem dX4_howMany_18 : decode cX4_howMany 18 = .ok (.iload_n 1, 1) := by decide +kernel
theorem dX4_howMany_19 : decode cX4_howMany 19 = .ok (.if_icmp .ne 6, 3) := by decide +kernel
theorem dX4_howMany_22 : decode cX4_howMany 22 = .ok (.iinc 2 1, 3) := by decide +kernel
theorem dX4_howMany_25 : decode cX4_howMany 25 = .ok (.iinc 3 1, 3) := by decide +kernel
theorem dX4_howMany_28 : decode cX4_howMany 28 = .ok (.goto (-24), 3) := by decide +kernel
theorem dX4_howMany_31 : decode cX4_howMany 31 = .ok (.iload_n 2, 1) := by decide +kernel
theorem dX4_howMany_32 : decode cX4_howMany 32 = .ok (.ireturn, 1) := by decide +kernel
theorem dX4_leastTurned_0 : decode cX4_leastTurned 0 = .ok (.iconst (-1), 1) := by decide +kernel
theorem dX4_leastTurned_1 : decode cX4_leastTurned 1 = .ok (.istore_n 1, 1) := by decide +kernel
theorem dX4_leastTurned_2 : decode cX4_leastTurned 2 = .ok (.iconst 0, 1) := by decide +kernel
theorem dX4_leastTurned_3 : decode cX4_leastTurned 3 = .ok (.istore_n 2, 1) := by decide +kernel
theorem dX4_leastTurned_4 : decode cX4_leastTurned 4 = .ok (.iload_n 2, 1) := by decide +kernel
theorem dX4_leastTurned_5 : decode cX4_leastTurned 5 = .ok (.aload_n 0, 1) := by decide +kernel
theorem dX4_leastTurned_6 : decode cX4_leastTurned 6 = .ok (.getfield 24, 3) := by decide +kernel
theorem dX4_leastTurned_9 : decode cX4_leastTurned 9 = .ok (.if_icmp .ge 35, 3) := by decide +kernel
theorem dX4_leastTurned_12 : decode cX4_leastTurned 12 = .ok (.aload_n 0, 1) := by decide +kernel
theorem dX4_leastTurned_13 : decode cX4_leastTurned 13 = .ok (.getfield 9, 3) := by decide +kernel
theorem dX4_leastTurned_16 : decode cX4_leastTurned 16 = .ok (.iload_n 2, 1) := by decide +kernel
theorem dX4_leastTurned_17 : decode cX4_leastTurned 17 = .ok (.iaload, 1) := by decide +kernel
theorem dX4_leastTurned_18 : decode cX4_leastTurned 18 = .ok (.invokestatic 53, 3) := by decide +kernel
theorem dX4_leastTurned_21 : decode cX4_leastTurned 21 = .ok (.istore_n 3, 1) := by decide +kernel
theorem dX4_leastTurned_22 : decode cX4_leastTurned 22 = .ok (.iload_n 3, 1) := by decide +kernel
theorem dX4_leastTurned_23 : decode cX4_leastTurned 23 = .ok (.ifCond .le 15, 3) := by decide +kernel
theorem dX4_leastTurned_26 : decode cX4_leastTurned 26 = .ok (.iload_n 1, 1) := by decide +kernel
theorem dX4_leastTurned_27 : decode cX4_leastTurned 27 = .ok (.iconst (-1), 1) := by decide +kernel
theorem dX4_leastTurned_28 : decode cX4_leastTurned 28 = .ok (.if_icmp .eq 8, 3) := by decide +kernel
theorem dX4_leastTurned_31 : decode cX4_leastTurned 31 = .ok (.iload_n 3, 1) := by decide +kernel
theorem dX4_leastTurned_32 : decode cX4_leastTurned 32 = .ok (.iload_n 1, 1) := by decide +kernel
theorem dX4_leastTurned_33 : decode cX4_leastTurned 33 = .ok (.if_icmp .ge 5, 3) := by decide +kernel
theorem dX4_leastTurned_36 : decode cX4_leastTurned 36 = .ok (.iload_n 3, 1) := by decide +kernel
theorem dX4_leastTurned_37 : decode cX4_leastTurned 37 = .ok (.istore_n 1, 1) := by decide +kernel
theorem dX4_leastTurned_38 : decode cX4_leastTurned 38 = .ok (.iinc 2 1, 3) := by decide +kernel
theorem dX4_leastTurned_41 : decode cX4_leastTurned 41 = .ok (.goto (-37), 3) := by decide +kernel
theorem dX4_leastTurned_44 : decode cX4_leastTurned 44 = .ok (.iload_n 1, 1) := by decide +kernel
theorem dX4_leastTurned_45 : decode cX4_leastTurned 45 = .ok (.ireturn, 1) := by decide +kernel
theorem dX4_fewestLit_0 : decode cX4_fewestLit 0 = .ok (.bipush 10, 2) := by decide +kernel
theorem dX4_fewestLit_2 : decode cX4_fewestLit 2 = .ok (.istore_n 2, 1) := by decide +kernel
theorem dX4_fewestLit_3 : decode cX4_fewestLit 3 = .ok (.iconst 0, 1) := by decide +kernel
theorem dX4_fewestLit_4 : decode cX4_fewestLit 4 = .ok (.istore_n 3, 1) := by decide +kernel
theorem dX4_fewestLit_5 : decode cX4_fewestLit 5 = .ok (.iload_n 3, 1) := by decide +kernel
theorem dX4_fewestLit_6 : decode cX4_fewestLit 6 = .ok (.aload_n 0, 1) := by decide +kernel
theorem dX4_fewestLit_7 : decode cX4_fewestLit 7 = .ok (.getfield 24, 3) := by decide +kernel
theorem dX4_fewestLit_10 : decode cX4_fewestLit 10 = .ok (.if_icmp .ge 25, 3) := by decide +kernel
theorem dX4_fewestLit_13 : decode cX4_fewestLit 13 = .ok (.iload_n 2, 1) := by decide +kernel
theorem dX4_fewestLit_14 : decode cX4_fewestLit 14 = .ok (.iload_n 1, 1) := by decide +kernel
theorem dX4_fewestLit_15 : decode cX4_fewestLit 15 = .ok (.aload_n 0, 1) := by decide +kernel
theorem dX4_fewestLit_16 : decode cX4_fewestLit 16 = .ok (.getfield 9, 3) := by decide +kernel
theorem dX4_fewestLit_19 : decode cX4_fewestLit 19 = .ok (.iload_n 3, 1) := by decide +kernel
theorem dX4_fewestLit_20 : decode cX4_fewestLit 20 = .ok (.iaload, 1) := by decide +kernel
theorem dX4_fewestLit_21 : decode cX4_fewestLit 21 = .ok (.ixor, 1) := by decide +kernel
theorem dX4_fewestLit_22 : decode cX4_fewestLit 22 = .ok (.invokestatic 53, 3) := by decide +kernel
theorem dX4_fewestLit_25 : decode cX4_fewestLit 25 = .ok (.invokestatic 33, 3) := by decide +kernel
theorem dX4_fewestLit_28 : decode cX4_fewestLit 28 = .ok (.istore_n 2, 1) := by decide +kernel
theorem dX4_fewestLit_29 : decode cX4_fewestLit 29 = .ok (.iinc 3 1, 3) := by decide +kernel
theorem dX4_fewestLit_32 : decode cX4_fewestLit 32 = .ok (.goto (-27), 3) := by decide +kernel
theorem dX4_fewestLit_35 : decode cX4_fewestLit 35 = .ok (.iload_n 2, 1) := by decide +kernel
theorem dX4_fewestLit_36 : decode cX4_fewestLit 36 = .ok (.ireturn, 1) := by decide +kernel
theorem dX4_mostLit_0 : decode cX4_mostLit 0 = .ok (.iconst 0, 1) := by decide +kernel
theorem dX4_mostLit_1 : decode cX4_mostLit 1 = .ok (.istore_n 2, 1) := by decide +kernel
theorem dX4_mostLit_2 : decode cX4_mostLit 2 = .ok (.iconst 0, 1) := by decide +kernel
theorem dX4_mostLit_3 : decode cX4_mostLit 3 = .ok (.istore_n 3, 1) := by decide +kernel
theorem dX4_mostLit_4 : decode cX4_mostLit 4 = .ok (.iload_n 3, 1) := by decide +kernel
theorem dX4_mostLit_5 : decode cX4_mostLit 5 = .ok (.aload_n 0, 1) := by decide +kernel
theorem dX4_mostLit_6 : decode cX4_mostLit 6 = .ok (.getfield 24, 3) := by decide +kernel
theorem dX4_mostLit_9 : decode cX4_mostLit 9 = .ok (.if_icmp .ge 25, 3) := by decide +kernel
theorem dX4_mostLit_12 : decode cX4_mostLit 12 = .ok (.iload_n 2, 1) := by decide +kernel
theorem dX4_mostLit_13 : decode cX4_mostLit 13 = .ok (.iload_n 1, 1) := by decide +kernel
theorem dX4_mostLit_14 : decode cX4_mostLit 14 = .ok (.aload_n 0, 1) := by decide +kernel
theorem dX4_mostLit_15 : decode cX4_mostLit 15 = .ok (.getfield 9, 3) := by decide +kernel
theorem dX4_mostLit_18 : decode cX4_mostLit 18 = .ok (.iload_n 3, 1) := by decide +kernel
theorem dX4_mostLit_19 : decode cX4_mostLit 19 = .ok (.iaload, 1) := by decide +kernel
theorem dX4_mostLit_20 : decode cX4_mostLit 20 = .ok (.ixor, 1) := by decide +kernel
theorem dX4_mostLit_21 : decode cX4_mostLit 21 = .ok (.invokestatic 53, 3) := by decide +kernel
theorem dX4_mostLit_24 : decode cX4_mostLit 24 = .ok (.invokestatic 58, 3) := by decide +kernel
theorem dX4_mostLit_27 : decode cX4_mostLit 27 = .ok (.istore_n 2, 1) := by decide +kernel
theorem dX4_mostLit_28 : decode cX4_mostLit 28 = .ok (.iinc 3 1, 3) := by decide +kernel
theorem dX4_mostLit_31 : decode cX4_mostLit 31 = .ok (.goto (-27), 3) := by decide +kernel
theorem dX4_mostLit_34 : decode cX4_mostLit 34 = .ok (.iload_n 2, 1) := by decide +kernel
theorem dX4_mostLit_35 : decode cX4_mostLit 35 = .ok (.ireturn, 1) := by decide +kernel
theorem dX4_lowestWith_0 : decode cX4_lowestWith 0 = .ok (.iconst (-1), 1) := by decide +kernel
theorem dX4_lowestWith_1 : decode cX4_lowestWith 1 = .ok (.istore_n 3, 1) := by decide +kernel
theorem dX4_lowestWith_2 : decode cX4_lowestWith 2 = .ok (.iconst 0, 1) := by decide +kernel
theorem dX4_lowestWith_3 : decode cX4_lowestWith 3 = .ok (.istore 4, 2) := by decide +kernel
theorem dX4_lowestWith_5 : decode cX4_lowestWith 5 = .ok (.iload 4, 2) := by decide +kernel
theorem dX4_lowestWith_7 : decode cX4_lowestWith 7 = .ok (.aload_n 0, 1) := by decide +kernel
theorem dX4_lowestWith_8 : decode cX4_lowestWith 8 = .ok (.getfield 24, 3) := by decide +kernel
theorem dX4_lowestWith_11 : decode cX4_lowestWith 11 = .ok (.if_icmp .ge 43, 3) := by decide +kernel
theorem dX4_lowestWith_14 : decode cX4_lowestWith 14 = .ok (.iload_n 1, 1) := by decide +kernel
theorem dX4_lowestWith_15 : decode cX4_lowestWith 15 = .ok (.aload_n 0, 1) := by decide +kernel
theorem dX4_lowestWith_16 : decode cX4_lowestWith 16 = .ok (.getfield 9, 3) := by decide +kernel
theorem dX4_lowestWith_19 : decode cX4_lowestWith 19 = .ok (.iload 4, 2) := by decide +kernel
theorem dX4_lowestWith_21 : decode cX4_lowestWith 21 = .ok (.iaload, 1) := by decide +kernel
theorem dX4_lowestWith_22 : decode cX4_lowestWith 22 = .ok (.ixor, 1) := by decide +kernel
theorem dX4_lowestWith_23 : decode cX4_lowestWith 23 = .ok (.istore 5, 2) := by decide +kernel
theorem dX4_lowestWith_25 : decode cX4_lowestWith 25 = .ok (.iload 5, 2) := by decide +kernel
theorem dX4_lowestWith_27 : decode cX4_lowestWith 27 = .ok (.invokestatic 53, 3) := by decide +kernel
theorem dX4_lowestWith_30 : decode cX4_lowestWith 30 = .ok (.iload_n 2, 1) := by decide +kernel
theorem dX4_lowestWith_31 : decode cX4_lowestWith 31 = .ok (.if_icmp .ne 17, 3) := by decide +kernel
theorem dX4_lowestWith_34 : decode cX4_lowestWith 34 = .ok (.iload_n 3, 1) := by decide +kernel
theorem dX4_lowestWith_35 : decode cX4_lowestWith 35 = .ok (.iconst (-1), 1) := by decide +kernel
theorem dX4_lowestWith_36 : decode cX4_lowestWith 36 = .ok (.if_icmp .eq 9, 3) := by decide +kernel
theorem dX4_lowestWith_39 : decode cX4_lowestWith 39 = .ok (.iload 5, 2) := by decide +kernel
theorem dX4_lowestWith_41 : decode cX4_lowestWith 41 = .ok (.iload_n 3, 1) := by decide +kernel
theorem dX4_lowestWith_42 : decode cX4_lowestWith 42 = .ok (.if_icmp .ge 6, 3) := by decide +kernel
theorem dX4_lowestWith_45 : decode cX4_lowestWith 45 = .ok (.iload 5, 2) := by decide +kernel
theorem dX4_lowestWith_47 : decode cX4_lowestWith 47 = .ok (.istore_n 3, 1) := by decide +kernel
theorem dX4_lowestWith_48 : decode cX4_lowestWith 48 = .ok (.iinc 4 1, 3) := by decide +kernel
theorem dX4_lowestWith_51 : decode cX4_lowestWith 51 = .ok (.goto (-46), 3) := by decide +kernel
theorem dX4_lowestWith_54 : decode cX4_lowestWith 54 = .ok (.iload_n 3, 1) := by decide +kernel
theorem dX4_lowestWith_55 : decode cX4_lowestWith 55 = .ok (.ireturn, 1) := by decide +kernel
theorem dX4_turningNothing_0 : decode cX4_turningNothing 0 = .ok (.iload_n 1, 1) := by decide +kernel
theorem dX4_turningNothing_1 : decode cX4_turningNothing 1 = .ok (.istore_n 2, 1) := by decide +kernel
theorem dX4_turningNothing_2 : decode cX4_turningNothing 2 = .ok (.iconst 1, 1) := by decide +kernel
theorem dX4_turningNothing_3 : decode cX4_turningNothing 3 = .ok (.istore_n 3, 1) := by decide +kernel
theorem dX4_turningNothing_4 : decode cX4_turningNothing 4 = .ok (.iload_n 3, 1) := by decide +kernel
theorem dX4_turningNothing_5 : decode cX4_turningNothing 5 = .ok (.aload_n 0, 1) := by decide +kernel
theorem dX4_turningNothing_6 : decode cX4_turningNothing 6 = .ok (.getfield 24, 3) := by decide +kernel
theorem dX4_turningNothing_9 : decode cX4_turningNothing 9 = .ok (.if_icmp .ge 31, 3) := by decide +kernel
theorem dX4_turningNothing_12 : decode cX4_turningNothing 12 = .ok (.iload_n 2, 1) := by decide +kernel
theorem dX4_turningNothing_13 : decode cX4_turningNothing 13 = .ok (.ifCond .lt 27, 3) := by decide +kernel
theorem dX4_turningNothing_16 : decode cX4_turningNothing 16 = .ok (.aload_n 0, 1) := by decide +kernel
theorem dX4_turningNothing_17 : decode cX4_turningNothing 17 = .ok (.getfield 9, 3) := by decide +kernel
theorem dX4_turningNothing_20 : decode cX4_turningNothing 20 = .ok (.iload_n 3, 1) := by decide +kernel
theorem dX4_turningNothing_21 : decode cX4_turningNothing 21 = .ok (.iaload, 1) := by decide +kernel
theorem dX4_turningNothing_22 : decode cX4_turningNothing 22 = .ok (.ifCond .ne 12, 3) := by decide +kernel
theorem dX4_turningNothing_25 : decode cX4_turningNothing 25 = .ok (.iload_n 2, 1) := by decide +kernel
theorem dX4_turningNothing_26 : decode cX4_turningNothing 26 = .ok (.ifCond .ne 5, 3) := by decide +kernel
theorem dX4_turningNothing_29 : decode cX4_turningNothing 29 = .ok (.iload_n 3, 1) := by decide +kernel
theorem dX4_turningNothing_30 : decode cX4_turningNothing 30 = .ok (.ireturn, 1) := by decide +kernel
theorem dX4_turningNothing_31 : decode cX4_turningNothing 31 = .ok (.iinc 2 (-1), 3) := by decide +kernel
theorem dX4_turningNothing_34 : decode cX4_turningNothing 34 = .ok (.iinc 3 1, 3) := by decide +kernel
theorem dX4_turningNothing_37 : decode cX4_turningNothing 37 = .ok (.goto (-33), 3) := by decide +kernel
theorem dX4_turningNothing_40 : decode cX4_turningNothing 40 = .ok (.bipush (-2), 2) := by decide +kernel
theorem dX4_turningNothing_42 : decode cX4_turningNothing 42 = .ok (.ireturn, 1) := by decide +kernel
theorem dX4_nearestTo_0 : decode cX4_nearestTo 0 = .ok (.iload_n 1, 1) := by decide +kernel
theorem dX4_nearestTo_1 : decode cX4_nearestTo 1 = .ok (.istore_n 3, 1) := by decide +kernel
theorem dX4_nearestTo_2 : decode cX4_nearestTo 2 = .ok (.iconst 0, 1) := by decide +kernel
theorem dX4_nearestTo_3 : decode cX4_nearestTo 3 = .ok (.istore 4, 2) := by decide +kernel
theorem dX4_nearestTo_5 : decode cX4_nearestTo 5 = .ok (.iload 4, 2) := by decide +kernel
theorem dX4_nearestTo_7 : decode cX4_nearestTo 7 = .ok (.aload_n 0, 1) := by decide +kernel
theorem dX4_nearestTo_8 : decode cX4_nearestTo 8 = .ok (.getfield 24, 3) := by decide +kernel
theorem dX4_nearestTo_11 : decode cX4_nearestTo 11 = .ok (.if_icmp .ge 55, 3) := by decide +kernel
theorem dX4_nearestTo_14 : decode cX4_nearestTo 14 = .ok (.iload_n 1, 1) := by decide +kernel
theorem dX4_nearestTo_15 : decode cX4_nearestTo 15 = .ok (.aload_n 0, 1) := by decide +kernel
theorem dX4_nearestTo_16 : decode cX4_nearestTo 16 = .ok (.getfield 9, 3) := by decide +kernel
theorem dX4_nearestTo_19 : decode cX4_nearestTo 19 = .ok (.iload 4, 2) := by decide +kernel
theorem dX4_nearestTo_21 : decode cX4_nearestTo 21 = .ok (.iaload, 1) := by decide +kernel
theorem dX4_nearestTo_22 : decode cX4_nearestTo 22 = .ok (.ixor, 1) := by decide +kernel
theorem dX4_nearestTo_23 : decode cX4_nearestTo 23 = .ok (.istore 5, 2) := by decide +kernel
theorem dX4_nearestTo_25 : decode cX4_nearestTo 25 = .ok (.iload_n 3, 1) := by decide +kernel
theorem dX4_nearestTo_26 : decode cX4_nearestTo 26 = .ok (.iload_n 2, 1) := by decide +kernel
theorem dX4_nearestTo_27 : decode cX4_nearestTo 27 = .ok (.ixor, 1) := by decide +kernel
theorem dX4_nearestTo_28 : decode cX4_nearestTo 28 = .ok (.invokestatic 53, 3) := by decide +kernel
theorem dX4_nearestTo_31 : decode cX4_nearestTo 31 = .ok (.iload 5, 2) := by decide +kernel
theorem dX4_nearestTo_33 : decode cX4_nearestTo 33 = .ok (.iload_n 2, 1) := by decide +kernel
theorem dX4_nearestTo_34 : decode cX4_nearestTo 34 = .ok (.ixor, 1) := by decide +kernel
theorem dX4_nearestTo_35 : decode cX4_nearestTo 35 = .ok (.invokestatic 53, 3) := by decide +kernel
theorem dX4_nearestTo_38 : decode cX4_nearestTo 38 = .ok (.isub, 1) := by decide +kernel
theorem dX4_nearestTo_39 : decode cX4_nearestTo 39 = .ok (.istore 6, 2) := by decide +kernel
theorem dX4_nearestTo_41 : decode cX4_nearestTo 41 = .ok (.iload 6, 2) := by decide +kernel
theorem dX4_nearestTo_43 : decode cX4_nearestTo 43 = .ok (.ifCond .gt 14, 3) := by decide +kernel
theorem dX4_nearestTo_46 : decode cX4_nearestTo 46 = .ok (.iload 6, 2) := by decide +kernel
theorem dX4_nearestTo_48 : decode cX4_nearestTo 48 = .ok (.ifCond .ne 12, 3) := by decide +kernel
theorem dX4_nearestTo_51 : decode cX4_nearestTo 51 = .ok (.iload 5, 2) := by decide +kernel
theorem dX4_nearestTo_53 : decode cX4_nearestTo 53 = .ok (.iload_n 3, 1) := by decide +kernel
theorem dX4_nearestTo_54 : decode cX4_nearestTo 54 = .ok (.if_icmp .ge 6, 3) := by decide +kernel
theorem dX4_nearestTo_57 : decode cX4_nearestTo 57 = .ok (.iload 5, 2) := by decide +kernel
theorem dX4_nearestTo_59 : decode cX4_nearestTo 59 = .ok (.istore_n 3, 1) := by decide +kernel
theorem dX4_nearestTo_60 : decode cX4_nearestTo 60 = .ok (.iinc 4 1, 3) := by decide +kernel
theorem dX4_nearestTo_63 : decode cX4_nearestTo 63 = .ok (.goto (-58), 3) := by decide +kernel
theorem dX4_nearestTo_66 : decode cX4_nearestTo 66 = .ok (.iload_n 3, 1) := by decide +kernel
theorem dX4_nearestTo_67 : decode cX4_nearestTo 67 = .ok (.ireturn, 1) := by decide +kernel
theorem dX4_fewestLighting_0 : decode cX4_fewestLighting 0 = .ok (.iconst (-1), 1) := by decide +kernel
theorem dX4_fewestLighting_1 : decode cX4_fewestLighting 1 = .ok (.istore_n 3, 1) := by decide +kernel
theorem dX4_fewestLighting_2 : decode cX4_fewestLighting 2 = .ok (.iconst 0, 1) := by decide +kernel
theorem dX4_fewestLighting_3 : decode cX4_fewestLighting 3 = .ok (.istore 4, 2) := by decide +kernel
theorem dX4_fewestLighting_5 : decode cX4_fewestLighting 5 = .ok (.iload 4, 2) := by decide +kernel
theorem dX4_fewestLighting_7 : decode cX4_fewestLighting 7 = .ok (.aload_n 0, 1) := by decide +kernel
theorem dX4_fewestLighting_8 : decode cX4_fewestLighting 8 = .ok (.getfield 24, 3) := by decide +kernel
theorem dX4_fewestLighting_11 : decode cX4_fewestLighting 11 = .ok (.if_icmp .ge 37, 3) := by decide +kernel
theorem dX4_fewestLighting_14 : decode cX4_fewestLighting 14 = .ok (.iload 4, 2) := by decide +kernel
theorem dX4_fewestLighting_16 : decode cX4_fewestLighting 16 = .ok (.iload_n 3, 1) := by decide +kernel
theorem dX4_fewestLighting_17 : decode cX4_fewestLighting 17 = .ok (.invokestatic 50, 3) := by decide +kernel
theorem dX4_fewestLighting_20 : decode cX4_fewestLighting 20 = .ok (.ifCond .eq 22, 3) := by decide +kernel
theorem dX4_fewestLighting_23 : decode cX4_fewestLighting 23 = .ok (.iload_n 1, 1) := by decide +kernel
theorem dX4_fewestLighting_24 : decode cX4_fewestLighting 24 = .ok (.aload_n 0, 1) := by decide +kernel
theorem dX4_fewestLighting_25 : decode cX4_fewestLighting 25 = .ok (.getfield 9, 3) := by decide +kernel
theorem dX4_fewestLighting_28 : decode cX4_fewestLighting 28 = .ok (.iload 4, 2) := by decide +kernel
theorem dX4_fewestLighting_30 : decode cX4_fewestLighting 30 = .ok (.iaload, 1) := by decide +kernel
theorem dX4_fewestLighting_31 : decode cX4_fewestLighting 31 = .ok (.ixor, 1) := by decide +kernel
theorem dX4_fewestLighting_32 : decode cX4_fewestLighting 32 = .ok (.aload_n 2, 1) := by decide +kernel
theorem dX4_fewestLighting_33 : decode cX4_fewestLighting 33 = .ok (.invokestatic 61, 3) := by decide +kernel
theorem dX4_fewestLighting_36 : decode cX4_fewestLighting 36 = .ok (.ifCond .eq 6, 3) := by decide +kernel
theorem dX4_fewestLighting_39 : decode cX4_fewestLighting 39 = .ok (.iload 4, 2) := by decide +kernel
theorem dX4_fewestLighting_41 : decode cX4_fewestLighting 41 = .ok (.istore_n 3, 1) := by decide +kernel
theorem dX4_fewestLighting_42 : decode cX4_fewestLighting 42 = .ok (.iinc 4 1, 3) := by decide +kernel
theorem dX4_fewestLighting_45 : decode cX4_fewestLighting 45 = .ok (.goto (-40), 3) := by decide +kernel
theorem dX4_fewestLighting_48 : decode cX4_fewestLighting 48 = .ok (.iload_n 3, 1) := by decide +kernel
theorem dX4_fewestLighting_49 : decode cX4_fewestLighting 49 = .ok (.ireturn, 1) := by decide +kernel
theorem dX4_lightsAll_0 : decode cX4_lightsAll 0 = .ok (.iconst 0, 1) := by decide +kernel
theorem dX4_lightsAll_1 : decode cX4_lightsAll 1 = .ok (.istore_n 2, 1) := by decide +kernel
theorem dX4_lightsAll_2 : decode cX4_lightsAll 2 = .ok (.iload_n 2, 1) := by decide +kernel
theorem dX4_lightsAll_3 : decode cX4_lightsAll 3 = .ok (.aload_n 1, 1) := by decide +kernel
theorem dX4_lightsAll_4 : decode cX4_lightsAll 4 = .ok (.getfield 28, 3) := by decide +kernel
theorem dX4_lightsAll_7 : decode cX4_lightsAll 7 = .ok (.if_icmp .ge 21, 3) := by decide +kernel
theorem dX4_lightsAll_10 : decode cX4_lightsAll 10 = .ok (.iload_n 0, 1) := by decide +kernel
theorem dX4_lightsAll_11 : decode cX4_lightsAll 11 = .ok (.aload_n 1, 1) := by decide +kernel
theorem dX4_lightsAll_12 : decode cX4_lightsAll 12 = .ok (.iload_n 2, 1) := by decide +kernel
theorem dX4_lightsAll_13 : decode cX4_lightsAll 13 = .ok (.invokevirtual 42, 3) := by decide +kernel
theorem dX4_lightsAll_16 : decode cX4_lightsAll 16 = .ok (.iand, 1) := by decide +kernel
theorem dX4_lightsAll_17 : decode cX4_lightsAll 17 = .ok (.ifCond .ne 5, 3) := by decide +kernel
theorem dX4_lightsAll_20 : decode cX4_lightsAll 20 = .ok (.iconst 0, 1) := by decide +kernel
theorem dX4_lightsAll_21 : decode cX4_lightsAll 21 = .ok (.ireturn, 1) := by decide +kernel
theorem dX4_lightsAll_22 : decode cX4_lightsAll 22 = .ok (.iinc 2 1, 3) := by decide +kernel
theorem dX4_lightsAll_25 : decode cX4_lightsAll 25 = .ok (.goto (-23), 3) := by decide +kernel
theorem dX4_lightsAll_28 : decode cX4_lightsAll 28 = .ok (.iconst 1, 1) := by decide +kernel
theorem dX4_lightsAll_29 : decode cX4_lightsAll 29 = .ok (.ireturn, 1) := by decide +kernel
theorem dX4_howManyOf_0 : decode cX4_howManyOf 0 = .ok (.iconst 0, 1) := by decide +kernel
theorem dX4_howManyOf_1 : decode cX4_howManyOf 1 = .ok (.istore_n 3, 1) := by decide +kernel
theorem dX4_howManyOf_2 : decode cX4_howManyOf 2 = .ok (.iconst 0, 1) := by decide +kernel
theorem dX4_howManyOf_3 : decode cX4_howManyOf 3 = .ok (.istore 4, 2) := by decide +kernel
theorem dX4_howManyOf_5 : decode cX4_howManyOf 5 = .ok (.iload 4, 2) := by decide +kernel
theorem dX4_howManyOf_7 : decode cX4_howManyOf 7 = .ok (.aload_n 0, 1) := by decide +kernel
theorem dX4_howManyOf_8 : decode cX4_howManyOf 8 = .ok (.getfield 24, 3) := by decide +kernel
theorem dX4_howManyOf_11 : decode cX4_howManyOf 11 = .ok (.if_icmp .ge 32, 3) := by decide +kernel
theorem dX4_howManyOf_14 : decode cX4_howManyOf 14 = .ok (.iload 4, 2) := by decide +kernel
theorem dX4_howManyOf_16 : decode cX4_howManyOf 16 = .ok (.invokestatic 53, 3) := by decide +kernel
theorem dX4_howManyOf_19 : decode cX4_howManyOf 19 = .ok (.iload_n 1, 1) := by decide +kernel
theorem dX4_howManyOf_20 : decode cX4_howManyOf 20 = .ok (.if_icmp .ne 17, 3) := by decide +kernel
theorem dX4_howManyOf_23 : decode cX4_howManyOf 23 = .ok (.aload_n 0, 1) := by decide +kernel
theorem dX4_howManyOf_24 : decode cX4_howManyOf 24 = .ok (.getfield 9, 3) := by decide +kernel
theorem dX4_howManyOf_27 : decode cX4_howManyOf 27 = .ok (.iload 4, 2) := by decide +kernel
theorem dX4_howManyOf_29 : decode cX4_howManyOf 29 = .ok (.iaload, 1) := by decide +kernel
theorem dX4_howManyOf_30 : decode cX4_howManyOf 30 = .ok (.iload_n 2, 1) := by decide +kernel
theorem dX4_howManyOf_31 : decode cX4_howManyOf 31 = .ok (.if_icmp .ne 6, 3) := by decide +kernel
theorem dX4_howManyOf_34 : decode cX4_howManyOf 34 = .ok (.iinc 3 1, 3) := by decide +kernel
theorem dX4_howManyOf_37 : decode cX4_howManyOf 37 = .ok (.iinc 4 1, 3) := by decide +kernel
theorem dX4_howManyOf_40 : decode cX4_howManyOf 40 = .ok (.goto (-35), 3) := by decide +kernel
theorem dX4_howManyOf_43 : decode cX4_howManyOf 43 = .ok (.iload_n 3, 1) := by decide +kernel
theorem dX4_howManyOf_44 : decode cX4_howManyOf 44 = .ok (.ireturn, 1) := by decide +kernel
theorem dX4_lowestOf_0 : decode cX4_lowestOf 0 = .ok (.iconst 0, 1) := by decide +kernel
theorem dX4_lowestOf_1 : decode cX4_lowestOf 1 = .ok (.istore_n 3, 1) := by decide +kernel
theorem dX4_lowestOf_2 : decode cX4_lowestOf 2 = .ok (.iload_n 3, 1) := by decide +kernel
theorem dX4_lowestOf_3 : decode cX4_lowestOf 3 = .ok (.aload_n 0, 1) := by decide +kernel
theorem dX4_lowestOf_4 : decode cX4_lowestOf 4 = .ok (.getfield 24, 3) := by decide +kernel
theorem dX4_lowestOf_7 : decode cX4_lowestOf 7 = .ok (.if_icmp .ge 29, 3) := by decide +kernel
theorem dX4_lowestOf_10 : decode cX4_lowestOf 10 = .ok (.iload_n 3, 1) := by decide +kernel
theorem dX4_lowestOf_11 : decode cX4_lowestOf 11 = .ok (.invokestatic 53, 3) := by decide +kernel
theorem dX4_lowestOf_14 : decode cX4_lowestOf 14 = .ok (.iload_n 1, 1) := by decide +kernel
theorem dX4_lowestOf_15 : decode cX4_lowestOf 15 = .ok (.if_icmp .ne 15, 3) := by decide +kernel
theorem dX4_lowestOf_18 : decode cX4_lowestOf 18 = .ok (.aload_n 0, 1) := by decide +kernel
theorem dX4_lowestOf_19 : decode cX4_lowestOf 19 = .ok (.getfield 9, 3) := by decide +kernel
theorem dX4_lowestOf_22 : decode cX4_lowestOf 22 = .ok (.iload_n 3, 1) := by decide +kernel
theorem dX4_lowestOf_23 : decode cX4_lowestOf 23 = .ok (.iaload, 1) := by decide +kernel
theorem dX4_lowestOf_24 : decode cX4_lowestOf 24 = .ok (.iload_n 2, 1) := by decide +kernel
theorem dX4_lowestOf_25 : decode cX4_lowestOf 25 = .ok (.if_icmp .ne 5, 3) := by decide +kernel
theorem dX4_lowestOf_28 : decode cX4_lowestOf 28 = .ok (.iload_n 3, 1) := by decide +kernel
theorem dX4_lowestOf_29 : decode cX4_lowestOf 29 = .ok (.ireturn, 1) := by decide +kernel
theorem dX4_lowestOf_30 : decode cX4_lowestOf 30 = .ok (.iinc 3 1, 3) := by decide +kernel
theorem dX4_lowestOf_33 : decode cX4_lowestOf 33 = .ok (.goto (-31), 3) := by decide +kernel
theorem dX4_lowestOf_36 : decode cX4_lowestOf 36 = .ok (.iconst (-1), 1) := by decide +kernel
theorem dX4_lowestOf_37 : decode cX4_lowestOf 37 = .ok (.ireturn, 1) := by decide +kernel
theorem dX4_walk_0 : decode cX4_walk 0 = .ok (.iconst 0, 1) := by decide +kernel
theorem dX4_walk_1 : decode cX4_walk 1 = .ok (.istore_n 2, 1) := by decide +kernel
theorem dX4_walk_2 : decode cX4_walk 2 = .ok (.iload_n 2, 1) := by decide +kernel
theorem dX4_walk_3 : decode cX4_walk 3 = .ok (.aload_n 0, 1) := by decide +kernel
theorem dX4_walk_4 : decode cX4_walk 4 = .ok (.getfield 24, 3) := by decide +kernel
theorem dX4_walk_7 : decode cX4_walk 7 = .ok (.if_icmp .ge 16, 3) := by decide +kernel
theorem dX4_walk_10 : decode cX4_walk 10 = .ok (.aload_n 0, 1) := by decide +kernel
theorem dX4_walk_11 : decode cX4_walk 11 = .ok (.getfield 18, 3) := by decide +kernel
theorem dX4_walk_14 : decode cX4_walk 14 = .ok (.iload_n 2, 1) := by decide +kernel
theorem dX4_walk_15 : decode cX4_walk 15 = .ok (.iconst 0, 1) := by decide +kernel
theorem dX4_walk_16 : decode cX4_walk 16 = .ok (.iastore, 1) := by decide +kernel
theorem dX4_walk_17 : decode cX4_walk 17 = .ok (.iinc 2 1, 3) := by decide +kernel
theorem dX4_walk_20 : decode cX4_walk 20 = .ok (.goto (-18), 3) := by decide +kernel
theorem dX4_walk_23 : decode cX4_walk 23 = .ok (.aload_n 0, 1) := by decide +kernel
theorem dX4_walk_24 : decode cX4_walk 24 = .ok (.getfield 18, 3) := by decide +kernel
theorem dX4_walk_27 : decode cX4_walk 27 = .ok (.iconst 0, 1) := by decide +kernel
theorem dX4_walk_28 : decode cX4_walk 28 = .ok (.iconst 1, 1) := by decide +kernel
theorem dX4_walk_29 : decode cX4_walk 29 = .ok (.iastore, 1) := by decide +kernel
theorem dX4_walk_30 : decode cX4_walk 30 = .ok (.iconst 0, 1) := by decide +kernel
theorem dX4_walk_31 : decode cX4_walk 31 = .ok (.istore_n 2, 1) := by decide +kernel
theorem dX4_walk_32 : decode cX4_walk 32 = .ok (.iload_n 2, 1) := by decide +kernel
theorem dX4_walk_33 : decode cX4_walk 33 = .ok (.iload_n 1, 1) := by decide +kernel
theorem dX4_walk_34 : decode cX4_walk 34 = .ok (.if_icmp .ge 61, 3) := by decide +kernel
theorem dX4_walk_37 : decode cX4_walk 37 = .ok (.aload_n 0, 1) := by decide +kernel
theorem dX4_walk_38 : decode cX4_walk 38 = .ok (.getfield 39, 3) := by decide +kernel
theorem dX4_walk_41 : decode cX4_walk 41 = .ok (.ifCond .le 54, 3) := by decide +kernel
theorem dX4_walk_44 : decode cX4_walk 44 = .ok (.iconst 0, 1) := by decide +kernel
theorem dX4_walk_45 : decode cX4_walk 45 = .ok (.istore_n 3, 1) := by decide +kernel
theorem dX4_walk_46 : decode cX4_walk 46 = .ok (.iload_n 3, 1) := by decide +kernel
theorem dX4_walk_47 : decode cX4_walk 47 = .ok (.aload_n 0, 1) := by decide +kernel
theorem dX4_walk_48 : decode cX4_walk 48 = .ok (.getfield 24, 3) := by decide +kernel
theorem dX4_walk_51 : decode cX4_walk 51 = .ok (.if_icmp .ge 20, 3) := by decide +kernel
theorem dX4_walk_54 : decode cX4_walk 54 = .ok (.aload_n 0, 1) := by decide +kernel
theorem dX4_walk_55 : decode cX4_walk 55 = .ok (.getfield 21, 3) := by decide +kernel
theorem dX4_walk_58 : decode cX4_walk 58 = .ok (.iload_n 3, 1) := by decide +kernel
theorem dX4_walk_59 : decode cX4_walk 59 = .ok (.aload_n 0, 1) := by decide +kernel
theorem dX4_walk_60 : decode cX4_walk 60 = .ok (.iload_n 3, 1) := by decide +kernel
theorem dX4_walk_61 : decode cX4_walk 61 = .ok (.invokevirtual 65, 3) := by decide +kernel
theorem dX4_walk_64 : decode cX4_walk 64 = .ok (.iastore, 1) := by decide +kernel
theorem dX4_walk_65 : decode cX4_walk 65 = .ok (.iinc 3 1, 3) := by decide +kernel
theorem dX4_walk_68 : decode cX4_walk 68 = .ok (.goto (-22), 3) := by decide +kernel
theorem dX4_walk_71 : decode cX4_walk 71 = .ok (.aload_n 0, 1) := by decide +kernel
theorem dX4_walk_72 : decode cX4_walk 72 = .ok (.getfield 18, 3) := by decide +kernel
theorem dX4_walk_75 : decode cX4_walk 75 = .ok (.astore_n 3, 1) := by decide +kernel
theorem dX4_walk_76 : decode cX4_walk 76 = .ok (.aload_n 0, 1) := by decide +kernel
theorem dX4_walk_77 : decode cX4_walk 77 = .ok (.aload_n 0, 1) := by decide +kernel
theorem dX4_walk_78 : decode cX4_walk 78 = .ok (.getfield 21, 3) := by decide +kernel
theorem dX4_walk_81 : decode cX4_walk 81 = .ok (.putfield 18, 3) := by decide +kernel
theorem dX4_walk_84 : decode cX4_walk 84 = .ok (.aload_n 0, 1) := by decide +kernel
theorem dX4_walk_85 : decode cX4_walk 85 = .ok (.aload_n 3, 1) := by decide +kernel
theorem dX4_walk_86 : decode cX4_walk 86 = .ok (.putfield 21, 3) := by decide +kernel
theorem dX4_walk_89 : decode cX4_walk 89 = .ok (.iinc 2 1, 3) := by decide +kernel
theorem dX4_walk_92 : decode cX4_walk 92 = .ok (.goto (-60), 3) := by decide +kernel
theorem dX4_walk_95 : decode cX4_walk 95 = .ok (.return_, 1) := by decide +kernel
theorem dX4_pathsInto_0 : decode cX4_pathsInto 0 = .ok (.iconst 0, 1) := by decide +kernel
theorem dX4_pathsInto_1 : decode cX4_pathsInto 1 = .ok (.istore_n 2, 1) := by decide +kernel
theorem dX4_pathsInto_2 : decode cX4_pathsInto 2 = .ok (.iconst 0, 1) := by decide +kernel
theorem dX4_pathsInto_3 : decode cX4_pathsInto 3 = .ok (.istore_n 3, 1) := by decide +kernel
theorem dX4_pathsInto_4 : decode cX4_pathsInto 4 = .ok (.iload_n 3, 1) := by decide +kernel
theorem dX4_pathsInto_5 : decode cX4_pathsInto 5 = .ok (.aload_n 0, 1) := by decide +kernel
theorem dX4_pathsInto_6 : decode cX4_pathsInto 6 = .ok (.getfield 39, 3) := by decide +kernel
theorem dX4_pathsInto_9 : decode cX4_pathsInto 9 = .ok (.if_icmp .ge 22, 3) := by decide +kernel
theorem dX4_pathsInto_12 : decode cX4_pathsInto 12 = .ok (.iload_n 2, 1) := by decide +kernel
theorem dX4_pathsInto_13 : decode cX4_pathsInto 13 = .ok (.aload_n 0, 1) := by decide +kernel
theorem dX4_pathsInto_14 : decode cX4_pathsInto 14 = .ok (.getfield 18, 3) := by decide +kernel
theorem dX4_pathsInto_17 : decode cX4_pathsInto 17 = .ok (.iload_n 1, 1) := by decide +kernel
theorem dX4_pathsInto_18 : decode cX4_pathsInto 18 = .ok (.iconst 1, 1) := by decide +kernel
theorem dX4_pathsInto_19 : decode cX4_pathsInto 19 = .ok (.iload_n 3, 1) := by decide +kernel
theorem dX4_pathsInto_20 : decode cX4_pathsInto 20 = .ok (.ishl, 1) := by decide +kernel
theorem dX4_pathsInto_21 : decode cX4_pathsInto 21 = .ok (.ixor, 1) := by decide +kernel
theorem dX4_pathsInto_22 : decode cX4_pathsInto 22 = .ok (.iaload, 1) := by decide +kernel
theorem dX4_pathsInto_23 : decode cX4_pathsInto 23 = .ok (.iadd, 1) := by decide +kernel
theorem dX4_pathsInto_24 : decode cX4_pathsInto 24 = .ok (.istore_n 2, 1) := by decide +kernel
theorem dX4_pathsInto_25 : decode cX4_pathsInto 25 = .ok (.iinc 3 1, 3) := by decide +kernel
theorem dX4_pathsInto_28 : decode cX4_pathsInto 28 = .ok (.goto (-24), 3) := by decide +kernel
theorem dX4_pathsInto_31 : decode cX4_pathsInto 31 = .ok (.iload_n 2, 1) := by decide +kernel
theorem dX4_pathsInto_32 : decode cX4_pathsInto 32 = .ok (.ireturn, 1) := by decide +kernel
theorem dX4_walks_0 : decode cX4_walks 0 = .ok (.aload_n 0, 1) := by decide +kernel
theorem dX4_walks_1 : decode cX4_walks 1 = .ok (.getfield 39, 3) := by decide +kernel
theorem dX4_walks_4 : decode cX4_walks 4 = .ok (.ifCond .le 15, 3) := by decide +kernel
theorem dX4_walks_7 : decode cX4_walks 7 = .ok (.aload_n 0, 1) := by decide +kernel
theorem dX4_walks_8 : decode cX4_walks 8 = .ok (.getfield 39, 3) := by decide +kernel
theorem dX4_walks_11 : decode cX4_walks 11 = .ok (.i2l, 1) := by decide +kernel
theorem dX4_walks_12 : decode cX4_walks 12 = .ok (.iload_n 1, 1) := by decide +kernel
theorem dX4_walks_13 : decode cX4_walks 13 = .ok (.invokestatic 68, 3) := by decide +kernel
theorem dX4_walks_16 : decode cX4_walks 16 = .ok (.goto 4, 3) := by decide +kernel
theorem dX4_walks_19 : decode cX4_walks 19 = .ok (.lconst 1, 1) := by decide +kernel
theorem dX4_walks_20 : decode cX4_walks 20 = .ok (.lreturn, 1) := by decide +kernel
theorem dX4_litWalks_0 : decode cX4_litWalks 0 = .ok (.lconst 0, 1) := by decide +kernel
theorem dX4_litWalks_1 : decode cX4_litWalks 1 = .ok (.lstore_n 3, 1) := by decide +kernel
theorem dX4_litWalks_2 : decode cX4_litWalks 2 = .ok (.iconst 0, 1) := by decide +kernel
theorem dX4_litWalks_3 : decode cX4_litWalks 3 = .ok (.istore 5, 2) := by decide +kernel
theorem dX4_litWalks_5 : decode cX4_litWalks 5 = .ok (.iload 5, 2) := by decide +kernel
theorem dX4_litWalks_7 : decode cX4_litWalks 7 = .ok (.aload_n 0, 1) := by decide +kernel
theorem dX4_litWalks_8 : decode cX4_litWalks 8 = .ok (.getfield 24, 3) := by decide +kernel
theorem dX4_litWalks_11 : decode cX4_litWalks 11 = .ok (.if_icmp .ge 36, 3) := by decide +kernel
theorem dX4_litWalks_14 : decode cX4_litWalks 14 = .ok (.lload_n 3, 1) := by decide +kernel
theorem dX4_litWalks_15 : decode cX4_litWalks 15 = .ok (.aload_n 0, 1) := by decide +kernel
theorem dX4_litWalks_16 : decode cX4_litWalks 16 = .ok (.getfield 18, 3) := by decide +kernel
theorem dX4_litWalks_19 : decode cX4_litWalks 19 = .ok (.iload 5, 2) := by decide +kernel
theorem dX4_litWalks_21 : decode cX4_litWalks 21 = .ok (.iaload, 1) := by decide +kernel
theorem dX4_litWalks_22 : decode cX4_litWalks 22 = .ok (.i2l, 1) := by decide +kernel
theorem dX4_litWalks_23 : decode cX4_litWalks 23 = .ok (.iload_n 1, 1) := by decide +kernel
theorem dX4_litWalks_24 : decode cX4_litWalks 24 = .ok (.aload_n 0, 1) := by decide +kernel
theorem dX4_litWalks_25 : decode cX4_litWalks 25 = .ok (.getfield 9, 3) := by decide +kernel
theorem dX4_litWalks_28 : decode cX4_litWalks 28 = .ok (.iload 5, 2) := by decide +kernel
theorem dX4_litWalks_30 : decode cX4_litWalks 30 = .ok (.iaload, 1) := by decide +kernel
theorem dX4_litWalks_31 : decode cX4_litWalks 31 = .ok (.ixor, 1) := by decide +kernel
theorem dX4_litWalks_32 : decode cX4_litWalks 32 = .ok (.iload_n 2, 1) := by decide +kernel
theorem dX4_litWalks_33 : decode cX4_litWalks 33 = .ok (.iand, 1) := by decide +kernel
theorem dX4_litWalks_34 : decode cX4_litWalks 34 = .ok (.invokestatic 53, 3) := by decide +kernel
theorem dX4_litWalks_37 : decode cX4_litWalks 37 = .ok (.i2l, 1) := by decide +kernel
theorem dX4_litWalks_38 : decode cX4_litWalks 38 = .ok (.lmul, 1) := by decide +kernel
theorem dX4_litWalks_39 : decode cX4_litWalks 39 = .ok (.ladd, 1) := by decide +kernel
theorem dX4_litWalks_40 : decode cX4_litWalks 40 = .ok (.lstore_n 3, 1) := by decide +kernel
theorem dX4_litWalks_41 : decode cX4_litWalks 41 = .ok (.iinc 5 1, 3) := by decide +kernel
theorem dX4_litWalks_44 : decode cX4_litWalks 44 = .ok (.goto (-39), 3) := by decide +kernel
theorem dX4_litWalks_47 : decode cX4_litWalks 47 = .ok (.lload_n 3, 1) := by decide +kernel
theorem dX4_litWalks_48 : decode cX4_litWalks 48 = .ok (.lreturn, 1) := by decide +kernel
theorem dX4_darkWalks_0 : decode cX4_darkWalks 0 = .ok (.lconst 0, 1) := by decide +kernel
theorem dX4_darkWalks_1 : decode cX4_darkWalks 1 = .ok (.lstore_n 2, 1) := by decide +kernel
theorem dX4_darkWalks_2 : decode cX4_darkWalks 2 = .ok (.iconst 0, 1) := by decide +kernel
theorem dX4_darkWalks_3 : decode cX4_darkWalks 3 = .ok (.istore 4, 2) := by decide +kernel
theorem dX4_darkWalks_5 : decode cX4_darkWalks 5 = .ok (.iload 4, 2) := by decide +kernel
theorem dX4_darkWalks_7 : decode cX4_darkWalks 7 = .ok (.aload_n 0, 1) := by decide +kernel
theorem dX4_darkWalks_8 : decode cX4_darkWalks 8 = .ok (.getfield 24, 3) := by decide +kernel
theorem dX4_darkWalks_11 : decode cX4_darkWalks 11 = .ok (.if_icmp .ge 31, 3) := by decide +kernel
theorem dX4_darkWalks_14 : decode cX4_darkWalks 14 = .ok (.aload_n 0, 1) := by decide +kernel
theorem dX4_darkWalks_15 : decode cX4_darkWalks 15 = .ok (.getfield 9, 3) := by decide +kernel
theorem dX4_darkWalks_18 : decode cX4_darkWalks 18 = .ok (.iload 4, 2) := by decide +kernel
theorem dX4_darkWalks_20 : decode cX4_darkWalks 20 = .ok (.iaload, 1) := by decide +kernel
theorem dX4_darkWalks_21 : decode cX4_darkWalks 21 = .ok (.iload_n 1, 1) := by decide +kernel
theorem dX4_darkWalks_22 : decode cX4_darkWalks 22 = .ok (.if_icmp .ne 14, 3) := by decide +kernel
theorem dX4_darkWalks_25 : decode cX4_darkWalks 25 = .ok (.lload_n 2, 1) := by decide +kernel
theorem dX4_darkWalks_26 : decode cX4_darkWalks 26 = .ok (.aload_n 0, 1) := by decide +kernel
theorem dX4_darkWalks_27 : decode cX4_darkWalks 27 = .ok (.getfield 18, 3) := by decide +kernel
theorem dX4_darkWalks_30 : decode cX4_darkWalks 30 = .ok (.iload 4, 2) := by decide +kernel
theorem dX4_darkWalks_32 : decode cX4_darkWalks 32 = .ok (.iaload, 1) := by decide +kernel
theorem dX4_darkWalks_33 : decode cX4_darkWalks 33 = .ok (.i2l, 1) := by decide +kernel
theorem dX4_darkWalks_34 : decode cX4_darkWalks 34 = .ok (.ladd, 1) := by decide +kernel
theorem dX4_darkWalks_35 : decode cX4_darkWalks 35 = .ok (.lstore_n 2, 1) := by decide +kernel
theorem dX4_darkWalks_36 : decode cX4_darkWalks 36 = .ok (.iinc 4 1, 3) := by decide +kernel
theorem dX4_darkWalks_39 : decode cX4_darkWalks 39 = .ok (.goto (-34), 3) := by decide +kernel
theorem dX4_darkWalks_42 : decode cX4_darkWalks 42 = .ok (.lload_n 2, 1) := by decide +kernel
theorem dX4_darkWalks_43 : decode cX4_darkWalks 43 = .ok (.lreturn, 1) := by decide +kernel
theorem dX4_playOut_0 : decode cX4_playOut 0 = .ok (.aload_n 0, 1) := by decide +kernel
theorem dX4_playOut_1 : decode cX4_playOut 1 = .ok (.getfield 39, 3) := by decide +kernel
theorem dX4_playOut_4 : decode cX4_playOut 4 = .ok (.iconst 1, 1) := by decide +kernel
theorem dX4_playOut_5 : decode cX4_playOut 5 = .ok (.iadd, 1) := by decide +kernel
theorem dX4_playOut_6 : decode cX4_playOut 6 = .ok (.iconst 2, 1) := by decide +kernel
theorem dX4_playOut_7 : decode cX4_playOut 7 = .ok (.idiv, 1) := by decide +kernel
theorem dX4_playOut_8 : decode cX4_playOut 8 = .ok (.istore_n 2, 1) := by decide +kernel
theorem dX4_playOut_9 : decode cX4_playOut 9 = .ok (.aload_n 0, 1) := by decide +kernel
theorem dX4_playOut_10 : decode cX4_playOut 10 = .ok (.getfield 24, 3) := by decide +kernel
theorem dX4_playOut_13 : decode cX4_playOut 13 = .ok (.iconst 1, 1) := by decide +kernel
theorem dX4_playOut_14 : decode cX4_playOut 14 = .ok (.isub, 1) := by decide +kernel
theorem dX4_playOut_15 : decode cX4_playOut 15 = .ok (.istore_n 3, 1) := by decide +kernel
theorem dX4_playOut_16 : decode cX4_playOut 16 = .ok (.iload_n 3, 1) := by decide +kernel
theorem dX4_playOut_17 : decode cX4_playOut 17 = .ok (.ifCond .lt 70, 3) := by decide +kernel
theorem dX4_playOut_20 : decode cX4_playOut 20 = .ok (.iload_n 3, 1) := by decide +kernel
theorem dX4_playOut_21 : decode cX4_playOut 21 = .ok (.invokestatic 53, 3) := by decide +kernel
theorem dX4_playOut_24 : decode cX4_playOut 24 = .ok (.istore 4, 2) := by decide +kernel
theorem dX4_playOut_26 : decode cX4_playOut 26 = .ok (.iload 4, 2) := by decide +kernel
theorem dX4_playOut_28 : decode cX4_playOut 28 = .ok (.iload_n 2, 1) := by decide +kernel
theorem dX4_playOut_29 : decode cX4_playOut 29 = .ok (.if_icmp .ne 23, 3) := by decide +kernel
theorem dX4_playOut_32 : decode cX4_playOut 32 = .ok (.aload_n 0, 1) := by decide +kernel
theorem dX4_playOut_33 : decode cX4_playOut 33 = .ok (.getfield 15, 3) := by decide +kernel
theorem dX4_playOut_36 : decode cX4_playOut 36 = .ok (.iload_n 3, 1) := by decide +kernel
theorem dX4_playOut_37 : decode cX4_playOut 37 = .ok (.iload_n 1, 1) := by decide +kernel
theorem dX4_playOut_38 : decode cX4_playOut 38 = .ok (.aload_n 0, 1) := by decide +kernel
theorem dX4_playOut_39 : decode cX4_playOut 39 = .ok (.getfield 9, 3) := by decide +kernel
theorem dX4_playOut_42 : decode cX4_playOut 42 = .ok (.iload_n 3, 1) := by decide +kernel
theorem dX4_playOut_43 : decode cX4_playOut 43 = .ok (.iaload, 1) := by decide +kernel
theorem dX4_playOut_44 : decode cX4_playOut 44 = .ok (.ixor, 1) := by decide +kernel
theorem dX4_playOut_45 : decode cX4_playOut 45 = .ok (.invokestatic 53, 3) := by decide +kernel
theorem dX4_playOut_48 : decode cX4_playOut 48 = .ok (.iastore, 1) := by decide +kernel
theorem dX4_playOut_49 : decode cX4_playOut 49 = .ok (.goto 32, 3) := by decide +kernel
theorem dX4_playOut_52 : decode cX4_playOut 52 = .ok (.iload 4, 2) := by decide +kernel
theorem dX4_playOut_54 : decode cX4_playOut 54 = .ok (.iload_n 2, 1) := by decide +kernel
theorem dX4_playOut_55 : decode cX4_playOut 55 = .ok (.if_icmp .ge 26, 3) := by decide +kernel
theorem dX4_playOut_58 : decode cX4_playOut 58 = .ok (.aload_n 0, 1) := by decide +kernel
theorem dX4_playOut_59 : decode cX4_playOut 59 = .ok (.getfield 15, 3) := by decide +kernel
theorem dX4_playOut_62 : decode cX4_playOut 62 = .ok (.iload_n 3, 1) := by decide +kernel
theorem dX4_playOut_63 : decode cX4_playOut 63 = .ok (.aload_n 0, 1) := by decide +kernel
theorem dX4_playOut_64 : decode cX4_playOut 64 = .ok (.iload_n 3, 1) := by decide +kernel
theorem dX4_playOut_65 : decode cX4_playOut 65 = .ok (.iload 4, 2) := by decide +kernel
theorem dX4_playOut_67 : decode cX4_playOut 67 = .ok (.iconst 2, 1) := by decide +kernel
theorem dX4_playOut_68 : decode cX4_playOut 68 = .ok (.irem, 1) := by decide +kernel
theorem dX4_playOut_69 : decode cX4_playOut 69 = .ok (.ifCond .ne 7, 3) := by decide +kernel
theorem dX4_playOut_72 : decode cX4_playOut 72 = .ok (.iconst 1, 1) := by decide +kernel
theorem dX4_playOut_73 : decode cX4_playOut 73 = .ok (.goto 4, 3) := by decide +kernel
theorem dX4_playOut_76 : decode cX4_playOut 76 = .ok (.iconst 0, 1) := by decide +kernel
theorem dX4_playOut_77 : decode cX4_playOut 77 = .ok (.invokevirtual 72, 3) := by decide +kernel
theorem dX4_playOut_80 : decode cX4_playOut 80 = .ok (.iastore, 1) := by decide +kernel
theorem dX4_playOut_81 : decode cX4_playOut 81 = .ok (.iinc 3 (-1), 3) := by decide +kernel
theorem dX4_playOut_84 : decode cX4_playOut 84 = .ok (.goto (-68), 3) := by decide +kernel
theorem dX4_playOut_87 : decode cX4_playOut 87 = .ok (.return_, 1) := by decide +kernel
theorem dX4_bestBehind_0 : decode cX4_bestBehind 0 = .ok (.iconst (-1), 1) := by decide +kernel
theorem dX4_bestBehind_1 : decode cX4_bestBehind 1 = .ok (.istore_n 3, 1) := by decide +kernel
theorem dX4_bestBehind_2 : decode cX4_bestBehind 2 = .ok (.iconst 0, 1) := by decide +kernel
theorem dX4_bestBehind_3 : decode cX4_bestBehind 3 = .ok (.istore 4, 2) := by decide +kernel
theorem dX4_bestBehind_5 : decode cX4_bestBehind 5 = .ok (.iload 4, 2) := by decide +kernel
theorem dX4_bestBehind_7 : decode cX4_bestBehind 7 = .ok (.aload_n 0, 1) := by decide +kernel
theorem dX4_bestBehind_8 : decode cX4_bestBehind 8 = .ok (.getfield 39, 3) := by decide +kernel
theorem dX4_bestBehind_11 : decode cX4_bestBehind 11 = .ok (.if_icmp .ge 58, 3) := by decide +kernel
theorem dX4_bestBehind_14 : decode cX4_bestBehind 14 = .ok (.iload_n 1, 1) := by decide +kernel
theorem dX4_bestBehind_15 : decode cX4_bestBehind 15 = .ok (.iload 4, 2) := by decide +kernel
theorem dX4_bestBehind_17 : decode cX4_bestBehind 17 = .ok (.ishr, 1) := by decide +kernel
theorem dX4_bestBehind_18 : decode cX4_bestBehind 18 = .ok (.iconst 1, 1) := by decide +kernel
theorem dX4_bestBehind_19 : decode cX4_bestBehind 19 = .ok (.iand, 1) := by decide +kernel
theorem dX4_bestBehind_20 : decode cX4_bestBehind 20 = .ok (.ifCond .ne 43, 3) := by decide +kernel
theorem dX4_bestBehind_23 : decode cX4_bestBehind 23 = .ok (.aload_n 0, 1) := by decide +kernel
theorem dX4_bestBehind_24 : decode cX4_bestBehind 24 = .ok (.getfield 15, 3) := by decide +kernel
theorem dX4_bestBehind_27 : decode cX4_bestBehind 27 = .ok (.iload_n 1, 1) := by decide +kernel
theorem dX4_bestBehind_28 : decode cX4_bestBehind 28 = .ok (.iconst 1, 1) := by decide +kernel
theorem dX4_bestBehind_29 : decode cX4_bestBehind 29 = .ok (.iload 4, 2) := by decide +kernel
theorem dX4_bestBehind_31 : decode cX4_bestBehind 31 = .ok (.ishl, 1) := by decide +kernel
theorem dX4_bestBehind_32 : decode cX4_bestBehind 32 = .ok (.ior, 1) := by decide +kernel
theorem dX4_bestBehind_33 : decode cX4_bestBehind 33 = .ok (.iaload, 1) := by decide +kernel
theorem dX4_bestBehind_34 : decode cX4_bestBehind 34 = .ok (.istore 5, 2) := by decide +kernel
theorem dX4_bestBehind_36 : decode cX4_bestBehind 36 = .ok (.iload_n 3, 1) := by decide +kernel
theorem dX4_bestBehind_37 : decode cX4_bestBehind 37 = .ok (.iconst (-1), 1) := by decide +kernel
theorem dX4_bestBehind_38 : decode cX4_bestBehind 38 = .ok (.if_icmp .eq 22, 3) := by decide +kernel
theorem dX4_bestBehind_41 : decode cX4_bestBehind 41 = .ok (.iload_n 2, 1) := by decide +kernel
theorem dX4_bestBehind_42 : decode cX4_bestBehind 42 = .ok (.ifCond .eq 12, 3) := by decide +kernel
theorem dX4_bestBehind_45 : decode cX4_bestBehind 45 = .ok (.iload 5, 2) := by decide +kernel
theorem dX4_bestBehind_47 : decode cX4_bestBehind 47 = .ok (.iload_n 3, 1) := by decide +kernel
theorem dX4_bestBehind_48 : decode cX4_bestBehind 48 = .ok (.if_icmp .le 15, 3) := by decide +kernel
theorem dX4_bestBehind_51 : decode cX4_bestBehind 51 = .ok (.goto 9, 3) := by decide +kernel
theorem dX4_bestBehind_54 : decode cX4_bestBehind 54 = .ok (.iload 5, 2) := by decide +kernel
theorem dX4_bestBehind_56 : decode cX4_bestBehind 56 = .ok (.iload_n 3, 1) := by decide +kernel
theorem dX4_bestBehind_57 : decode cX4_bestBehind 57 = .ok (.if_icmp .ge 6, 3) := by decide +kernel
theorem dX4_bestBehind_60 : decode cX4_bestBehind 60 = .ok (.iload 5, 2) := by decide +kernel
theorem dX4_bestBehind_62 : decode cX4_bestBehind 62 = .ok (.istore_n 3, 1) := by decide +kernel
theorem dX4_bestBehind_63 : decode cX4_bestBehind 63 = .ok (.iinc 4 1, 3) := by decide +kernel
theorem dX4_bestBehind_66 : decode cX4_bestBehind 66 = .ok (.goto (-61), 3) := by decide +kernel
theorem dX4_bestBehind_69 : decode cX4_bestBehind 69 = .ok (.iload_n 3, 1) := by decide +kernel
theorem dX4_bestBehind_70 : decode cX4_bestBehind 70 = .ok (.ireturn, 1) := by decide +kernel
theorem dX4_worth_0 : decode cX4_worth 0 = .ok (.aload_n 0, 1) := by decide +kernel
theorem dX4_worth_1 : decode cX4_worth 1 = .ok (.getfield 15, 3) := by decide +kernel
theorem dX4_worth_4 : decode cX4_worth 4 = .ok (.iconst 0, 1) := by decide +kernel
theorem dX4_worth_5 : decode cX4_worth 5 = .ok (.iaload, 1) := by decide +kernel
theorem dX4_worth_6 : decode cX4_worth 6 = .ok (.ireturn, 1) := by decide +kernel
theorem dX4_firstSaid_0 : decode cX4_firstSaid 0 = .ok (.iconst 0, 1) := by decide +kernel
theorem dX4_firstSaid_1 : decode cX4_firstSaid 1 = .ok (.istore_n 1, 1) := by decide +kernel
theorem dX4_firstSaid_2 : decode cX4_firstSaid 2 = .ok (.iload_n 1, 1) := by decide +kernel
theorem dX4_firstSaid_3 : decode cX4_firstSaid 3 = .ok (.aload_n 0, 1) := by decide +kernel
theorem dX4_firstSaid_4 : decode cX4_firstSaid 4 = .ok (.getfield 39, 3) := by decide +kernel
theorem dX4_firstSaid_7 : decode cX4_firstSaid 7 = .ok (.if_icmp .ge 28, 3) := by decide +kernel
theorem dX4_firstSaid_10 : decode cX4_firstSaid 10 = .ok (.aload_n 0, 1) := by decide +kernel
theorem dX4_firstSaid_11 : decode cX4_firstSaid 11 = .ok (.getfield 15, 3) := by decide +kernel
theorem dX4_firstSaid_14 : decode cX4_firstSaid 14 = .ok (.iconst 1, 1) := by decide +kernel
theorem dX4_firstSaid_15 : decode cX4_firstSaid 15 = .ok (.iload_n 1, 1) := by decide +kernel
theorem dX4_firstSaid_16 : decode cX4_firstSaid 16 = .ok (.ishl, 1) := by decide +kernel
theorem dX4_firstSaid_17 : decode cX4_firstSaid 17 = .ok (.iaload, 1) := by decide +kernel
theorem dX4_firstSaid_18 : decode cX4_firstSaid 18 = .ok (.aload_n 0, 1) := by decide +kernel
theorem dX4_firstSaid_19 : decode cX4_firstSaid 19 = .ok (.getfield 15, 3) := by decide +kernel
theorem dX4_firstSaid_22 : decode cX4_firstSaid 22 = .ok (.iconst 0, 1) := by decide +kernel
theorem dX4_firstSaid_23 : decode cX4_firstSaid 23 = .ok (.iaload, 1) := by decide +kernel
theorem dX4_firstSaid_24 : decode cX4_firstSaid 24 = .ok (.if_icmp .ne 5, 3) := by decide +kernel
theorem dX4_firstSaid_27 : decode cX4_firstSaid 27 = .ok (.iload_n 1, 1) := by decide +kernel
theorem dX4_firstSaid_28 : decode cX4_firstSaid 28 = .ok (.ireturn, 1) := by decide +kernel
theorem dX4_firstSaid_29 : decode cX4_firstSaid 29 = .ok (.iinc 1 1, 3) := by decide +kernel
theorem dX4_firstSaid_32 : decode cX4_firstSaid 32 = .ok (.goto (-30), 3) := by decide +kernel
theorem dX4_firstSaid_35 : decode cX4_firstSaid 35 = .ok (.iconst (-1), 1) := by decide +kernel
theorem dX4_firstSaid_36 : decode cX4_firstSaid 36 = .ok (.ireturn, 1) := by decide +kernel
theorem dX8_init_0 : decode cX8_init 0 = .ok (.aload_n 0, 1) := by decide +kernel
theorem dX8_init_1 : decode cX8_init 1 = .ok (.invokespecial 3, 3) := by decide +kernel
theorem dX8_init_4 : decode cX8_init 4 = .ok (.aload_n 0, 1) := by decide +kernel
theorem dX8_init_5 : decode cX8_init 5 = .ok (.new 9, 3) := by decide +kernel
theorem dX8_init_8 : decode cX8_init 8 = .ok (.dup, 1) := by decide +kernel
theorem dX8_init_9 : decode cX8_init 9 = .ok (.invokespecial 11, 3) := by decide +kernel
theorem dX8_init_12 : decode cX8_init 12 = .ok (.putfield 12, 3) := by decide +kernel
theorem dX8_init_15 : decode cX8_init 15 = .ok (.aload_n 0, 1) := by decide +kernel
theorem dX8_init_16 : decode cX8_init 16 = .ok (.new 9, 3) := by decide +kernel
theorem dX8_init_19 : decode cX8_init 19 = .ok (.dup, 1) := by decide +kernel
theorem dX8_init_20 : decode cX8_init 20 = .ok (.invokespecial 11, 3) := by decide +kernel
theorem dX8_init_23 : decode cX8_init 23 = .ok (.putfield 16, 3) := by decide +kernel
theorem dX8_init_26 : decode cX8_init 26 = .ok (.aload_n 0, 1) := by decide +kernel
theorem dX8_init_27 : decode cX8_init 27 = .ok (.new 19, 3) := by decide +kernel
theorem dX8_init_30 : decode cX8_init 30 = .ok (.dup, 1) := by decide +kernel
theorem dX8_init_31 : decode cX8_init 31 = .ok (.invokespecial 21, 3) := by decide +kernel
theorem dX8_init_34 : decode cX8_init 34 = .ok (.putfield 22, 3) := by decide +kernel
theorem dX8_init_37 : decode cX8_init 37 = .ok (.aload_n 0, 1) := by decide +kernel
theorem dX8_init_38 : decode cX8_init 38 = .ok (.new 26, 3) := by decide +kernel
theorem dX8_init_41 : decode cX8_init 41 = .ok (.dup, 1) := by decide +kernel
theorem dX8_init_42 : decode cX8_init 42 = .ok (.invokespecial 28, 3) := by decide +kernel
theorem dX8_init_45 : decode cX8_init 45 = .ok (.putfield 29, 3) := by decide +kernel
theorem dX8_init_48 : decode cX8_init 48 = .ok (.aload_n 0, 1) := by decide +kernel
theorem dX8_init_49 : decode cX8_init 49 = .ok (.new 33, 3) := by decide +kernel
theorem dX8_init_52 : decode cX8_init 52 = .ok (.dup, 1) := by decide +kernel
theorem dX8_init_53 : decode cX8_init 53 = .ok (.invokespecial 35, 3) := by decide +kernel
theorem dX8_init_56 : decode cX8_init 56 = .ok (.putfield 36, 3) := by decide +kernel
theorem dX8_init_59 : decode cX8_init 59 = .ok (.aload_n 0, 1) := by decide +kernel
theorem dX8_init_60 : decode cX8_init 60 = .ok (.new 40, 3) := by decide +kernel
theorem dX8_init_63 : decode cX8_init 63 = .ok (.dup, 1) := by decide +kernel
theorem dX8_init_64 : decode cX8_init 64 = .ok (.invokespecial 42, 3) := by decide +kernel
theorem dX8_init_67 : decode cX8_init 67 = .ok (.putfield 43, 3) := by decide +kernel
theorem dX8_init_70 : decode cX8_init 70 = .ok (.return_, 1) := by decide +kernel
theorem dX8_person_0 : decode cX8_person 0 = .ok (.aload_n 0, 1) := by decide +kernel
theorem dX8_person_1 : decode cX8_person 1 = .ok (.getfield 12, 3) := by decide +kernel
theorem dX8_person_4 : decode cX8_person 4 = .ok (.iload_n 1, 1) := by decide +kernel
theorem dX8_person_5 : decode cX8_person 5 = .ok (.iload_n 2, 1) := by decide +kernel
theorem dX8_person_6 : decode cX8_person 6 = .ok (.invokevirtual 47, 3) := by decide +kernel
theorem dX8_person_9 : decode cX8_person 9 = .ok (.ireturn, 1) := by decide +kernel
theorem dX8_dispute_0 : decode cX8_dispute 0 = .ok (.aload_n 0, 1) := by decide +kernel
theorem dX8_dispute_1 : decode cX8_dispute 1 = .ok (.getfield 12, 3) := by decide +kernel
theorem dX8_dispute_4 : decode cX8_dispute 4 = .ok (.iload_n 1, 1) := by decide +kernel
theorem dX8_dispute_5 : decode cX8_dispute 5 = .ok (.invokevirtual 51, 3) := by decide +kernel
theorem dX8_dispute_8 : decode cX8_dispute 8 = .ok (.ireturn, 1) := by decide +kernel
theorem dX8_feed_0 : decode cX8_feed 0 = .ok (.aload_n 0, 1) := by decide +kernel
theorem dX8_feed_1 : decode cX8_feed 1 = .ok (.getfield 22, 3) := by decide +kernel
theorem dX8_feed_4 : decode cX8_feed 4 = .ok (.getfield 55, 3) := by decide +kernel
theorem dX8_feed_7 : decode cX8_feed 7 = .ok (.bipush 20, 2) := by decide +kernel
theorem dX8_feed_9 : decode cX8_feed 9 = .ok (.iadd, 1) := by decide +kernel
theorem dX8_feed_10 : decode cX8_feed 10 = .ok (.sipush 300, 3) := by decide +kernel
theorem dX8_feed_13 : decode cX8_feed 13 = .ok (.if_icmp .le 5, 3) := by decide +kernel
theorem dX8_feed_16 : decode cX8_feed 16 = .ok (.iconst (-1), 1) := by decide +kernel
theorem dX8_feed_17 : decode cX8_feed 17 = .ok (.ireturn, 1) := by decide +kernel
theorem dX8_feed_18 : decode cX8_feed 18 = .ok (.aload_n 0, 1) := by decide +kernel
theorem dX8_feed_19 : decode cX8_feed 19 = .ok (.getfield 22, 3) := by decide +kernel
theorem dX8_feed_22 : decode cX8_feed 22 = .ok (.iload_n 1, 1) := by decide +kernel
theorem dX8_feed_23 : decode cX8_feed 23 = .ok (.invokevirtual 59, 3) := by decide +kernel
theorem dX8_feed_26 : decode cX8_feed 26 = .ok (.aload_n 0, 1) := by decide +kernel
theorem dX8_feed_27 : decode cX8_feed 27 = .ok (.getfield 22, 3) := by decide +kernel
theorem dX8_feed_30 : decode cX8_feed 30 = .ok (.iload_n 2, 1) := by decide +kernel
theorem dX8_feed_31 : decode cX8_feed 31 = .ok (.invokevirtual 59, 3) := by decide +kernel
theorem dX8_feed_34 : decode cX8_feed 34 = .ok (.aload_n 0, 1) := by decide +kernel
theorem dX8_feed_35 : decode cX8_feed 35 = .ok (.getfield 22, 3) := by decide +kernel
theorem dX8_feed_38 : decode cX8_feed 38 = .ok (.iload_n 3, 1) := by decide +kernel
theorem dX8_feed_39 : decode cX8_feed 39 = .ok (.invokevirtual 59, 3) := by decide +kernel
theorem dX8_feed_42 : decode cX8_feed 42 = .ok (.aload_n 0, 1) := by decide +kernel
theorem dX8_feed_43 : decode cX8_feed 43 = .ok (.getfield 22, 3) := by decide +kernel
theorem dX8_feed_46 : decode cX8_feed 46 = .ok (.iload 4, 2) := by decide +kernel
theorem dX8_feed_48 : decode cX8_feed 48 = .ok (.invokevirtual 59, 3) := by decide +kernel
theorem dX8_feed_51 : decode cX8_feed 51 = .ok (.aload_n 0, 1) := by decide +kernel
theorem dX8_feed_52 : decode cX8_feed 52 = .ok (.getfield 22, 3) := by decide +kernel
theorem dX8_feed_55 : decode cX8_feed 55 = .ok (.iload 5, 2) := by decide +kernel
theorem dX8_feed_57 : decode cX8_feed 57 = .ok (.invokevirtual 59, 3) := by decide +kernel
theorem dX8_feed_60 : decode cX8_feed 60 = .ok (.aload_n 0, 1) := by decide +kernel
theorem dX8_feed_61 : decode cX8_feed 61 = .ok (.getfield 22, 3) := by decide +kernel
theorem dX8_feed_64 : decode cX8_feed 64 = .ok (.getfield 55, 3) := by decide +kernel
theorem dX8_feed_67 : decode cX8_feed 67 = .ok (.ireturn, 1) := by decide +kernel
theorem dX8_end_0 : decode cX8_end 0 = .ok (.iload_n 1, 1) := by decide +kernel
theorem dX8_end_1 : decode cX8_end 1 = .ok (.ifCond .lt 14, 3) := by decide +kernel
theorem dX8_end_4 : decode cX8_end 4 = .ok (.iload_n 1, 1) := by decide +kernel
theorem dX8_end_5 : decode cX8_end 5 = .ok (.aload_n 0, 1) := by decide +kernel
theorem dX8_end_6 : decode cX8_end 6 = .ok (.getfield 22, 3) := by decide +kernel
theorem dX8_end_9 : decode cX8_end 9 = .ok (.getfield 55, 3) := by decide +kernel
theorem dX8_end_12 : decode cX8_end 12 = .ok (.if_icmp .le 5, 3) := by decide +kernel
theorem dX8_end_15 : decode cX8_end 15 = .ok (.iconst (-1), 1) := by decide +kernel
theorem dX8_end_16 : decode cX8_end 16 = .ok (.ireturn, 1) := by decide +kernel
theorem dX8_end_17 : decode cX8_end 17 = .ok (.aload_n 0, 1) := by decide +kernel
theorem dX8_end_18 : decode cX8_end 18 = .ok (.getfield 22, 3) := by decide +kernel
theorem dX8_end_21 : decode cX8_end 21 = .ok (.iload_n 1, 1) := by decide +kernel
theorem dX8_end_22 : decode cX8_end 22 = .ok (.putfield 55, 3) := by decide +kernel
theorem dX8_end_25 : decode cX8_end 25 = .ok (.iload_n 1, 1) := by decide +kernel
theorem dX8_end_26 : decode cX8_end 26 = .ok (.ireturn, 1) := by decide +kernel
theorem dX8_text_0 : decode cX8_text 0 = .ok (.aload_n 0, 1) := by decide +kernel
theorem dX8_text_1 : decode cX8_text 1 = .ok (.getfield 12, 3) := by decide +kernel
theorem dX8_text_4 : decode cX8_text 4 = .ok (.getfield 63, 3) := by decide +kernel
theorem dX8_text_7 : decode cX8_text 7 = .ok (.iconst 4, 1) := by decide +kernel
theorem dX8_text_8 : decode cX8_text 8 = .ok (.if_icmp .lt 5, 3) := by decide +kernel
theorem dX8_text_11 : decode cX8_text 11 = .ok (.iconst (-1), 1) := by decide +kernel
theorem dX8_text_12 : decode cX8_text 12 = .ok (.ireturn, 1) := by decide +kernel
theorem dX8_text_13 : decode cX8_text 13 = .ok (.aload_n 0, 1) := by decide +kernel
theorem dX8_text_14 : decode cX8_text 14 = .ok (.getfield 22, 3) := by decide +kernel
theorem dX8_text_17 : decode cX8_text 17 = .ok (.invokevirtual 66, 3) := by decide +kernel
theorem dX8_text_20 : decode cX8_text 20 = .ok (.istore_n 1, 1) := by decide +kernel
theorem dX8_text_21 : decode cX8_text 21 = .ok (.aload_n 0, 1) := by decide +kernel
theorem dX8_text_22 : decode cX8_text 22 = .ok (.getfield 22, 3) := by decide +kernel
theorem dX8_text_25 : decode cX8_text 25 = .ok (.iconst 0, 1) := by decide +kernel
theorem dX8_text_26 : decode cX8_text 26 = .ok (.putfield 55, 3) := by decide +kernel
theorem dX8_text_29 : decode cX8_text 29 = .ok (.iload_n 1, 1) := by decide +kernel
theorem dX8_text_30 : decode cX8_text 30 = .ok (.ifCond .ne 5, 3) := by decide +kernel
theorem dX8_text_33 : decode cX8_text 33 = .ok (.iconst (-1), 1) := by decide +kernel
theorem dX8_text_34 : decode cX8_text 34 = .ok (.ireturn, 1) := by decide +kernel
theorem dX8_text_35 : decode cX8_text 35 = .ok (.aload_n 0, 1) := by decide +kernel
theorem dX8_text_36 : decode cX8_text 36 = .ok (.getfield 12, 3) := by decide +kernel
theorem dX8_text_39 : decode cX8_text 39 = .ok (.getfield 70, 3) := by decide +kernel
theorem dX8_text_42 : decode cX8_text 42 = .ok (.aload_n 0, 1) := by decide +kernel
theorem dX8_text_43 : decode cX8_text 43 = .ok (.getfield 12, 3) := by decide +kernel
theorem dX8_text_46 : decode cX8_text 46 = .ok (.getfield 63, 3) := by decide +kernel
theorem dX8_text_49 : decode cX8_text 49 = .ok (.aaload, 1) := by decide +kernel
theorem dX8_text_50 : decode cX8_text 50 = .ok (.aload_n 0, 1) := by decide +kernel
theorem dX8_text_51 : decode cX8_text 51 = .ok (.getfield 22, 3) := by decide +kernel
theorem dX8_text_54 : decode cX8_text 54 = .ok (.getfield 74, 3) := by decide +kernel
theorem dX8_text_57 : decode cX8_text 57 = .ok (.invokevirtual 78, 3) := by decide +kernel
theorem dX8_text_60 : decode cX8_text 60 = .ok (.aload_n 0, 1) := by decide +kernel
theorem dX8_text_61 : decode cX8_text 61 = .ok (.getfield 12, 3) := by decide +kernel
theorem dX8_text_64 : decode cX8_text 64 = .ok (.dup, 1) := by decide +kernel
theorem dX8_text_65 : decode cX8_text 65 = .ok (.getfield 63, 3) := by decide +kernel
theorem dX8_text_68 : decode cX8_text 68 = .ok (.iconst 1, 1) := by decide +kernel
theorem dX8_text_69 : decode cX8_text 69 = .ok (.iadd, 1) := by decide +kernel
theorem dX8_text_70 : decode cX8_text 70 = .ok (.putfield 63, 3) := by decide +kernel
theorem dX8_text_73 : decode cX8_text 73 = .ok (.aload_n 0, 1) := by decide +kernel
theorem dX8_text_74 : decode cX8_text 74 = .ok (.getfield 12, 3) := by decide +kernel
theorem dX8_text_77 : decode cX8_text 77 = .ok (.getfield 63, 3) := by decide +kernel
theorem dX8_text_80 : decode cX8_text 80 = .ok (.iconst 1, 1) := by decide +kernel
theorem dX8_text_81 : decode cX8_text 81 = .ok (.isub, 1) := by decide +kernel
theorem dX8_text_82 : decode cX8_text 82 = .ok (.ireturn, 1) := by decide +kernel
theorem dX8_fault_0 : decode cX8_fault 0 = .ok (.aload_n 0, 1) := by decide +kernel
theorem dX8_fault_1 : decode cX8_fault 1 = .ok (.getfield 22, 3) := by decide +kernel
theorem dX8_fault_4 : decode cX8_fault 4 = .ok (.getfield 84, 3) := by decide +kernel
theorem dX8_fault_7 : decode cX8_fault 7 = .ok (.ifCond .ne 5, 3) := by decide +kernel
theorem dX8_fault_10 : decode cX8_fault 10 = .ok (.iconst (-1), 1) := by decide +kernel
theorem dX8_fault_11 : decode cX8_fault 11 = .ok (.ireturn, 1) := by decide +kernel
theorem dX8_fault_12 : decode cX8_fault 12 = .ok (.iload_n 1, 1) := by decide +kernel
theorem dX8_fault_13 : decode cX8_fault 13 = .ok (.lookupswitch 43 #[(0, 27), (1, 35)], 27) := by decide +kernel
theorem dX8_fault_40 : decode cX8_fault 40 = .ok (.aload_n 0, 1) := by decide +kernel
theorem dX8_fault_41 : decode cX8_fault 41 = .ok (.getfield 22, 3) := by decide +kernel
theorem dX8_fault_44 : decode cX8_fault 44 = .ok (.getfield 88, 3) := by decide +kernel
theorem dX8_fault_47 : decode cX8_fault 47 = .ok (.ireturn, 1) := by decide +kernel
theorem dX8_fault_48 : decode cX8_fault 48 = .ok (.aload_n 0, 1) := by decide +kernel
theorem dX8_fault_49 : decode cX8_fault 49 = .ok (.getfield 22, 3) := by decide +kernel
theorem dX8_fault_52 : decode cX8_fault 52 = .ok (.getfield 91, 3) := by decide +kernel
theorem dX8_fault_55 : decode cX8_fault 55 = .ok (.ireturn, 1) := by decide +kernel
theorem dX8_fault_56 : decode cX8_fault 56 = .ok (.iconst (-1), 1) := by decide +kernel
theorem dX8_fault_57 : decode cX8_fault 57 = .ok (.ireturn, 1) := by decide +kernel
theorem dX8_by_0 : decode cX8_by 0 = .ok (.iload_n 1, 1) := by decide +kernel
theorem dX8_by_1 : decode cX8_by 1 = .ok (.iconst (-1), 1) := by decide +kernel
theorem dX8_by_2 : decode cX8_by 2 = .ok (.if_icmp .eq 16, 3) := by decide +kernel
theorem dX8_by_5 : decode cX8_by 5 = .ok (.aload_n 0, 1) := by decide +kernel
theorem dX8_by_6 : decode cX8_by 6 = .ok (.getfield 12, 3) := by decide +kernel
theorem dX8_by_9 : decode cX8_by 9 = .ok (.iload_n 1, 1) := by decide +kernel
theorem dX8_by_10 : decode cX8_by 10 = .ok (.invokevirtual 94, 3) := by decide +kernel
theorem dX8_by_13 : decode cX8_by 13 = .ok (.ifCond .ne 5, 3) := by decide +kernel
theorem dX8_by_16 : decode cX8_by 16 = .ok (.iconst 0, 1) := by decide +kernel
theorem dX8_by_17 : decode cX8_by 17 = .ok (.ireturn, 1) := by decide +kernel
theorem dX8_by_18 : decode cX8_by 18 = .ok (.aload_n 0, 1) := by decide +kernel
theorem dX8_by_19 : decode cX8_by 19 = .ok (.getfield 12, 3) := by decide +kernel
theorem dX8_by_22 : decode cX8_by 22 = .ok (.iload_n 1, 1) := by decide +kernel
theorem dX8_by_23 : decode cX8_by 23 = .ok (.putfield 98, 3) := by decide +kernel
theorem dX8_by_26 : decode cX8_by 26 = .ok (.iconst 1, 1) := by decide +kernel
theorem dX8_by_27 : decode cX8_by 27 = .ok (.ireturn, 1) := by decide +kernel
theorem dX8_argue_0 : decode cX8_argue 0 = .ok (.aload_n 0, 1) := by decide +kernel
theorem dX8_argue_1 : decode cX8_argue 1 = .ok (.getfield 12, 3) := by decide +kernel
theorem dX8_argue_4 : decode cX8_argue 4 = .ok (.iload_n 1, 1) := by decide +kernel
theorem dX8_argue_5 : decode cX8_argue 5 = .ok (.iload_n 2, 1) := by decide +kernel
theorem dX8_argue_6 : decode cX8_argue 6 = .ok (.iload_n 3, 1) := by decide +kernel
theorem dX8_argue_7 : decode cX8_argue 7 = .ok (.invokevirtual 101, 3) := by decide +kernel
theorem dX8_argue_10 : decode cX8_argue 10 = .ok (.ireturn, 1) := by decide +kernel
theorem dX8_pour_0 : decode cX8_pour 0 = .ok (.aload_n 0, 1) := by decide +kernel
theorem dX8_pour_1 : decode cX8_pour 1 = .ok (.getfield 12, 3) := by decide +kernel
theorem dX8_pour_4 : decode cX8_pour 4 = .ok (.iload_n 1, 1) := by decide +kernel
theorem dX8_pour_5 : decode cX8_pour 5 = .ok (.iload_n 2, 1) := by decide +kernel
theorem dX8_pour_6 : decode cX8_pour 6 = .ok (.invokevirtual 105, 3) := by decide +kernel
theorem dX8_pour_9 : decode cX8_pour 9 = .ok (.ireturn, 1) := by decide +kernel
theorem dX8_snuff_0 : decode cX8_snuff 0 = .ok (.aload_n 0, 1) := by decide +kernel
theorem dX8_snuff_1 : decode cX8_snuff 1 = .ok (.getfield 12, 3) := by decide +kernel
theorem dX8_snuff_4 : decode cX8_snuff 4 = .ok (.iload_n 1, 1) := by decide +kernel
theorem dX8_snuff_5 : decode cX8_snuff 5 = .ok (.invokevirtual 109, 3) := by decide +kernel
theorem dX8_snuff_8 : decode cX8_snuff 8 = .ok (.ireturn, 1) := by decide +kernel
theorem dX8_night_0 : decode cX8_night 0 = .ok (.iload_n 1, 1) := by decide +kernel
theorem dX8_night_1 : decode cX8_night 1 = .ok (.iconst 1, 1) := by decide +kernel
theorem dX8_night_2 : decode cX8_night 2 = .ok (.if_icmp .lt 27, 3) := by decide +kernel
theorem dX8_night_5 : decode cX8_night 5 = .ok (.iload_n 1, 1) := by decide +kernel
theorem dX8_night_6 : decode cX8_night 6 = .ok (.bipush 60, 2) := by decide +kernel
theorem dX8_night_8 : decode cX8_night 8 = .ok (.if_icmp .gt 21, 3) := by decide +kernel
theorem dX8_night_11 : decode cX8_night 11 = .ok (.aload_n 0, 1) := by decide +kernel
theorem dX8_night_12 : decode cX8_night 12 = .ok (.getfield 12, 3) := by decide +kernel
theorem dX8_night_15 : decode cX8_night 15 = .ok (.getfield 112, 3) := by decide +kernel
theorem dX8_night_18 : decode cX8_night 18 = .ok (.getfield 115, 3) := by decide +kernel
theorem dX8_night_21 : decode cX8_night 21 = .ok (.iload_n 1, 1) := by decide +kernel
theorem dX8_night_22 : decode cX8_night 22 = .ok (.iadd, 1) := by decide +kernel
theorem dX8_night_23 : decode cX8_night 23 = .ok (.sipush 9999, 3) := by decide +kernel
theorem dX8_night_26 : decode cX8_night 26 = .ok (.if_icmp .le 5, 3) := by decide +kernel
theorem dX8_night_29 : decode cX8_night 29 = .ok (.iconst (-1), 1) := by decide +kernel
theorem dX8_night_30 : decode cX8_night 30 = .ok (.ireturn, 1) := by decide +kernel
theorem dX8_night_31 : decode cX8_night 31 = .ok (.aload_n 0, 1) := by decide +kernel
theorem dX8_night_32 : decode cX8_night 32 = .ok (.getfield 12, 3) := by decide +kernel
theorem dX8_night_35 : decode cX8_night 35 = .ok (.getfield 112, 3) := by decide +kernel
theorem dX8_night_38 : decode cX8_night 38 = .ok (.invokevirtual 118, 3) := by decide +kernel
theorem dX8_night_41 : decode cX8_night 41 = .ok (.istore_n 2, 1) := by decide +kernel
theorem dX8_night_42 : decode cX8_night 42 = .ok (.aload_n 0, 1) := by decide +kernel
theorem dX8_night_43 : decode cX8_night 43 = .ok (.getfield 12, 3) := by decide +kernel
theorem dX8_night_46 : decode cX8_night 46 = .ok (.iload_n 1, 1) := by decide +kernel
theorem dX8_night_47 : decode cX8_night 47 = .ok (.iconst 1, 1) := by decide +kernel
theorem dX8_night_48 : decode cX8_night 48 = .ok (.invokevirtual 122, 3) := by decide +kernel
theorem dX8_night_51 : decode cX8_night 51 = .ok (.pop, 1) := by decide +kernel
theorem dX8_night_52 : decode cX8_night 52 = .ok (.iload_n 2, 1) := by decide +kernel
theorem dX8_night_53 : decode cX8_night 53 = .ok (.aload_n 0, 1) := by decide +kernel
theorem dX8_night_54 : decode cX8_night 54 = .ok (.getfield 12, 3) := by decide +kernel
theorem dX8_night_57 : decode cX8_night 57 = .ok (.getfield 112, 3) := by decide +kernel
theorem dX8_night_60 : decode cX8_night 60 = .ok (.invokevirtual 118, 3) := by decide +kernel
theorem dX8_night_63 : decode cX8_night 63 = .ok (.isub, 1) := by decide +kernel
theorem dX8_night_64 : decode cX8_night 64 = .ok (.ireturn, 1) := by decide +kernel
theorem dX8_played_0 : decode cX8_played 0 = .ok (.aload_n 0, 1) := by decide +kernel
theorem dX8_played_1 : decode cX8_played 1 = .ok (.getfield 12, 3) := by decide +kernel
theorem dX8_played_4 : decode cX8_played 4 = .ok (.iload_n 1, 1) := by decide +kernel
theorem dX8_played_5 : decode cX8_played 5 = .ok (.invokevirtual 94, 3) := by decide +kernel
theorem dX8_played_8 : decode cX8_played 8 = .ok (.ifCond .ne 6, 3) := by decide +kernel
theorem dX8_played_11 : decode cX8_played 11 = .ok (.bipush (-2), 2) := by decide +kernel
theorem dX8_played_13 : decode cX8_played 13 = .ok (.ireturn, 1) := by decide +kernel
theorem dX8_played_14 : decode cX8_played 14 = .ok (.aload_n 0, 1) := by decide +kernel
theorem dX8_played_15 : decode cX8_played 15 = .ok (.getfield 12, 3) := by decide +kernel
theorem dX8_played_18 : decode cX8_played 18 = .ok (.getfield 70, 3) := by decide +kernel
theorem dX8_played_21 : decode cX8_played 21 = .ok (.iload_n 1, 1) := by decide +kernel
theorem dX8_played_22 : decode cX8_played 22 = .ok (.aaload, 1) := by decide +kernel
theorem dX8_played_23 : decode cX8_played 23 = .ok (.astore_n 2, 1) := by decide +kernel
theorem dX8_played_24 : decode cX8_played 24 = .ok (.iconst 0, 1) := by decide +kernel
theorem dX8_played_25 : decode cX8_played 25 = .ok (.istore_n 3, 1) := by decide +kernel
theorem dX8_played_26 : decode cX8_played 26 = .ok (.iload_n 3, 1) := by decide +kernel
theorem dX8_played_27 : decode cX8_played 27 = .ok (.aload_n 2, 1) := by decide +kernel
theorem dX8_played_28 : decode cX8_played 28 = .ok (.getfield 126, 3) := by decide +kernel
theorem dX8_played_31 : decode cX8_played 31 = .ok (.if_icmp .ge 23, 3) := by decide +kernel
theorem dX8_played_34 : decode cX8_played 34 = .ok (.aload_n 0, 1) := by decide +kernel
theorem dX8_played_35 : decode cX8_played 35 = .ok (.getfield 12, 3) := by decide +kernel
theorem dX8_played_38 : decode cX8_played 38 = .ok (.aload_n 2, 1) := by decide +kernel
theorem dX8_played_39 : decode cX8_played 39 = .ok (.iload_n 3, 1) := by decide +kernel
theorem dX8_played_40 : decode cX8_played 40 = .ok (.invokevirtual 129, 3) := by decide +kernel
theorem dX8_played_43 : decode cX8_played 43 = .ok (.ifCond .ne 5, 3) := by decide +kernel
theorem dX8_played_46 : decode cX8_played 46 = .ok (.iload_n 3, 1) := by decide +kernel
theorem dX8_played_47 : decode cX8_played 47 = .ok (.ireturn, 1) := by decide +kernel
theorem dX8_played_48 : decode cX8_played 48 = .ok (.iinc 3 1, 3) := by decide +kernel
theorem dX8_played_51 : decode cX8_played 51 = .ok (.goto (-25), 3) := by decide +kernel
theorem dX8_played_54 : decode cX8_played 54 = .ok (.iconst (-1), 1) := by decide +kernel
theorem dX8_played_55 : decode cX8_played 55 = .ok (.ireturn, 1) := by decide +kernel
theorem dX8_years_0 : decode cX8_years 0 = .ok (.iload_n 1, 1) := by decide +kernel
theorem dX8_years_1 : decode cX8_years 1 = .ok (.ifCond .lt 21, 3) := by decide +kernel
theorem dX8_years_4 : decode cX8_years 4 = .ok (.iload_n 1, 1) := by decide +kernel
theorem dX8_years_5 : decode cX8_years 5 = .ok (.sipush 9999, 3) := by decide +kernel
theorem dX8_years_8 : decode cX8_years 8 = .ok (.if_icmp .gt 14, 3) := by decide +kernel
theorem dX8_years_11 : decode cX8_years 11 = .ok (.iload_n 2, 1) := by decide +kernel
theorem dX8_years_12 : decode cX8_years 12 = .ok (.iconst 1, 1) := by decide +kernel
theorem dX8_years_13 : decode cX8_years 13 = .ok (.if_icmp .lt 9, 3) := by decide +kernel
theorem dX8_years_16 : decode cX8_years 16 = .ok (.iload_n 2, 1) := by decide +kernel
theorem dX8_years_17 : decode cX8_years 17 = .ok (.bipush 40, 2) := by decide +kernel
theorem dX8_years_19 : decode cX8_years 19 = .ok (.if_icmp .le 5, 3) := by decide +kernel
theorem dX8_years_22 : decode cX8_years 22 = .ok (.iconst (-1), 1) := by decide +kernel
theorem dX8_years_23 : decode cX8_years 23 = .ok (.ireturn, 1) := by decide +kernel
theorem dX8_years_24 : decode cX8_years 24 = .ok (.aload_n 0, 1) := by decide +kernel
theorem dX8_years_25 : decode cX8_years 25 = .ok (.getfield 12, 3) := by decide +kernel
theorem dX8_years_28 : decode cX8_years 28 = .ok (.invokevirtual 133, 3) := by decide +kernel
theorem dX8_years_31 : decode cX8_years 31 = .ok (.aload_n 0, 1) := by decide +kernel
theorem dX8_years_32 : decode cX8_years 32 = .ok (.getfield 12, 3) := by decide +kernel
theorem dX8_years_35 : decode cX8_years 35 = .ok (.getfield 112, 3) := by decide +kernel
theorem dX8_years_38 : decode cX8_years 38 = .ok (.iload_n 1, 1) := by decide +kernel
theorem dX8_years_39 : decode cX8_years 39 = .ok (.iconst 2, 1) := by decide +kernel
theorem dX8_years_40 : decode cX8_years 40 = .ok (.imul, 1) := by decide +kernel
theorem dX8_years_41 : decode cX8_years 41 = .ok (.sipush 367, 3) := by decide +kernel
theorem dX8_years_44 : decode cX8_years 44 = .ok (.iadd, 1) := by decide +kernel
theorem dX8_years_45 : decode cX8_years 45 = .ok (.putfield 136, 3) := by decide +kernel
theorem dX8_years_48 : decode cX8_years 48 = .ok (.iconst 0, 1) := by decide +kernel
theorem dX8_years_49 : decode cX8_years 49 = .ok (.istore_n 3, 1) := by decide +kernel
theorem dX8_years_50 : decode cX8_years 50 = .ok (.iload_n 3, 1) := by decide +kernel
theorem dX8_years_51 : decode cX8_years 51 = .ok (.iload_n 2, 1) := by decide +kernel
theorem dX8_years_52 : decode cX8_years 52 = .ok (.if_icmp .ge 16, 3) := by decide +kernel
theorem dX8_years_55 : decode cX8_years 55 = .ok (.aload_n 0, 1) := by decide +kernel
theorem dX8_years_56 : decode cX8_years 56 = .ok (.getfield 12, 3) := by decide +kernel
theorem dX8_years_59 : decode cX8_years 59 = .ok (.invokevirtual 139, 3) := by decide +kernel
theorem dX8_years_62 : decode cX8_years 62 = .ok (.iinc 3 1, 3) := by decide +kernel
theorem dX8_years_65 : decode cX8_years 65 = .ok (.goto (-15), 3) := by decide +kernel
theorem dX8_years_68 : decode cX8_years 68 = .ok (.aload_n 0, 1) := by decide +kernel
theorem dX8_years_69 : decode cX8_years 69 = .ok (.getfield 12, 3) := by decide +kernel
theorem dX8_years_72 : decode cX8_years 72 = .ok (.getfield 112, 3) := by decide +kernel
theorem dX8_years_75 : decode cX8_years 75 = .ok (.getfield 115, 3) := by decide +kernel
theorem dX8_years_78 : decode cX8_years 78 = .ok (.ireturn, 1) := by decide +kernel
theorem dX8_undo_0 : decode cX8_undo 0 = .ok (.aload_n 0, 1) := by decide +kernel
theorem dX8_undo_1 : decode cX8_undo 1 = .ok (.getfield 12, 3) := by decide +kernel
theorem dX8_undo_4 : decode cX8_undo 4 = .ok (.invokevirtual 142, 3) := by decide +kernel
theorem dX8_undo_7 : decode cX8_undo 7 = .ok (.ireturn, 1) := by decide +kernel
theorem dX8_of_0 : decode cX8_of 0 = .ok (.aload_n 0, 1) := by decide +kernel
theorem dX8_of_1 : decode cX8_of 1 = .ok (.getfield 12, 3) := by decide +kernel
theorem dX8_of_4 : decode cX8_of 4 = .ok (.iload_n 1, 1) := by decide +kernel
theorem dX8_of_5 : decode cX8_of 5 = .ok (.invokevirtual 145, 3) := by decide +kernel
theorem dX8_of_8 : decode cX8_of 8 = .ok (.ifCond .ne 6, 3) := by decide +kernel
theorem dX8_of_11 : decode cX8_of 11 = .ok (.bipush (-2), 2) := by decide +kernel
theorem dX8_of_13 : decode cX8_of 13 = .ok (.ireturn, 1) := by decide +kernel
theorem dX8_of_14 : decode cX8_of 14 = .ok (.iload_n 2, 1) := by decide +kernel
theorem dX8_of_15 : decode cX8_of 15 = .ok (.tableswitch 63 0 2 #[25, 38, 50], 25) := by decide +kernel
theorem dX8_of_40 : decode cX8_of 40 = .ok (.aload_n 0, 1) := by decide +kernel
theorem dX8_of_41 : decode cX8_of 41 = .ok (.getfield 12, 3) := by decide +kernel
theorem dX8_of_44 : decode cX8_of 44 = .ok (.getfield 112, 3) := by decide +kernel
theorem dX8_of_47 : decode cX8_of 47 = .ok (.getfield 148, 3) := by decide +kernel
theorem dX8_of_50 : decode cX8_of 50 = .ok (.iload_n 1, 1) := by decide +kernel
theorem dX8_of_51 : decode cX8_of 51 = .ok (.iaload, 1) := by decide +kernel
theorem dX8_of_52 : decode cX8_of 52 = .ok (.ireturn, 1) := by decide +kernel
theorem dX8_of_53 : decode cX8_of 53 = .ok (.aload_n 0, 1) := by decide +kernel
theorem dX8_of_54 : decode cX8_of 54 = .ok (.getfield 12, 3) := by decide +kernel
theorem dX8_of_57 : decode cX8_of 57 = .ok (.getfield 152, 3) := by decide +kernel
theorem dX8_of_60 : decode cX8_of 60 = .ok (.iload_n 1, 1) := by decide +kernel
theorem dX8_of_61 : decode cX8_of 61 = .ok (.invokevirtual 156, 3) := by decide +kernel
theorem dX8_of_64 : decode cX8_of 64 = .ok (.ireturn, 1) := by decide +kernel
theorem dX8_of_65 : decode cX8_of 65 = .ok (.aload_n 0, 1) := by decide +kernel
theorem dX8_of_66 : decode cX8_of 66 = .ok (.getfield 12, 3) := by decide +kernel
theorem dX8_of_69 : decode cX8_of 69 = .ok (.getfield 112, 3) := by decide +kernel
theorem dX8_of_72 : decode cX8_of 72 = .ok (.getfield 161, 3) := by decide +kernel
theorem dX8_of_75 : decode cX8_of 75 = .ok (.iload_n 1, 1) := by decide +kernel
theorem dX8_of_76 : decode cX8_of 76 = .ok (.iaload, 1) := by decide +kernel
theorem dX8_of_77 : decode cX8_of 77 = .ok (.ireturn, 1) := by decide +kernel
theorem dX8_of_78 : decode cX8_of 78 = .ok (.bipush (-2), 2) := by decide +kernel
theorem dX8_of_80 : decode cX8_of 80 = .ok (.ireturn, 1) := by decide +kernel
theorem dX8_lamps_0 : decode cX8_lamps 0 = .ok (.aload_n 0, 1) := by decide +kernel
theorem dX8_lamps_1 : decode cX8_lamps 1 = .ok (.getfield 12, 3) := by decide +kernel
theorem dX8_lamps_4 : decode cX8_lamps 4 = .ok (.iload_n 1, 1) := by decide +kernel
theorem dX8_lamps_5 : decode cX8_lamps 5 = .ok (.invokevirtual 164, 3) := by decide +kernel
theorem dX8_lamps_8 : decode cX8_lamps 8 = .ok (.ifCond .eq 17, 3) := by decide +kernel
theorem dX8_lamps_11 : decode cX8_lamps 11 = .ok (.aload_n 0, 1) := by decide +kernel
theorem dX8_lamps_12 : decode cX8_lamps 12 = .ok (.getfield 12, 3) := by decide +kernel
theorem dX8_lamps_15 : decode cX8_lamps 15 = .ok (.getfield 167, 3) := by decide +kernel
theorem dX8_lamps_18 : decode cX8_lamps 18 = .ok (.iload_n 1, 1) := by decide +kernel
theorem dX8_lamps_19 : decode cX8_lamps 19 = .ok (.invokevirtual 156, 3) := by decide +kernel
theorem dX8_lamps_22 : decode cX8_lamps 22 = .ok (.goto 4, 3) := by decide +kernel
theorem dX8_lamps_25 : decode cX8_lamps 25 = .ok (.iconst (-1), 1) := by decide +kernel
theorem dX8_lamps_26 : decode cX8_lamps 26 = .ok (.ireturn, 1) := by decide +kernel
theorem dX8_is_0 : decode cX8_is 0 = .ok (.iload_n 1, 1) := by decide +kernel
theorem dX8_is_1 : decode cX8_is 1 = .ok (.tableswitch 90 0 4 #[35, 46, 57, 68, 79], 35) := by decide +kernel
theorem dX8_is_36 : decode cX8_is 36 = .ok (.aload_n 0, 1) := by decide +kernel
theorem dX8_is_37 : decode cX8_is 37 = .ok (.getfield 12, 3) := by decide +kernel
theorem dX8_is_40 : decode cX8_is 40 = .ok (.getfield 112, 3) := by decide +kernel
theorem dX8_is_43 : decode cX8_is 43 = .ok (.getfield 115, 3) := by decide +kernel
theorem dX8_is_46 : decode cX8_is 46 = .ok (.ireturn, 1) := by decide +kernel
theorem dX8_is_47 : decode cX8_is 47 = .ok (.aload_n 0, 1) := by decide +kernel
theorem dX8_is_48 : decode cX8_is 48 = .ok (.getfield 12, 3) := by decide +kernel
theorem dX8_is_51 : decode cX8_is 51 = .ok (.getfield 112, 3) := by decide +kernel
theorem dX8_is_54 : decode cX8_is 54 = .ok (.getfield 136, 3) := by decide +kernel
theorem dX8_is_57 : decode cX8_is 57 = .ok (.ireturn, 1) := by decide +kernel
theorem dX8_is_58 : decode cX8_is 58 = .ok (.aload_n 0, 1) := by decide +kernel
theorem dX8_is_59 : decode cX8_is 59 = .ok (.getfield 12, 3) := by decide +kernel
theorem dX8_is_62 : decode cX8_is 62 = .ok (.getfield 112, 3) := by decide +kernel
theorem dX8_is_65 : decode cX8_is 65 = .ok (.getfield 170, 3) := by decide +kernel
theorem dX8_is_68 : decode cX8_is 68 = .ok (.ireturn, 1) := by decide +kernel
theorem dX8_is_69 : decode cX8_is 69 = .ok (.aload_n 0, 1) := by decide +kernel
theorem dX8_is_70 : decode cX8_is 70 = .ok (.getfield 12, 3) := by decide +kernel
theorem dX8_is_73 : decode cX8_is 73 = .ok (.getfield 112, 3) := by decide +kernel
theorem dX8_is_76 : decode cX8_is 76 = .ok (.invokevirtual 118, 3) := by decide +kernel
theorem dX8_is_79 : decode cX8_is 79 = .ok (.ireturn, 1) := by decide +kernel
theorem dX8_is_80 : decode cX8_is 80 = .ok (.aload_n 0, 1) := by decide +kernel
theorem dX8_is_81 : decode cX8_is 81 = .ok (.getfield 12, 3) := by decide +kernel
theorem dX8_is_84 : decode cX8_is 84 = .ok (.getfield 112, 3) := by decide +kernel
theorem dX8_is_87 : decode cX8_is 87 = .ok (.getfield 173, 3) := by decide +kernel
theorem dX8_is_90 : decode cX8_is 90 = .ok (.ireturn, 1) := by decide +kernel
theorem dX8_is_91 : decode cX8_is 91 = .ok (.bipush (-2), 2) := by decide +kernel
theorem dX8_is_93 : decode cX8_is 93 = .ok (.ireturn, 1) := by decide +kernel
theorem dX8_loses_0 : decode cX8_loses 0 = .ok (.aload_n 0, 1) := by decide +kernel
theorem dX8_loses_1 : decode cX8_loses 1 = .ok (.getfield 12, 3) := by decide +kernel
theorem dX8_loses_4 : decode cX8_loses 4 = .ok (.iload_n 1, 1) := by decide +kernel
theorem dX8_loses_5 : decode cX8_loses 5 = .ok (.iload_n 2, 1) := by decide +kernel
theorem dX8_loses_6 : decode cX8_loses 6 = .ok (.iload_n 3, 1) := by decide +kernel
theorem dX8_loses_7 : decode cX8_loses 7 = .ok (.invokevirtual 176, 3) := by decide +kernel
theorem dX8_loses_10 : decode cX8_loses 10 = .ok (.ifCond .eq 16, 3) := by decide +kernel
theorem dX8_loses_13 : decode cX8_loses 13 = .ok (.aload_n 0, 1) := by decide +kernel
theorem dX8_loses_14 : decode cX8_loses 14 = .ok (.getfield 12, 3) := by decide +kernel
theorem dX8_loses_17 : decode cX8_loses 17 = .ok (.iload_n 1, 1) := by decide +kernel
theorem dX8_loses_18 : decode cX8_loses 18 = .ok (.iload_n 2, 1) := by decide +kernel
theorem dX8_loses_19 : decode cX8_loses 19 = .ok (.iload_n 3, 1) := by decide +kernel
theorem dX8_loses_20 : decode cX8_loses 20 = .ok (.invokevirtual 180, 3) := by decide +kernel
theorem dX8_loses_23 : decode cX8_loses 23 = .ok (.goto 5, 3) := by decide +kernel
theorem dX8_loses_26 : decode cX8_loses 26 = .ok (.bipush (-100), 2) := by decide +kernel
theorem dX8_loses_28 : decode cX8_loses 28 = .ok (.ireturn, 1) := by decide +kernel
theorem dX8_fills_0 : decode cX8_fills 0 = .ok (.aload_n 0, 1) := by decide +kernel
theorem dX8_fills_1 : decode cX8_fills 1 = .ok (.getfield 12, 3) := by decide +kernel
theorem dX8_fills_4 : decode cX8_fills 4 = .ok (.iload_n 1, 1) := by decide +kernel
theorem dX8_fills_5 : decode cX8_fills 5 = .ok (.invokevirtual 164, 3) := by decide +kernel
theorem dX8_fills_8 : decode cX8_fills 8 = .ok (.ifCond .eq 14, 3) := by decide +kernel
theorem dX8_fills_11 : decode cX8_fills 11 = .ok (.aload_n 0, 1) := by decide +kernel
theorem dX8_fills_12 : decode cX8_fills 12 = .ok (.getfield 12, 3) := by decide +kernel
theorem dX8_fills_15 : decode cX8_fills 15 = .ok (.iload_n 2, 1) := by decide +kernel
theorem dX8_fills_16 : decode cX8_fills 16 = .ok (.invokevirtual 145, 3) := by decide +kernel
theorem dX8_fills_19 : decode cX8_fills 19 = .ok (.ifCond .ne 6, 3) := by decide +kernel
theorem dX8_fills_22 : decode cX8_fills 22 = .ok (.bipush (-100), 2) := by decide +kernel
theorem dX8_fills_24 : decode cX8_fills 24 = .ok (.ireturn, 1) := by decide +kernel
theorem dX8_fills_25 : decode cX8_fills 25 = .ok (.aload_n 0, 1) := by decide +kernel
theorem dX8_fills_26 : decode cX8_fills 26 = .ok (.getfield 12, 3) := by decide +kernel
theorem dX8_fills_29 : decode cX8_fills 29 = .ok (.aload_n 0, 1) := by decide +kernel
theorem dX8_fills_30 : decode cX8_fills 30 = .ok (.getfield 12, 3) := by decide +kernel
theorem dX8_fills_33 : decode cX8_fills 33 = .ok (.getfield 98, 3) := by decide +kernel
theorem dX8_fills_36 : decode cX8_fills 36 = .ok (.iload_n 1, 1) := by decide +kernel
theorem dX8_fills_37 : decode cX8_fills 37 = .ok (.iload_n 2, 1) := by decide +kernel
theorem dX8_fills_38 : decode cX8_fills 38 = .ok (.invokevirtual 183, 3) := by decide +kernel
theorem dX8_fills_41 : decode cX8_fills 41 = .ok (.ireturn, 1) := by decide +kernel
theorem dX8_book_0 : decode cX8_book 0 = .ok (.iload_n 1, 1) := by decide +kernel
theorem dX8_book_1 : decode cX8_book 1 = .ok (.iconst (-1), 1) := by decide +kernel
theorem dX8_book_2 : decode cX8_book 2 = .ok (.if_icmp .ne 14, 3) := by decide +kernel
theorem dX8_book_5 : decode cX8_book 5 = .ok (.aload_n 0, 1) := by decide +kernel
theorem dX8_book_6 : decode cX8_book 6 = .ok (.getfield 12, 3) := by decide +kernel
theorem dX8_book_9 : decode cX8_book 9 = .ok (.getfield 112, 3) := by decide +kernel
theorem dX8_book_12 : decode cX8_book 12 = .ok (.getfield 186, 3) := by decide +kernel
theorem dX8_book_15 : decode cX8_book 15 = .ok (.ireturn, 1) := by decide +kernel
theorem dX8_book_16 : decode cX8_book 16 = .ok (.aload_n 0, 1) := by decide +kernel
theorem dX8_book_17 : decode cX8_book 17 = .ok (.getfield 12, 3) := by decide +kernel
theorem dX8_book_20 : decode cX8_book 20 = .ok (.getfield 112, 3) := by decide +kernel
theorem dX8_book_23 : decode cX8_book 23 = .ok (.iload_n 1, 1) := by decide +kernel
theorem dX8_book_24 : decode cX8_book 24 = .ok (.iload_n 2, 1) := by decide +kernel
theorem dX8_book_25 : decode cX8_book 25 = .ok (.invokevirtual 189, 3) := by decide +kernel
theorem dX8_book_28 : decode cX8_book 28 = .ok (.ireturn, 1) := by decide +kernel
theorem dX8_foretold_0 : decode cX8_foretold 0 = .ok (.iload_n 1, 1) := by decide +kernel
theorem dX8_foretold_1 : decode cX8_foretold 1 = .ok (.iconst 1, 1) := by decide +kernel
theorem dX8_foretold_2 : decode cX8_foretold 2 = .ok (.if_icmp .lt 18, 3) := by decide +kernel
theorem dX8_foretold_5 : decode cX8_foretold 5 = .ok (.iload_n 1, 1) := by decide +kernel
theorem dX8_foretold_6 : decode cX8_foretold 6 = .ok (.bipush 60, 2) := by decide +kernel
theorem dX8_foretold_8 : decode cX8_foretold 8 = .ok (.if_icmp .gt 12, 3) := by decide +kernel
theorem dX8_foretold_11 : decode cX8_foretold 11 = .ok (.iload_n 2, 1) := by decide +kernel
theorem dX8_foretold_12 : decode cX8_foretold 12 = .ok (.ifCond .lt 8, 3) := by decide +kernel
theorem dX8_foretold_15 : decode cX8_foretold 15 = .ok (.iload_n 2, 1) := by decide +kernel
theorem dX8_foretold_16 : decode cX8_foretold 16 = .ok (.iconst 1, 1) := by decide +kernel
theorem dX8_foretold_17 : decode cX8_foretold 17 = .ok (.if_icmp .le 5, 3) := by decide +kernel
theorem dX8_foretold_20 : decode cX8_foretold 20 = .ok (.iconst (-1), 1) := by decide +kernel
theorem dX8_foretold_21 : decode cX8_foretold 21 = .ok (.ireturn, 1) := by decide +kernel
theorem dX8_foretold_22 : decode cX8_foretold 22 = .ok (.aload_n 0, 1) := by decide +kernel
theorem dX8_foretold_23 : decode cX8_foretold 23 = .ok (.getfield 43, 3) := by decide +kernel
theorem dX8_foretold_26 : decode cX8_foretold 26 = .ok (.aload_n 0, 1) := by decide +kernel
theorem dX8_foretold_27 : decode cX8_foretold 27 = .ok (.getfield 12, 3) := by decide +kernel
theorem dX8_foretold_30 : decode cX8_foretold 30 = .ok (.getfield 112, 3) := by decide +kernel
theorem dX8_foretold_33 : decode cX8_foretold 33 = .ok (.invokevirtual 192, 3) := by decide +kernel
theorem dX8_foretold_36 : decode cX8_foretold 36 = .ok (.aload_n 0, 1) := by decide +kernel
theorem dX8_foretold_37 : decode cX8_foretold 37 = .ok (.getfield 12, 3) := by decide +kernel
theorem dX8_foretold_40 : decode cX8_foretold 40 = .ok (.iload_n 1, 1) := by decide +kernel
theorem dX8_foretold_41 : decode cX8_foretold 41 = .ok (.iconst 0, 1) := by decide +kernel
theorem dX8_foretold_42 : decode cX8_foretold 42 = .ok (.invokevirtual 122, 3) := by decide +kernel
theorem dX8_foretold_45 : decode cX8_foretold 45 = .ok (.pop, 1) := by decide +kernel
theorem dX8_foretold_46 : decode cX8_foretold 46 = .ok (.iload_n 2, 1) := by decide +kernel
theorem dX8_foretold_47 : decode cX8_foretold 47 = .ok (.ifCond .ne 16, 3) := by decide +kernel
theorem dX8_foretold_50 : decode cX8_foretold 50 = .ok (.aload_n 0, 1) := by decide +kernel
theorem dX8_foretold_51 : decode cX8_foretold 51 = .ok (.getfield 12, 3) := by decide +kernel
theorem dX8_foretold_54 : decode cX8_foretold 54 = .ok (.getfield 112, 3) := by decide +kernel
theorem dX8_foretold_57 : decode cX8_foretold 57 = .ok (.getfield 170, 3) := by decide +kernel
theorem dX8_foretold_60 : decode cX8_foretold 60 = .ok (.goto 13, 3) := by decide +kernel
theorem dX8_foretold_63 : decode cX8_foretold 63 = .ok (.aload_n 0, 1) := by decide +kernel
theorem dX8_foretold_64 : decode cX8_foretold 64 = .ok (.getfield 12, 3) := by decide +kernel
theorem dX8_foretold_67 : decode cX8_foretold 67 = .ok (.getfield 112, 3) := by decide +kernel
theorem dX8_foretold_70 : decode cX8_foretold 70 = .ok (.invokevirtual 118, 3) := by decide +kernel
theorem dX8_foretold_73 : decode cX8_foretold 73 = .ok (.istore_n 3, 1) := by decide +kernel
theorem dX8_foretold_74 : decode cX8_foretold 74 = .ok (.aload_n 0, 1) := by decide +kernel
theorem dX8_foretold_75 : decode cX8_foretold 75 = .ok (.getfield 12, 3) := by decide +kernel
theorem dX8_foretold_78 : decode cX8_foretold 78 = .ok (.getfield 112, 3) := by decide +kernel
theorem dX8_foretold_81 : decode cX8_foretold 81 = .ok (.aload_n 0, 1) := by decide +kernel
theorem dX8_foretold_82 : decode cX8_foretold 82 = .ok (.getfield 43, 3) := by decide +kernel
theorem dX8_foretold_85 : decode cX8_foretold 85 = .ok (.invokevirtual 192, 3) := by decide +kernel
theorem dX8_foretold_88 : decode cX8_foretold 88 = .ok (.iload_n 3, 1) := by decide +kernel
theorem dX8_foretold_89 : decode cX8_foretold 89 = .ok (.ireturn, 1) := by decide +kernel
theorem dX8_rank_0 : decode cX8_rank 0 = .ok (.aload_n 0, 1) := by decide +kernel
theorem dX8_rank_1 : decode cX8_rank 1 = .ok (.invokevirtual 195, 3) := by decide +kernel
theorem dX8_rank_4 : decode cX8_rank 4 = .ok (.invokevirtual 199, 3) := by decide +kernel
theorem dX8_rank_7 : decode cX8_rank 7 = .ok (.invokestatic 202, 3) := by decide +kernel
theorem dX8_rank_10 : decode cX8_rank 10 = .ok (.ireturn, 1) := by decide +kernel
theorem dX8_bring_0 : decode cX8_bring 0 = .ok (.iload_n 1, 1) := by decide +kernel
theorem dX8_bring_1 : decode cX8_bring 1 = .ok (.invokestatic 207, 3) := by decide +kernel
theorem dX8_bring_4 : decode cX8_bring 4 = .ok (.ifCond .ne 5, 3) := by decide +kernel
theorem dX8_bring_7 : decode cX8_bring 7 = .ok (.iconst (-1), 1) := by decide +kernel
theorem dX8_bring_8 : decode cX8_bring 8 = .ok (.ireturn, 1) := by decide +kernel
theorem dX8_bring_9 : decode cX8_bring 9 = .ok (.aload_n 0, 1) := by decide +kernel
theorem dX8_bring_10 : decode cX8_bring 10 = .ok (.invokevirtual 195, 3) := by decide +kernel
theorem dX8_bring_13 : decode cX8_bring 13 = .ok (.iload_n 1, 1) := by decide +kernel
theorem dX8_bring_14 : decode cX8_bring 14 = .ok (.aload_n 0, 1) := by decide +kernel
theorem dX8_bring_15 : decode cX8_bring 15 = .ok (.getfield 12, 3) := by decide +kernel
theorem dX8_bring_18 : decode cX8_bring 18 = .ok (.getfield 112, 3) := by decide +kernel
theorem dX8_bring_21 : decode cX8_bring 21 = .ok (.getfield 170, 3) := by decide +kernel
theorem dX8_bring_24 : decode cX8_bring 24 = .ok (.ixor, 1) := by decide +kernel
theorem dX8_bring_25 : decode cX8_bring 25 = .ok (.invokevirtual 210, 3) := by decide +kernel
theorem dX8_bring_28 : decode cX8_bring 28 = .ok (.istore_n 3, 1) := by decide +kernel
theorem dX8_bring_29 : decode cX8_bring 29 = .ok (.iload_n 2, 1) := by decide +kernel
theorem dX8_bring_30 : decode cX8_bring 30 = .ok (.ifCond .eq 10, 3) := by decide +kernel
theorem dX8_bring_33 : decode cX8_bring 33 = .ok (.iload_n 3, 1) := by decide +kernel
theorem dX8_bring_34 : decode cX8_bring 34 = .ok (.invokestatic 213, 3) := by decide +kernel
theorem dX8_bring_37 : decode cX8_bring 37 = .ok (.goto 4, 3) := by decide +kernel
theorem dX8_bring_40 : decode cX8_bring 40 = .ok (.iload_n 3, 1) := by decide +kernel
theorem dX8_bring_41 : decode cX8_bring 41 = .ok (.ireturn, 1) := by decide +kernel
theorem dX8_ways_0 : decode cX8_ways 0 = .ok (.iload_n 1, 1) := by decide +kernel
theorem dX8_ways_1 : decode cX8_ways 1 = .ok (.invokestatic 207, 3) := by decide +kernel
theorem dX8_ways_4 : decode cX8_ways 4 = .ok (.ifCond .eq 25, 3) := by decide +kernel
theorem dX8_ways_7 : decode cX8_ways 7 = .ok (.aload_n 0, 1) := by decide +kernel
theorem dX8_ways_8 : decode cX8_ways 8 = .ok (.invokevirtual 195, 3) := by decide +kernel
theorem dX8_ways_11 : decode cX8_ways 11 = .ok (.iload_n 1, 1) := by decide +kernel
theorem dX8_ways_12 : decode cX8_ways 12 = .ok (.aload_n 0, 1) := by decide +kernel
theorem dX8_ways_13 : decode cX8_ways 13 = .ok (.getfield 12, 3) := by decide +kernel
theorem dX8_ways_16 : decode cX8_ways 16 = .ok (.getfield 112, 3) := by decide +kernel
theorem dX8_ways_19 : decode cX8_ways 19 = .ok (.getfield 170, 3) := by decide +kernel
theorem dX8_ways_22 : decode cX8_ways 22 = .ok (.ixor, 1) := by decide +kernel
theorem dX8_ways_23 : decode cX8_ways 23 = .ok (.invokevirtual 216, 3) := by decide +kernel
theorem dX8_ways_26 : decode cX8_ways 26 = .ok (.goto 4, 3) := by decide +kernel
theorem dX8_ways_29 : decode cX8_ways 29 = .ok (.iconst (-1), 1) := by decide +kernel
theorem dX8_ways_30 : decode cX8_ways 30 = .ok (.ireturn, 1) := by decide +kernel
theorem dX8_weight_0 : decode cX8_weight 0 = .ok (.aload_n 0, 1) := by decide +kernel
theorem dX8_weight_1 : decode cX8_weight 1 = .ok (.invokevirtual 195, 3) := by decide +kernel
theorem dX8_weight_4 : decode cX8_weight 4 = .ok (.invokevirtual 219, 3) := by decide +kernel
theorem dX8_weight_7 : decode cX8_weight 7 = .ok (.ireturn, 1) := by decide +kernel
theorem dX8_reach_0 : decode cX8_reach 0 = .ok (.aload_n 0, 1) := by decide +kernel
theorem dX8_reach_1 : decode cX8_reach 1 = .ok (.invokevirtual 195, 3) := by decide +kernel
theorem dX8_reach_4 : decode cX8_reach 4 = .ok (.astore_n 2, 1) := by decide +kernel
theorem dX8_reach_5 : decode cX8_reach 5 = .ok (.iload_n 1, 1) := by decide +kernel
theorem dX8_reach_6 : decode cX8_reach 6 = .ok (.tableswitch 66 0 2 #[26, 36, 51], 26) := by decide +kernel
theorem dX8_reach_32 : decode cX8_reach 32 = .ok (.iconst 1, 1) := by decide +kernel
theorem dX8_reach_33 : decode cX8_reach 33 = .ok (.aload_n 2, 1) := by decide +kernel
theorem dX8_reach_34 : decode cX8_reach 34 = .ok (.invokevirtual 199, 3) := by decide +kernel
theorem dX8_reach_37 : decode cX8_reach 37 = .ok (.invokestatic 202, 3) := by decide +kernel
theorem dX8_reach_40 : decode cX8_reach 40 = .ok (.ishl, 1) := by decide +kernel
theorem dX8_reach_41 : decode cX8_reach 41 = .ok (.ireturn, 1) := by decide +kernel
theorem dX8_reach_42 : decode cX8_reach 42 = .ok (.aload_n 2, 1) := by decide +kernel
theorem dX8_reach_43 : decode cX8_reach 43 = .ok (.aload_n 0, 1) := by decide +kernel
theorem dX8_reach_44 : decode cX8_reach 44 = .ok (.getfield 12, 3) := by decide +kernel
theorem dX8_reach_47 : decode cX8_reach 47 = .ok (.getfield 112, 3) := by decide +kernel
theorem dX8_reach_50 : decode cX8_reach 50 = .ok (.getfield 170, 3) := by decide +kernel
theorem dX8_reach_53 : decode cX8_reach 53 = .ok (.invokevirtual 222, 3) := by decide +kernel
theorem dX8_reach_56 : decode cX8_reach 56 = .ok (.ireturn, 1) := by decide +kernel
theorem dX8_reach_57 : decode cX8_reach 57 = .ok (.aload_n 2, 1) := by decide +kernel
theorem dX8_reach_58 : decode cX8_reach 58 = .ok (.aload_n 0, 1) := by decide +kernel
theorem dX8_reach_59 : decode cX8_reach 59 = .ok (.getfield 12, 3) := by decide +kernel
theorem dX8_reach_62 : decode cX8_reach 62 = .ok (.getfield 112, 3) := by decide +kernel
theorem dX8_reach_65 : decode cX8_reach 65 = .ok (.getfield 170, 3) := by decide +kernel
theorem dX8_reach_68 : decode cX8_reach 68 = .ok (.invokevirtual 225, 3) := by decide +kernel
theorem dX8_reach_71 : decode cX8_reach 71 = .ok (.ireturn, 1) := by decide +kernel
theorem dX8_reach_72 : decode cX8_reach 72 = .ok (.iconst (-1), 1) := by decide +kernel
theorem dX8_reach_73 : decode cX8_reach 73 = .ok (.ireturn, 1) := by decide +kernel
theorem dX8_pattern_0 : decode cX8_pattern 0 = .ok (.aload_n 0, 1) := by decide +kernel
theorem dX8_pattern_1 : decode cX8_pattern 1 = .ok (.invokevirtual 195, 3) := by decide +kernel
theorem dX8_pattern_4 : decode cX8_pattern 4 = .ok (.aload_n 0, 1) := by decide +kernel
theorem dX8_pattern_5 : decode cX8_pattern 5 = .ok (.getfield 12, 3) := by decide +kernel
theorem dX8_pattern_8 : decode cX8_pattern 8 = .ok (.getfield 112, 3) := by decide +kernel
theorem dX8_pattern_11 : decode cX8_pattern 11 = .ok (.getfield 170, 3) := by decide +kernel
theorem dX8_pattern_14 : decode cX8_pattern 14 = .ok (.iload_n 1, 1) := by decide +kernel
theorem dX8_pattern_15 : decode cX8_pattern 15 = .ok (.invokevirtual 228, 3) := by decide +kernel
theorem dX8_pattern_18 : decode cX8_pattern 18 = .ok (.ireturn, 1) := by decide +kernel
theorem dX8_kernel_0 : decode cX8_kernel 0 = .ok (.aload_n 0, 1) := by decide +kernel
theorem dX8_kernel_1 : decode cX8_kernel 1 = .ok (.invokevirtual 195, 3) := by decide +kernel
theorem dX8_kernel_4 : decode cX8_kernel 4 = .ok (.astore_n 2, 1) := by decide +kernel
theorem dX8_kernel_5 : decode cX8_kernel 5 = .ok (.iload_n 1, 1) := by decide +kernel
theorem dX8_kernel_6 : decode cX8_kernel 6 = .ok (.iconst (-1), 1) := by decide +kernel
theorem dX8_kernel_7 : decode cX8_kernel 7 = .ok (.if_icmp .ne 13, 3) := by decide +kernel
theorem dX8_kernel_10 : decode cX8_kernel 10 = .ok (.aload_n 2, 1) := by decide +kernel
theorem dX8_kernel_11 : decode cX8_kernel 11 = .ok (.iconst 0, 1) := by decide +kernel
theorem dX8_kernel_12 : decode cX8_kernel 12 = .ok (.invokevirtual 216, 3) := by decide +kernel
theorem dX8_kernel_15 : decode cX8_kernel 15 = .ok (.iconst 1, 1) := by decide +kernel
theorem dX8_kernel_16 : decode cX8_kernel 16 = .ok (.isub, 1) := by decide +kernel
theorem dX8_kernel_17 : decode cX8_kernel 17 = .ok (.goto 8, 3) := by decide +kernel
theorem dX8_kernel_20 : decode cX8_kernel 20 = .ok (.aload_n 2, 1) := by decide +kernel
theorem dX8_kernel_21 : decode cX8_kernel 21 = .ok (.iload_n 1, 1) := by decide +kernel
theorem dX8_kernel_22 : decode cX8_kernel 22 = .ok (.invokevirtual 231, 3) := by decide +kernel
theorem dX8_kernel_25 : decode cX8_kernel 25 = .ok (.ireturn, 1) := by decide +kernel
theorem dX8_basis_0 : decode cX8_basis 0 = .ok (.aload_n 0, 1) := by decide +kernel
theorem dX8_basis_1 : decode cX8_basis 1 = .ok (.invokevirtual 195, 3) := by decide +kernel
theorem dX8_basis_4 : decode cX8_basis 4 = .ok (.invokevirtual 199, 3) := by decide +kernel
theorem dX8_basis_7 : decode cX8_basis 7 = .ok (.ireturn, 1) := by decide +kernel
theorem dX8_spare_0 : decode cX8_spare 0 = .ok (.aload_n 0, 1) := by decide +kernel
theorem dX8_spare_1 : decode cX8_spare 1 = .ok (.getfield 12, 3) := by decide +kernel
theorem dX8_spare_4 : decode cX8_spare 4 = .ok (.iload_n 1, 1) := by decide +kernel
theorem dX8_spare_5 : decode cX8_spare 5 = .ok (.invokevirtual 164, 3) := by decide +kernel
theorem dX8_spare_8 : decode cX8_spare 8 = .ok (.ifCond .ne 5, 3) := by decide +kernel
theorem dX8_spare_11 : decode cX8_spare 11 = .ok (.iconst (-1), 1) := by decide +kernel
theorem dX8_spare_12 : decode cX8_spare 12 = .ok (.ireturn, 1) := by decide +kernel
theorem dX8_spare_13 : decode cX8_spare 13 = .ok (.aload_n 0, 1) := by decide +kernel
theorem dX8_spare_14 : decode cX8_spare 14 = .ok (.invokevirtual 195, 3) := by decide +kernel
theorem dX8_spare_17 : decode cX8_spare 17 = .ok (.iload_n 1, 1) := by decide +kernel
theorem dX8_spare_18 : decode cX8_spare 18 = .ok (.invokevirtual 234, 3) := by decide +kernel
theorem dX8_spare_21 : decode cX8_spare 21 = .ok (.ifCond .eq 7, 3) := by decide +kernel
theorem dX8_spare_24 : decode cX8_spare 24 = .ok (.iconst 1, 1) := by decide +kernel
theorem dX8_spare_25 : decode cX8_spare 25 = .ok (.goto 4, 3) := by decide +kernel
theorem dX8_spare_28 : decode cX8_spare 28 = .ok (.iconst 0, 1) := by decide +kernel
theorem dX8_spare_29 : decode cX8_spare 29 = .ok (.ireturn, 1) := by decide +kernel
theorem dX8_nearest_0 : decode cX8_nearest 0 = .ok (.iload_n 1, 1) := by decide +kernel
theorem dX8_nearest_1 : decode cX8_nearest 1 = .ok (.invokestatic 207, 3) := by decide +kernel
theorem dX8_nearest_4 : decode cX8_nearest 4 = .ok (.ifCond .eq 24, 3) := by decide +kernel
theorem dX8_nearest_7 : decode cX8_nearest 7 = .ok (.aload_n 0, 1) := by decide +kernel
theorem dX8_nearest_8 : decode cX8_nearest 8 = .ok (.invokevirtual 195, 3) := by decide +kernel
theorem dX8_nearest_11 : decode cX8_nearest 11 = .ok (.aload_n 0, 1) := by decide +kernel
theorem dX8_nearest_12 : decode cX8_nearest 12 = .ok (.getfield 12, 3) := by decide +kernel
theorem dX8_nearest_15 : decode cX8_nearest 15 = .ok (.getfield 112, 3) := by decide +kernel
theorem dX8_nearest_18 : decode cX8_nearest 18 = .ok (.getfield 170, 3) := by decide +kernel
theorem dX8_nearest_21 : decode cX8_nearest 21 = .ok (.iload_n 1, 1) := by decide +kernel
theorem dX8_nearest_22 : decode cX8_nearest 22 = .ok (.invokevirtual 237, 3) := by decide +kernel
theorem dX8_nearest_25 : decode cX8_nearest 25 = .ok (.goto 4, 3) := by decide +kernel
theorem dX8_nearest_28 : decode cX8_nearest 28 = .ok (.iconst (-1), 1) := by decide +kernel
theorem dX8_nearest_29 : decode cX8_nearest 29 = .ok (.ireturn, 1) := by decide +kernel
theorem dX8_street_0 : decode cX8_street 0 = .ok (.iload_n 1, 1) := by decide +kernel
theorem dX8_street_1 : decode cX8_street 1 = .ok (.iconst (-1), 1) := by decide +kernel
theorem dX8_street_2 : decode cX8_street 2 = .ok (.if_icmp .ne 15, 3) := by decide +kernel
theorem dX8_street_5 : decode cX8_street 5 = .ok (.aload_n 0, 1) := by decide +kernel
theorem dX8_street_6 : decode cX8_street 6 = .ok (.getfield 12, 3) := by decide +kernel
theorem dX8_street_9 : decode cX8_street 9 = .ok (.getfield 240, 3) := by decide +kernel
theorem dX8_street_12 : decode cX8_street 12 = .ok (.invokevirtual 243, 3) := by decide +kernel
theorem dX8_street_15 : decode cX8_street 15 = .ok (.iconst 0, 1) := by decide +kernel
theorem dX8_street_16 : decode cX8_street 16 = .ok (.ireturn, 1) := by decide +kernel
theorem dX8_street_17 : decode cX8_street 17 = .ok (.iload_n 1, 1) := by decide +kernel
theorem dX8_street_18 : decode cX8_street 18 = .ok (.invokestatic 207, 3) := by decide +kernel
theorem dX8_street_21 : decode cX8_street 21 = .ok (.ifCond .eq 7, 3) := by decide +kernel
theorem dX8_street_24 : decode cX8_street 24 = .ok (.iload_n 1, 1) := by decide +kernel
theorem dX8_street_25 : decode cX8_street 25 = .ok (.ifCond .ne 6, 3) := by decide +kernel
theorem dX8_street_28 : decode cX8_street 28 = .ok (.bipush (-2), 2) := by decide +kernel
theorem dX8_street_30 : decode cX8_street 30 = .ok (.ireturn, 1) := by decide +kernel
theorem dX8_street_31 : decode cX8_street 31 = .ok (.aload_n 0, 1) := by decide +kernel
theorem dX8_street_32 : decode cX8_street 32 = .ok (.getfield 12, 3) := by decide +kernel
theorem dX8_street_35 : decode cX8_street 35 = .ok (.getfield 240, 3) := by decide +kernel
theorem dX8_street_38 : decode cX8_street 38 = .ok (.iload_n 1, 1) := by decide +kernel
theorem dX8_street_39 : decode cX8_street 39 = .ok (.invokevirtual 246, 3) := by decide +kernel
theorem dX8_street_42 : decode cX8_street 42 = .ok (.ifCond .eq 16, 3) := by decide +kernel
theorem dX8_street_45 : decode cX8_street 45 = .ok (.aload_n 0, 1) := by decide +kernel
theorem dX8_street_46 : decode cX8_street 46 = .ok (.getfield 12, 3) := by decide +kernel
theorem dX8_street_49 : decode cX8_street 49 = .ok (.getfield 240, 3) := by decide +kernel
theorem dX8_street_52 : decode cX8_street 52 = .ok (.getfield 249, 3) := by decide +kernel
theorem dX8_street_55 : decode cX8_street 55 = .ok (.goto 5, 3) := by decide +kernel
theorem dX8_street_58 : decode cX8_street 58 = .ok (.bipush (-2), 2) := by decide +kernel
theorem dX8_street_60 : decode cX8_street 60 = .ok (.ireturn, 1) := by decide +kernel
theorem dX8_lights_0 : decode cX8_lights 0 = .ok (.aload_n 0, 1) := by decide +kernel
theorem dX8_lights_1 : decode cX8_lights 1 = .ok (.invokevirtual 195, 3) := by decide +kernel
theorem dX8_lights_4 : decode cX8_lights 4 = .ok (.aload_n 0, 1) := by decide +kernel
theorem dX8_lights_5 : decode cX8_lights 5 = .ok (.getfield 12, 3) := by decide +kernel
theorem dX8_lights_8 : decode cX8_lights 8 = .ok (.getfield 112, 3) := by decide +kernel
theorem dX8_lights_11 : decode cX8_lights 11 = .ok (.getfield 170, 3) := by decide +kernel
theorem dX8_lights_14 : decode cX8_lights 14 = .ok (.aload_n 0, 1) := by decide +kernel
theorem dX8_lights_15 : decode cX8_lights 15 = .ok (.getfield 12, 3) := by decide +kernel
theorem dX8_lights_18 : decode cX8_lights 18 = .ok (.getfield 240, 3) := by decide +kernel
theorem dX8_lights_21 : decode cX8_lights 21 = .ok (.invokevirtual 250, 3) := by decide +kernel
theorem dX8_lights_24 : decode cX8_lights 24 = .ok (.istore_n 2, 1) := by decide +kernel
theorem dX8_lights_25 : decode cX8_lights 25 = .ok (.iload_n 1, 1) := by decide +kernel
theorem dX8_lights_26 : decode cX8_lights 26 = .ok (.ifCond .eq 10, 3) := by decide +kernel
theorem dX8_lights_29 : decode cX8_lights 29 = .ok (.iload_n 2, 1) := by decide +kernel
theorem dX8_lights_30 : decode cX8_lights 30 = .ok (.invokestatic 213, 3) := by decide +kernel
theorem dX8_lights_33 : decode cX8_lights 33 = .ok (.goto 4, 3) := by decide +kernel
theorem dX8_lights_36 : decode cX8_lights 36 = .ok (.iload_n 2, 1) := by decide +kernel
theorem dX8_lights_37 : decode cX8_lights 37 = .ok (.ireturn, 1) := by decide +kernel
theorem dX8_bill_0 : decode cX8_bill 0 = .ok (.iload_n 1, 1) := by decide +kernel
theorem dX8_bill_1 : decode cX8_bill 1 = .ok (.ifCond .lt 19, 3) := by decide +kernel
theorem dX8_bill_4 : decode cX8_bill 4 = .ok (.iload_n 1, 1) := by decide +kernel
theorem dX8_bill_5 : decode cX8_bill 5 = .ok (.iconst 1, 1) := by decide +kernel
theorem dX8_bill_6 : decode cX8_bill 6 = .ok (.aload_n 0, 1) := by decide +kernel
theorem dX8_bill_7 : decode cX8_bill 7 = .ok (.getfield 12, 3) := by decide +kernel
theorem dX8_bill_10 : decode cX8_bill 10 = .ok (.getfield 167, 3) := by decide +kernel
theorem dX8_bill_13 : decode cX8_bill 13 = .ok (.getfield 249, 3) := by decide +kernel
theorem dX8_bill_16 : decode cX8_bill 16 = .ok (.ishl, 1) := by decide +kernel
theorem dX8_bill_17 : decode cX8_bill 17 = .ok (.if_icmp .lt 6, 3) := by decide +kernel
theorem dX8_bill_20 : decode cX8_bill 20 = .ok (.bipush (-2), 2) := by decide +kernel
theorem dX8_bill_22 : decode cX8_bill 22 = .ok (.ireturn, 1) := by decide +kernel
theorem dX8_bill_23 : decode cX8_bill 23 = .ok (.iload_n 2, 1) := by decide +kernel
theorem dX8_bill_24 : decode cX8_bill 24 = .ok (.iconst (-1), 1) := by decide +kernel
theorem dX8_bill_25 : decode cX8_bill 25 = .ok (.if_icmp .eq 25, 3) := by decide +kernel
theorem dX8_bill_28 : decode cX8_bill 28 = .ok (.aload_n 0, 1) := by decide +kernel
theorem dX8_bill_29 : decode cX8_bill 29 = .ok (.getfield 12, 3) := by decide +kernel
theorem dX8_bill_32 : decode cX8_bill 32 = .ok (.iload_n 2, 1) := by decide +kernel
theorem dX8_bill_33 : decode cX8_bill 33 = .ok (.invokevirtual 164, 3) := by decide +kernel
theorem dX8_bill_36 : decode cX8_bill 36 = .ok (.ifCond .eq 11, 3) := by decide +kernel
theorem dX8_bill_39 : decode cX8_bill 39 = .ok (.iload_n 1, 1) := by decide +kernel
theorem dX8_bill_40 : decode cX8_bill 40 = .ok (.iload_n 2, 1) := by decide +kernel
theorem dX8_bill_41 : decode cX8_bill 41 = .ok (.ishr, 1) := by decide +kernel
theorem dX8_bill_42 : decode cX8_bill 42 = .ok (.iconst 1, 1) := by decide +kernel
theorem dX8_bill_43 : decode cX8_bill 43 = .ok (.iand, 1) := by decide +kernel
theorem dX8_bill_44 : decode cX8_bill 44 = .ok (.ifCond .ne 6, 3) := by decide +kernel
theorem dX8_bill_47 : decode cX8_bill 47 = .ok (.bipush (-2), 2) := by decide +kernel
theorem dX8_bill_49 : decode cX8_bill 49 = .ok (.ireturn, 1) := by decide +kernel
theorem dX8_bill_50 : decode cX8_bill 50 = .ok (.aload_n 0, 1) := by decide +kernel
theorem dX8_bill_51 : decode cX8_bill 51 = .ok (.getfield 36, 3) := by decide +kernel
theorem dX8_bill_54 : decode cX8_bill 54 = .ok (.aload_n 0, 1) := by decide +kernel
theorem dX8_bill_55 : decode cX8_bill 55 = .ok (.getfield 12, 3) := by decide +kernel
theorem dX8_bill_58 : decode cX8_bill 58 = .ok (.iload_n 1, 1) := by decide +kernel
theorem dX8_bill_59 : decode cX8_bill 59 = .ok (.invokevirtual 254, 3) := by decide +kernel
theorem dX8_bill_62 : decode cX8_bill 62 = .ok (.ifCond .ne 6, 3) := by decide +kernel
theorem dX8_bill_65 : decode cX8_bill 65 = .ok (.bipush (-2), 2) := by decide +kernel
theorem dX8_bill_67 : decode cX8_bill 67 = .ok (.ireturn, 1) := by decide +kernel
theorem dX8_bill_68 : decode cX8_bill 68 = .ok (.iload_n 2, 1) := by decide +kernel
theorem dX8_bill_69 : decode cX8_bill 69 = .ok (.iconst (-1), 1) := by decide +kernel
theorem dX8_bill_70 : decode cX8_bill 70 = .ok (.if_icmp .ne 13, 3) := by decide +kernel
theorem dX8_bill_73 : decode cX8_bill 73 = .ok (.aload_n 0, 1) := by decide +kernel
theorem dX8_bill_74 : decode cX8_bill 74 = .ok (.getfield 36, 3) := by decide +kernel
theorem dX8_bill_77 : decode cX8_bill 77 = .ok (.invokevirtual 258, 3) := by decide +kernel
theorem dX8_bill_80 : decode cX8_bill 80 = .ok (.goto 11, 3) := by decide +kernel
theorem dX8_bill_83 : decode cX8_bill 83 = .ok (.aload_n 0, 1) := by decide +kernel
theorem dX8_bill_84 : decode cX8_bill 84 = .ok (.getfield 36, 3) := by decide +kernel
theorem dX8_bill_87 : decode cX8_bill 87 = .ok (.iload_n 2, 1) := by decide +kernel
theorem dX8_bill_88 : decode cX8_bill 88 = .ok (.invokevirtual 260, 3) := by decide +kernel
theorem dX8_bill_91 : decode cX8_bill 91 = .ok (.ireturn, 1) := by decide +kernel
theorem dX8_war_0 : decode cX8_war 0 = .ok (.aload_n 0, 1) := by decide +kernel
theorem dX8_war_1 : decode cX8_war 1 = .ok (.getfield 12, 3) := by decide +kernel
theorem dX8_war_4 : decode cX8_war 4 = .ok (.iload_n 1, 1) := by decide +kernel
theorem dX8_war_5 : decode cX8_war 5 = .ok (.iload_n 2, 1) := by decide +kernel
theorem dX8_war_6 : decode cX8_war 6 = .ok (.invokevirtual 263, 3) := by decide +kernel
theorem dX8_war_9 : decode cX8_war 9 = .ok (.ifCond .eq 12, 3) := by decide +kernel
theorem dX8_war_12 : decode cX8_war 12 = .ok (.iload_n 3, 1) := by decide +kernel
theorem dX8_war_13 : decode cX8_war 13 = .ok (.ifCond .lt 8, 3) := by decide +kernel
theorem dX8_war_16 : decode cX8_war 16 = .ok (.iload_n 3, 1) := by decide +kernel
theorem dX8_war_17 : decode cX8_war 17 = .ok (.iconst 4, 1) := by decide +kernel
theorem dX8_war_18 : decode cX8_war 18 = .ok (.if_icmp .le 7, 3) := by decide +kernel
theorem dX8_war_21 : decode cX8_war 21 = .ok (.ldc2_w 266, 3) := by decide +kernel
theorem dX8_war_24 : decode cX8_war 24 = .ok (.lreturn, 1) := by decide +kernel
theorem dX8_war_25 : decode cX8_war 25 = .ok (.bipush 10, 2) := by decide +kernel
theorem dX8_war_27 : decode cX8_war 27 = .ok (.aload_n 0, 1) := by decide +kernel
theorem dX8_war_28 : decode cX8_war 28 = .ok (.getfield 12, 3) := by decide +kernel
theorem dX8_war_31 : decode cX8_war 31 = .ok (.getfield 152, 3) := by decide +kernel
theorem dX8_war_34 : decode cX8_war 34 = .ok (.iload_n 1, 1) := by decide +kernel
theorem dX8_war_35 : decode cX8_war 35 = .ok (.invokevirtual 156, 3) := by decide +kernel
theorem dX8_war_38 : decode cX8_war 38 = .ok (.isub, 1) := by decide +kernel
theorem dX8_war_39 : decode cX8_war 39 = .ok (.bipush 10, 2) := by decide +kernel
theorem dX8_war_41 : decode cX8_war 41 = .ok (.aload_n 0, 1) := by decide +kernel
theorem dX8_war_42 : decode cX8_war 42 = .ok (.getfield 12, 3) := by decide +kernel
theorem dX8_war_45 : decode cX8_war 45 = .ok (.getfield 152, 3) := by decide +kernel
theorem dX8_war_48 : decode cX8_war 48 = .ok (.iload_n 2, 1) := by decide +kernel
theorem dX8_war_49 : decode cX8_war 49 = .ok (.invokevirtual 156, 3) := by decide +kernel
theorem dX8_war_52 : decode cX8_war 52 = .ok (.isub, 1) := by decide +kernel
theorem dX8_war_53 : decode cX8_war 53 = .ok (.imul, 1) := by decide +kernel
theorem dX8_war_54 : decode cX8_war 54 = .ok (.i2l, 1) := by decide +kernel
theorem dX8_war_55 : decode cX8_war 55 = .ok (.lstore 5, 2) := by decide +kernel
theorem dX8_war_57 : decode cX8_war 57 = .ok (.bipush 10, 2) := by decide +kernel
theorem dX8_war_59 : decode cX8_war 59 = .ok (.aload_n 0, 1) := by decide +kernel
theorem dX8_war_60 : decode cX8_war 60 = .ok (.getfield 12, 3) := by decide +kernel
theorem dX8_war_63 : decode cX8_war 63 = .ok (.getfield 152, 3) := by decide +kernel
theorem dX8_war_66 : decode cX8_war 66 = .ok (.iload_n 1, 1) := by decide +kernel
theorem dX8_war_67 : decode cX8_war 67 = .ok (.invokevirtual 156, 3) := by decide +kernel
theorem dX8_war_70 : decode cX8_war 70 = .ok (.isub, 1) := by decide +kernel
theorem dX8_war_71 : decode cX8_war 71 = .ok (.aload_n 0, 1) := by decide +kernel
theorem dX8_war_72 : decode cX8_war 72 = .ok (.getfield 12, 3) := by decide +kernel
theorem dX8_war_75 : decode cX8_war 75 = .ok (.getfield 152, 3) := by decide +kernel
theorem dX8_war_78 : decode cX8_war 78 = .ok (.iload_n 2, 1) := by decide +kernel
theorem dX8_war_79 : decode cX8_war 79 = .ok (.invokevirtual 156, 3) := by decide +kernel
theorem dX8_war_82 : decode cX8_war 82 = .ok (.imul, 1) := by decide +kernel
theorem dX8_war_83 : decode cX8_war 83 = .ok (.i2l, 1) := by decide +kernel
theorem dX8_war_84 : decode cX8_war 84 = .ok (.lstore 7, 2) := by decide +kernel
theorem dX8_war_86 : decode cX8_war 86 = .ok (.lconst 0, 1) := by decide +kernel
theorem dX8_war_87 : decode cX8_war 87 = .ok (.lstore 9, 2) := by decide +kernel
theorem dX8_war_89 : decode cX8_war 89 = .ok (.lconst 1, 1) := by decide +kernel
theorem dX8_war_90 : decode cX8_war 90 = .ok (.lstore 11, 2) := by decide +kernel
theorem dX8_war_92 : decode cX8_war 92 = .ok (.iconst 0, 1) := by decide +kernel
theorem dX8_war_93 : decode cX8_war 93 = .ok (.istore 13, 2) := by decide +kernel
theorem dX8_war_95 : decode cX8_war 95 = .ok (.iload 13, 2) := by decide +kernel
theorem dX8_war_97 : decode cX8_war 97 = .ok (.iload_n 3, 1) := by decide +kernel
theorem dX8_war_98 : decode cX8_war 98 = .ok (.if_icmp .ge 44, 3) := by decide +kernel
theorem dX8_war_101 : decode cX8_war 101 = .ok (.lload 9, 2) := by decide +kernel
theorem dX8_war_103 : decode cX8_war 103 = .ok (.ldc2_w 268, 3) := by decide +kernel
theorem dX8_war_106 : decode cX8_war 106 = .ok (.lmul, 1) := by decide +kernel
theorem dX8_war_107 : decode cX8_war 107 = .ok (.ldc2_w 268, 3) := by decide +kernel
theorem dX8_war_110 : decode cX8_war 110 = .ok (.lmul, 1) := by decide +kernel
theorem dX8_war_111 : decode cX8_war 111 = .ok (.lload 7, 2) := by decide +kernel
theorem dX8_war_113 : decode cX8_war 113 = .ok (.lload 5, 2) := by decide +kernel
theorem dX8_war_115 : decode cX8_war 115 = .ok (.iload 13, 2) := by decide +kernel
theorem dX8_war_117 : decode cX8_war 117 = .ok (.invokestatic 270, 3) := by decide +kernel
theorem dX8_war_120 : decode cX8_war 120 = .ok (.lmul, 1) := by decide +kernel
theorem dX8_war_121 : decode cX8_war 121 = .ok (.ladd, 1) := by decide +kernel
theorem dX8_war_122 : decode cX8_war 122 = .ok (.lstore 9, 2) := by decide +kernel
theorem dX8_war_124 : decode cX8_war 124 = .ok (.lload 11, 2) := by decide +kernel
theorem dX8_war_126 : decode cX8_war 126 = .ok (.ldc2_w 268, 3) := by decide +kernel
theorem dX8_war_129 : decode cX8_war 129 = .ok (.lmul, 1) := by decide +kernel
theorem dX8_war_130 : decode cX8_war 130 = .ok (.ldc2_w 268, 3) := by decide +kernel
theorem dX8_war_133 : decode cX8_war 133 = .ok (.lmul, 1) := by decide +kernel
theorem dX8_war_134 : decode cX8_war 134 = .ok (.lstore 11, 2) := by decide +kernel
theorem dX8_war_136 : decode cX8_war 136 = .ok (.iinc 13 1, 3) := by decide +kernel
theorem dX8_war_139 : decode cX8_war 139 = .ok (.goto (-44), 3) := by decide +kernel
theorem dX8_war_142 : decode cX8_war 142 = .ok (.lload 9, 2) := by decide +kernel
theorem dX8_war_144 : decode cX8_war 144 = .ok (.lload 11, 2) := by decide +kernel
theorem dX8_war_146 : decode cX8_war 146 = .ok (.iload 4, 2) := by decide +kernel
theorem dX8_war_148 : decode cX8_war 148 = .ok (.invokestatic 274, 3) := by decide +kernel
theorem dX8_war_151 : decode cX8_war 151 = .ok (.lreturn, 1) := by decide +kernel
theorem dX8_rest_0 : decode cX8_rest 0 = .ok (.aload_n 0, 1) := by decide +kernel
theorem dX8_rest_1 : decode cX8_rest 1 = .ok (.getfield 12, 3) := by decide +kernel
theorem dX8_rest_4 : decode cX8_rest 4 = .ok (.iload_n 1, 1) := by decide +kernel
theorem dX8_rest_5 : decode cX8_rest 5 = .ok (.iload_n 2, 1) := by decide +kernel
theorem dX8_rest_6 : decode cX8_rest 6 = .ok (.invokevirtual 263, 3) := by decide +kernel
theorem dX8_rest_9 : decode cX8_rest 9 = .ok (.ifCond .eq 12, 3) := by decide +kernel
theorem dX8_rest_12 : decode cX8_rest 12 = .ok (.iload_n 3, 1) := by decide +kernel
theorem dX8_rest_13 : decode cX8_rest 13 = .ok (.ifCond .lt 8, 3) := by decide +kernel
theorem dX8_rest_16 : decode cX8_rest 16 = .ok (.iload_n 3, 1) := by decide +kernel
theorem dX8_rest_17 : decode cX8_rest 17 = .ok (.iconst 4, 1) := by decide +kernel
theorem dX8_rest_18 : decode cX8_rest 18 = .ok (.if_icmp .le 7, 3) := by decide +kernel
theorem dX8_rest_21 : decode cX8_rest 21 = .ok (.ldc2_w 266, 3) := by decide +kernel
theorem dX8_rest_24 : decode cX8_rest 24 = .ok (.lreturn, 1) := by decide +kernel
theorem dX8_rest_25 : decode cX8_rest 25 = .ok (.bipush 10, 2) := by decide +kernel
theorem dX8_rest_27 : decode cX8_rest 27 = .ok (.aload_n 0, 1) := by decide +kernel
theorem dX8_rest_28 : decode cX8_rest 28 = .ok (.getfield 12, 3) := by decide +kernel
theorem dX8_rest_31 : decode cX8_rest 31 = .ok (.getfield 152, 3) := by decide +kernel
theorem dX8_rest_34 : decode cX8_rest 34 = .ok (.iload_n 1, 1) := by decide +kernel
theorem dX8_rest_35 : decode cX8_rest 35 = .ok (.invokevirtual 156, 3) := by decide +kernel
theorem dX8_rest_38 : decode cX8_rest 38 = .ok (.isub, 1) := by decide +kernel
theorem dX8_rest_39 : decode cX8_rest 39 = .ok (.bipush 10, 2) := by decide +kernel
theorem dX8_rest_41 : decode cX8_rest 41 = .ok (.aload_n 0, 1) := by decide +kernel
theorem dX8_rest_42 : decode cX8_rest 42 = .ok (.getfield 12, 3) := by decide +kernel
theorem dX8_rest_45 : decode cX8_rest 45 = .ok (.getfield 152, 3) := by decide +kernel
theorem dX8_rest_48 : decode cX8_rest 48 = .ok (.iload_n 2, 1) := by decide +kernel
theorem dX8_rest_49 : decode cX8_rest 49 = .ok (.invokevirtual 156, 3) := by decide +kernel
theorem dX8_rest_52 : decode cX8_rest 52 = .ok (.isub, 1) := by decide +kernel
theorem dX8_rest_53 : decode cX8_rest 53 = .ok (.imul, 1) := by decide +kernel
theorem dX8_rest_54 : decode cX8_rest 54 = .ok (.i2l, 1) := by decide +kernel
theorem dX8_rest_55 : decode cX8_rest 55 = .ok (.lstore 5, 2) := by decide +kernel
theorem dX8_rest_57 : decode cX8_rest 57 = .ok (.lload 5, 2) := by decide +kernel
theorem dX8_rest_59 : decode cX8_rest 59 = .ok (.iload_n 3, 1) := by decide +kernel
theorem dX8_rest_60 : decode cX8_rest 60 = .ok (.invokestatic 270, 3) := by decide +kernel
theorem dX8_rest_63 : decode cX8_rest 63 = .ok (.ldc2_w 278, 3) := by decide +kernel
theorem dX8_rest_66 : decode cX8_rest 66 = .ok (.iload_n 3, 1) := by decide +kernel
theorem dX8_rest_67 : decode cX8_rest 67 = .ok (.invokestatic 270, 3) := by decide +kernel
theorem dX8_rest_70 : decode cX8_rest 70 = .ok (.iload 4, 2) := by decide +kernel
theorem dX8_rest_72 : decode cX8_rest 72 = .ok (.invokestatic 274, 3) := by decide +kernel
theorem dX8_rest_75 : decode cX8_rest 75 = .ok (.lreturn, 1) := by decide +kernel
theorem dX8_verdict_0 : decode cX8_verdict 0 = .ok (.iload_n 1, 1) := by decide +kernel
theorem dX8_verdict_1 : decode cX8_verdict 1 = .ok (.iconst (-1), 1) := by decide +kernel
theorem dX8_verdict_2 : decode cX8_verdict 2 = .ok (.if_icmp .ne 15, 3) := by decide +kernel
theorem dX8_verdict_5 : decode cX8_verdict 5 = .ok (.aload_n 0, 1) := by decide +kernel
theorem dX8_verdict_6 : decode cX8_verdict 6 = .ok (.getfield 12, 3) := by decide +kernel
theorem dX8_verdict_9 : decode cX8_verdict 9 = .ok (.getfield 280, 3) := by decide +kernel
theorem dX8_verdict_12 : decode cX8_verdict 12 = .ok (.invokevirtual 243, 3) := by decide +kernel
theorem dX8_verdict_15 : decode cX8_verdict 15 = .ok (.iconst 0, 1) := by decide +kernel
theorem dX8_verdict_16 : decode cX8_verdict 16 = .ok (.ireturn, 1) := by decide +kernel
theorem dX8_verdict_17 : decode cX8_verdict 17 = .ok (.aload_n 0, 1) := by decide +kernel
theorem dX8_verdict_18 : decode cX8_verdict 18 = .ok (.getfield 12, 3) := by decide +kernel
theorem dX8_verdict_21 : decode cX8_verdict 21 = .ok (.iload_n 1, 1) := by decide +kernel
theorem dX8_verdict_22 : decode cX8_verdict 22 = .ok (.invokevirtual 145, 3) := by decide +kernel
theorem dX8_verdict_25 : decode cX8_verdict 25 = .ok (.ifCond .ne 6, 3) := by decide +kernel
theorem dX8_verdict_28 : decode cX8_verdict 28 = .ok (.bipush (-2), 2) := by decide +kernel
theorem dX8_verdict_30 : decode cX8_verdict 30 = .ok (.ireturn, 1) := by decide +kernel
theorem dX8_verdict_31 : decode cX8_verdict 31 = .ok (.aload_n 0, 1) := by decide +kernel
theorem dX8_verdict_32 : decode cX8_verdict 32 = .ok (.getfield 12, 3) := by decide +kernel
theorem dX8_verdict_35 : decode cX8_verdict 35 = .ok (.getfield 280, 3) := by decide +kernel
theorem dX8_verdict_38 : decode cX8_verdict 38 = .ok (.iload_n 1, 1) := by decide +kernel
theorem dX8_verdict_39 : decode cX8_verdict 39 = .ok (.iconst 2, 1) := by decide +kernel
theorem dX8_verdict_40 : decode cX8_verdict 40 = .ok (.imul, 1) := by decide +kernel
theorem dX8_verdict_41 : decode cX8_verdict 41 = .ok (.iload_n 2, 1) := by decide +kernel
theorem dX8_verdict_42 : decode cX8_verdict 42 = .ok (.ifCond .eq 7, 3) := by decide +kernel
theorem dX8_verdict_45 : decode cX8_verdict 45 = .ok (.iconst 1, 1) := by decide +kernel
theorem dX8_verdict_46 : decode cX8_verdict 46 = .ok (.goto 4, 3) := by decide +kernel
theorem dX8_verdict_49 : decode cX8_verdict 49 = .ok (.iconst 0, 1) := by decide +kernel
theorem dX8_verdict_50 : decode cX8_verdict 50 = .ok (.iadd, 1) := by decide +kernel
theorem dX8_verdict_51 : decode cX8_verdict 51 = .ok (.invokevirtual 246, 3) := by decide +kernel
theorem dX8_verdict_54 : decode cX8_verdict 54 = .ok (.ifCond .eq 16, 3) := by decide +kernel
theorem dX8_verdict_57 : decode cX8_verdict 57 = .ok (.aload_n 0, 1) := by decide +kernel
theorem dX8_verdict_58 : decode cX8_verdict 58 = .ok (.getfield 12, 3) := by decide +kernel
theorem dX8_verdict_61 : decode cX8_verdict 61 = .ok (.getfield 280, 3) := by decide +kernel
theorem dX8_verdict_64 : decode cX8_verdict 64 = .ok (.getfield 249, 3) := by decide +kernel
theorem dX8_verdict_67 : decode cX8_verdict 67 = .ok (.goto 5, 3) := by decide +kernel
theorem dX8_verdict_70 : decode cX8_verdict 70 = .ok (.bipush (-2), 2) := by decide +kernel
theorem dX8_verdict_72 : decode cX8_verdict 72 = .ok (.ireturn, 1) := by decide +kernel
theorem dX8_belief_0 : decode cX8_belief 0 = .ok (.lconst 1, 1) := by decide +kernel
theorem dX8_belief_1 : decode cX8_belief 1 = .ok (.lstore_n 2, 1) := by decide +kernel
theorem dX8_belief_2 : decode cX8_belief 2 = .ok (.lconst 1, 1) := by decide +kernel
theorem dX8_belief_3 : decode cX8_belief 3 = .ok (.lstore 4, 2) := by decide +kernel
theorem dX8_belief_5 : decode cX8_belief 5 = .ok (.iconst 0, 1) := by decide +kernel
theorem dX8_belief_6 : decode cX8_belief 6 = .ok (.istore 6, 2) := by decide +kernel
theorem dX8_belief_8 : decode cX8_belief 8 = .ok (.iload 6, 2) := by decide +kernel
theorem dX8_belief_10 : decode cX8_belief 10 = .ok (.aload_n 0, 1) := by decide +kernel
theorem dX8_belief_11 : decode cX8_belief 11 = .ok (.getfield 12, 3) := by decide +kernel
theorem dX8_belief_14 : decode cX8_belief 14 = .ok (.getfield 280, 3) := by decide +kernel
theorem dX8_belief_17 : decode cX8_belief 17 = .ok (.getfield 249, 3) := by decide +kernel
theorem dX8_belief_20 : decode cX8_belief 20 = .ok (.if_icmp .ge 96, 3) := by decide +kernel
theorem dX8_belief_23 : decode cX8_belief 23 = .ok (.aload_n 0, 1) := by decide +kernel
theorem dX8_belief_24 : decode cX8_belief 24 = .ok (.getfield 12, 3) := by decide +kernel
theorem dX8_belief_27 : decode cX8_belief 27 = .ok (.getfield 280, 3) := by decide +kernel
theorem dX8_belief_30 : decode cX8_belief 30 = .ok (.iload 6, 2) := by decide +kernel
theorem dX8_belief_32 : decode cX8_belief 32 = .ok (.invokevirtual 156, 3) := by decide +kernel
theorem dX8_belief_35 : decode cX8_belief 35 = .ok (.istore 7, 2) := by decide +kernel
theorem dX8_belief_37 : decode cX8_belief 37 = .ok (.aload_n 0, 1) := by decide +kernel
theorem dX8_belief_38 : decode cX8_belief 38 = .ok (.getfield 12, 3) := by decide +kernel
theorem dX8_belief_41 : decode cX8_belief 41 = .ok (.getfield 152, 3) := by decide +kernel
theorem dX8_belief_44 : decode cX8_belief 44 = .ok (.iload 7, 2) := by decide +kernel
theorem dX8_belief_46 : decode cX8_belief 46 = .ok (.iconst 2, 1) := by decide +kernel
theorem dX8_belief_47 : decode cX8_belief 47 = .ok (.idiv, 1) := by decide +kernel
theorem dX8_belief_48 : decode cX8_belief 48 = .ok (.invokevirtual 156, 3) := by decide +kernel
theorem dX8_belief_51 : decode cX8_belief 51 = .ok (.istore 8, 2) := by decide +kernel
theorem dX8_belief_53 : decode cX8_belief 53 = .ok (.iload 7, 2) := by decide +kernel
theorem dX8_belief_55 : decode cX8_belief 55 = .ok (.iconst 2, 1) := by decide +kernel
theorem dX8_belief_56 : decode cX8_belief 56 = .ok (.irem, 1) := by decide +kernel
theorem dX8_belief_57 : decode cX8_belief 57 = .ok (.iconst 1, 1) := by decide +kernel
theorem dX8_belief_58 : decode cX8_belief 58 = .ok (.if_icmp .ne 7, 3) := by decide +kernel
theorem dX8_belief_61 : decode cX8_belief 61 = .ok (.iconst 1, 1) := by decide +kernel
theorem dX8_belief_62 : decode cX8_belief 62 = .ok (.goto 4, 3) := by decide +kernel
theorem dX8_belief_65 : decode cX8_belief 65 = .ok (.iconst 0, 1) := by decide +kernel
theorem dX8_belief_66 : decode cX8_belief 66 = .ok (.istore 9, 2) := by decide +kernel
theorem dX8_belief_68 : decode cX8_belief 68 = .ok (.lload_n 2, 1) := by decide +kernel
theorem dX8_belief_69 : decode cX8_belief 69 = .ok (.iload 9, 2) := by decide +kernel
theorem dX8_belief_71 : decode cX8_belief 71 = .ok (.ifCond .eq 12, 3) := by decide +kernel
theorem dX8_belief_74 : decode cX8_belief 74 = .ok (.bipush 10, 2) := by decide +kernel
theorem dX8_belief_76 : decode cX8_belief 76 = .ok (.iload 8, 2) := by decide +kernel
theorem dX8_belief_78 : decode cX8_belief 78 = .ok (.isub, 1) := by decide +kernel
theorem dX8_belief_79 : decode cX8_belief 79 = .ok (.i2l, 1) := by decide +kernel
theorem dX8_belief_80 : decode cX8_belief 80 = .ok (.goto 6, 3) := by decide +kernel
theorem dX8_belief_83 : decode cX8_belief 83 = .ok (.iload 8, 2) := by decide +kernel
theorem dX8_belief_85 : decode cX8_belief 85 = .ok (.i2l, 1) := by decide +kernel
theorem dX8_belief_86 : decode cX8_belief 86 = .ok (.lmul, 1) := by decide +kernel
theorem dX8_belief_87 : decode cX8_belief 87 = .ok (.lstore_n 2, 1) := by decide +kernel
theorem dX8_belief_88 : decode cX8_belief 88 = .ok (.lload 4, 2) := by decide +kernel
theorem dX8_belief_90 : decode cX8_belief 90 = .ok (.iload 9, 2) := by decide +kernel
theorem dX8_belief_92 : decode cX8_belief 92 = .ok (.ifCond .eq 9, 3) := by decide +kernel
theorem dX8_belief_95 : decode cX8_belief 95 = .ok (.iload 8, 2) := by decide +kernel
theorem dX8_belief_97 : decode cX8_belief 97 = .ok (.i2l, 1) := by decide +kernel
theorem dX8_belief_98 : decode cX8_belief 98 = .ok (.goto 9, 3) := by decide +kernel
theorem dX8_belief_101 : decode cX8_belief 101 = .ok (.bipush 10, 2) := by decide +kernel
theorem dX8_belief_103 : decode cX8_belief 103 = .ok (.iload 8, 2) := by decide +kernel
theorem dX8_belief_105 : decode cX8_belief 105 = .ok (.isub, 1) := by decide +kernel
theorem dX8_belief_106 : decode cX8_belief 106 = .ok (.i2l, 1) := by decide +kernel
theorem dX8_belief_107 : decode cX8_belief 107 = .ok (.lmul, 1) := by decide +kernel
theorem dX8_belief_108 : decode cX8_belief 108 = .ok (.lstore 4, 2) := by decide +kernel
theorem dX8_belief_110 : decode cX8_belief 110 = .ok (.iinc 6 1, 3) := by decide +kernel
theorem dX8_belief_113 : decode cX8_belief 113 = .ok (.goto (-105), 3) := by decide +kernel
theorem dX8_belief_116 : decode cX8_belief 116 = .ok (.lload_n 2, 1) := by decide +kernel
theorem dX8_belief_117 : decode cX8_belief 117 = .ok (.lload 4, 2) := by decide +kernel
theorem dX8_belief_119 : decode cX8_belief 119 = .ok (.ladd, 1) := by decide +kernel
theorem dX8_belief_120 : decode cX8_belief 120 = .ok (.lconst 0, 1) := by decide +kernel
theorem dX8_belief_121 : decode cX8_belief 121 = .ok (.lcmp, 1) := by decide +kernel
theorem dX8_belief_122 : decode cX8_belief 122 = .ok (.ifCond .ne 9, 3) := by decide +kernel
theorem dX8_belief_125 : decode cX8_belief 125 = .ok (.ldc2_w 266, 3) := by decide +kernel
theorem dX8_belief_128 : decode cX8_belief 128 = .ok (.goto 12, 3) := by decide +kernel
theorem dX8_belief_131 : decode cX8_belief 131 = .ok (.lload_n 2, 1) := by decide +kernel
theorem dX8_belief_132 : decode cX8_belief 132 = .ok (.lload_n 2, 1) := by decide +kernel
theorem dX8_belief_133 : decode cX8_belief 133 = .ok (.lload 4, 2) := by decide +kernel
theorem dX8_belief_135 : decode cX8_belief 135 = .ok (.ladd, 1) := by decide +kernel
theorem dX8_belief_136 : decode cX8_belief 136 = .ok (.iload_n 1, 1) := by decide +kernel
theorem dX8_belief_137 : decode cX8_belief 137 = .ok (.invokestatic 274, 3) := by decide +kernel
theorem dX8_belief_140 : decode cX8_belief 140 = .ok (.lreturn, 1) := by decide +kernel
theorem dX8_lit_0 : decode cX8_lit 0 = .ok (.iload_n 1, 1) := by decide +kernel
theorem dX8_lit_1 : decode cX8_lit 1 = .ok (.ifCond .lt 16, 3) := by decide +kernel
theorem dX8_lit_4 : decode cX8_lit 4 = .ok (.iload_n 1, 1) := by decide +kernel
theorem dX8_lit_5 : decode cX8_lit 5 = .ok (.bipush 6, 2) := by decide +kernel
theorem dX8_lit_7 : decode cX8_lit 7 = .ok (.if_icmp .gt 10, 3) := by decide +kernel
theorem dX8_lit_10 : decode cX8_lit 10 = .ok (.iload_n 2, 1) := by decide +kernel
theorem dX8_lit_11 : decode cX8_lit 11 = .ok (.invokestatic 283, 3) := by decide +kernel
theorem dX8_lit_14 : decode cX8_lit 14 = .ok (.ifCond .ne 7, 3) := by decide +kernel
theorem dX8_lit_17 : decode cX8_lit 17 = .ok (.ldc2_w 266, 3) := by decide +kernel
theorem dX8_lit_20 : decode cX8_lit 20 = .ok (.lreturn, 1) := by decide +kernel
theorem dX8_lit_21 : decode cX8_lit 21 = .ok (.aload_n 0, 1) := by decide +kernel
theorem dX8_lit_22 : decode cX8_lit 22 = .ok (.iload_n 1, 1) := by decide +kernel
theorem dX8_lit_23 : decode cX8_lit 23 = .ok (.invokevirtual 286, 3) := by decide +kernel
theorem dX8_lit_26 : decode cX8_lit 26 = .ok (.aload_n 0, 1) := by decide +kernel
theorem dX8_lit_27 : decode cX8_lit 27 = .ok (.getfield 12, 3) := by decide +kernel
theorem dX8_lit_30 : decode cX8_lit 30 = .ok (.getfield 112, 3) := by decide +kernel
theorem dX8_lit_33 : decode cX8_lit 33 = .ok (.getfield 170, 3) := by decide +kernel
theorem dX8_lit_36 : decode cX8_lit 36 = .ok (.iconst 1, 1) := by decide +kernel
theorem dX8_lit_37 : decode cX8_lit 37 = .ok (.iload_n 2, 1) := by decide +kernel
theorem dX8_lit_38 : decode cX8_lit 38 = .ok (.ishl, 1) := by decide +kernel
theorem dX8_lit_39 : decode cX8_lit 39 = .ok (.invokevirtual 290, 3) := by decide +kernel
theorem dX8_lit_42 : decode cX8_lit 42 = .ok (.aload_n 0, 1) := by decide +kernel
theorem dX8_lit_43 : decode cX8_lit 43 = .ok (.getfield 29, 3) := by decide +kernel
theorem dX8_lit_46 : decode cX8_lit 46 = .ok (.iload_n 1, 1) := by decide +kernel
theorem dX8_lit_47 : decode cX8_lit 47 = .ok (.invokevirtual 294, 3) := by decide +kernel
theorem dX8_lit_50 : decode cX8_lit 50 = .ok (.iload_n 3, 1) := by decide +kernel
theorem dX8_lit_51 : decode cX8_lit 51 = .ok (.invokestatic 274, 3) := by decide +kernel
theorem dX8_lit_54 : decode cX8_lit 54 = .ok (.lreturn, 1) := by decide +kernel
theorem dX8_dark_0 : decode cX8_dark 0 = .ok (.iload_n 1, 1) := by decide +kernel
theorem dX8_dark_1 : decode cX8_dark 1 = .ok (.ifCond .lt 9, 3) := by decide +kernel
theorem dX8_dark_4 : decode cX8_dark 4 = .ok (.iload_n 1, 1) := by decide +kernel
theorem dX8_dark_5 : decode cX8_dark 5 = .ok (.bipush 6, 2) := by decide +kernel
theorem dX8_dark_7 : decode cX8_dark 7 = .ok (.if_icmp .le 7, 3) := by decide +kernel
theorem dX8_dark_10 : decode cX8_dark 10 = .ok (.ldc2_w 266, 3) := by decide +kernel
theorem dX8_dark_13 : decode cX8_dark 13 = .ok (.lreturn, 1) := by decide +kernel
theorem dX8_dark_14 : decode cX8_dark 14 = .ok (.aload_n 0, 1) := by decide +kernel
theorem dX8_dark_15 : decode cX8_dark 15 = .ok (.iload_n 1, 1) := by decide +kernel
theorem dX8_dark_16 : decode cX8_dark 16 = .ok (.invokevirtual 286, 3) := by decide +kernel
theorem dX8_dark_19 : decode cX8_dark 19 = .ok (.aload_n 0, 1) := by decide +kernel
theorem dX8_dark_20 : decode cX8_dark 20 = .ok (.getfield 12, 3) := by decide +kernel
theorem dX8_dark_23 : decode cX8_dark 23 = .ok (.getfield 112, 3) := by decide +kernel
theorem dX8_dark_26 : decode cX8_dark 26 = .ok (.getfield 170, 3) := by decide +kernel
theorem dX8_dark_29 : decode cX8_dark 29 = .ok (.invokevirtual 298, 3) := by decide +kernel
theorem dX8_dark_32 : decode cX8_dark 32 = .ok (.aload_n 0, 1) := by decide +kernel
theorem dX8_dark_33 : decode cX8_dark 33 = .ok (.getfield 29, 3) := by decide +kernel
theorem dX8_dark_36 : decode cX8_dark 36 = .ok (.iload_n 1, 1) := by decide +kernel
theorem dX8_dark_37 : decode cX8_dark 37 = .ok (.invokevirtual 294, 3) := by decide +kernel
theorem dX8_dark_40 : decode cX8_dark 40 = .ok (.iload_n 2, 1) := by decide +kernel
theorem dX8_dark_41 : decode cX8_dark 41 = .ok (.invokestatic 274, 3) := by decide +kernel
theorem dX8_dark_44 : decode cX8_dark 44 = .ok (.lreturn, 1) := by decide +kernel
theorem dX8_mean_0 : decode cX8_mean 0 = .ok (.iload_n 1, 1) := by decide +kernel
theorem dX8_mean_1 : decode cX8_mean 1 = .ok (.ifCond .lt 9, 3) := by decide +kernel
theorem dX8_mean_4 : decode cX8_mean 4 = .ok (.iload_n 1, 1) := by decide +kernel
theorem dX8_mean_5 : decode cX8_mean 5 = .ok (.bipush 6, 2) := by decide +kernel
theorem dX8_mean_7 : decode cX8_mean 7 = .ok (.if_icmp .le 7, 3) := by decide +kernel
theorem dX8_mean_10 : decode cX8_mean 10 = .ok (.ldc2_w 266, 3) := by decide +kernel
theorem dX8_mean_13 : decode cX8_mean 13 = .ok (.lreturn, 1) := by decide +kernel
theorem dX8_mean_14 : decode cX8_mean 14 = .ok (.aload_n 0, 1) := by decide +kernel
theorem dX8_mean_15 : decode cX8_mean 15 = .ok (.iload_n 1, 1) := by decide +kernel
theorem dX8_mean_16 : decode cX8_mean 16 = .ok (.invokevirtual 286, 3) := by decide +kernel
theorem dX8_mean_19 : decode cX8_mean 19 = .ok (.aload_n 0, 1) := by decide +kernel
theorem dX8_mean_20 : decode cX8_mean 20 = .ok (.getfield 12, 3) := by decide +kernel
theorem dX8_mean_23 : decode cX8_mean 23 = .ok (.getfield 112, 3) := by decide +kernel
theorem dX8_mean_26 : decode cX8_mean 26 = .ok (.getfield 170, 3) := by decide +kernel
theorem dX8_mean_29 : decode cX8_mean 29 = .ok (.sipush 1023, 3) := by decide +kernel
theorem dX8_mean_32 : decode cX8_mean 32 = .ok (.invokevirtual 290, 3) := by decide +kernel
theorem dX8_mean_35 : decode cX8_mean 35 = .ok (.aload_n 0, 1) := by decide +kernel
theorem dX8_mean_36 : decode cX8_mean 36 = .ok (.getfield 29, 3) := by decide +kernel
theorem dX8_mean_39 : decode cX8_mean 39 = .ok (.iload_n 1, 1) := by decide +kernel
theorem dX8_mean_40 : decode cX8_mean 40 = .ok (.invokevirtual 294, 3) := by decide +kernel
theorem dX8_mean_43 : decode cX8_mean 43 = .ok (.iload_n 2, 1) := by decide +kernel
theorem dX8_mean_44 : decode cX8_mean 44 = .ok (.invokestatic 274, 3) := by decide +kernel
theorem dX8_mean_47 : decode cX8_mean 47 = .ok (.lreturn, 1) := by decide +kernel
theorem dX8_game_0 : decode cX8_game 0 = .ok (.aload_n 0, 1) := by decide +kernel
theorem dX8_game_1 : decode cX8_game 1 = .ok (.invokevirtual 195, 3) := by decide +kernel
theorem dX8_game_4 : decode cX8_game 4 = .ok (.astore_n 2, 1) := by decide +kernel
theorem dX8_game_5 : decode cX8_game 5 = .ok (.aload_n 2, 1) := by decide +kernel
theorem dX8_game_6 : decode cX8_game 6 = .ok (.aload_n 0, 1) := by decide +kernel
theorem dX8_game_7 : decode cX8_game 7 = .ok (.getfield 12, 3) := by decide +kernel
theorem dX8_game_10 : decode cX8_game 10 = .ok (.getfield 112, 3) := by decide +kernel
theorem dX8_game_13 : decode cX8_game 13 = .ok (.getfield 170, 3) := by decide +kernel
theorem dX8_game_16 : decode cX8_game 16 = .ok (.invokevirtual 301, 3) := by decide +kernel
theorem dX8_game_19 : decode cX8_game 19 = .ok (.iload_n 1, 1) := by decide +kernel
theorem dX8_game_20 : decode cX8_game 20 = .ok (.ifCond .eq 10, 3) := by decide +kernel
theorem dX8_game_23 : decode cX8_game 23 = .ok (.aload_n 2, 1) := by decide +kernel
theorem dX8_game_24 : decode cX8_game 24 = .ok (.invokevirtual 304, 3) := by decide +kernel
theorem dX8_game_27 : decode cX8_game 27 = .ok (.goto 7, 3) := by decide +kernel
theorem dX8_game_30 : decode cX8_game 30 = .ok (.aload_n 2, 1) := by decide +kernel
theorem dX8_game_31 : decode cX8_game 31 = .ok (.invokevirtual 307, 3) := by decide +kernel
theorem dX8_game_34 : decode cX8_game 34 = .ok (.ireturn, 1) := by decide +kernel
theorem dX8_whodid_0 : decode cX8_whodid 0 = .ok (.iload_n 1, 1) := by decide +kernel
theorem dX8_whodid_1 : decode cX8_whodid 1 = .ok (.ifCond .lt 9, 3) := by decide +kernel
theorem dX8_whodid_4 : decode cX8_whodid 4 = .ok (.iload_n 1, 1) := by decide +kernel
theorem dX8_whodid_5 : decode cX8_whodid 5 = .ok (.bipush 8, 2) := by decide +kernel
theorem dX8_whodid_7 : decode cX8_whodid 7 = .ok (.if_icmp .le 5, 3) := by decide +kernel
theorem dX8_whodid_10 : decode cX8_whodid 10 = .ok (.iconst (-1), 1) := by decide +kernel
theorem dX8_whodid_11 : decode cX8_whodid 11 = .ok (.ireturn, 1) := by decide +kernel
theorem dX8_whodid_12 : decode cX8_whodid 12 = .ok (.aload_n 0, 1) := by decide +kernel
theorem dX8_whodid_13 : decode cX8_whodid 13 = .ok (.getfield 12, 3) := by decide +kernel
theorem dX8_whodid_16 : decode cX8_whodid 16 = .ok (.getfield 112, 3) := by decide +kernel
theorem dX8_whodid_19 : decode cX8_whodid 19 = .ok (.getfield 170, 3) := by decide +kernel
theorem dX8_whodid_22 : decode cX8_whodid 22 = .ok (.aload_n 0, 1) := by decide +kernel
theorem dX8_whodid_23 : decode cX8_whodid 23 = .ok (.getfield 16, 3) := by decide +kernel
theorem dX8_whodid_26 : decode cX8_whodid 26 = .ok (.getfield 112, 3) := by decide +kernel
theorem dX8_whodid_29 : decode cX8_whodid 29 = .ok (.getfield 170, 3) := by decide +kernel
theorem dX8_whodid_32 : decode cX8_whodid 32 = .ok (.ixor, 1) := by decide +kernel
theorem dX8_whodid_33 : decode cX8_whodid 33 = .ok (.istore_n 3, 1) := by decide +kernel
theorem dX8_whodid_34 : decode cX8_whodid 34 = .ok (.iload_n 2, 1) := by decide +kernel
theorem dX8_whodid_35 : decode cX8_whodid 35 = .ok (.ifCond .eq 15, 3) := by decide +kernel
theorem dX8_whodid_38 : decode cX8_whodid 38 = .ok (.aload_n 0, 1) := by decide +kernel
theorem dX8_whodid_39 : decode cX8_whodid 39 = .ok (.invokevirtual 195, 3) := by decide +kernel
theorem dX8_whodid_42 : decode cX8_whodid 42 = .ok (.iload_n 1, 1) := by decide +kernel
theorem dX8_whodid_43 : decode cX8_whodid 43 = .ok (.iload_n 3, 1) := by decide +kernel
theorem dX8_whodid_44 : decode cX8_whodid 44 = .ok (.invokevirtual 310, 3) := by decide +kernel
theorem dX8_whodid_47 : decode cX8_whodid 47 = .ok (.goto 12, 3) := by decide +kernel
theorem dX8_whodid_50 : decode cX8_whodid 50 = .ok (.aload_n 0, 1) := by decide +kernel
theorem dX8_whodid_51 : decode cX8_whodid 51 = .ok (.invokevirtual 195, 3) := by decide +kernel
theorem dX8_whodid_54 : decode cX8_whodid 54 = .ok (.iload_n 1, 1) := by decide +kernel
theorem dX8_whodid_55 : decode cX8_whodid 55 = .ok (.iload_n 3, 1) := by decide +kernel
theorem dX8_whodid_56 : decode cX8_whodid 56 = .ok (.invokevirtual 313, 3) := by decide +kernel
theorem dX8_whodid_59 : decode cX8_whodid 59 = .ok (.ireturn, 1) := by decide +kernel
theorem dX8_stretches_0 : decode cX8_stretches 0 = .ok (.aload_n 0, 1) := by decide +kernel
theorem dX8_stretches_1 : decode cX8_stretches 1 = .ok (.getfield 12, 3) := by decide +kernel
theorem dX8_stretches_4 : decode cX8_stretches 4 = .ok (.getfield 112, 3) := by decide +kernel
theorem dX8_stretches_7 : decode cX8_stretches 7 = .ok (.getfield 170, 3) := by decide +kernel
theorem dX8_stretches_10 : decode cX8_stretches 10 = .ok (.istore_n 1, 1) := by decide +kernel
theorem dX8_stretches_11 : decode cX8_stretches 11 = .ok (.iload_n 1, 1) := by decide +kernel
theorem dX8_stretches_12 : decode cX8_stretches 12 = .ok (.sipush 1023, 3) := by decide +kernel
theorem dX8_stretches_15 : decode cX8_stretches 15 = .ok (.if_icmp .ne 5, 3) := by decide +kernel
theorem dX8_stretches_18 : decode cX8_stretches 18 = .ok (.iconst 1, 1) := by decide +kernel
theorem dX8_stretches_19 : decode cX8_stretches 19 = .ok (.ireturn, 1) := by decide +kernel
theorem dX8_stretches_20 : decode cX8_stretches 20 = .ok (.iload_n 1, 1) := by decide +kernel
theorem dX8_stretches_21 : decode cX8_stretches 21 = .ok (.iconst 1, 1) := by decide +kernel
theorem dX8_stretches_22 : decode cX8_stretches 22 = .ok (.ishl, 1) := by decide +kernel
theorem dX8_stretches_23 : decode cX8_stretches 23 = .ok (.iload_n 1, 1) := by decide +kernel
theorem dX8_stretches_24 : decode cX8_stretches 24 = .ok (.bipush 9, 2) := by decide +kernel
theorem dX8_stretches_26 : decode cX8_stretches 26 = .ok (.ishr, 1) := by decide +kernel
theorem dX8_stretches_27 : decode cX8_stretches 27 = .ok (.ior, 1) := by decide +kernel
theorem dX8_stretches_28 : decode cX8_stretches 28 = .ok (.istore_n 2, 1) := by decide +kernel
theorem dX8_stretches_29 : decode cX8_stretches 29 = .ok (.iload_n 1, 1) := by decide +kernel
theorem dX8_stretches_30 : decode cX8_stretches 30 = .ok (.iload_n 2, 1) := by decide +kernel
theorem dX8_stretches_31 : decode cX8_stretches 31 = .ok (.iconst (-1), 1) := by decide +kernel
theorem dX8_stretches_32 : decode cX8_stretches 32 = .ok (.ixor, 1) := by decide +kernel
theorem dX8_stretches_33 : decode cX8_stretches 33 = .ok (.iand, 1) := by decide +kernel
theorem dX8_stretches_34 : decode cX8_stretches 34 = .ok (.invokestatic 202, 3) := by decide +kernel
theorem dX8_stretches_37 : decode cX8_stretches 37 = .ok (.ireturn, 1) := by decide +kernel
theorem dX8_stretch_0 : decode cX8_stretch 0 = .ok (.iload_n 1, 1) := by decide +kernel
theorem dX8_stretch_1 : decode cX8_stretch 1 = .ok (.ifCond .eq 16, 3) := by decide +kernel
theorem dX8_stretch_4 : decode cX8_stretch 4 = .ok (.aload_n 0, 1) := by decide +kernel
theorem dX8_stretch_5 : decode cX8_stretch 5 = .ok (.getfield 12, 3) := by decide +kernel
theorem dX8_stretch_8 : decode cX8_stretch 8 = .ok (.getfield 112, 3) := by decide +kernel
theorem dX8_stretch_11 : decode cX8_stretch 11 = .ok (.getfield 170, 3) := by decide +kernel
theorem dX8_stretch_14 : decode cX8_stretch 14 = .ok (.goto 19, 3) := by decide +kernel
theorem dX8_stretch_17 : decode cX8_stretch 17 = .ok (.sipush 1023, 3) := by decide +kernel
theorem dX8_stretch_20 : decode cX8_stretch 20 = .ok (.aload_n 0, 1) := by decide +kernel
theorem dX8_stretch_21 : decode cX8_stretch 21 = .ok (.getfield 12, 3) := by decide +kernel
theorem dX8_stretch_24 : decode cX8_stretch 24 = .ok (.getfield 112, 3) := by decide +kernel
theorem dX8_stretch_27 : decode cX8_stretch 27 = .ok (.getfield 170, 3) := by decide +kernel
theorem dX8_stretch_30 : decode cX8_stretch 30 = .ok (.iconst (-1), 1) := by decide +kernel
theorem dX8_stretch_31 : decode cX8_stretch 31 = .ok (.ixor, 1) := by decide +kernel
theorem dX8_stretch_32 : decode cX8_stretch 32 = .ok (.iand, 1) := by decide +kernel
theorem dX8_stretch_33 : decode cX8_stretch 33 = .ok (.istore_n 2, 1) := by decide +kernel
theorem dX8_stretch_34 : decode cX8_stretch 34 = .ok (.iconst 0, 1) := by decide +kernel
theorem dX8_stretch_35 : decode cX8_stretch 35 = .ok (.istore_n 3, 1) := by decide +kernel
theorem dX8_stretch_36 : decode cX8_stretch 36 = .ok (.iconst 0, 1) := by decide +kernel
theorem dX8_stretch_37 : decode cX8_stretch 37 = .ok (.istore 4, 2) := by decide +kernel
theorem dX8_stretch_39 : decode cX8_stretch 39 = .ok (.iconst 0, 1) := by decide +kernel
theorem dX8_stretch_40 : decode cX8_stretch 40 = .ok (.istore 5, 2) := by decide +kernel
theorem dX8_stretch_42 : decode cX8_stretch 42 = .ok (.iload 5, 2) := by decide +kernel
theorem dX8_stretch_44 : decode cX8_stretch 44 = .ok (.bipush 20, 2) := by decide +kernel
theorem dX8_stretch_46 : decode cX8_stretch 46 = .ok (.if_icmp .ge 39, 3) := by decide +kernel
theorem dX8_stretch_49 : decode cX8_stretch 49 = .ok (.iload_n 2, 1) := by decide +kernel
theorem dX8_stretch_50 : decode cX8_stretch 50 = .ok (.iload 5, 2) := by decide +kernel
theorem dX8_stretch_52 : decode cX8_stretch 52 = .ok (.bipush 10, 2) := by decide +kernel
theorem dX8_stretch_54 : decode cX8_stretch 54 = .ok (.irem, 1) := by decide +kernel
theorem dX8_stretch_55 : decode cX8_stretch 55 = .ok (.ishr, 1) := by decide +kernel
theorem dX8_stretch_56 : decode cX8_stretch 56 = .ok (.iconst 1, 1) := by decide +kernel
theorem dX8_stretch_57 : decode cX8_stretch 57 = .ok (.iand, 1) := by decide +kernel
theorem dX8_stretch_58 : decode cX8_stretch 58 = .ok (.iconst 1, 1) := by decide +kernel
theorem dX8_stretch_59 : decode cX8_stretch 59 = .ok (.if_icmp .ne 10, 3) := by decide +kernel
theorem dX8_stretch_62 : decode cX8_stretch 62 = .ok (.iload 4, 2) := by decide +kernel
theorem dX8_stretch_64 : decode cX8_stretch 64 = .ok (.iconst 1, 1) := by decide +kernel
theorem dX8_stretch_65 : decode cX8_stretch 65 = .ok (.iadd, 1) := by decide +kernel
theorem dX8_stretch_66 : decode cX8_stretch 66 = .ok (.goto 4, 3) := by decide +kernel
theorem dX8_stretch_69 : decode cX8_stretch 69 = .ok (.iconst 0, 1) := by decide +kernel
theorem dX8_stretch_70 : decode cX8_stretch 70 = .ok (.istore 4, 2) := by decide +kernel
theorem dX8_stretch_72 : decode cX8_stretch 72 = .ok (.iload_n 3, 1) := by decide +kernel
theorem dX8_stretch_73 : decode cX8_stretch 73 = .ok (.iload 4, 2) := by decide +kernel
theorem dX8_stretch_75 : decode cX8_stretch 75 = .ok (.invokestatic 316, 3) := by decide +kernel
theorem dX8_stretch_78 : decode cX8_stretch 78 = .ok (.istore_n 3, 1) := by decide +kernel
theorem dX8_stretch_79 : decode cX8_stretch 79 = .ok (.iinc 5 1, 3) := by decide +kernel
theorem dX8_stretch_82 : decode cX8_stretch 82 = .ok (.goto (-40), 3) := by decide +kernel
theorem dX8_stretch_85 : decode cX8_stretch 85 = .ok (.iload_n 3, 1) := by decide +kernel
theorem dX8_stretch_86 : decode cX8_stretch 86 = .ok (.bipush 10, 2) := by decide +kernel
theorem dX8_stretch_88 : decode cX8_stretch 88 = .ok (.invokestatic 321, 3) := by decide +kernel
theorem dX8_stretch_91 : decode cX8_stretch 91 = .ok (.ireturn, 1) := by decide +kernel
theorem dX8_said_0 : decode cX8_said 0 = .ok (.iload_n 1, 1) := by decide +kernel
theorem dX8_said_1 : decode cX8_said 1 = .ok (.iconst (-1), 1) := by decide +kernel
theorem dX8_said_2 : decode cX8_said 2 = .ok (.if_icmp .ne 15, 3) := by decide +kernel
theorem dX8_said_5 : decode cX8_said 5 = .ok (.aload_n 0, 1) := by decide +kernel
theorem dX8_said_6 : decode cX8_said 6 = .ok (.getfield 12, 3) := by decide +kernel
theorem dX8_said_9 : decode cX8_said 9 = .ok (.getfield 324, 3) := by decide +kernel
theorem dX8_said_12 : decode cX8_said 12 = .ok (.invokevirtual 243, 3) := by decide +kernel
theorem dX8_said_15 : decode cX8_said 15 = .ok (.iconst 0, 1) := by decide +kernel
theorem dX8_said_16 : decode cX8_said 16 = .ok (.ireturn, 1) := by decide +kernel
theorem dX8_said_17 : decode cX8_said 17 = .ok (.aload_n 0, 1) := by decide +kernel
theorem dX8_said_18 : decode cX8_said 18 = .ok (.getfield 12, 3) := by decide +kernel
theorem dX8_said_21 : decode cX8_said 21 = .ok (.iload_n 1, 1) := by decide +kernel
theorem dX8_said_22 : decode cX8_said 22 = .ok (.invokevirtual 164, 3) := by decide +kernel
theorem dX8_said_25 : decode cX8_said 25 = .ok (.ifCond .eq 24, 3) := by decide +kernel
theorem dX8_said_28 : decode cX8_said 28 = .ok (.aload_n 0, 1) := by decide +kernel
theorem dX8_said_29 : decode cX8_said 29 = .ok (.getfield 12, 3) := by decide +kernel
theorem dX8_said_32 : decode cX8_said 32 = .ok (.iload_n 2, 1) := by decide +kernel
theorem dX8_said_33 : decode cX8_said 33 = .ok (.invokevirtual 145, 3) := by decide +kernel
theorem dX8_said_36 : decode cX8_said 36 = .ok (.ifCond .eq 13, 3) := by decide +kernel
theorem dX8_said_39 : decode cX8_said 39 = .ok (.iload_n 3, 1) := by decide +kernel
theorem dX8_said_40 : decode cX8_said 40 = .ok (.ifCond .lt 9, 3) := by decide +kernel
theorem dX8_said_43 : decode cX8_said 43 = .ok (.iload_n 3, 1) := by decide +kernel
theorem dX8_said_44 : decode cX8_said 44 = .ok (.bipush 9, 2) := by decide +kernel
theorem dX8_said_46 : decode cX8_said 46 = .ok (.if_icmp .le 6, 3) := by decide +kernel
theorem dX8_said_49 : decode cX8_said 49 = .ok (.bipush (-2), 2) := by decide +kernel
theorem dX8_said_51 : decode cX8_said 51 = .ok (.ireturn, 1) := by decide +kernel
theorem dX8_said_52 : decode cX8_said 52 = .ok (.iload_n 1, 1) := by decide +kernel
theorem dX8_said_53 : decode cX8_said 53 = .ok (.iconst 4, 1) := by decide +kernel
theorem dX8_said_54 : decode cX8_said 54 = .ok (.imul, 1) := by decide +kernel
theorem dX8_said_55 : decode cX8_said 55 = .ok (.iload_n 2, 1) := by decide +kernel
theorem dX8_said_56 : decode cX8_said 56 = .ok (.iadd, 1) := by decide +kernel
theorem dX8_said_57 : decode cX8_said 57 = .ok (.bipush 10, 2) := by decide +kernel
theorem dX8_said_59 : decode cX8_said 59 = .ok (.imul, 1) := by decide +kernel
theorem dX8_said_60 : decode cX8_said 60 = .ok (.iload_n 3, 1) := by decide +kernel
theorem dX8_said_61 : decode cX8_said 61 = .ok (.iadd, 1) := by decide +kernel
theorem dX8_said_62 : decode cX8_said 62 = .ok (.istore 4, 2) := by decide +kernel
theorem dX8_said_64 : decode cX8_said 64 = .ok (.aload_n 0, 1) := by decide +kernel
theorem dX8_said_65 : decode cX8_said 65 = .ok (.getfield 12, 3) := by decide +kernel
theorem dX8_said_68 : decode cX8_said 68 = .ok (.getfield 324, 3) := by decide +kernel
theorem dX8_said_71 : decode cX8_said 71 = .ok (.iload 4, 2) := by decide +kernel
theorem dX8_said_73 : decode cX8_said 73 = .ok (.invokevirtual 246, 3) := by decide +kernel
theorem dX8_said_76 : decode cX8_said 76 = .ok (.ifCond .eq 16, 3) := by decide +kernel
theorem dX8_said_79 : decode cX8_said 79 = .ok (.aload_n 0, 1) := by decide +kernel
theorem dX8_said_80 : decode cX8_said 80 = .ok (.getfield 12, 3) := by decide +kernel
theorem dX8_said_83 : decode cX8_said 83 = .ok (.getfield 324, 3) := by decide +kernel
theorem dX8_said_86 : decode cX8_said 86 = .ok (.getfield 249, 3) := by decide +kernel
theorem dX8_said_89 : decode cX8_said 89 = .ok (.goto 5, 3) := by decide +kernel
theorem dX8_said_92 : decode cX8_said 92 = .ok (.bipush (-2), 2) := by decide +kernel
theorem dX8_said_94 : decode cX8_said 94 = .ok (.ireturn, 1) := by decide +kernel
theorem dX8_whose_0 : decode cX8_whose 0 = .ok (.iconst 0, 1) := by decide +kernel
theorem dX8_whose_1 : decode cX8_whose 1 = .ok (.istore_n 1, 1) := by decide +kernel
theorem dX8_whose_2 : decode cX8_whose 2 = .ok (.iconst 0, 1) := by decide +kernel
theorem dX8_whose_3 : decode cX8_whose 3 = .ok (.istore_n 2, 1) := by decide +kernel
theorem dX8_whose_4 : decode cX8_whose 4 = .ok (.iload_n 2, 1) := by decide +kernel
theorem dX8_whose_5 : decode cX8_whose 5 = .ok (.aload_n 0, 1) := by decide +kernel
theorem dX8_whose_6 : decode cX8_whose 6 = .ok (.getfield 12, 3) := by decide +kernel
theorem dX8_whose_9 : decode cX8_whose 9 = .ok (.getfield 63, 3) := by decide +kernel
theorem dX8_whose_12 : decode cX8_whose 12 = .ok (.if_icmp .ge 26, 3) := by decide +kernel
theorem dX8_whose_15 : decode cX8_whose 15 = .ok (.aload_n 0, 1) := by decide +kernel
theorem dX8_whose_16 : decode cX8_whose 16 = .ok (.getfield 12, 3) := by decide +kernel
theorem dX8_whose_19 : decode cX8_whose 19 = .ok (.iload_n 2, 1) := by decide +kernel
theorem dX8_whose_20 : decode cX8_whose 20 = .ok (.invokevirtual 327, 3) := by decide +kernel
theorem dX8_whose_23 : decode cX8_whose 23 = .ok (.ifCond .eq 9, 3) := by decide +kernel
theorem dX8_whose_26 : decode cX8_whose 26 = .ok (.iload_n 1, 1) := by decide +kernel
theorem dX8_whose_27 : decode cX8_whose 27 = .ok (.iconst 1, 1) := by decide +kernel
theorem dX8_whose_28 : decode cX8_whose 28 = .ok (.iload_n 2, 1) := by decide +kernel
theorem dX8_whose_29 : decode cX8_whose 29 = .ok (.ishl, 1) := by decide +kernel
theorem dX8_whose_30 : decode cX8_whose 30 = .ok (.ior, 1) := by decide +kernel
theorem dX8_whose_31 : decode cX8_whose 31 = .ok (.istore_n 1, 1) := by decide +kernel
theorem dX8_whose_32 : decode cX8_whose 32 = .ok (.iinc 2 1, 3) := by decide +kernel
theorem dX8_whose_35 : decode cX8_whose 35 = .ok (.goto (-31), 3) := by decide +kernel
theorem dX8_whose_38 : decode cX8_whose 38 = .ok (.iload_n 1, 1) := by decide +kernel
theorem dX8_whose_39 : decode cX8_whose 39 = .ok (.ireturn, 1) := by decide +kernel
theorem dX8_blaze_0 : decode cX8_blaze 0 = .ok (.iconst (-1), 1) := by decide +kernel
theorem dX8_blaze_1 : decode cX8_blaze 1 = .ok (.istore_n 2, 1) := by decide +kernel
theorem dX8_blaze_2 : decode cX8_blaze 2 = .ok (.iconst 0, 1) := by decide +kernel
theorem dX8_blaze_3 : decode cX8_blaze 3 = .ok (.istore_n 3, 1) := by decide +kernel
theorem dX8_blaze_4 : decode cX8_blaze 4 = .ok (.iconst 0, 1) := by decide +kernel
theorem dX8_blaze_5 : decode cX8_blaze 5 = .ok (.istore 4, 2) := by decide +kernel
theorem dX8_blaze_7 : decode cX8_blaze 7 = .ok (.iload 4, 2) := by decide +kernel
theorem dX8_blaze_9 : decode cX8_blaze 9 = .ok (.aload_n 0, 1) := by decide +kernel
theorem dX8_blaze_10 : decode cX8_blaze 10 = .ok (.getfield 12, 3) := by decide +kernel
theorem dX8_blaze_13 : decode cX8_blaze 13 = .ok (.getfield 167, 3) := by decide +kernel
theorem dX8_blaze_16 : decode cX8_blaze 16 = .ok (.getfield 249, 3) := by decide +kernel
theorem dX8_blaze_19 : decode cX8_blaze 19 = .ok (.if_icmp .ge 67, 3) := by decide +kernel
theorem dX8_blaze_22 : decode cX8_blaze 22 = .ok (.aload_n 0, 1) := by decide +kernel
theorem dX8_blaze_23 : decode cX8_blaze 23 = .ok (.getfield 12, 3) := by decide +kernel
theorem dX8_blaze_26 : decode cX8_blaze 26 = .ok (.getfield 112, 3) := by decide +kernel
theorem dX8_blaze_29 : decode cX8_blaze 29 = .ok (.getfield 170, 3) := by decide +kernel
theorem dX8_blaze_32 : decode cX8_blaze 32 = .ok (.aload_n 0, 1) := by decide +kernel
theorem dX8_blaze_33 : decode cX8_blaze 33 = .ok (.getfield 12, 3) := by decide +kernel
theorem dX8_blaze_36 : decode cX8_blaze 36 = .ok (.getfield 167, 3) := by decide +kernel
theorem dX8_blaze_39 : decode cX8_blaze 39 = .ok (.iload 4, 2) := by decide +kernel
theorem dX8_blaze_41 : decode cX8_blaze 41 = .ok (.invokevirtual 156, 3) := by decide +kernel
theorem dX8_blaze_44 : decode cX8_blaze 44 = .ok (.ixor, 1) := by decide +kernel
theorem dX8_blaze_45 : decode cX8_blaze 45 = .ok (.invokestatic 202, 3) := by decide +kernel
theorem dX8_blaze_48 : decode cX8_blaze 48 = .ok (.istore 5, 2) := by decide +kernel
theorem dX8_blaze_50 : decode cX8_blaze 50 = .ok (.iload_n 2, 1) := by decide +kernel
theorem dX8_blaze_51 : decode cX8_blaze 51 = .ok (.iconst (-1), 1) := by decide +kernel
theorem dX8_blaze_52 : decode cX8_blaze 52 = .ok (.if_icmp .eq 22, 3) := by decide +kernel
theorem dX8_blaze_55 : decode cX8_blaze 55 = .ok (.iload_n 1, 1) := by decide +kernel
theorem dX8_blaze_56 : decode cX8_blaze 56 = .ok (.ifCond .eq 12, 3) := by decide +kernel
theorem dX8_blaze_59 : decode cX8_blaze 59 = .ok (.iload 5, 2) := by decide +kernel
theorem dX8_blaze_61 : decode cX8_blaze 61 = .ok (.iload_n 3, 1) := by decide +kernel
theorem dX8_blaze_62 : decode cX8_blaze 62 = .ok (.if_icmp .le 18, 3) := by decide +kernel
theorem dX8_blaze_65 : decode cX8_blaze 65 = .ok (.goto 9, 3) := by decide +kernel
theorem dX8_blaze_68 : decode cX8_blaze 68 = .ok (.iload 5, 2) := by decide +kernel
theorem dX8_blaze_70 : decode cX8_blaze 70 = .ok (.iload_n 3, 1) := by decide +kernel
theorem dX8_blaze_71 : decode cX8_blaze 71 = .ok (.if_icmp .ge 9, 3) := by decide +kernel
theorem dX8_blaze_74 : decode cX8_blaze 74 = .ok (.iload 4, 2) := by decide +kernel
theorem dX8_blaze_76 : decode cX8_blaze 76 = .ok (.istore_n 2, 1) := by decide +kernel
theorem dX8_blaze_77 : decode cX8_blaze 77 = .ok (.iload 5, 2) := by decide +kernel
theorem dX8_blaze_79 : decode cX8_blaze 79 = .ok (.istore_n 3, 1) := by decide +kernel
theorem dX8_blaze_80 : decode cX8_blaze 80 = .ok (.iinc 4 1, 3) := by decide +kernel
theorem dX8_blaze_83 : decode cX8_blaze 83 = .ok (.goto (-76), 3) := by decide +kernel
theorem dX8_blaze_86 : decode cX8_blaze 86 = .ok (.iload_n 2, 1) := by decide +kernel
theorem dX8_blaze_87 : decode cX8_blaze 87 = .ok (.ireturn, 1) := by decide +kernel
theorem dX8_surest_0 : decode cX8_surest 0 = .ok (.iconst (-1), 1) := by decide +kernel
theorem dX8_surest_1 : decode cX8_surest 1 = .ok (.istore_n 1, 1) := by decide +kernel
theorem dX8_surest_2 : decode cX8_surest 2 = .ok (.iconst 0, 1) := by decide +kernel
theorem dX8_surest_3 : decode cX8_surest 3 = .ok (.istore_n 2, 1) := by decide +kernel
theorem dX8_surest_4 : decode cX8_surest 4 = .ok (.iload_n 2, 1) := by decide +kernel
theorem dX8_surest_5 : decode cX8_surest 5 = .ok (.aload_n 0, 1) := by decide +kernel
theorem dX8_surest_6 : decode cX8_surest 6 = .ok (.getfield 12, 3) := by decide +kernel
theorem dX8_surest_9 : decode cX8_surest 9 = .ok (.getfield 112, 3) := by decide +kernel
theorem dX8_surest_12 : decode cX8_surest 12 = .ok (.getfield 330, 3) := by decide +kernel
theorem dX8_surest_15 : decode cX8_surest 15 = .ok (.if_icmp .ge 41, 3) := by decide +kernel
theorem dX8_surest_18 : decode cX8_surest 18 = .ok (.iload_n 1, 1) := by decide +kernel
theorem dX8_surest_19 : decode cX8_surest 19 = .ok (.iconst (-1), 1) := by decide +kernel
theorem dX8_surest_20 : decode cX8_surest 20 = .ok (.if_icmp .eq 28, 3) := by decide +kernel
theorem dX8_surest_23 : decode cX8_surest 23 = .ok (.aload_n 0, 1) := by decide +kernel
theorem dX8_surest_24 : decode cX8_surest 24 = .ok (.getfield 12, 3) := by decide +kernel
theorem dX8_surest_27 : decode cX8_surest 27 = .ok (.getfield 152, 3) := by decide +kernel
theorem dX8_surest_30 : decode cX8_surest 30 = .ok (.iload_n 2, 1) := by decide +kernel
theorem dX8_surest_31 : decode cX8_surest 31 = .ok (.invokevirtual 156, 3) := by decide +kernel
theorem dX8_surest_34 : decode cX8_surest 34 = .ok (.aload_n 0, 1) := by decide +kernel
theorem dX8_surest_35 : decode cX8_surest 35 = .ok (.getfield 12, 3) := by decide +kernel
theorem dX8_surest_38 : decode cX8_surest 38 = .ok (.getfield 152, 3) := by decide +kernel
theorem dX8_surest_41 : decode cX8_surest 41 = .ok (.iload_n 1, 1) := by decide +kernel
theorem dX8_surest_42 : decode cX8_surest 42 = .ok (.invokevirtual 156, 3) := by decide +kernel
theorem dX8_surest_45 : decode cX8_surest 45 = .ok (.if_icmp .ge 5, 3) := by decide +kernel
theorem dX8_surest_48 : decode cX8_surest 48 = .ok (.iload_n 2, 1) := by decide +kernel
theorem dX8_surest_49 : decode cX8_surest 49 = .ok (.istore_n 1, 1) := by decide +kernel
theorem dX8_surest_50 : decode cX8_surest 50 = .ok (.iinc 2 1, 3) := by decide +kernel
theorem dX8_surest_53 : decode cX8_surest 53 = .ok (.goto (-49), 3) := by decide +kernel
theorem dX8_surest_56 : decode cX8_surest 56 = .ok (.iload_n 1, 1) := by decide +kernel
theorem dX8_surest_57 : decode cX8_surest 57 = .ok (.ireturn, 1) := by decide +kernel
theorem dX8_poorest_0 : decode cX8_poorest 0 = .ok (.iconst (-1), 1) := by decide +kernel
theorem dX8_poorest_1 : decode cX8_poorest 1 = .ok (.istore_n 1, 1) := by decide +kernel
theorem dX8_poorest_2 : decode cX8_poorest 2 = .ok (.iconst 0, 1) := by decide +kernel
theorem dX8_poorest_3 : decode cX8_poorest 3 = .ok (.istore_n 2, 1) := by decide +kernel
theorem dX8_poorest_4 : decode cX8_poorest 4 = .ok (.iload_n 2, 1) := by decide +kernel
theorem dX8_poorest_5 : decode cX8_poorest 5 = .ok (.aload_n 0, 1) := by decide +kernel
theorem dX8_poorest_6 : decode cX8_poorest 6 = .ok (.getfield 12, 3) := by decide +kernel
theorem dX8_poorest_9 : decode cX8_poorest 9 = .ok (.getfield 112, 3) := by decide +kernel
theorem dX8_poorest_12 : decode cX8_poorest 12 = .ok (.getfield 330, 3) := by decide +kernel
theorem dX8_poorest_15 : decode cX8_poorest 15 = .ok (.if_icmp .ge 43, 3) := by decide +kernel
theorem dX8_poorest_18 : decode cX8_poorest 18 = .ok (.iload_n 1, 1) := by decide +kernel
theorem dX8_poorest_19 : decode cX8_poorest 19 = .ok (.iconst (-1), 1) := by decide +kernel
theorem dX8_poorest_20 : decode cX8_poorest 20 = .ok (.if_icmp .eq 30, 3) := by decide +kernel
theorem dX8_poorest_23 : decode cX8_poorest 23 = .ok (.aload_n 0, 1) := by decide +kernel
theorem dX8_poorest_24 : decode cX8_poorest 24 = .ok (.getfield 12, 3) := by decide +kernel
theorem dX8_poorest_27 : decode cX8_poorest 27 = .ok (.getfield 112, 3) := by decide +kernel
theorem dX8_poorest_30 : decode cX8_poorest 30 = .ok (.getfield 148, 3) := by decide +kernel
theorem dX8_poorest_33 : decode cX8_poorest 33 = .ok (.iload_n 2, 1) := by decide +kernel
theorem dX8_poorest_34 : decode cX8_poorest 34 = .ok (.iaload, 1) := by decide +kernel
theorem dX8_poorest_35 : decode cX8_poorest 35 = .ok (.aload_n 0, 1) := by decide +kernel
theorem dX8_poorest_36 : decode cX8_poorest 36 = .ok (.getfield 12, 3) := by decide +kernel
theorem dX8_poorest_39 : decode cX8_poorest 39 = .ok (.getfield 112, 3) := by decide +kernel
theorem dX8_poorest_42 : decode cX8_poorest 42 = .ok (.getfield 148, 3) := by decide +kernel
theorem dX8_poorest_45 : decode cX8_poorest 45 = .ok (.iload_n 1, 1) := by decide +kernel
theorem dX8_poorest_46 : decode cX8_poorest 46 = .ok (.iaload, 1) := by decide +kernel
theorem dX8_poorest_47 : decode cX8_poorest 47 = .ok (.if_icmp .ge 5, 3) := by decide +kernel
theorem dX8_poorest_50 : decode cX8_poorest 50 = .ok (.iload_n 2, 1) := by decide +kernel
theorem dX8_poorest_51 : decode cX8_poorest 51 = .ok (.istore_n 1, 1) := by decide +kernel
theorem dX8_poorest_52 : decode cX8_poorest 52 = .ok (.iinc 2 1, 3) := by decide +kernel
theorem dX8_poorest_55 : decode cX8_poorest 55 = .ok (.goto (-51), 3) := by decide +kernel
theorem dX8_poorest_58 : decode cX8_poorest 58 = .ok (.iload_n 1, 1) := by decide +kernel
theorem dX8_poorest_59 : decode cX8_poorest 59 = .ok (.ireturn, 1) := by decide +kernel
theorem dX8_solvent_0 : decode cX8_solvent 0 = .ok (.iconst 0, 1) := by decide +kernel
theorem dX8_solvent_1 : decode cX8_solvent 1 = .ok (.istore_n 1, 1) := by decide +kernel
theorem dX8_solvent_2 : decode cX8_solvent 2 = .ok (.iconst 0, 1) := by decide +kernel
theorem dX8_solvent_3 : decode cX8_solvent 3 = .ok (.istore_n 2, 1) := by decide +kernel
theorem dX8_solvent_4 : decode cX8_solvent 4 = .ok (.iload_n 2, 1) := by decide +kernel
theorem dX8_solvent_5 : decode cX8_solvent 5 = .ok (.aload_n 0, 1) := by decide +kernel
theorem dX8_solvent_6 : decode cX8_solvent 6 = .ok (.getfield 12, 3) := by decide +kernel
theorem dX8_solvent_9 : decode cX8_solvent 9 = .ok (.getfield 112, 3) := by decide +kernel
theorem dX8_solvent_12 : decode cX8_solvent 12 = .ok (.getfield 330, 3) := by decide +kernel
theorem dX8_solvent_15 : decode cX8_solvent 15 = .ok (.if_icmp .ge 26, 3) := by decide +kernel
theorem dX8_solvent_18 : decode cX8_solvent 18 = .ok (.aload_n 0, 1) := by decide +kernel
theorem dX8_solvent_19 : decode cX8_solvent 19 = .ok (.getfield 12, 3) := by decide +kernel
theorem dX8_solvent_22 : decode cX8_solvent 22 = .ok (.iload_n 2, 1) := by decide +kernel
theorem dX8_solvent_23 : decode cX8_solvent 23 = .ok (.invokevirtual 333, 3) := by decide +kernel
theorem dX8_solvent_26 : decode cX8_solvent 26 = .ok (.ifCond .eq 9, 3) := by decide +kernel
theorem dX8_solvent_29 : decode cX8_solvent 29 = .ok (.iload_n 1, 1) := by decide +kernel
theorem dX8_solvent_30 : decode cX8_solvent 30 = .ok (.iconst 1, 1) := by decide +kernel
theorem dX8_solvent_31 : decode cX8_solvent 31 = .ok (.iload_n 2, 1) := by decide +kernel
theorem dX8_solvent_32 : decode cX8_solvent 32 = .ok (.ishl, 1) := by decide +kernel
theorem dX8_solvent_33 : decode cX8_solvent 33 = .ok (.ior, 1) := by decide +kernel
theorem dX8_solvent_34 : decode cX8_solvent 34 = .ok (.istore_n 1, 1) := by decide +kernel
theorem dX8_solvent_35 : decode cX8_solvent 35 = .ok (.iinc 2 1, 3) := by decide +kernel
theorem dX8_solvent_38 : decode cX8_solvent 38 = .ok (.goto (-34), 3) := by decide +kernel
theorem dX8_solvent_41 : decode cX8_solvent 41 = .ok (.iload_n 1, 1) := by decide +kernel
theorem dX8_solvent_42 : decode cX8_solvent 42 = .ok (.ireturn, 1) := by decide +kernel
theorem dX8_fool_0 : decode cX8_fool 0 = .ok (.iconst (-1), 1) := by decide +kernel
theorem dX8_fool_1 : decode cX8_fool 1 = .ok (.istore_n 1, 1) := by decide +kernel
theorem dX8_fool_2 : decode cX8_fool 2 = .ok (.iconst 0, 1) := by decide +kernel
theorem dX8_fool_3 : decode cX8_fool 3 = .ok (.istore_n 2, 1) := by decide +kernel
theorem dX8_fool_4 : decode cX8_fool 4 = .ok (.iconst 0, 1) := by decide +kernel
theorem dX8_fool_5 : decode cX8_fool 5 = .ok (.istore_n 3, 1) := by decide +kernel
theorem dX8_fool_6 : decode cX8_fool 6 = .ok (.iload_n 3, 1) := by decide +kernel
theorem dX8_fool_7 : decode cX8_fool 7 = .ok (.aload_n 0, 1) := by decide +kernel
theorem dX8_fool_8 : decode cX8_fool 8 = .ok (.getfield 12, 3) := by decide +kernel
theorem dX8_fool_11 : decode cX8_fool 11 = .ok (.getfield 112, 3) := by decide +kernel
theorem dX8_fool_14 : decode cX8_fool 14 = .ok (.getfield 330, 3) := by decide +kernel
theorem dX8_fool_17 : decode cX8_fool 17 = .ok (.if_icmp .ge 40, 3) := by decide +kernel
theorem dX8_fool_20 : decode cX8_fool 20 = .ok (.aload_n 0, 1) := by decide +kernel
theorem dX8_fool_21 : decode cX8_fool 21 = .ok (.getfield 12, 3) := by decide +kernel
theorem dX8_fool_24 : decode cX8_fool 24 = .ok (.getfield 112, 3) := by decide +kernel
theorem dX8_fool_27 : decode cX8_fool 27 = .ok (.getfield 161, 3) := by decide +kernel
theorem dX8_fool_30 : decode cX8_fool 30 = .ok (.iload_n 3, 1) := by decide +kernel
theorem dX8_fool_31 : decode cX8_fool 31 = .ok (.iaload, 1) := by decide +kernel
theorem dX8_fool_32 : decode cX8_fool 32 = .ok (.iload_n 2, 1) := by decide +kernel
theorem dX8_fool_33 : decode cX8_fool 33 = .ok (.if_icmp .le 18, 3) := by decide +kernel
theorem dX8_fool_36 : decode cX8_fool 36 = .ok (.iload_n 3, 1) := by decide +kernel
theorem dX8_fool_37 : decode cX8_fool 37 = .ok (.istore_n 1, 1) := by decide +kernel
theorem dX8_fool_38 : decode cX8_fool 38 = .ok (.aload_n 0, 1) := by decide +kernel
theorem dX8_fool_39 : decode cX8_fool 39 = .ok (.getfield 12, 3) := by decide +kernel
theorem dX8_fool_42 : decode cX8_fool 42 = .ok (.getfield 112, 3) := by decide +kernel
theorem dX8_fool_45 : decode cX8_fool 45 = .ok (.getfield 161, 3) := by decide +kernel
theorem dX8_fool_48 : decode cX8_fool 48 = .ok (.iload_n 3, 1) := by decide +kernel
theorem dX8_fool_49 : decode cX8_fool 49 = .ok (.iaload, 1) := by decide +kernel
theorem dX8_fool_50 : decode cX8_fool 50 = .ok (.istore_n 2, 1) := by decide +kernel
theorem dX8_fool_51 : decode cX8_fool 51 = .ok (.iinc 3 1, 3) := by decide +kernel
theorem dX8_fool_54 : decode cX8_fool 54 = .ok (.goto (-48), 3) := by decide +kernel
theorem dX8_fool_57 : decode cX8_fool 57 = .ok (.iload_n 1, 1) := by decide +kernel
theorem dX8_fool_58 : decode cX8_fool 58 = .ok (.ireturn, 1) := by decide +kernel
theorem dX8_ledger_0 : decode cX8_ledger 0 = .ok (.iload_n 1, 1) := by decide +kernel
theorem dX8_ledger_1 : decode cX8_ledger 1 = .ok (.iconst (-1), 1) := by decide +kernel
theorem dX8_ledger_2 : decode cX8_ledger 2 = .ok (.if_icmp .ne 14, 3) := by decide +kernel
theorem dX8_ledger_5 : decode cX8_ledger 5 = .ok (.aload_n 0, 1) := by decide +kernel
theorem dX8_ledger_6 : decode cX8_ledger 6 = .ok (.getfield 12, 3) := by decide +kernel
theorem dX8_ledger_9 : decode cX8_ledger 9 = .ok (.getfield 112, 3) := by decide +kernel
theorem dX8_ledger_12 : decode cX8_ledger 12 = .ok (.getfield 186, 3) := by decide +kernel
theorem dX8_ledger_15 : decode cX8_ledger 15 = .ok (.ireturn, 1) := by decide +kernel
theorem dX8_ledger_16 : decode cX8_ledger 16 = .ok (.aload_n 0, 1) := by decide +kernel
theorem dX8_ledger_17 : decode cX8_ledger 17 = .ok (.getfield 12, 3) := by decide +kernel
theorem dX8_ledger_20 : decode cX8_ledger 20 = .ok (.iload_n 1, 1) := by decide +kernel
theorem dX8_ledger_21 : decode cX8_ledger 21 = .ok (.invokevirtual 145, 3) := by decide +kernel
theorem dX8_ledger_24 : decode cX8_ledger 24 = .ok (.ifCond .eq 17, 3) := by decide +kernel
theorem dX8_ledger_27 : decode cX8_ledger 27 = .ok (.aload_n 0, 1) := by decide +kernel
theorem dX8_ledger_28 : decode cX8_ledger 28 = .ok (.getfield 12, 3) := by decide +kernel
theorem dX8_ledger_31 : decode cX8_ledger 31 = .ok (.getfield 112, 3) := by decide +kernel
theorem dX8_ledger_34 : decode cX8_ledger 34 = .ok (.iload_n 1, 1) := by decide +kernel
theorem dX8_ledger_35 : decode cX8_ledger 35 = .ok (.invokevirtual 336, 3) := by decide +kernel
theorem dX8_ledger_38 : decode cX8_ledger 38 = .ok (.goto 5, 3) := by decide +kernel
theorem dX8_ledger_41 : decode cX8_ledger 41 = .ok (.bipush (-2), 2) := by decide +kernel
theorem dX8_ledger_43 : decode cX8_ledger 43 = .ok (.ireturn, 1) := by decide +kernel
theorem dX8_image_0 : decode cX8_image 0 = .ok (.aload_n 0, 1) := by decide +kernel
theorem dX8_image_1 : decode cX8_image 1 = .ok (.getfield 16, 3) := by decide +kernel
theorem dX8_image_4 : decode cX8_image 4 = .ok (.aload_n 0, 1) := by decide +kernel
theorem dX8_image_5 : decode cX8_image 5 = .ok (.getfield 12, 3) := by decide +kernel
theorem dX8_image_8 : decode cX8_image 8 = .ok (.invokevirtual 339, 3) := by decide +kernel
theorem dX8_image_11 : decode cX8_image 11 = .ok (.aload_n 0, 1) := by decide +kernel
theorem dX8_image_12 : decode cX8_image 12 = .ok (.getfield 12, 3) := by decide +kernel
theorem dX8_image_15 : decode cX8_image 15 = .ok (.getfield 112, 3) := by decide +kernel
theorem dX8_image_18 : decode cX8_image 18 = .ok (.getfield 115, 3) := by decide +kernel
theorem dX8_image_21 : decode cX8_image 21 = .ok (.ireturn, 1) := by decide +kernel
theorem dX8_back_0 : decode cX8_back 0 = .ok (.aload_n 0, 1) := by decide +kernel
theorem dX8_back_1 : decode cX8_back 1 = .ok (.getfield 12, 3) := by decide +kernel
theorem dX8_back_4 : decode cX8_back 4 = .ok (.aload_n 0, 1) := by decide +kernel
theorem dX8_back_5 : decode cX8_back 5 = .ok (.getfield 16, 3) := by decide +kernel
theorem dX8_back_8 : decode cX8_back 8 = .ok (.invokevirtual 339, 3) := by decide +kernel
theorem dX8_back_11 : decode cX8_back 11 = .ok (.aload_n 0, 1) := by decide +kernel
theorem dX8_back_12 : decode cX8_back 12 = .ok (.getfield 12, 3) := by decide +kernel
theorem dX8_back_15 : decode cX8_back 15 = .ok (.getfield 112, 3) := by decide +kernel
theorem dX8_back_18 : decode cX8_back 18 = .ok (.getfield 115, 3) := by decide +kernel
theorem dX8_back_21 : decode cX8_back 21 = .ok (.ireturn, 1) := by decide +kernel
theorem dX8_about_0 : decode cX8_about 0 = .ok (.iload_n 1, 1) := by decide +kernel
theorem dX8_about_1 : decode cX8_about 1 = .ok (.tableswitch 138 0 8 #[51, 62, 73, 81, 89, 97, 108, 119, 130], 51) := by decide +kernel
theorem dX8_about_52 : decode cX8_about 52 = .ok (.aload_n 0, 1) := by decide +kernel
theorem dX8_about_53 : decode cX8_about 53 = .ok (.getfield 12, 3) := by decide +kernel
theorem dX8_about_56 : decode cX8_about 56 = .ok (.getfield 112, 3) := by decide +kernel
theorem dX8_about_59 : decode cX8_about 59 = .ok (.getfield 330, 3) := by decide +kernel
theorem dX8_about_62 : decode cX8_about 62 = .ok (.ireturn, 1) := by decide +kernel
theorem dX8_about_63 : decode cX8_about 63 = .ok (.aload_n 0, 1) := by decide +kernel
theorem dX8_about_64 : decode cX8_about 64 = .ok (.getfield 12, 3) := by decide +kernel
theorem dX8_about_67 : decode cX8_about 67 = .ok (.getfield 167, 3) := by decide +kernel
theorem dX8_about_70 : decode cX8_about 70 = .ok (.getfield 249, 3) := by decide +kernel
theorem dX8_about_73 : decode cX8_about 73 = .ok (.ireturn, 1) := by decide +kernel
theorem dX8_about_74 : decode cX8_about 74 = .ok (.aload_n 0, 1) := by decide +kernel
theorem dX8_about_75 : decode cX8_about 75 = .ok (.getfield 12, 3) := by decide +kernel
theorem dX8_about_78 : decode cX8_about 78 = .ok (.getfield 63, 3) := by decide +kernel
theorem dX8_about_81 : decode cX8_about 81 = .ok (.ireturn, 1) := by decide +kernel
theorem dX8_about_82 : decode cX8_about 82 = .ok (.aload_n 0, 1) := by decide +kernel
theorem dX8_about_83 : decode cX8_about 83 = .ok (.getfield 12, 3) := by decide +kernel
theorem dX8_about_86 : decode cX8_about 86 = .ok (.getfield 98, 3) := by decide +kernel
theorem dX8_about_89 : decode cX8_about 89 = .ok (.ireturn, 1) := by decide +kernel
theorem dX8_about_90 : decode cX8_about 90 = .ok (.aload_n 0, 1) := by decide +kernel
theorem dX8_about_91 : decode cX8_about 91 = .ok (.getfield 12, 3) := by decide +kernel
theorem dX8_about_94 : decode cX8_about 94 = .ok (.getfield 342, 3) := by decide +kernel
theorem dX8_about_97 : decode cX8_about 97 = .ok (.ireturn, 1) := by decide +kernel
theorem dX8_about_98 : decode cX8_about 98 = .ok (.aload_n 0, 1) := by decide +kernel
theorem dX8_about_99 : decode cX8_about 99 = .ok (.getfield 12, 3) := by decide +kernel
theorem dX8_about_102 : decode cX8_about 102 = .ok (.getfield 240, 3) := by decide +kernel
theorem dX8_about_105 : decode cX8_about 105 = .ok (.getfield 249, 3) := by decide +kernel
theorem dX8_about_108 : decode cX8_about 108 = .ok (.ireturn, 1) := by decide +kernel
theorem dX8_about_109 : decode cX8_about 109 = .ok (.aload_n 0, 1) := by decide +kernel
theorem dX8_about_110 : decode cX8_about 110 = .ok (.getfield 12, 3) := by decide +kernel
theorem dX8_about_113 : decode cX8_about 113 = .ok (.getfield 280, 3) := by decide +kernel
theorem dX8_about_116 : decode cX8_about 116 = .ok (.getfield 249, 3) := by decide +kernel
theorem dX8_about_119 : decode cX8_about 119 = .ok (.ireturn, 1) := by decide +kernel
theorem dX8_about_120 : decode cX8_about 120 = .ok (.aload_n 0, 1) := by decide +kernel
theorem dX8_about_121 : decode cX8_about 121 = .ok (.getfield 12, 3) := by decide +kernel
theorem dX8_about_124 : decode cX8_about 124 = .ok (.getfield 324, 3) := by decide +kernel
theorem dX8_about_127 : decode cX8_about 127 = .ok (.getfield 249, 3) := by decide +kernel
theorem dX8_about_130 : decode cX8_about 130 = .ok (.ireturn, 1) := by decide +kernel
theorem dX8_about_131 : decode cX8_about 131 = .ok (.aload_n 0, 1) := by decide +kernel
theorem dX8_about_132 : decode cX8_about 132 = .ok (.getfield 22, 3) := by decide +kernel
theorem dX8_about_135 : decode cX8_about 135 = .ok (.getfield 55, 3) := by decide +kernel
theorem dX8_about_138 : decode cX8_about 138 = .ok (.ireturn, 1) := by decide +kernel
theorem dX8_about_139 : decode cX8_about 139 = .ok (.bipush (-2), 2) := by decide +kernel
theorem dX8_about_141 : decode cX8_about 141 = .ok (.ireturn, 1) := by decide +kernel
theorem dX8_setsNow_0 : decode cX8_setsNow 0 = .ok (.aload_n 0, 1) := by decide +kernel
theorem dX8_setsNow_1 : decode cX8_setsNow 1 = .ok (.getfield 29, 3) := by decide +kernel
theorem dX8_setsNow_4 : decode cX8_setsNow 4 = .ok (.aload_n 0, 1) := by decide +kernel
theorem dX8_setsNow_5 : decode cX8_setsNow 5 = .ok (.getfield 12, 3) := by decide +kernel
theorem dX8_setsNow_8 : decode cX8_setsNow 8 = .ok (.getfield 167, 3) := by decide +kernel
theorem dX8_setsNow_11 : decode cX8_setsNow 11 = .ok (.invokevirtual 345, 3) := by decide +kernel
theorem dX8_setsNow_14 : decode cX8_setsNow 14 = .ok (.aload_n 0, 1) := by decide +kernel
theorem dX8_setsNow_15 : decode cX8_setsNow 15 = .ok (.getfield 29, 3) := by decide +kernel
theorem dX8_setsNow_18 : decode cX8_setsNow 18 = .ok (.areturn, 1) := by decide +kernel
theorem dX8_walked_0 : decode cX8_walked 0 = .ok (.aload_n 0, 1) := by decide +kernel
theorem dX8_walked_1 : decode cX8_walked 1 = .ok (.getfield 29, 3) := by decide +kernel
theorem dX8_walked_4 : decode cX8_walked 4 = .ok (.aload_n 0, 1) := by decide +kernel
theorem dX8_walked_5 : decode cX8_walked 5 = .ok (.getfield 12, 3) := by decide +kernel
theorem dX8_walked_8 : decode cX8_walked 8 = .ok (.getfield 167, 3) := by decide +kernel
theorem dX8_walked_11 : decode cX8_walked 11 = .ok (.invokevirtual 345, 3) := by decide +kernel
theorem dX8_walked_14 : decode cX8_walked 14 = .ok (.aload_n 0, 1) := by decide +kernel
theorem dX8_walked_15 : decode cX8_walked 15 = .ok (.getfield 29, 3) := by decide +kernel
theorem dX8_walked_18 : decode cX8_walked 18 = .ok (.iload_n 1, 1) := by decide +kernel
theorem dX8_walked_19 : decode cX8_walked 19 = .ok (.invokevirtual 349, 3) := by decide +kernel
theorem dX8_walked_22 : decode cX8_walked 22 = .ok (.aload_n 0, 1) := by decide +kernel
theorem dX8_walked_23 : decode cX8_walked 23 = .ok (.getfield 29, 3) := by decide +kernel
theorem dX8_walked_26 : decode cX8_walked 26 = .ok (.areturn, 1) := by decide +kernel
theorem dX8_isLamp_0 : decode cX8_isLamp 0 = .ok (.iload_n 0, 1) := by decide +kernel
theorem dX8_isLamp_1 : decode cX8_isLamp 1 = .ok (.ifCond .lt 13, 3) := by decide +kernel
theorem dX8_isLamp_4 : decode cX8_isLamp 4 = .ok (.iload_n 0, 1) := by decide +kernel
theorem dX8_isLamp_5 : decode cX8_isLamp 5 = .ok (.bipush 10, 2) := by decide +kernel
theorem dX8_isLamp_7 : decode cX8_isLamp 7 = .ok (.if_icmp .ge 7, 3) := by decide +kernel
theorem dX8_isLamp_10 : decode cX8_isLamp 10 = .ok (.iconst 1, 1) := by decide +kernel
theorem dX8_isLamp_11 : decode cX8_isLamp 11 = .ok (.goto 4, 3) := by decide +kernel
theorem dX8_isLamp_14 : decode cX8_isLamp 14 = .ok (.iconst 0, 1) := by decide +kernel
theorem dX8_isLamp_15 : decode cX8_isLamp 15 = .ok (.ireturn, 1) := by decide +kernel
theorem dX8_areLamps_0 : decode cX8_areLamps 0 = .ok (.iload_n 0, 1) := by decide +kernel
theorem dX8_areLamps_1 : decode cX8_areLamps 1 = .ok (.ifCond .lt 14, 3) := by decide +kernel
theorem dX8_areLamps_4 : decode cX8_areLamps 4 = .ok (.iload_n 0, 1) := by decide +kernel
theorem dX8_areLamps_5 : decode cX8_areLamps 5 = .ok (.sipush 1023, 3) := by decide +kernel
theorem dX8_areLamps_8 : decode cX8_areLamps 8 = .ok (.if_icmp .gt 7, 3) := by decide +kernel
theorem dX8_areLamps_11 : decode cX8_areLamps 11 = .ok (.iconst 1, 1) := by decide +kernel
theorem dX8_areLamps_12 : decode cX8_areLamps 12 = .ok (.goto 4, 3) := by decide +kernel
theorem dX8_areLamps_15 : decode cX8_areLamps 15 = .ok (.iconst 0, 1) := by decide +kernel
theorem dX8_areLamps_16 : decode cX8_areLamps 16 = .ok (.ireturn, 1) := by decide +kernel
theorem dX8_sizeOf_0 : decode cX8_sizeOf 0 = .ok (.iload_n 0, 1) := by decide +kernel
theorem dX8_sizeOf_1 : decode cX8_sizeOf 1 = .ok (.iconst (-1), 1) := by decide +kernel
theorem dX8_sizeOf_2 : decode cX8_sizeOf 2 = .ok (.if_icmp .ne 7, 3) := by decide +kernel
theorem dX8_sizeOf_5 : decode cX8_sizeOf 5 = .ok (.iconst (-1), 1) := by decide +kernel
theorem dX8_sizeOf_6 : decode cX8_sizeOf 6 = .ok (.goto 7, 3) := by decide +kernel
theorem dX8_sizeOf_9 : decode cX8_sizeOf 9 = .ok (.iload_n 0, 1) := by decide +kernel
theorem dX8_sizeOf_10 : decode cX8_sizeOf 10 = .ok (.invokestatic 202, 3) := by decide +kernel
theorem dX8_sizeOf_13 : decode cX8_sizeOf 13 = .ok (.ireturn, 1) := by decide +kernel
theorem dX8_between_0 : decode cX8_between 0 = .ok (.iload_n 0, 1) := by decide +kernel
theorem dX8_between_1 : decode cX8_between 1 = .ok (.iload_n 1, 1) := by decide +kernel
theorem dX8_between_2 : decode cX8_between 2 = .ok (.iload_n 2, 1) := by decide +kernel
theorem dX8_between_3 : decode cX8_between 3 = .ok (.invokestatic 321, 3) := by decide +kernel
theorem dX8_between_6 : decode cX8_between 6 = .ok (.invokestatic 316, 3) := by decide +kernel
theorem dX8_between_9 : decode cX8_between 9 = .ok (.ireturn, 1) := by decide +kernel
theorem dX8_power_0 : decode cX8_power 0 = .ok (.lconst 1, 1) := by decide +kernel
theorem dX8_power_1 : decode cX8_power 1 = .ok (.lstore_n 3, 1) := by decide +kernel
theorem dX8_power_2 : decode cX8_power 2 = .ok (.iconst 0, 1) := by decide +kernel
theorem dX8_power_3 : decode cX8_power 3 = .ok (.istore 5, 2) := by decide +kernel
theorem dX8_power_5 : decode cX8_power 5 = .ok (.iload 5, 2) := by decide +kernel
theorem dX8_power_7 : decode cX8_power 7 = .ok (.iload_n 2, 1) := by decide +kernel
theorem dX8_power_8 : decode cX8_power 8 = .ok (.if_icmp .ge 13, 3) := by decide +kernel
theorem dX8_power_11 : decode cX8_power 11 = .ok (.lload_n 3, 1) := by decide +kernel
theorem dX8_power_12 : decode cX8_power 12 = .ok (.lload_n 0, 1) := by decide +kernel
theorem dX8_power_13 : decode cX8_power 13 = .ok (.lmul, 1) := by decide +kernel
theorem dX8_power_14 : decode cX8_power 14 = .ok (.lstore_n 3, 1) := by decide +kernel
theorem dX8_power_15 : decode cX8_power 15 = .ok (.iinc 5 1, 3) := by decide +kernel
theorem dX8_power_18 : decode cX8_power 18 = .ok (.goto (-13), 3) := by decide +kernel
theorem dX8_power_21 : decode cX8_power 21 = .ok (.lload_n 3, 1) := by decide +kernel
theorem dX8_power_22 : decode cX8_power 22 = .ok (.lreturn, 1) := by decide +kernel
theorem dX8_inLowest_0 : decode cX8_inLowest 0 = .ok (.lload_n 2, 1) := by decide +kernel
theorem dX8_inLowest_1 : decode cX8_inLowest 1 = .ok (.lstore 5, 2) := by decide +kernel
theorem dX8_inLowest_3 : decode cX8_inLowest 3 = .ok (.lload_n 0, 1) := by decide +kernel
theorem dX8_inLowest_4 : decode cX8_inLowest 4 = .ok (.lstore 7, 2) := by decide +kernel
theorem dX8_inLowest_6 : decode cX8_inLowest 6 = .ok (.iconst 0, 1) := by decide +kernel
theorem dX8_inLowest_7 : decode cX8_inLowest 7 = .ok (.istore 9, 2) := by decide +kernel
theorem dX8_inLowest_9 : decode cX8_inLowest 9 = .ok (.iload 9, 2) := by decide +kernel
theorem dX8_inLowest_11 : decode cX8_inLowest 11 = .ok (.sipush 200, 3) := by decide +kernel
theorem dX8_inLowest_14 : decode cX8_inLowest 14 = .ok (.if_icmp .ge 31, 3) := by decide +kernel
theorem dX8_inLowest_17 : decode cX8_inLowest 17 = .ok (.lload 7, 2) := by decide +kernel
theorem dX8_inLowest_19 : decode cX8_inLowest 19 = .ok (.lconst 0, 1) := by decide +kernel
theorem dX8_inLowest_20 : decode cX8_inLowest 20 = .ok (.lcmp, 1) := by decide +kernel
theorem dX8_inLowest_21 : decode cX8_inLowest 21 = .ok (.ifCond .eq 24, 3) := by decide +kernel
theorem dX8_inLowest_24 : decode cX8_inLowest 24 = .ok (.lload 5, 2) := by decide +kernel
theorem dX8_inLowest_26 : decode cX8_inLowest 26 = .ok (.lload 7, 2) := by decide +kernel
theorem dX8_inLowest_28 : decode cX8_inLowest 28 = .ok (.lrem, 1) := by decide +kernel
theorem dX8_inLowest_29 : decode cX8_inLowest 29 = .ok (.lstore 10, 2) := by decide +kernel
theorem dX8_inLowest_31 : decode cX8_inLowest 31 = .ok (.lload 7, 2) := by decide +kernel
theorem dX8_inLowest_33 : decode cX8_inLowest 33 = .ok (.lstore 5, 2) := by decide +kernel
theorem dX8_inLowest_35 : decode cX8_inLowest 35 = .ok (.lload 10, 2) := by decide +kernel
theorem dX8_inLowest_37 : decode cX8_inLowest 37 = .ok (.lstore 7, 2) := by decide +kernel
theorem dX8_inLowest_39 : decode cX8_inLowest 39 = .ok (.iinc 9 1, 3) := by decide +kernel
theorem dX8_inLowest_42 : decode cX8_inLowest 42 = .ok (.goto (-33), 3) := by decide +kernel
theorem dX8_inLowest_45 : decode cX8_inLowest 45 = .ok (.iload 4, 2) := by decide +kernel
theorem dX8_inLowest_47 : decode cX8_inLowest 47 = .ok (.ifCond .eq 7, 3) := by decide +kernel
theorem dX8_inLowest_50 : decode cX8_inLowest 50 = .ok (.lload_n 2, 1) := by decide +kernel
theorem dX8_inLowest_51 : decode cX8_inLowest 51 = .ok (.goto 4, 3) := by decide +kernel
theorem dX8_inLowest_54 : decode cX8_inLowest 54 = .ok (.lload_n 0, 1) := by decide +kernel
theorem dX8_inLowest_55 : decode cX8_inLowest 55 = .ok (.lstore 9, 2) := by decide +kernel
theorem dX8_inLowest_57 : decode cX8_inLowest 57 = .ok (.lload 5, 2) := by decide +kernel
theorem dX8_inLowest_59 : decode cX8_inLowest 59 = .ok (.lconst 0, 1) := by decide +kernel
theorem dX8_inLowest_60 : decode cX8_inLowest 60 = .ok (.lcmp, 1) := by decide +kernel
theorem dX8_inLowest_61 : decode cX8_inLowest 61 = .ok (.ifCond .ne 8, 3) := by decide +kernel
theorem dX8_inLowest_64 : decode cX8_inLowest 64 = .ok (.lload 9, 2) := by decide +kernel
theorem dX8_inLowest_66 : decode cX8_inLowest 66 = .ok (.goto 8, 3) := by decide +kernel
theorem dX8_inLowest_69 : decode cX8_inLowest 69 = .ok (.lload 9, 2) := by decide +kernel
theorem dX8_inLowest_71 : decode cX8_inLowest 71 = .ok (.lload 5, 2) := by decide +kernel
theorem dX8_inLowest_73 : decode cX8_inLowest 73 = .ok (.ldiv, 1) := by decide +kernel
theorem dX8_inLowest_74 : decode cX8_inLowest 74 = .ok (.lreturn, 1) := by decide +kernel
