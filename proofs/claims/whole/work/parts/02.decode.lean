theorem dX0_init_0 : decode cX0_init 0 = .ok (.aload_n 0, 1) := by decide +kernel
theorem dX0_init_1 : decode cX0_init 1 = .ok (.invokespecial 3, 3) := by decide +kernel
theorem dX0_init_4 : decode cX0_init 4 = .ok (.aload_n 0, 1) := by decide +kernel
theorem dX0_init_5 : decode cX0_init 5 = .ok (.bipush 8, 2) := by decide +kernel
theorem dX0_init_7 : decode cX0_init 7 = .ok (.newarray .int, 2) := by decide +kernel
theorem dX0_init_9 : decode cX0_init 9 = .ok (.putfield 9, 3) := by decide +kernel
theorem dX0_init_12 : decode cX0_init 12 = .ok (.aload_n 0, 1) := by decide +kernel
theorem dX0_init_13 : decode cX0_init 13 = .ok (.bipush 8, 2) := by decide +kernel
theorem dX0_init_15 : decode cX0_init 15 = .ok (.newarray .int, 2) := by decide +kernel
theorem dX0_init_17 : decode cX0_init 17 = .ok (.putfield 15, 3) := by decide +kernel
theorem dX0_init_20 : decode cX0_init 20 = .ok (.aload_n 0, 1) := by decide +kernel
theorem dX0_init_21 : decode cX0_init 21 = .ok (.iconst 0, 1) := by decide +kernel
theorem dX0_init_22 : decode cX0_init 22 = .ok (.putfield 18, 3) := by decide +kernel
theorem dX0_init_25 : decode cX0_init 25 = .ok (.return_, 1) := by decide +kernel
theorem dX0_isFull_0 : decode cX0_isFull 0 = .ok (.aload_n 0, 1) := by decide +kernel
theorem dX0_isFull_1 : decode cX0_isFull 1 = .ok (.getfield 18, 3) := by decide +kernel
theorem dX0_isFull_4 : decode cX0_isFull 4 = .ok (.bipush 8, 2) := by decide +kernel
theorem dX0_isFull_6 : decode cX0_isFull 6 = .ok (.if_icmp .lt 7, 3) := by decide +kernel
theorem dX0_isFull_9 : decode cX0_isFull 9 = .ok (.iconst 1, 1) := by decide +kernel
theorem dX0_isFull_10 : decode cX0_isFull 10 = .ok (.goto 4, 3) := by decide +kernel
theorem dX0_isFull_13 : decode cX0_isFull 13 = .ok (.iconst 0, 1) := by decide +kernel
theorem dX0_isFull_14 : decode cX0_isFull 14 = .ok (.ireturn, 1) := by decide +kernel
theorem dX0_tell_0 : decode cX0_tell 0 = .ok (.aload_n 0, 1) := by decide +kernel
theorem dX0_tell_1 : decode cX0_tell 1 = .ok (.getfield 18, 3) := by decide +kernel
theorem dX0_tell_4 : decode cX0_tell 4 = .ok (.ifCond .lt 57, 3) := by decide +kernel
theorem dX0_tell_7 : decode cX0_tell 7 = .ok (.aload_n 0, 1) := by decide +kernel
theorem dX0_tell_8 : decode cX0_tell 8 = .ok (.getfield 18, 3) := by decide +kernel
theorem dX0_tell_11 : decode cX0_tell 11 = .ok (.aload_n 0, 1) := by decide +kernel
theorem dX0_tell_12 : decode cX0_tell 12 = .ok (.getfield 9, 3) := by decide +kernel
theorem dX0_tell_15 : decode cX0_tell 15 = .ok (.arraylength, 1) := by decide +kernel
theorem dX0_tell_16 : decode cX0_tell 16 = .ok (.if_icmp .ge 45, 3) := by decide +kernel
theorem dX0_tell_19 : decode cX0_tell 19 = .ok (.aload_n 0, 1) := by decide +kernel
theorem dX0_tell_20 : decode cX0_tell 20 = .ok (.getfield 18, 3) := by decide +kernel
theorem dX0_tell_23 : decode cX0_tell 23 = .ok (.aload_n 0, 1) := by decide +kernel
theorem dX0_tell_24 : decode cX0_tell 24 = .ok (.getfield 15, 3) := by decide +kernel
theorem dX0_tell_27 : decode cX0_tell 27 = .ok (.arraylength, 1) := by decide +kernel
theorem dX0_tell_28 : decode cX0_tell 28 = .ok (.if_icmp .ge 33, 3) := by decide +kernel
theorem dX0_tell_31 : decode cX0_tell 31 = .ok (.aload_n 0, 1) := by decide +kernel
theorem dX0_tell_32 : decode cX0_tell 32 = .ok (.getfield 9, 3) := by decide +kernel
theorem dX0_tell_35 : decode cX0_tell 35 = .ok (.aload_n 0, 1) := by decide +kernel
theorem dX0_tell_36 : decode cX0_tell 36 = .ok (.getfield 18, 3) := by decide +kernel
theorem dX0_tell_39 : decode cX0_tell 39 = .ok (.iload_n 1, 1) := by decide +kernel
theorem dX0_tell_40 : decode cX0_tell 40 = .ok (.iastore, 1) := by decide +kernel
theorem dX0_tell_41 : decode cX0_tell 41 = .ok (.aload_n 0, 1) := by decide +kernel
theorem dX0_tell_42 : decode cX0_tell 42 = .ok (.getfield 15, 3) := by decide +kernel
theorem dX0_tell_45 : decode cX0_tell 45 = .ok (.aload_n 0, 1) := by decide +kernel
theorem dX0_tell_46 : decode cX0_tell 46 = .ok (.getfield 18, 3) := by decide +kernel
theorem dX0_tell_49 : decode cX0_tell 49 = .ok (.iload_n 2, 1) := by decide +kernel
theorem dX0_tell_50 : decode cX0_tell 50 = .ok (.iastore, 1) := by decide +kernel
theorem dX0_tell_51 : decode cX0_tell 51 = .ok (.aload_n 0, 1) := by decide +kernel
theorem dX0_tell_52 : decode cX0_tell 52 = .ok (.dup, 1) := by decide +kernel
theorem dX0_tell_53 : decode cX0_tell 53 = .ok (.getfield 18, 3) := by decide +kernel
theorem dX0_tell_56 : decode cX0_tell 56 = .ok (.iconst 1, 1) := by decide +kernel
theorem dX0_tell_57 : decode cX0_tell 57 = .ok (.iadd, 1) := by decide +kernel
theorem dX0_tell_58 : decode cX0_tell 58 = .ok (.putfield 18, 3) := by decide +kernel
theorem dX0_tell_61 : decode cX0_tell 61 = .ok (.aload_n 0, 1) := by decide +kernel
theorem dX0_tell_62 : decode cX0_tell 62 = .ok (.getfield 18, 3) := by decide +kernel
theorem dX0_tell_65 : decode cX0_tell 65 = .ok (.ireturn, 1) := by decide +kernel
theorem dX0_latestAt_0 : decode cX0_latestAt 0 = .ok (.iconst 0, 1) := by decide +kernel
theorem dX0_latestAt_1 : decode cX0_latestAt 1 = .ok (.istore_n 2, 1) := by decide +kernel
theorem dX0_latestAt_2 : decode cX0_latestAt 2 = .ok (.iconst 0, 1) := by decide +kernel
theorem dX0_latestAt_3 : decode cX0_latestAt 3 = .ok (.istore_n 3, 1) := by decide +kernel
theorem dX0_latestAt_4 : decode cX0_latestAt 4 = .ok (.iconst 0, 1) := by decide +kernel
theorem dX0_latestAt_5 : decode cX0_latestAt 5 = .ok (.istore 4, 2) := by decide +kernel
theorem dX0_latestAt_7 : decode cX0_latestAt 7 = .ok (.iload 4, 2) := by decide +kernel
theorem dX0_latestAt_9 : decode cX0_latestAt 9 = .ok (.aload_n 0, 1) := by decide +kernel
theorem dX0_latestAt_10 : decode cX0_latestAt 10 = .ok (.getfield 18, 3) := by decide +kernel
theorem dX0_latestAt_13 : decode cX0_latestAt 13 = .ok (.if_icmp .ge 67, 3) := by decide +kernel
theorem dX0_latestAt_16 : decode cX0_latestAt 16 = .ok (.iload 4, 2) := by decide +kernel
theorem dX0_latestAt_18 : decode cX0_latestAt 18 = .ok (.aload_n 0, 1) := by decide +kernel
theorem dX0_latestAt_19 : decode cX0_latestAt 19 = .ok (.getfield 9, 3) := by decide +kernel
theorem dX0_latestAt_22 : decode cX0_latestAt 22 = .ok (.arraylength, 1) := by decide +kernel
theorem dX0_latestAt_23 : decode cX0_latestAt 23 = .ok (.if_icmp .ge 57, 3) := by decide +kernel
theorem dX0_latestAt_26 : decode cX0_latestAt 26 = .ok (.iload 4, 2) := by decide +kernel
theorem dX0_latestAt_28 : decode cX0_latestAt 28 = .ok (.aload_n 0, 1) := by decide +kernel
theorem dX0_latestAt_29 : decode cX0_latestAt 29 = .ok (.getfield 15, 3) := by decide +kernel
theorem dX0_latestAt_32 : decode cX0_latestAt 32 = .ok (.arraylength, 1) := by decide +kernel
theorem dX0_latestAt_33 : decode cX0_latestAt 33 = .ok (.if_icmp .ge 47, 3) := by decide +kernel
theorem dX0_latestAt_36 : decode cX0_latestAt 36 = .ok (.aload_n 0, 1) := by decide +kernel
theorem dX0_latestAt_37 : decode cX0_latestAt 37 = .ok (.getfield 9, 3) := by decide +kernel
theorem dX0_latestAt_40 : decode cX0_latestAt 40 = .ok (.iload 4, 2) := by decide +kernel
theorem dX0_latestAt_42 : decode cX0_latestAt 42 = .ok (.iaload, 1) := by decide +kernel
theorem dX0_latestAt_43 : decode cX0_latestAt 43 = .ok (.iload_n 1, 1) := by decide +kernel
theorem dX0_latestAt_44 : decode cX0_latestAt 44 = .ok (.if_icmp .gt 30, 3) := by decide +kernel
theorem dX0_latestAt_47 : decode cX0_latestAt 47 = .ok (.aload_n 0, 1) := by decide +kernel
theorem dX0_latestAt_48 : decode cX0_latestAt 48 = .ok (.getfield 9, 3) := by decide +kernel
theorem dX0_latestAt_51 : decode cX0_latestAt 51 = .ok (.iload 4, 2) := by decide +kernel
theorem dX0_latestAt_53 : decode cX0_latestAt 53 = .ok (.iaload, 1) := by decide +kernel
theorem dX0_latestAt_54 : decode cX0_latestAt 54 = .ok (.iload_n 2, 1) := by decide +kernel
theorem dX0_latestAt_55 : decode cX0_latestAt 55 = .ok (.if_icmp .lt 19, 3) := by decide +kernel
theorem dX0_latestAt_58 : decode cX0_latestAt 58 = .ok (.aload_n 0, 1) := by decide +kernel
theorem dX0_latestAt_59 : decode cX0_latestAt 59 = .ok (.getfield 9, 3) := by decide +kernel
theorem dX0_latestAt_62 : decode cX0_latestAt 62 = .ok (.iload 4, 2) := by decide +kernel
theorem dX0_latestAt_64 : decode cX0_latestAt 64 = .ok (.iaload, 1) := by decide +kernel
theorem dX0_latestAt_65 : decode cX0_latestAt 65 = .ok (.istore_n 2, 1) := by decide +kernel
theorem dX0_latestAt_66 : decode cX0_latestAt 66 = .ok (.aload_n 0, 1) := by decide +kernel
theorem dX0_latestAt_67 : decode cX0_latestAt 67 = .ok (.getfield 15, 3) := by decide +kernel
theorem dX0_latestAt_70 : decode cX0_latestAt 70 = .ok (.iload 4, 2) := by decide +kernel
theorem dX0_latestAt_72 : decode cX0_latestAt 72 = .ok (.iaload, 1) := by decide +kernel
theorem dX0_latestAt_73 : decode cX0_latestAt 73 = .ok (.istore_n 3, 1) := by decide +kernel
theorem dX0_latestAt_74 : decode cX0_latestAt 74 = .ok (.iinc 4 1, 3) := by decide +kernel
theorem dX0_latestAt_77 : decode cX0_latestAt 77 = .ok (.goto (-70), 3) := by decide +kernel
theorem dX0_latestAt_80 : decode cX0_latestAt 80 = .ok (.iload_n 3, 1) := by decide +kernel
theorem dX0_latestAt_81 : decode cX0_latestAt 81 = .ok (.ireturn, 1) := by decide +kernel
theorem dX0_copyFrom_0 : decode cX0_copyFrom 0 = .ok (.aload_n 1, 1) := by decide +kernel
theorem dX0_copyFrom_1 : decode cX0_copyFrom 1 = .ok (.getfield 9, 3) := by decide +kernel
theorem dX0_copyFrom_4 : decode cX0_copyFrom 4 = .ok (.aload_n 0, 1) := by decide +kernel
theorem dX0_copyFrom_5 : decode cX0_copyFrom 5 = .ok (.getfield 9, 3) := by decide +kernel
theorem dX0_copyFrom_8 : decode cX0_copyFrom 8 = .ok (.invokestatic 22, 3) := by decide +kernel
theorem dX0_copyFrom_11 : decode cX0_copyFrom 11 = .ok (.aload_n 1, 1) := by decide +kernel
theorem dX0_copyFrom_12 : decode cX0_copyFrom 12 = .ok (.getfield 15, 3) := by decide +kernel
theorem dX0_copyFrom_15 : decode cX0_copyFrom 15 = .ok (.aload_n 0, 1) := by decide +kernel
theorem dX0_copyFrom_16 : decode cX0_copyFrom 16 = .ok (.getfield 15, 3) := by decide +kernel
theorem dX0_copyFrom_19 : decode cX0_copyFrom 19 = .ok (.invokestatic 22, 3) := by decide +kernel
theorem dX0_copyFrom_22 : decode cX0_copyFrom 22 = .ok (.aload_n 0, 1) := by decide +kernel
theorem dX0_copyFrom_23 : decode cX0_copyFrom 23 = .ok (.aload_n 1, 1) := by decide +kernel
theorem dX0_copyFrom_24 : decode cX0_copyFrom 24 = .ok (.getfield 18, 3) := by decide +kernel
theorem dX0_copyFrom_27 : decode cX0_copyFrom 27 = .ok (.putfield 18, 3) := by decide +kernel
theorem dX0_copyFrom_30 : decode cX0_copyFrom 30 = .ok (.return_, 1) := by decide +kernel
theorem dX1_init_0 : decode cX1_init 0 = .ok (.aload_n 0, 1) := by decide +kernel
theorem dX1_init_1 : decode cX1_init 1 = .ok (.invokespecial 3, 3) := by decide +kernel
theorem dX1_init_4 : decode cX1_init 4 = .ok (.aload_n 0, 1) := by decide +kernel
theorem dX1_init_5 : decode cX1_init 5 = .ok (.bipush 64, 2) := by decide +kernel
theorem dX1_init_7 : decode cX1_init 7 = .ok (.newarray .int, 2) := by decide +kernel
theorem dX1_init_9 : decode cX1_init 9 = .ok (.putfield 9, 3) := by decide +kernel
theorem dX1_init_12 : decode cX1_init 12 = .ok (.aload_n 0, 1) := by decide +kernel
theorem dX1_init_13 : decode cX1_init 13 = .ok (.iconst 0, 1) := by decide +kernel
theorem dX1_init_14 : decode cX1_init 14 = .ok (.putfield 15, 3) := by decide +kernel
theorem dX1_init_17 : decode cX1_init 17 = .ok (.aload_n 0, 1) := by decide +kernel
theorem dX1_init_18 : decode cX1_init 18 = .ok (.iconst 0, 1) := by decide +kernel
theorem dX1_init_19 : decode cX1_init 19 = .ok (.putfield 19, 3) := by decide +kernel
theorem dX1_init_22 : decode cX1_init 22 = .ok (.return_, 1) := by decide +kernel
theorem dX1_draw_0 : decode cX1_draw 0 = .ok (.iconst 0, 1) := by decide +kernel
theorem dX1_draw_1 : decode cX1_draw 1 = .ok (.istore_n 2, 1) := by decide +kernel
theorem dX1_draw_2 : decode cX1_draw 2 = .ok (.aload_n 0, 1) := by decide +kernel
theorem dX1_draw_3 : decode cX1_draw 3 = .ok (.iconst 1, 1) := by decide +kernel
theorem dX1_draw_4 : decode cX1_draw 4 = .ok (.putfield 15, 3) := by decide +kernel
theorem dX1_draw_7 : decode cX1_draw 7 = .ok (.iconst 0, 1) := by decide +kernel
theorem dX1_draw_8 : decode cX1_draw 8 = .ok (.istore_n 3, 1) := by decide +kernel
theorem dX1_draw_9 : decode cX1_draw 9 = .ok (.iload_n 3, 1) := by decide +kernel
theorem dX1_draw_10 : decode cX1_draw 10 = .ok (.aload_n 1, 1) := by decide +kernel
theorem dX1_draw_11 : decode cX1_draw 11 = .ok (.getfield 22, 3) := by decide +kernel
theorem dX1_draw_14 : decode cX1_draw 14 = .ok (.if_icmp .ge 57, 3) := by decide +kernel
theorem dX1_draw_17 : decode cX1_draw 17 = .ok (.aload_n 1, 1) := by decide +kernel
theorem dX1_draw_18 : decode cX1_draw 18 = .ok (.iload_n 3, 1) := by decide +kernel
theorem dX1_draw_19 : decode cX1_draw 19 = .ok (.invokevirtual 27, 3) := by decide +kernel
theorem dX1_draw_22 : decode cX1_draw 22 = .ok (.invokestatic 31, 3) := by decide +kernel
theorem dX1_draw_25 : decode cX1_draw 25 = .ok (.istore 4, 2) := by decide +kernel
theorem dX1_draw_27 : decode cX1_draw 27 = .ok (.iload 4, 2) := by decide +kernel
theorem dX1_draw_29 : decode cX1_draw 29 = .ok (.ifCond .ge 16, 3) := by decide +kernel
theorem dX1_draw_32 : decode cX1_draw 32 = .ok (.aload_n 0, 1) := by decide +kernel
theorem dX1_draw_33 : decode cX1_draw 33 = .ok (.dup, 1) := by decide +kernel
theorem dX1_draw_34 : decode cX1_draw 34 = .ok (.getfield 15, 3) := by decide +kernel
theorem dX1_draw_37 : decode cX1_draw 37 = .ok (.iconst 1, 1) := by decide +kernel
theorem dX1_draw_38 : decode cX1_draw 38 = .ok (.iadd, 1) := by decide +kernel
theorem dX1_draw_39 : decode cX1_draw 39 = .ok (.putfield 15, 3) := by decide +kernel
theorem dX1_draw_42 : decode cX1_draw 42 = .ok (.goto 23, 3) := by decide +kernel
theorem dX1_draw_45 : decode cX1_draw 45 = .ok (.iload_n 2, 1) := by decide +kernel
theorem dX1_draw_46 : decode cX1_draw 46 = .ok (.aload_n 0, 1) := by decide +kernel
theorem dX1_draw_47 : decode cX1_draw 47 = .ok (.getfield 9, 3) := by decide +kernel
theorem dX1_draw_50 : decode cX1_draw 50 = .ok (.arraylength, 1) := by decide +kernel
theorem dX1_draw_51 : decode cX1_draw 51 = .ok (.if_icmp .ge 14, 3) := by decide +kernel
theorem dX1_draw_54 : decode cX1_draw 54 = .ok (.aload_n 0, 1) := by decide +kernel
theorem dX1_draw_55 : decode cX1_draw 55 = .ok (.getfield 9, 3) := by decide +kernel
theorem dX1_draw_58 : decode cX1_draw 58 = .ok (.iload_n 2, 1) := by decide +kernel
theorem dX1_draw_59 : decode cX1_draw 59 = .ok (.iload 4, 2) := by decide +kernel
theorem dX1_draw_61 : decode cX1_draw 61 = .ok (.iastore, 1) := by decide +kernel
theorem dX1_draw_62 : decode cX1_draw 62 = .ok (.iinc 2 1, 3) := by decide +kernel
theorem dX1_draw_65 : decode cX1_draw 65 = .ok (.iinc 3 1, 3) := by decide +kernel
theorem dX1_draw_68 : decode cX1_draw 68 = .ok (.goto (-59), 3) := by decide +kernel
theorem dX1_draw_71 : decode cX1_draw 71 = .ok (.aload_n 0, 1) := by decide +kernel
theorem dX1_draw_72 : decode cX1_draw 72 = .ok (.aload_n 0, 1) := by decide +kernel
theorem dX1_draw_73 : decode cX1_draw 73 = .ok (.getfield 15, 3) := by decide +kernel
theorem dX1_draw_76 : decode cX1_draw 76 = .ok (.ifCond .le 12, 3) := by decide +kernel
theorem dX1_draw_79 : decode cX1_draw 79 = .ok (.iload_n 2, 1) := by decide +kernel
theorem dX1_draw_80 : decode cX1_draw 80 = .ok (.aload_n 0, 1) := by decide +kernel
theorem dX1_draw_81 : decode cX1_draw 81 = .ok (.getfield 15, 3) := by decide +kernel
theorem dX1_draw_84 : decode cX1_draw 84 = .ok (.idiv, 1) := by decide +kernel
theorem dX1_draw_85 : decode cX1_draw 85 = .ok (.goto 4, 3) := by decide +kernel
theorem dX1_draw_88 : decode cX1_draw 88 = .ok (.iconst 0, 1) := by decide +kernel
theorem dX1_draw_89 : decode cX1_draw 89 = .ok (.putfield 19, 3) := by decide +kernel
theorem dX1_draw_92 : decode cX1_draw 92 = .ok (.return_, 1) := by decide +kernel
theorem dX1_cells_0 : decode cX1_cells 0 = .ok (.aload_n 0, 1) := by decide +kernel
theorem dX1_cells_1 : decode cX1_cells 1 = .ok (.getfield 15, 3) := by decide +kernel
theorem dX1_cells_4 : decode cX1_cells 4 = .ok (.aload_n 0, 1) := by decide +kernel
theorem dX1_cells_5 : decode cX1_cells 5 = .ok (.getfield 19, 3) := by decide +kernel
theorem dX1_cells_8 : decode cX1_cells 8 = .ok (.imul, 1) := by decide +kernel
theorem dX1_cells_9 : decode cX1_cells 9 = .ok (.ireturn, 1) := by decide +kernel
theorem dX1_has_0 : decode cX1_has 0 = .ok (.iload_n 1, 1) := by decide +kernel
theorem dX1_has_1 : decode cX1_has 1 = .ok (.ifCond .lt 20, 3) := by decide +kernel
theorem dX1_has_4 : decode cX1_has 4 = .ok (.iload_n 1, 1) := by decide +kernel
theorem dX1_has_5 : decode cX1_has 5 = .ok (.aload_n 0, 1) := by decide +kernel
theorem dX1_has_6 : decode cX1_has 6 = .ok (.getfield 15, 3) := by decide +kernel
theorem dX1_has_9 : decode cX1_has 9 = .ok (.aload_n 0, 1) := by decide +kernel
theorem dX1_has_10 : decode cX1_has 10 = .ok (.getfield 19, 3) := by decide +kernel
theorem dX1_has_13 : decode cX1_has 13 = .ok (.imul, 1) := by decide +kernel
theorem dX1_has_14 : decode cX1_has 14 = .ok (.if_icmp .ge 7, 3) := by decide +kernel
theorem dX1_has_17 : decode cX1_has 17 = .ok (.iconst 1, 1) := by decide +kernel
theorem dX1_has_18 : decode cX1_has 18 = .ok (.goto 4, 3) := by decide +kernel
theorem dX1_has_21 : decode cX1_has 21 = .ok (.iconst 0, 1) := by decide +kernel
theorem dX1_has_22 : decode cX1_has 22 = .ok (.ireturn, 1) := by decide +kernel
theorem dX1_groundAt_0 : decode cX1_groundAt 0 = .ok (.iload_n 1, 1) := by decide +kernel
theorem dX1_groundAt_1 : decode cX1_groundAt 1 = .ok (.ifCond .lt 21, 3) := by decide +kernel
theorem dX1_groundAt_4 : decode cX1_groundAt 4 = .ok (.iload_n 1, 1) := by decide +kernel
theorem dX1_groundAt_5 : decode cX1_groundAt 5 = .ok (.aload_n 0, 1) := by decide +kernel
theorem dX1_groundAt_6 : decode cX1_groundAt 6 = .ok (.getfield 9, 3) := by decide +kernel
theorem dX1_groundAt_9 : decode cX1_groundAt 9 = .ok (.arraylength, 1) := by decide +kernel
theorem dX1_groundAt_10 : decode cX1_groundAt 10 = .ok (.if_icmp .ge 12, 3) := by decide +kernel
theorem dX1_groundAt_13 : decode cX1_groundAt 13 = .ok (.aload_n 0, 1) := by decide +kernel
theorem dX1_groundAt_14 : decode cX1_groundAt 14 = .ok (.getfield 9, 3) := by decide +kernel
theorem dX1_groundAt_17 : decode cX1_groundAt 17 = .ok (.iload_n 1, 1) := by decide +kernel
theorem dX1_groundAt_18 : decode cX1_groundAt 18 = .ok (.iaload, 1) := by decide +kernel
theorem dX1_groundAt_19 : decode cX1_groundAt 19 = .ok (.goto 4, 3) := by decide +kernel
theorem dX1_groundAt_22 : decode cX1_groundAt 22 = .ok (.iconst 0, 1) := by decide +kernel
theorem dX1_groundAt_23 : decode cX1_groundAt 23 = .ok (.ireturn, 1) := by decide +kernel
theorem dX1_beside_0 : decode cX1_beside 0 = .ok (.aload_n 0, 1) := by decide +kernel
theorem dX1_beside_1 : decode cX1_beside 1 = .ok (.iload_n 1, 1) := by decide +kernel
theorem dX1_beside_2 : decode cX1_beside 2 = .ok (.invokevirtual 34, 3) := by decide +kernel
theorem dX1_beside_5 : decode cX1_beside 5 = .ok (.ifCond .eq 10, 3) := by decide +kernel
theorem dX1_beside_8 : decode cX1_beside 8 = .ok (.aload_n 0, 1) := by decide +kernel
theorem dX1_beside_9 : decode cX1_beside 9 = .ok (.getfield 19, 3) := by decide +kernel
theorem dX1_beside_12 : decode cX1_beside 12 = .ok (.ifCond .gt 5, 3) := by decide +kernel
theorem dX1_beside_15 : decode cX1_beside 15 = .ok (.iconst (-1), 1) := by decide +kernel
theorem dX1_beside_16 : decode cX1_beside 16 = .ok (.ireturn, 1) := by decide +kernel
theorem dX1_beside_17 : decode cX1_beside 17 = .ok (.iload_n 1, 1) := by decide +kernel
theorem dX1_beside_18 : decode cX1_beside 18 = .ok (.aload_n 0, 1) := by decide +kernel
theorem dX1_beside_19 : decode cX1_beside 19 = .ok (.getfield 19, 3) := by decide +kernel
theorem dX1_beside_22 : decode cX1_beside 22 = .ok (.idiv, 1) := by decide +kernel
theorem dX1_beside_23 : decode cX1_beside 23 = .ok (.getstatic 38, 3) := by decide +kernel
theorem dX1_beside_26 : decode cX1_beside 26 = .ok (.iload_n 2, 1) := by decide +kernel
theorem dX1_beside_27 : decode cX1_beside 27 = .ok (.invokestatic 41, 3) := by decide +kernel
theorem dX1_beside_30 : decode cX1_beside 30 = .ok (.iadd, 1) := by decide +kernel
theorem dX1_beside_31 : decode cX1_beside 31 = .ok (.istore_n 3, 1) := by decide +kernel
theorem dX1_beside_32 : decode cX1_beside 32 = .ok (.iload_n 1, 1) := by decide +kernel
theorem dX1_beside_33 : decode cX1_beside 33 = .ok (.aload_n 0, 1) := by decide +kernel
theorem dX1_beside_34 : decode cX1_beside 34 = .ok (.getfield 19, 3) := by decide +kernel
theorem dX1_beside_37 : decode cX1_beside 37 = .ok (.irem, 1) := by decide +kernel
theorem dX1_beside_38 : decode cX1_beside 38 = .ok (.getstatic 45, 3) := by decide +kernel
theorem dX1_beside_41 : decode cX1_beside 41 = .ok (.iload_n 2, 1) := by decide +kernel
theorem dX1_beside_42 : decode cX1_beside 42 = .ok (.invokestatic 41, 3) := by decide +kernel
theorem dX1_beside_45 : decode cX1_beside 45 = .ok (.iadd, 1) := by decide +kernel
theorem dX1_beside_46 : decode cX1_beside 46 = .ok (.istore 4, 2) := by decide +kernel
theorem dX1_beside_48 : decode cX1_beside 48 = .ok (.iload_n 3, 1) := by decide +kernel
theorem dX1_beside_49 : decode cX1_beside 49 = .ok (.ifCond .lt 25, 3) := by decide +kernel
theorem dX1_beside_52 : decode cX1_beside 52 = .ok (.iload_n 3, 1) := by decide +kernel
theorem dX1_beside_53 : decode cX1_beside 53 = .ok (.aload_n 0, 1) := by decide +kernel
theorem dX1_beside_54 : decode cX1_beside 54 = .ok (.getfield 15, 3) := by decide +kernel
theorem dX1_beside_57 : decode cX1_beside 57 = .ok (.if_icmp .ge 17, 3) := by decide +kernel
theorem dX1_beside_60 : decode cX1_beside 60 = .ok (.iload 4, 2) := by decide +kernel
theorem dX1_beside_62 : decode cX1_beside 62 = .ok (.ifCond .lt 12, 3) := by decide +kernel
theorem dX1_beside_65 : decode cX1_beside 65 = .ok (.iload 4, 2) := by decide +kernel
theorem dX1_beside_67 : decode cX1_beside 67 = .ok (.aload_n 0, 1) := by decide +kernel
theorem dX1_beside_68 : decode cX1_beside 68 = .ok (.getfield 19, 3) := by decide +kernel
theorem dX1_beside_71 : decode cX1_beside 71 = .ok (.if_icmp .lt 5, 3) := by decide +kernel
theorem dX1_beside_74 : decode cX1_beside 74 = .ok (.iconst (-1), 1) := by decide +kernel
theorem dX1_beside_75 : decode cX1_beside 75 = .ok (.ireturn, 1) := by decide +kernel
theorem dX1_beside_76 : decode cX1_beside 76 = .ok (.iload_n 3, 1) := by decide +kernel
theorem dX1_beside_77 : decode cX1_beside 77 = .ok (.aload_n 0, 1) := by decide +kernel
theorem dX1_beside_78 : decode cX1_beside 78 = .ok (.getfield 19, 3) := by decide +kernel
theorem dX1_beside_81 : decode cX1_beside 81 = .ok (.imul, 1) := by decide +kernel
theorem dX1_beside_82 : decode cX1_beside 82 = .ok (.iload 4, 2) := by decide +kernel
theorem dX1_beside_84 : decode cX1_beside 84 = .ok (.iadd, 1) := by decide +kernel
theorem dX1_beside_85 : decode cX1_beside 85 = .ok (.ireturn, 1) := by decide +kernel
theorem dX1_hasBeach_0 : decode cX1_hasBeach 0 = .ok (.iconst 0, 1) := by decide +kernel
theorem dX1_hasBeach_1 : decode cX1_hasBeach 1 = .ok (.istore_n 1, 1) := by decide +kernel
theorem dX1_hasBeach_2 : decode cX1_hasBeach 2 = .ok (.iload_n 1, 1) := by decide +kernel
theorem dX1_hasBeach_3 : decode cX1_hasBeach 3 = .ok (.aload_n 0, 1) := by decide +kernel
theorem dX1_hasBeach_4 : decode cX1_hasBeach 4 = .ok (.invokevirtual 48, 3) := by decide +kernel
theorem dX1_hasBeach_7 : decode cX1_hasBeach 7 = .ok (.if_icmp .ge 21, 3) := by decide +kernel
theorem dX1_hasBeach_10 : decode cX1_hasBeach 10 = .ok (.aload_n 0, 1) := by decide +kernel
theorem dX1_hasBeach_11 : decode cX1_hasBeach 11 = .ok (.iload_n 1, 1) := by decide +kernel
theorem dX1_hasBeach_12 : decode cX1_hasBeach 12 = .ok (.invokevirtual 52, 3) := by decide +kernel
theorem dX1_hasBeach_15 : decode cX1_hasBeach 15 = .ok (.bipush 30, 2) := by decide +kernel
theorem dX1_hasBeach_17 : decode cX1_hasBeach 17 = .ok (.if_icmp .ne 5, 3) := by decide +kernel
theorem dX1_hasBeach_20 : decode cX1_hasBeach 20 = .ok (.iconst 1, 1) := by decide +kernel
theorem dX1_hasBeach_21 : decode cX1_hasBeach 21 = .ok (.ireturn, 1) := by decide +kernel
theorem dX1_hasBeach_22 : decode cX1_hasBeach 22 = .ok (.iinc 1 1, 3) := by decide +kernel
theorem dX1_hasBeach_25 : decode cX1_hasBeach 25 = .ok (.goto (-23), 3) := by decide +kernel
theorem dX1_hasBeach_28 : decode cX1_hasBeach 28 = .ok (.iconst 0, 1) := by decide +kernel
theorem dX1_hasBeach_29 : decode cX1_hasBeach 29 = .ok (.ireturn, 1) := by decide +kernel
theorem dX1_seaSeenFrom_0 : decode cX1_seaSeenFrom 0 = .ok (.iconst 0, 1) := by decide +kernel
theorem dX1_seaSeenFrom_1 : decode cX1_seaSeenFrom 1 = .ok (.istore_n 2, 1) := by decide +kernel
theorem dX1_seaSeenFrom_2 : decode cX1_seaSeenFrom 2 = .ok (.iconst 0, 1) := by decide +kernel
theorem dX1_seaSeenFrom_3 : decode cX1_seaSeenFrom 3 = .ok (.istore_n 3, 1) := by decide +kernel
theorem dX1_seaSeenFrom_4 : decode cX1_seaSeenFrom 4 = .ok (.iload_n 3, 1) := by decide +kernel
theorem dX1_seaSeenFrom_5 : decode cX1_seaSeenFrom 5 = .ok (.bipush 8, 2) := by decide +kernel
theorem dX1_seaSeenFrom_7 : decode cX1_seaSeenFrom 7 = .ok (.if_icmp .ge 18, 3) := by decide +kernel
theorem dX1_seaSeenFrom_10 : decode cX1_seaSeenFrom 10 = .ok (.iload_n 2, 1) := by decide +kernel
theorem dX1_seaSeenFrom_11 : decode cX1_seaSeenFrom 11 = .ok (.aload_n 0, 1) := by decide +kernel
theorem dX1_seaSeenFrom_12 : decode cX1_seaSeenFrom 12 = .ok (.iload_n 1, 1) := by decide +kernel
theorem dX1_seaSeenFrom_13 : decode cX1_seaSeenFrom 13 = .ok (.iload_n 3, 1) := by decide +kernel
theorem dX1_seaSeenFrom_14 : decode cX1_seaSeenFrom 14 = .ok (.invokevirtual 55, 3) := by decide +kernel
theorem dX1_seaSeenFrom_17 : decode cX1_seaSeenFrom 17 = .ok (.iadd, 1) := by decide +kernel
theorem dX1_seaSeenFrom_18 : decode cX1_seaSeenFrom 18 = .ok (.istore_n 2, 1) := by decide +kernel
theorem dX1_seaSeenFrom_19 : decode cX1_seaSeenFrom 19 = .ok (.iinc 3 1, 3) := by decide +kernel
theorem dX1_seaSeenFrom_22 : decode cX1_seaSeenFrom 22 = .ok (.goto (-18), 3) := by decide +kernel
theorem dX1_seaSeenFrom_25 : decode cX1_seaSeenFrom 25 = .ok (.iload_n 2, 1) := by decide +kernel
theorem dX1_seaSeenFrom_26 : decode cX1_seaSeenFrom 26 = .ok (.ireturn, 1) := by decide +kernel
theorem dX1_seaSeenBy_0 : decode cX1_seaSeenBy 0 = .ok (.iconst 0, 1) := by decide +kernel
theorem dX1_seaSeenBy_1 : decode cX1_seaSeenBy 1 = .ok (.istore_n 3, 1) := by decide +kernel
theorem dX1_seaSeenBy_2 : decode cX1_seaSeenBy 2 = .ok (.aload_n 0, 1) := by decide +kernel
theorem dX1_seaSeenBy_3 : decode cX1_seaSeenBy 3 = .ok (.iload_n 1, 1) := by decide +kernel
theorem dX1_seaSeenBy_4 : decode cX1_seaSeenBy 4 = .ok (.iload_n 2, 1) := by decide +kernel
theorem dX1_seaSeenBy_5 : decode cX1_seaSeenBy 5 = .ok (.invokevirtual 59, 3) := by decide +kernel
theorem dX1_seaSeenBy_8 : decode cX1_seaSeenBy 8 = .ok (.istore 4, 2) := by decide +kernel
theorem dX1_seaSeenBy_10 : decode cX1_seaSeenBy 10 = .ok (.iconst 1, 1) := by decide +kernel
theorem dX1_seaSeenBy_11 : decode cX1_seaSeenBy 11 = .ok (.istore 5, 2) := by decide +kernel
theorem dX1_seaSeenBy_13 : decode cX1_seaSeenBy 13 = .ok (.iload 5, 2) := by decide +kernel
theorem dX1_seaSeenBy_15 : decode cX1_seaSeenBy 15 = .ok (.bipush 8, 2) := by decide +kernel
theorem dX1_seaSeenBy_17 : decode cX1_seaSeenBy 17 = .ok (.if_icmp .ge 50, 3) := by decide +kernel
theorem dX1_seaSeenBy_20 : decode cX1_seaSeenBy 20 = .ok (.iload 4, 2) := by decide +kernel
theorem dX1_seaSeenBy_22 : decode cX1_seaSeenBy 22 = .ok (.iconst (-1), 1) := by decide +kernel
theorem dX1_seaSeenBy_23 : decode cX1_seaSeenBy 23 = .ok (.if_icmp .eq 12, 3) := by decide +kernel
theorem dX1_seaSeenBy_26 : decode cX1_seaSeenBy 26 = .ok (.aload_n 0, 1) := by decide +kernel
theorem dX1_seaSeenBy_27 : decode cX1_seaSeenBy 27 = .ok (.iload 4, 2) := by decide +kernel
theorem dX1_seaSeenBy_29 : decode cX1_seaSeenBy 29 = .ok (.invokevirtual 52, 3) := by decide +kernel
theorem dX1_seaSeenBy_32 : decode cX1_seaSeenBy 32 = .ok (.ifCond .ne 5, 3) := by decide +kernel
theorem dX1_seaSeenBy_35 : decode cX1_seaSeenBy 35 = .ok (.iload_n 3, 1) := by decide +kernel
theorem dX1_seaSeenBy_36 : decode cX1_seaSeenBy 36 = .ok (.ireturn, 1) := by decide +kernel
theorem dX1_seaSeenBy_37 : decode cX1_seaSeenBy 37 = .ok (.aload_n 0, 1) := by decide +kernel
theorem dX1_seaSeenBy_38 : decode cX1_seaSeenBy 38 = .ok (.iload 4, 2) := by decide +kernel
theorem dX1_seaSeenBy_40 : decode cX1_seaSeenBy 40 = .ok (.invokevirtual 52, 3) := by decide +kernel
theorem dX1_seaSeenBy_43 : decode cX1_seaSeenBy 43 = .ok (.invokestatic 62, 3) := by decide +kernel
theorem dX1_seaSeenBy_46 : decode cX1_seaSeenBy 46 = .ok (.ifCond .eq 6, 3) := by decide +kernel
theorem dX1_seaSeenBy_49 : decode cX1_seaSeenBy 49 = .ok (.iinc 3 1, 3) := by decide +kernel
theorem dX1_seaSeenBy_52 : decode cX1_seaSeenBy 52 = .ok (.aload_n 0, 1) := by decide +kernel
theorem dX1_seaSeenBy_53 : decode cX1_seaSeenBy 53 = .ok (.iload 4, 2) := by decide +kernel
theorem dX1_seaSeenBy_55 : decode cX1_seaSeenBy 55 = .ok (.iload_n 2, 1) := by decide +kernel
theorem dX1_seaSeenBy_56 : decode cX1_seaSeenBy 56 = .ok (.invokevirtual 59, 3) := by decide +kernel
theorem dX1_seaSeenBy_59 : decode cX1_seaSeenBy 59 = .ok (.istore 4, 2) := by decide +kernel
theorem dX1_seaSeenBy_61 : decode cX1_seaSeenBy 61 = .ok (.iinc 5 1, 3) := by decide +kernel
theorem dX1_seaSeenBy_64 : decode cX1_seaSeenBy 64 = .ok (.goto (-51), 3) := by decide +kernel
theorem dX1_seaSeenBy_67 : decode cX1_seaSeenBy 67 = .ok (.iload_n 3, 1) := by decide +kernel
theorem dX1_seaSeenBy_68 : decode cX1_seaSeenBy 68 = .ok (.ireturn, 1) := by decide +kernel
theorem dX1_copyFrom_0 : decode cX1_copyFrom 0 = .ok (.aload_n 1, 1) := by decide +kernel
theorem dX1_copyFrom_1 : decode cX1_copyFrom 1 = .ok (.getfield 9, 3) := by decide +kernel
theorem dX1_copyFrom_4 : decode cX1_copyFrom 4 = .ok (.aload_n 0, 1) := by decide +kernel
theorem dX1_copyFrom_5 : decode cX1_copyFrom 5 = .ok (.getfield 9, 3) := by decide +kernel
theorem dX1_copyFrom_8 : decode cX1_copyFrom 8 = .ok (.invokestatic 65, 3) := by decide +kernel
theorem dX1_copyFrom_11 : decode cX1_copyFrom 11 = .ok (.aload_n 0, 1) := by decide +kernel
theorem dX1_copyFrom_12 : decode cX1_copyFrom 12 = .ok (.aload_n 1, 1) := by decide +kernel
theorem dX1_copyFrom_13 : decode cX1_copyFrom 13 = .ok (.getfield 15, 3) := by decide +kernel
theorem dX1_copyFrom_16 : decode cX1_copyFrom 16 = .ok (.putfield 15, 3) := by decide +kernel
theorem dX1_copyFrom_19 : decode cX1_copyFrom 19 = .ok (.aload_n 0, 1) := by decide +kernel
theorem dX1_copyFrom_20 : decode cX1_copyFrom 20 = .ok (.aload_n 1, 1) := by decide +kernel
theorem dX1_copyFrom_21 : decode cX1_copyFrom 21 = .ok (.getfield 19, 3) := by decide +kernel
theorem dX1_copyFrom_24 : decode cX1_copyFrom 24 = .ok (.putfield 19, 3) := by decide +kernel
theorem dX1_copyFrom_27 : decode cX1_copyFrom 27 = .ok (.return_, 1) := by decide +kernel
theorem dX2_init_0 : decode cX2_init 0 = .ok (.aload_n 0, 1) := by decide +kernel
theorem dX2_init_1 : decode cX2_init 1 = .ok (.invokespecial 3, 3) := by decide +kernel
theorem dX2_init_4 : decode cX2_init 4 = .ok (.aload_n 0, 1) := by decide +kernel
theorem dX2_init_5 : decode cX2_init 5 = .ok (.sipush 192, 3) := by decide +kernel
theorem dX2_init_8 : decode cX2_init 8 = .ok (.newarray .int, 2) := by decide +kernel
theorem dX2_init_10 : decode cX2_init 10 = .ok (.putfield 11, 3) := by decide +kernel
theorem dX2_init_13 : decode cX2_init 13 = .ok (.return_, 1) := by decide +kernel
theorem dX2_movesFrom_0 : decode cX2_movesFrom 0 = .ok (.iload_n 1, 1) := by decide +kernel
theorem dX2_movesFrom_1 : decode cX2_movesFrom 1 = .ok (.ifCond .lt 20, 3) := by decide +kernel
theorem dX2_movesFrom_4 : decode cX2_movesFrom 4 = .ok (.iload_n 1, 1) := by decide +kernel
theorem dX2_movesFrom_5 : decode cX2_movesFrom 5 = .ok (.bipush 64, 2) := by decide +kernel
theorem dX2_movesFrom_7 : decode cX2_movesFrom 7 = .ok (.if_icmp .ge 14, 3) := by decide +kernel
theorem dX2_movesFrom_10 : decode cX2_movesFrom 10 = .ok (.aload_n 0, 1) := by decide +kernel
theorem dX2_movesFrom_11 : decode cX2_movesFrom 11 = .ok (.getfield 11, 3) := by decide +kernel
theorem dX2_movesFrom_14 : decode cX2_movesFrom 14 = .ok (.iload_n 1, 1) := by decide +kernel
theorem dX2_movesFrom_15 : decode cX2_movesFrom 15 = .ok (.invokestatic 15, 3) := by decide +kernel
theorem dX2_movesFrom_18 : decode cX2_movesFrom 18 = .ok (.goto 5, 3) := by decide +kernel
theorem dX2_movesFrom_21 : decode cX2_movesFrom 21 = .ok (.bipush (-9), 2) := by decide +kernel
theorem dX2_movesFrom_23 : decode cX2_movesFrom 23 = .ok (.ireturn, 1) := by decide +kernel
theorem dX2_reckon_0 : decode cX2_reckon 0 = .ok (.iconst 0, 1) := by decide +kernel
theorem dX2_reckon_1 : decode cX2_reckon 1 = .ok (.istore_n 3, 1) := by decide +kernel
theorem dX2_reckon_2 : decode cX2_reckon 2 = .ok (.iload_n 3, 1) := by decide +kernel
theorem dX2_reckon_3 : decode cX2_reckon 3 = .ok (.aload_n 0, 1) := by decide +kernel
theorem dX2_reckon_4 : decode cX2_reckon 4 = .ok (.getfield 11, 3) := by decide +kernel
theorem dX2_reckon_7 : decode cX2_reckon 7 = .ok (.arraylength, 1) := by decide +kernel
theorem dX2_reckon_8 : decode cX2_reckon 8 = .ok (.if_icmp .ge 17, 3) := by decide +kernel
theorem dX2_reckon_11 : decode cX2_reckon 11 = .ok (.aload_n 0, 1) := by decide +kernel
theorem dX2_reckon_12 : decode cX2_reckon 12 = .ok (.getfield 11, 3) := by decide +kernel
theorem dX2_reckon_15 : decode cX2_reckon 15 = .ok (.iload_n 3, 1) := by decide +kernel
theorem dX2_reckon_16 : decode cX2_reckon 16 = .ok (.bipush (-9), 2) := by decide +kernel
theorem dX2_reckon_18 : decode cX2_reckon 18 = .ok (.iastore, 1) := by decide +kernel
theorem dX2_reckon_19 : decode cX2_reckon 19 = .ok (.iinc 3 1, 3) := by decide +kernel
theorem dX2_reckon_22 : decode cX2_reckon 22 = .ok (.goto (-20), 3) := by decide +kernel
theorem dX2_reckon_25 : decode cX2_reckon 25 = .ok (.iconst 1, 1) := by decide +kernel
theorem dX2_reckon_26 : decode cX2_reckon 26 = .ok (.istore_n 3, 1) := by decide +kernel
theorem dX2_reckon_27 : decode cX2_reckon 27 = .ok (.iconst 1, 1) := by decide +kernel
theorem dX2_reckon_28 : decode cX2_reckon 28 = .ok (.istore 4, 2) := by decide +kernel
theorem dX2_reckon_30 : decode cX2_reckon 30 = .ok (.iload 4, 2) := by decide +kernel
theorem dX2_reckon_32 : decode cX2_reckon 32 = .ok (.aload_n 0, 1) := by decide +kernel
theorem dX2_reckon_33 : decode cX2_reckon 33 = .ok (.getfield 11, 3) := by decide +kernel
theorem dX2_reckon_36 : decode cX2_reckon 36 = .ok (.arraylength, 1) := by decide +kernel
theorem dX2_reckon_37 : decode cX2_reckon 37 = .ok (.if_icmp .gt 22, 3) := by decide +kernel
theorem dX2_reckon_40 : decode cX2_reckon 40 = .ok (.iload_n 3, 1) := by decide +kernel
theorem dX2_reckon_41 : decode cX2_reckon 41 = .ok (.ifCond .eq 18, 3) := by decide +kernel
theorem dX2_reckon_44 : decode cX2_reckon 44 = .ok (.aload_n 0, 1) := by decide +kernel
theorem dX2_reckon_45 : decode cX2_reckon 45 = .ok (.aload_n 1, 1) := by decide +kernel
theorem dX2_reckon_46 : decode cX2_reckon 46 = .ok (.iload_n 2, 1) := by decide +kernel
theorem dX2_reckon_47 : decode cX2_reckon 47 = .ok (.iload 4, 2) := by decide +kernel
theorem dX2_reckon_49 : decode cX2_reckon 49 = .ok (.invokevirtual 19, 3) := by decide +kernel
theorem dX2_reckon_52 : decode cX2_reckon 52 = .ok (.istore_n 3, 1) := by decide +kernel
theorem dX2_reckon_53 : decode cX2_reckon 53 = .ok (.iinc 4 1, 3) := by decide +kernel
theorem dX2_reckon_56 : decode cX2_reckon 56 = .ok (.goto (-26), 3) := by decide +kernel
theorem dX2_reckon_59 : decode cX2_reckon 59 = .ok (.return_, 1) := by decide +kernel
theorem dX2_markRound_0 : decode cX2_markRound 0 = .ok (.iconst 0, 1) := by decide +kernel
theorem dX2_markRound_1 : decode cX2_markRound 1 = .ok (.istore 4, 2) := by decide +kernel
theorem dX2_markRound_3 : decode cX2_markRound 3 = .ok (.iconst 0, 1) := by decide +kernel
theorem dX2_markRound_4 : decode cX2_markRound 4 = .ok (.istore 5, 2) := by decide +kernel
theorem dX2_markRound_6 : decode cX2_markRound 6 = .ok (.iload 5, 2) := by decide +kernel
theorem dX2_markRound_8 : decode cX2_markRound 8 = .ok (.aload_n 0, 1) := by decide +kernel
theorem dX2_markRound_9 : decode cX2_markRound 9 = .ok (.getfield 11, 3) := by decide +kernel
theorem dX2_markRound_12 : decode cX2_markRound 12 = .ok (.arraylength, 1) := by decide +kernel
theorem dX2_markRound_13 : decode cX2_markRound 13 = .ok (.if_icmp .ge 46, 3) := by decide +kernel
theorem dX2_markRound_16 : decode cX2_markRound 16 = .ok (.aload_n 0, 1) := by decide +kernel
theorem dX2_markRound_17 : decode cX2_markRound 17 = .ok (.getfield 11, 3) := by decide +kernel
theorem dX2_markRound_20 : decode cX2_markRound 20 = .ok (.iload 5, 2) := by decide +kernel
theorem dX2_markRound_22 : decode cX2_markRound 22 = .ok (.iaload, 1) := by decide +kernel
theorem dX2_markRound_23 : decode cX2_markRound 23 = .ok (.bipush (-9), 2) := by decide +kernel
theorem dX2_markRound_25 : decode cX2_markRound 25 = .ok (.if_icmp .ne 28, 3) := by decide +kernel
theorem dX2_markRound_28 : decode cX2_markRound 28 = .ok (.aload_n 0, 1) := by decide +kernel
theorem dX2_markRound_29 : decode cX2_markRound 29 = .ok (.aload_n 1, 1) := by decide +kernel
theorem dX2_markRound_30 : decode cX2_markRound 30 = .ok (.iload_n 2, 1) := by decide +kernel
theorem dX2_markRound_31 : decode cX2_markRound 31 = .ok (.iload 5, 2) := by decide +kernel
theorem dX2_markRound_33 : decode cX2_markRound 33 = .ok (.iload_n 3, 1) := by decide +kernel
theorem dX2_markRound_34 : decode cX2_markRound 34 = .ok (.iconst 1, 1) := by decide +kernel
theorem dX2_markRound_35 : decode cX2_markRound 35 = .ok (.isub, 1) := by decide +kernel
theorem dX2_markRound_36 : decode cX2_markRound 36 = .ok (.invokevirtual 23, 3) := by decide +kernel
theorem dX2_markRound_39 : decode cX2_markRound 39 = .ok (.ifCond .eq 14, 3) := by decide +kernel
theorem dX2_markRound_42 : decode cX2_markRound 42 = .ok (.aload_n 0, 1) := by decide +kernel
theorem dX2_markRound_43 : decode cX2_markRound 43 = .ok (.getfield 11, 3) := by decide +kernel
theorem dX2_markRound_46 : decode cX2_markRound 46 = .ok (.iload 5, 2) := by decide +kernel
theorem dX2_markRound_48 : decode cX2_markRound 48 = .ok (.iload_n 3, 1) := by decide +kernel
theorem dX2_markRound_49 : decode cX2_markRound 49 = .ok (.iastore, 1) := by decide +kernel
theorem dX2_markRound_50 : decode cX2_markRound 50 = .ok (.iconst 1, 1) := by decide +kernel
theorem dX2_markRound_51 : decode cX2_markRound 51 = .ok (.istore 4, 2) := by decide +kernel
theorem dX2_markRound_53 : decode cX2_markRound 53 = .ok (.iinc 5 1, 3) := by decide +kernel
theorem dX2_markRound_56 : decode cX2_markRound 56 = .ok (.goto (-50), 3) := by decide +kernel
theorem dX2_markRound_59 : decode cX2_markRound 59 = .ok (.iload 4, 2) := by decide +kernel
theorem dX2_markRound_61 : decode cX2_markRound 61 = .ok (.ireturn, 1) := by decide +kernel
theorem dX2_isOneMoveBefore_0 : decode cX2_isOneMoveBefore 0 = .ok (.iload_n 3, 1) := by decide +kernel
theorem dX2_isOneMoveBefore_1 : decode cX2_isOneMoveBefore 1 = .ok (.bipush 64, 2) := by decide +kernel
theorem dX2_isOneMoveBefore_3 : decode cX2_isOneMoveBefore 3 = .ok (.irem, 1) := by decide +kernel
theorem dX2_isOneMoveBefore_4 : decode cX2_isOneMoveBefore 4 = .ok (.istore 5, 2) := by decide +kernel
theorem dX2_isOneMoveBefore_6 : decode cX2_isOneMoveBefore 6 = .ok (.iload_n 3, 1) := by decide +kernel
theorem dX2_isOneMoveBefore_7 : decode cX2_isOneMoveBefore 7 = .ok (.bipush 64, 2) := by decide +kernel
theorem dX2_isOneMoveBefore_9 : decode cX2_isOneMoveBefore 9 = .ok (.idiv, 1) := by decide +kernel
theorem dX2_isOneMoveBefore_10 : decode cX2_isOneMoveBefore 10 = .ok (.istore 6, 2) := by decide +kernel
theorem dX2_isOneMoveBefore_12 : decode cX2_isOneMoveBefore 12 = .ok (.aload_n 1, 1) := by decide +kernel
theorem dX2_isOneMoveBefore_13 : decode cX2_isOneMoveBefore 13 = .ok (.iload 5, 2) := by decide +kernel
theorem dX2_isOneMoveBefore_15 : decode cX2_isOneMoveBefore 15 = .ok (.invokevirtual 27, 3) := by decide +kernel
theorem dX2_isOneMoveBefore_18 : decode cX2_isOneMoveBefore 18 = .ok (.ifCond .ne 5, 3) := by decide +kernel
theorem dX2_isOneMoveBefore_21 : decode cX2_isOneMoveBefore 21 = .ok (.iconst 0, 1) := by decide +kernel
theorem dX2_isOneMoveBefore_22 : decode cX2_isOneMoveBefore 22 = .ok (.ireturn, 1) := by decide +kernel
theorem dX2_isOneMoveBefore_23 : decode cX2_isOneMoveBefore 23 = .ok (.iconst 0, 1) := by decide +kernel
theorem dX2_isOneMoveBefore_24 : decode cX2_isOneMoveBefore 24 = .ok (.istore 7, 2) := by decide +kernel
theorem dX2_isOneMoveBefore_26 : decode cX2_isOneMoveBefore 26 = .ok (.iload 7, 2) := by decide +kernel
theorem dX2_isOneMoveBefore_28 : decode cX2_isOneMoveBefore 28 = .ok (.bipush 8, 2) := by decide +kernel
theorem dX2_isOneMoveBefore_30 : decode cX2_isOneMoveBefore 30 = .ok (.if_icmp .ge 41, 3) := by decide +kernel
theorem dX2_isOneMoveBefore_33 : decode cX2_isOneMoveBefore 33 = .ok (.iload 7, 2) := by decide +kernel
theorem dX2_isOneMoveBefore_35 : decode cX2_isOneMoveBefore 35 = .ok (.iload_n 2, 1) := by decide +kernel
theorem dX2_isOneMoveBefore_36 : decode cX2_isOneMoveBefore 36 = .ok (.invokestatic 33, 3) := by decide +kernel
theorem dX2_isOneMoveBefore_39 : decode cX2_isOneMoveBefore 39 = .ok (.aload_n 1, 1) := by decide +kernel
theorem dX2_isOneMoveBefore_40 : decode cX2_isOneMoveBefore 40 = .ok (.getfield 37, 3) := by decide +kernel
theorem dX2_isOneMoveBefore_43 : decode cX2_isOneMoveBefore 43 = .ok (.if_icmp .lt 22, 3) := by decide +kernel
theorem dX2_isOneMoveBefore_46 : decode cX2_isOneMoveBefore 46 = .ok (.aload_n 0, 1) := by decide +kernel
theorem dX2_isOneMoveBefore_47 : decode cX2_isOneMoveBefore 47 = .ok (.aload_n 1, 1) := by decide +kernel
theorem dX2_isOneMoveBefore_48 : decode cX2_isOneMoveBefore 48 = .ok (.iload_n 2, 1) := by decide +kernel
theorem dX2_isOneMoveBefore_49 : decode cX2_isOneMoveBefore 49 = .ok (.iload 5, 2) := by decide +kernel
theorem dX2_isOneMoveBefore_51 : decode cX2_isOneMoveBefore 51 = .ok (.iload 6, 2) := by decide +kernel
theorem dX2_isOneMoveBefore_53 : decode cX2_isOneMoveBefore 53 = .ok (.iload 7, 2) := by decide +kernel
theorem dX2_isOneMoveBefore_55 : decode cX2_isOneMoveBefore 55 = .ok (.invokevirtual 41, 3) := by decide +kernel
theorem dX2_isOneMoveBefore_58 : decode cX2_isOneMoveBefore 58 = .ok (.iload 4, 2) := by decide +kernel
theorem dX2_isOneMoveBefore_60 : decode cX2_isOneMoveBefore 60 = .ok (.if_icmp .ne 5, 3) := by decide +kernel
theorem dX2_isOneMoveBefore_63 : decode cX2_isOneMoveBefore 63 = .ok (.iconst 1, 1) := by decide +kernel
theorem dX2_isOneMoveBefore_64 : decode cX2_isOneMoveBefore 64 = .ok (.ireturn, 1) := by decide +kernel
theorem dX2_isOneMoveBefore_65 : decode cX2_isOneMoveBefore 65 = .ok (.iinc 7 1, 3) := by decide +kernel
theorem dX2_isOneMoveBefore_68 : decode cX2_isOneMoveBefore 68 = .ok (.goto (-42), 3) := by decide +kernel
theorem dX2_isOneMoveBefore_71 : decode cX2_isOneMoveBefore 71 = .ok (.iconst 0, 1) := by decide +kernel
theorem dX2_isOneMoveBefore_72 : decode cX2_isOneMoveBefore 72 = .ok (.ireturn, 1) := by decide +kernel
theorem dX2_leftBehindMove_0 : decode cX2_leftBehindMove 0 = .ok (.aload_n 1, 1) := by decide +kernel
theorem dX2_leftBehindMove_1 : decode cX2_leftBehindMove 1 = .ok (.getfield 45, 3) := by decide +kernel
theorem dX2_leftBehindMove_4 : decode cX2_leftBehindMove 4 = .ok (.iload_n 3, 1) := by decide +kernel
theorem dX2_leftBehindMove_5 : decode cX2_leftBehindMove 5 = .ok (.iload 5, 2) := by decide +kernel
theorem dX2_leftBehindMove_7 : decode cX2_leftBehindMove 7 = .ok (.invokevirtual 49, 3) := by decide +kernel
theorem dX2_leftBehindMove_10 : decode cX2_leftBehindMove 10 = .ok (.istore 6, 2) := by decide +kernel
theorem dX2_leftBehindMove_12 : decode cX2_leftBehindMove 12 = .ok (.iload 6, 2) := by decide +kernel
theorem dX2_leftBehindMove_14 : decode cX2_leftBehindMove 14 = .ok (.iconst (-1), 1) := by decide +kernel
theorem dX2_leftBehindMove_15 : decode cX2_leftBehindMove 15 = .ok (.if_icmp .ne 5, 3) := by decide +kernel
theorem dX2_leftBehindMove_18 : decode cX2_leftBehindMove 18 = .ok (.iconst 0, 1) := by decide +kernel
theorem dX2_leftBehindMove_19 : decode cX2_leftBehindMove 19 = .ok (.ireturn, 1) := by decide +kernel
theorem dX2_leftBehindMove_20 : decode cX2_leftBehindMove 20 = .ok (.aload_n 1, 1) := by decide +kernel
theorem dX2_leftBehindMove_21 : decode cX2_leftBehindMove 21 = .ok (.iload 6, 2) := by decide +kernel
theorem dX2_leftBehindMove_23 : decode cX2_leftBehindMove 23 = .ok (.invokevirtual 27, 3) := by decide +kernel
theorem dX2_leftBehindMove_26 : decode cX2_leftBehindMove 26 = .ok (.ifCond .ne 6, 3) := by decide +kernel
theorem dX2_leftBehindMove_29 : decode cX2_leftBehindMove 29 = .ok (.bipush (-9), 2) := by decide +kernel
theorem dX2_leftBehindMove_31 : decode cX2_leftBehindMove 31 = .ok (.ireturn, 1) := by decide +kernel
theorem dX2_leftBehindMove_32 : decode cX2_leftBehindMove 32 = .ok (.iload 4, 2) := by decide +kernel
theorem dX2_leftBehindMove_34 : decode cX2_leftBehindMove 34 = .ok (.iconst 2, 1) := by decide +kernel
theorem dX2_leftBehindMove_35 : decode cX2_leftBehindMove 35 = .ok (.if_icmp .ne 38, 3) := by decide +kernel
theorem dX2_leftBehindMove_38 : decode cX2_leftBehindMove 38 = .ok (.aload_n 1, 1) := by decide +kernel
theorem dX2_leftBehindMove_39 : decode cX2_leftBehindMove 39 = .ok (.getfield 45, 3) := by decide +kernel
theorem dX2_leftBehindMove_42 : decode cX2_leftBehindMove 42 = .ok (.iload 6, 2) := by decide +kernel
theorem dX2_leftBehindMove_44 : decode cX2_leftBehindMove 44 = .ok (.iload_n 2, 1) := by decide +kernel
theorem dX2_leftBehindMove_45 : decode cX2_leftBehindMove 45 = .ok (.invokestatic 54, 3) := by decide +kernel
theorem dX2_leftBehindMove_48 : decode cX2_leftBehindMove 48 = .ok (.invokevirtual 49, 3) := by decide +kernel
theorem dX2_leftBehindMove_51 : decode cX2_leftBehindMove 51 = .ok (.istore 6, 2) := by decide +kernel
theorem dX2_leftBehindMove_53 : decode cX2_leftBehindMove 53 = .ok (.iload 6, 2) := by decide +kernel
theorem dX2_leftBehindMove_55 : decode cX2_leftBehindMove 55 = .ok (.iconst (-1), 1) := by decide +kernel
theorem dX2_leftBehindMove_56 : decode cX2_leftBehindMove 56 = .ok (.if_icmp .ne 5, 3) := by decide +kernel
theorem dX2_leftBehindMove_59 : decode cX2_leftBehindMove 59 = .ok (.iconst 0, 1) := by decide +kernel
theorem dX2_leftBehindMove_60 : decode cX2_leftBehindMove 60 = .ok (.ireturn, 1) := by decide +kernel
theorem dX2_leftBehindMove_61 : decode cX2_leftBehindMove 61 = .ok (.aload_n 1, 1) := by decide +kernel
theorem dX2_leftBehindMove_62 : decode cX2_leftBehindMove 62 = .ok (.iload 6, 2) := by decide +kernel
theorem dX2_leftBehindMove_64 : decode cX2_leftBehindMove 64 = .ok (.invokevirtual 27, 3) := by decide +kernel
theorem dX2_leftBehindMove_67 : decode cX2_leftBehindMove 67 = .ok (.ifCond .ne 6, 3) := by decide +kernel
theorem dX2_leftBehindMove_70 : decode cX2_leftBehindMove 70 = .ok (.bipush (-9), 2) := by decide +kernel
theorem dX2_leftBehindMove_72 : decode cX2_leftBehindMove 72 = .ok (.ireturn, 1) := by decide +kernel
theorem dX2_leftBehindMove_73 : decode cX2_leftBehindMove 73 = .ok (.aload_n 0, 1) := by decide +kernel
theorem dX2_leftBehindMove_74 : decode cX2_leftBehindMove 74 = .ok (.getfield 11, 3) := by decide +kernel
theorem dX2_leftBehindMove_77 : decode cX2_leftBehindMove 77 = .ok (.iload 4, 2) := by decide +kernel
theorem dX2_leftBehindMove_79 : decode cX2_leftBehindMove 79 = .ok (.iconst 1, 1) := by decide +kernel
theorem dX2_leftBehindMove_80 : decode cX2_leftBehindMove 80 = .ok (.iadd, 1) := by decide +kernel
theorem dX2_leftBehindMove_81 : decode cX2_leftBehindMove 81 = .ok (.iconst 3, 1) := by decide +kernel
theorem dX2_leftBehindMove_82 : decode cX2_leftBehindMove 82 = .ok (.irem, 1) := by decide +kernel
theorem dX2_leftBehindMove_83 : decode cX2_leftBehindMove 83 = .ok (.bipush 64, 2) := by decide +kernel
theorem dX2_leftBehindMove_85 : decode cX2_leftBehindMove 85 = .ok (.imul, 1) := by decide +kernel
theorem dX2_leftBehindMove_86 : decode cX2_leftBehindMove 86 = .ok (.iload 6, 2) := by decide +kernel
theorem dX2_leftBehindMove_88 : decode cX2_leftBehindMove 88 = .ok (.iadd, 1) := by decide +kernel
theorem dX2_leftBehindMove_89 : decode cX2_leftBehindMove 89 = .ok (.invokestatic 15, 3) := by decide +kernel
theorem dX2_leftBehindMove_92 : decode cX2_leftBehindMove 92 = .ok (.ireturn, 1) := by decide +kernel
theorem dX3_init_0 : decode cX3_init 0 = .ok (.aload_n 0, 1) := by decide +kernel
theorem dX3_init_1 : decode cX3_init 1 = .ok (.invokespecial 3, 3) := by decide +kernel
theorem dX3_init_4 : decode cX3_init 4 = .ok (.aload_n 0, 1) := by decide +kernel
theorem dX3_init_5 : decode cX3_init 5 = .ok (.bipush 80, 2) := by decide +kernel
theorem dX3_init_7 : decode cX3_init 7 = .ok (.newarray .int, 2) := by decide +kernel
theorem dX3_init_9 : decode cX3_init 9 = .ok (.putfield 9, 3) := by decide +kernel
theorem dX3_init_12 : decode cX3_init 12 = .ok (.aload_n 0, 1) := by decide +kernel
theorem dX3_init_13 : decode cX3_init 13 = .ok (.iconst 0, 1) := by decide +kernel
theorem dX3_init_14 : decode cX3_init 14 = .ok (.putfield 15, 3) := by decide +kernel
theorem dX3_init_17 : decode cX3_init 17 = .ok (.return_, 1) := by decide +kernel
theorem dX3_tell_0 : decode cX3_tell 0 = .ok (.aload_n 0, 1) := by decide +kernel
theorem dX3_tell_1 : decode cX3_tell 1 = .ok (.getfield 15, 3) := by decide +kernel
theorem dX3_tell_4 : decode cX3_tell 4 = .ok (.ifCond .lt 35, 3) := by decide +kernel
theorem dX3_tell_7 : decode cX3_tell 7 = .ok (.aload_n 0, 1) := by decide +kernel
theorem dX3_tell_8 : decode cX3_tell 8 = .ok (.getfield 15, 3) := by decide +kernel
theorem dX3_tell_11 : decode cX3_tell 11 = .ok (.aload_n 0, 1) := by decide +kernel
theorem dX3_tell_12 : decode cX3_tell 12 = .ok (.getfield 9, 3) := by decide +kernel
theorem dX3_tell_15 : decode cX3_tell 15 = .ok (.arraylength, 1) := by decide +kernel
theorem dX3_tell_16 : decode cX3_tell 16 = .ok (.if_icmp .ge 23, 3) := by decide +kernel
theorem dX3_tell_19 : decode cX3_tell 19 = .ok (.aload_n 0, 1) := by decide +kernel
theorem dX3_tell_20 : decode cX3_tell 20 = .ok (.getfield 9, 3) := by decide +kernel
theorem dX3_tell_23 : decode cX3_tell 23 = .ok (.aload_n 0, 1) := by decide +kernel
theorem dX3_tell_24 : decode cX3_tell 24 = .ok (.getfield 15, 3) := by decide +kernel
theorem dX3_tell_27 : decode cX3_tell 27 = .ok (.iload_n 1, 1) := by decide +kernel
theorem dX3_tell_28 : decode cX3_tell 28 = .ok (.iastore, 1) := by decide +kernel
theorem dX3_tell_29 : decode cX3_tell 29 = .ok (.aload_n 0, 1) := by decide +kernel
theorem dX3_tell_30 : decode cX3_tell 30 = .ok (.dup, 1) := by decide +kernel
theorem dX3_tell_31 : decode cX3_tell 31 = .ok (.getfield 15, 3) := by decide +kernel
theorem dX3_tell_34 : decode cX3_tell 34 = .ok (.iconst 1, 1) := by decide +kernel
theorem dX3_tell_35 : decode cX3_tell 35 = .ok (.iadd, 1) := by decide +kernel
theorem dX3_tell_36 : decode cX3_tell 36 = .ok (.putfield 15, 3) := by decide +kernel
theorem dX3_tell_39 : decode cX3_tell 39 = .ok (.aload_n 0, 1) := by decide +kernel
theorem dX3_tell_40 : decode cX3_tell 40 = .ok (.getfield 15, 3) := by decide +kernel
theorem dX3_tell_43 : decode cX3_tell 43 = .ok (.ireturn, 1) := by decide +kernel
theorem dX3_forget_0 : decode cX3_forget 0 = .ok (.aload_n 0, 1) := by decide +kernel
theorem dX3_forget_1 : decode cX3_forget 1 = .ok (.iconst 0, 1) := by decide +kernel
theorem dX3_forget_2 : decode cX3_forget 2 = .ok (.putfield 15, 3) := by decide +kernel
theorem dX3_forget_5 : decode cX3_forget 5 = .ok (.return_, 1) := by decide +kernel
theorem dX3_signAt_0 : decode cX3_signAt 0 = .ok (.iload_n 1, 1) := by decide +kernel
theorem dX3_signAt_1 : decode cX3_signAt 1 = .ok (.aload_n 0, 1) := by decide +kernel
theorem dX3_signAt_2 : decode cX3_signAt 2 = .ok (.getfield 15, 3) := by decide +kernel
theorem dX3_signAt_5 : decode cX3_signAt 5 = .ok (.if_icmp .ge 14, 3) := by decide +kernel
theorem dX3_signAt_8 : decode cX3_signAt 8 = .ok (.aload_n 0, 1) := by decide +kernel
theorem dX3_signAt_9 : decode cX3_signAt 9 = .ok (.getfield 9, 3) := by decide +kernel
theorem dX3_signAt_12 : decode cX3_signAt 12 = .ok (.iload_n 1, 1) := by decide +kernel
theorem dX3_signAt_13 : decode cX3_signAt 13 = .ok (.invokestatic 19, 3) := by decide +kernel
theorem dX3_signAt_16 : decode cX3_signAt 16 = .ok (.goto 4, 3) := by decide +kernel
theorem dX3_signAt_19 : decode cX3_signAt 19 = .ok (.iconst 0, 1) := by decide +kernel
theorem dX3_signAt_20 : decode cX3_signAt 20 = .ok (.ireturn, 1) := by decide +kernel
theorem dX3_faultPlace_0 : decode cX3_faultPlace 0 = .ok (.iconst 0, 1) := by decide +kernel
theorem dX3_faultPlace_1 : decode cX3_faultPlace 1 = .ok (.istore_n 1, 1) := by decide +kernel
theorem dX3_faultPlace_2 : decode cX3_faultPlace 2 = .ok (.bipush 8, 2) := by decide +kernel
theorem dX3_faultPlace_4 : decode cX3_faultPlace 4 = .ok (.istore_n 2, 1) := by decide +kernel
theorem dX3_faultPlace_5 : decode cX3_faultPlace 5 = .ok (.iconst 0, 1) := by decide +kernel
theorem dX3_faultPlace_6 : decode cX3_faultPlace 6 = .ok (.istore_n 3, 1) := by decide +kernel
theorem dX3_faultPlace_7 : decode cX3_faultPlace 7 = .ok (.iconst 0, 1) := by decide +kernel
theorem dX3_faultPlace_8 : decode cX3_faultPlace 8 = .ok (.istore 4, 2) := by decide +kernel
theorem dX3_faultPlace_10 : decode cX3_faultPlace 10 = .ok (.iload 4, 2) := by decide +kernel
theorem dX3_faultPlace_12 : decode cX3_faultPlace 12 = .ok (.aload_n 0, 1) := by decide +kernel
theorem dX3_faultPlace_13 : decode cX3_faultPlace 13 = .ok (.getfield 15, 3) := by decide +kernel
theorem dX3_faultPlace_16 : decode cX3_faultPlace 16 = .ok (.if_icmp .ge 96, 3) := by decide +kernel
theorem dX3_faultPlace_19 : decode cX3_faultPlace 19 = .ok (.aload_n 0, 1) := by decide +kernel
theorem dX3_faultPlace_20 : decode cX3_faultPlace 20 = .ok (.iload 4, 2) := by decide +kernel
theorem dX3_faultPlace_22 : decode cX3_faultPlace 22 = .ok (.invokevirtual 23, 3) := by decide +kernel
theorem dX3_faultPlace_25 : decode cX3_faultPlace 25 = .ok (.istore 5, 2) := by decide +kernel
theorem dX3_faultPlace_27 : decode cX3_faultPlace 27 = .ok (.iload 5, 2) := by decide +kernel
theorem dX3_faultPlace_29 : decode cX3_faultPlace 29 = .ok (.bipush 47, 2) := by decide +kernel
theorem dX3_faultPlace_31 : decode cX3_faultPlace 31 = .ok (.if_icmp .ne 56, 3) := by decide +kernel
theorem dX3_faultPlace_34 : decode cX3_faultPlace 34 = .ok (.iload_n 1, 1) := by decide +kernel
theorem dX3_faultPlace_35 : decode cX3_faultPlace 35 = .ok (.ifCond .ne 16, 3) := by decide +kernel
theorem dX3_faultPlace_38 : decode cX3_faultPlace 38 = .ok (.iload_n 3, 1) := by decide +kernel
theorem dX3_faultPlace_39 : decode cX3_faultPlace 39 = .ok (.iconst 2, 1) := by decide +kernel
theorem dX3_faultPlace_40 : decode cX3_faultPlace 40 = .ok (.if_icmp .lt 7, 3) := by decide +kernel
theorem dX3_faultPlace_43 : decode cX3_faultPlace 43 = .ok (.iconst 1, 1) := by decide +kernel
theorem dX3_faultPlace_44 : decode cX3_faultPlace 44 = .ok (.goto 17, 3) := by decide +kernel
theorem dX3_faultPlace_47 : decode cX3_faultPlace 47 = .ok (.iconst 0, 1) := by decide +kernel
theorem dX3_faultPlace_48 : decode cX3_faultPlace 48 = .ok (.goto 13, 3) := by decide +kernel
theorem dX3_faultPlace_51 : decode cX3_faultPlace 51 = .ok (.iload_n 3, 1) := by decide +kernel
theorem dX3_faultPlace_52 : decode cX3_faultPlace 52 = .ok (.iload_n 2, 1) := by decide +kernel
theorem dX3_faultPlace_53 : decode cX3_faultPlace 53 = .ok (.if_icmp .ne 7, 3) := by decide +kernel
theorem dX3_faultPlace_56 : decode cX3_faultPlace 56 = .ok (.iconst 1, 1) := by decide +kernel
theorem dX3_faultPlace_57 : decode cX3_faultPlace 57 = .ok (.goto 4, 3) := by decide +kernel
theorem dX3_faultPlace_60 : decode cX3_faultPlace 60 = .ok (.iconst 0, 1) := by decide +kernel
theorem dX3_faultPlace_61 : decode cX3_faultPlace 61 = .ok (.istore 6, 2) := by decide +kernel
theorem dX3_faultPlace_63 : decode cX3_faultPlace 63 = .ok (.iload 6, 2) := by decide +kernel
theorem dX3_faultPlace_65 : decode cX3_faultPlace 65 = .ok (.ifCond .eq 9, 3) := by decide +kernel
theorem dX3_faultPlace_68 : decode cX3_faultPlace 68 = .ok (.iload_n 1, 1) := by decide +kernel
theorem dX3_faultPlace_69 : decode cX3_faultPlace 69 = .ok (.bipush 7, 2) := by decide +kernel
theorem dX3_faultPlace_71 : decode cX3_faultPlace 71 = .ok (.if_icmp .ne 6, 3) := by decide +kernel
theorem dX3_faultPlace_74 : decode cX3_faultPlace 74 = .ok (.iload 4, 2) := by decide +kernel
theorem dX3_faultPlace_76 : decode cX3_faultPlace 76 = .ok (.ireturn, 1) := by decide +kernel
theorem dX3_faultPlace_77 : decode cX3_faultPlace 77 = .ok (.iload_n 3, 1) := by decide +kernel
theorem dX3_faultPlace_78 : decode cX3_faultPlace 78 = .ok (.istore_n 2, 1) := by decide +kernel
theorem dX3_faultPlace_79 : decode cX3_faultPlace 79 = .ok (.iinc 1 1, 3) := by decide +kernel
theorem dX3_faultPlace_82 : decode cX3_faultPlace 82 = .ok (.iconst 0, 1) := by decide +kernel
theorem dX3_faultPlace_83 : decode cX3_faultPlace 83 = .ok (.istore_n 3, 1) := by decide +kernel
theorem dX3_faultPlace_84 : decode cX3_faultPlace 84 = .ok (.goto 22, 3) := by decide +kernel
theorem dX3_faultPlace_87 : decode cX3_faultPlace 87 = .ok (.iload 5, 2) := by decide +kernel
theorem dX3_faultPlace_89 : decode cX3_faultPlace 89 = .ok (.invokestatic 27, 3) := by decide +kernel
theorem dX3_faultPlace_92 : decode cX3_faultPlace 92 = .ok (.ifCond .lt 8, 3) := by decide +kernel
theorem dX3_faultPlace_95 : decode cX3_faultPlace 95 = .ok (.iload_n 3, 1) := by decide +kernel
theorem dX3_faultPlace_96 : decode cX3_faultPlace 96 = .ok (.iload_n 2, 1) := by decide +kernel
theorem dX3_faultPlace_97 : decode cX3_faultPlace 97 = .ok (.if_icmp .ne 6, 3) := by decide +kernel
theorem dX3_faultPlace_100 : decode cX3_faultPlace 100 = .ok (.iload 4, 2) := by decide +kernel
theorem dX3_faultPlace_102 : decode cX3_faultPlace 102 = .ok (.ireturn, 1) := by decide +kernel
theorem dX3_faultPlace_103 : decode cX3_faultPlace 103 = .ok (.iinc 3 1, 3) := by decide +kernel
theorem dX3_faultPlace_106 : decode cX3_faultPlace 106 = .ok (.iinc 4 1, 3) := by decide +kernel
theorem dX3_faultPlace_109 : decode cX3_faultPlace 109 = .ok (.goto (-99), 3) := by decide +kernel
theorem dX3_faultPlace_112 : decode cX3_faultPlace 112 = .ok (.iload_n 1, 1) := by decide +kernel
theorem dX3_faultPlace_113 : decode cX3_faultPlace 113 = .ok (.iconst 1, 1) := by decide +kernel
theorem dX3_faultPlace_114 : decode cX3_faultPlace 114 = .ok (.iadd, 1) := by decide +kernel
theorem dX3_faultPlace_115 : decode cX3_faultPlace 115 = .ok (.iconst 2, 1) := by decide +kernel
theorem dX3_faultPlace_116 : decode cX3_faultPlace 116 = .ok (.if_icmp .lt 12, 3) := by decide +kernel
theorem dX3_faultPlace_119 : decode cX3_faultPlace 119 = .ok (.iload_n 3, 1) := by decide +kernel
theorem dX3_faultPlace_120 : decode cX3_faultPlace 120 = .ok (.iload_n 2, 1) := by decide +kernel
theorem dX3_faultPlace_121 : decode cX3_faultPlace 121 = .ok (.if_icmp .ne 7, 3) := by decide +kernel
theorem dX3_faultPlace_124 : decode cX3_faultPlace 124 = .ok (.iconst (-1), 1) := by decide +kernel
theorem dX3_faultPlace_125 : decode cX3_faultPlace 125 = .ok (.goto 7, 3) := by decide +kernel
theorem dX3_faultPlace_128 : decode cX3_faultPlace 128 = .ok (.aload_n 0, 1) := by decide +kernel
theorem dX3_faultPlace_129 : decode cX3_faultPlace 129 = .ok (.getfield 15, 3) := by decide +kernel
theorem dX3_faultPlace_132 : decode cX3_faultPlace 132 = .ok (.ireturn, 1) := by decide +kernel
theorem dX3_groundOf_0 : decode cX3_groundOf 0 = .ok (.iload_n 0, 1) := by decide +kernel
theorem dX3_groundOf_1 : decode cX3_groundOf 1 = .ok (.bipush 35, 2) := by decide +kernel
theorem dX3_groundOf_3 : decode cX3_groundOf 3 = .ok (.if_icmp .ne 5, 3) := by decide +kernel
theorem dX3_groundOf_6 : decode cX3_groundOf 6 = .ok (.iconst 0, 1) := by decide +kernel
theorem dX3_groundOf_7 : decode cX3_groundOf 7 = .ok (.ireturn, 1) := by decide +kernel
theorem dX3_groundOf_8 : decode cX3_groundOf 8 = .ok (.iload_n 0, 1) := by decide +kernel
theorem dX3_groundOf_9 : decode cX3_groundOf 9 = .ok (.bipush 98, 2) := by decide +kernel
theorem dX3_groundOf_11 : decode cX3_groundOf 11 = .ok (.if_icmp .ne 6, 3) := by decide +kernel
theorem dX3_groundOf_14 : decode cX3_groundOf 14 = .ok (.bipush 30, 2) := by decide +kernel
theorem dX3_groundOf_16 : decode cX3_groundOf 16 = .ok (.ireturn, 1) := by decide +kernel
theorem dX3_groundOf_17 : decode cX3_groundOf 17 = .ok (.iload_n 0, 1) := by decide +kernel
theorem dX3_groundOf_18 : decode cX3_groundOf 18 = .ok (.bipush 46, 2) := by decide +kernel
theorem dX3_groundOf_20 : decode cX3_groundOf 20 = .ok (.if_icmp .ne 6, 3) := by decide +kernel
theorem dX3_groundOf_23 : decode cX3_groundOf 23 = .ok (.bipush 20, 2) := by decide +kernel
theorem dX3_groundOf_25 : decode cX3_groundOf 25 = .ok (.ireturn, 1) := by decide +kernel
theorem dX3_groundOf_26 : decode cX3_groundOf 26 = .ok (.iload_n 0, 1) := by decide +kernel
theorem dX3_groundOf_27 : decode cX3_groundOf 27 = .ok (.bipush 49, 2) := by decide +kernel
theorem dX3_groundOf_29 : decode cX3_groundOf 29 = .ok (.if_icmp .lt 16, 3) := by decide +kernel
theorem dX3_groundOf_32 : decode cX3_groundOf 32 = .ok (.iload_n 0, 1) := by decide +kernel
theorem dX3_groundOf_33 : decode cX3_groundOf 33 = .ok (.bipush 57, 2) := by decide +kernel
theorem dX3_groundOf_35 : decode cX3_groundOf 35 = .ok (.if_icmp .gt 10, 3) := by decide +kernel
theorem dX3_groundOf_38 : decode cX3_groundOf 38 = .ok (.iload_n 0, 1) := by decide +kernel
theorem dX3_groundOf_39 : decode cX3_groundOf 39 = .ok (.bipush 48, 2) := by decide +kernel
theorem dX3_groundOf_41 : decode cX3_groundOf 41 = .ok (.isub, 1) := by decide +kernel
theorem dX3_groundOf_42 : decode cX3_groundOf 42 = .ok (.goto 4, 3) := by decide +kernel
theorem dX3_groundOf_45 : decode cX3_groundOf 45 = .ok (.iconst (-1), 1) := by decide +kernel
theorem dX3_groundOf_46 : decode cX3_groundOf 46 = .ok (.ireturn, 1) := by decide +kernel
theorem dX4_init_0 : decode cX4_init 0 = .ok (.aload_n 0, 1) := by decide +kernel
theorem dX4_init_1 : decode cX4_init 1 = .ok (.invokespecial 3, 3) := by decide +kernel
theorem dX4_init_4 : decode cX4_init 4 = .ok (.aload_n 0, 1) := by decide +kernel
theorem dX4_init_5 : decode cX4_init 5 = .ok (.bipush 12, 2) := by decide +kernel
theorem dX4_init_7 : decode cX4_init 7 = .ok (.newarray .int, 2) := by decide +kernel
theorem dX4_init_9 : decode cX4_init 9 = .ok (.putfield 9, 3) := by decide +kernel
theorem dX4_init_12 : decode cX4_init 12 = .ok (.aload_n 0, 1) := by decide +kernel
theorem dX4_init_13 : decode cX4_init 13 = .ok (.iconst 0, 1) := by decide +kernel
theorem dX4_init_14 : decode cX4_init 14 = .ok (.putfield 15, 3) := by decide +kernel
theorem dX4_init_17 : decode cX4_init 17 = .ok (.return_, 1) := by decide +kernel
theorem dX4_isFull_0 : decode cX4_isFull 0 = .ok (.aload_n 0, 1) := by decide +kernel
theorem dX4_isFull_1 : decode cX4_isFull 1 = .ok (.getfield 15, 3) := by decide +kernel
theorem dX4_isFull_4 : decode cX4_isFull 4 = .ok (.bipush 12, 2) := by decide +kernel
theorem dX4_isFull_6 : decode cX4_isFull 6 = .ok (.if_icmp .lt 7, 3) := by decide +kernel
theorem dX4_isFull_9 : decode cX4_isFull 9 = .ok (.iconst 1, 1) := by decide +kernel
theorem dX4_isFull_10 : decode cX4_isFull 10 = .ok (.goto 4, 3) := by decide +kernel
theorem dX4_isFull_13 : decode cX4_isFull 13 = .ok (.iconst 0, 1) := by decide +kernel
theorem dX4_isFull_14 : decode cX4_isFull 14 = .ok (.ireturn, 1) := by decide +kernel
theorem dX4_tell_0 : decode cX4_tell 0 = .ok (.aload_n 0, 1) := by decide +kernel
theorem dX4_tell_1 : decode cX4_tell 1 = .ok (.getfield 15, 3) := by decide +kernel
theorem dX4_tell_4 : decode cX4_tell 4 = .ok (.ifCond .lt 35, 3) := by decide +kernel
theorem dX4_tell_7 : decode cX4_tell 7 = .ok (.aload_n 0, 1) := by decide +kernel
theorem dX4_tell_8 : decode cX4_tell 8 = .ok (.getfield 15, 3) := by decide +kernel
theorem dX4_tell_11 : decode cX4_tell 11 = .ok (.aload_n 0, 1) := by decide +kernel
theorem dX4_tell_12 : decode cX4_tell 12 = .ok (.getfield 9, 3) := by decide +kernel
theorem dX4_tell_15 : decode cX4_tell 15 = .ok (.arraylength, 1) := by decide +kernel
theorem dX4_tell_16 : decode cX4_tell 16 = .ok (.if_icmp .ge 23, 3) := by decide +kernel
theorem dX4_tell_19 : decode cX4_tell 19 = .ok (.aload_n 0, 1) := by decide +kernel
theorem dX4_tell_20 : decode cX4_tell 20 = .ok (.getfield 9, 3) := by decide +kernel
theorem dX4_tell_23 : decode cX4_tell 23 = .ok (.aload_n 0, 1) := by decide +kernel
theorem dX4_tell_24 : decode cX4_tell 24 = .ok (.getfield 15, 3) := by decide +kernel
theorem dX4_tell_27 : decode cX4_tell 27 = .ok (.iload_n 1, 1) := by decide +kernel
theorem dX4_tell_28 : decode cX4_tell 28 = .ok (.iastore, 1) := by decide +kernel
theorem dX4_tell_29 : decode cX4_tell 29 = .ok (.aload_n 0, 1) := by decide +kernel
theorem dX4_tell_30 : decode cX4_tell 30 = .ok (.dup, 1) := by decide +kernel
theorem dX4_tell_31 : decode cX4_tell 31 = .ok (.getfield 15, 3) := by decide +kernel
theorem dX4_tell_34 : decode cX4_tell 34 = .ok (.iconst 1, 1) := by decide +kernel
theorem dX4_tell_35 : decode cX4_tell 35 = .ok (.iadd, 1) := by decide +kernel
theorem dX4_tell_36 : decode cX4_tell 36 = .ok (.putfield 15, 3) := by decide +kernel
theorem dX4_tell_39 : decode cX4_tell 39 = .ok (.aload_n 0, 1) := by decide +kernel
theorem dX4_tell_40 : decode cX4_tell 40 = .ok (.getfield 15, 3) := by decide +kernel
theorem dX4_tell_43 : decode cX4_tell 43 = .ok (.ireturn, 1) := by decide +kernel
theorem dX4_firstWrong_0 : decode cX4_firstWrong 0 = .ok (.iconst 0, 1) := by decide +kernel
theorem dX4_firstWrong_1 : decode cX4_firstWrong 1 = .ok (.istore_n 3, 1) := by decide +kernel
theorem dX4_firstWrong_2 : decode cX4_firstWrong 2 = .ok (.iload_n 3, 1) := by decide +kernel
theorem dX4_firstWrong_3 : decode cX4_firstWrong 3 = .ok (.aload_n 0, 1) := by decide +kernel
theorem dX4_firstWrong_4 : decode cX4_firstWrong 4 = .ok (.getfield 15, 3) := by decide +kernel
theorem dX4_firstWrong_7 : decode cX4_firstWrong 7 = .ok (.if_icmp .ge 49, 3) := by decide +kernel
theorem dX4_firstWrong_10 : decode cX4_firstWrong 10 = .ok (.aload_n 2, 1) := by decide +kernel
theorem dX4_firstWrong_11 : decode cX4_firstWrong 11 = .ok (.aload_n 1, 1) := by decide +kernel
theorem dX4_firstWrong_12 : decode cX4_firstWrong 12 = .ok (.invokevirtual 19, 3) := by decide +kernel
theorem dX4_firstWrong_15 : decode cX4_firstWrong 15 = .ok (.aload_n 2, 1) := by decide +kernel
theorem dX4_firstWrong_16 : decode cX4_firstWrong 16 = .ok (.getfield 25, 3) := by decide +kernel
theorem dX4_firstWrong_19 : decode cX4_firstWrong 19 = .ok (.bipush (-9), 2) := by decide +kernel
theorem dX4_firstWrong_21 : decode cX4_firstWrong 21 = .ok (.if_icmp .ne 8, 3) := by decide +kernel
theorem dX4_firstWrong_24 : decode cX4_firstWrong 24 = .ok (.bipush 99, 2) := by decide +kernel
theorem dX4_firstWrong_26 : decode cX4_firstWrong 26 = .ok (.goto 7, 3) := by decide +kernel
theorem dX4_firstWrong_29 : decode cX4_firstWrong 29 = .ok (.aload_n 2, 1) := by decide +kernel
theorem dX4_firstWrong_30 : decode cX4_firstWrong 30 = .ok (.getfield 25, 3) := by decide +kernel
theorem dX4_firstWrong_33 : decode cX4_firstWrong 33 = .ok (.istore 4, 2) := by decide +kernel
theorem dX4_firstWrong_35 : decode cX4_firstWrong 35 = .ok (.aload_n 0, 1) := by decide +kernel
theorem dX4_firstWrong_36 : decode cX4_firstWrong 36 = .ok (.getfield 9, 3) := by decide +kernel
theorem dX4_firstWrong_39 : decode cX4_firstWrong 39 = .ok (.iload_n 3, 1) := by decide +kernel
theorem dX4_firstWrong_40 : decode cX4_firstWrong 40 = .ok (.invokestatic 28, 3) := by decide +kernel
theorem dX4_firstWrong_43 : decode cX4_firstWrong 43 = .ok (.iload 4, 2) := by decide +kernel
theorem dX4_firstWrong_45 : decode cX4_firstWrong 45 = .ok (.if_icmp .eq 5, 3) := by decide +kernel
theorem dX4_firstWrong_48 : decode cX4_firstWrong 48 = .ok (.iload_n 3, 1) := by decide +kernel
theorem dX4_firstWrong_49 : decode cX4_firstWrong 49 = .ok (.ireturn, 1) := by decide +kernel
theorem dX4_firstWrong_50 : decode cX4_firstWrong 50 = .ok (.iinc 3 1, 3) := by decide +kernel
theorem dX4_firstWrong_53 : decode cX4_firstWrong 53 = .ok (.goto (-51), 3) := by decide +kernel
theorem dX4_firstWrong_56 : decode cX4_firstWrong 56 = .ok (.bipush (-9), 2) := by decide +kernel
theorem dX4_firstWrong_58 : decode cX4_firstWrong 58 = .ok (.ireturn, 1) := by decide +kernel
theorem dX5_init_0 : decode cX5_init 0 = .ok (.aload_n 0, 1) := by decide +kernel
theorem dX5_init_1 : decode cX5_init 1 = .ok (.invokespecial 3, 3) := by decide +kernel
theorem dX5_init_4 : decode cX5_init 4 = .ok (.aload_n 0, 1) := by decide +kernel
theorem dX5_init_5 : decode cX5_init 5 = .ok (.invokevirtual 9, 3) := by decide +kernel
theorem dX5_init_8 : decode cX5_init 8 = .ok (.return_, 1) := by decide +kernel
theorem dX5_leaveBay_0 : decode cX5_leaveBay 0 = .ok (.aload_n 0, 1) := by decide +kernel
theorem dX5_leaveBay_1 : decode cX5_leaveBay 1 = .ok (.bipush (-9), 2) := by decide +kernel
theorem dX5_leaveBay_3 : decode cX5_leaveBay 3 = .ok (.invokevirtual 14, 3) := by decide +kernel
theorem dX5_leaveBay_6 : decode cX5_leaveBay 6 = .ok (.aload_n 0, 1) := by decide +kernel
theorem dX5_leaveBay_7 : decode cX5_leaveBay 7 = .ok (.iconst 0, 1) := by decide +kernel
theorem dX5_leaveBay_8 : decode cX5_leaveBay 8 = .ok (.putfield 18, 3) := by decide +kernel
theorem dX5_leaveBay_11 : decode cX5_leaveBay 11 = .ok (.return_, 1) := by decide +kernel
theorem dX5_layIn_0 : decode cX5_layIn 0 = .ok (.aload_n 0, 1) := by decide +kernel
theorem dX5_layIn_1 : decode cX5_layIn 1 = .ok (.iconst 1, 1) := by decide +kernel
theorem dX5_layIn_2 : decode cX5_layIn 2 = .ok (.putfield 18, 3) := by decide +kernel
theorem dX5_layIn_5 : decode cX5_layIn 5 = .ok (.aload_n 0, 1) := by decide +kernel
theorem dX5_layIn_6 : decode cX5_layIn 6 = .ok (.iload_n 1, 1) := by decide +kernel
theorem dX5_layIn_7 : decode cX5_layIn 7 = .ok (.putfield 22, 3) := by decide +kernel
theorem dX5_layIn_10 : decode cX5_layIn 10 = .ok (.aload_n 0, 1) := by decide +kernel
theorem dX5_layIn_11 : decode cX5_layIn 11 = .ok (.iconst 0, 1) := by decide +kernel
theorem dX5_layIn_12 : decode cX5_layIn 12 = .ok (.putfield 26, 3) := by decide +kernel
theorem dX5_layIn_15 : decode cX5_layIn 15 = .ok (.aload_n 0, 1) := by decide +kernel
theorem dX5_layIn_16 : decode cX5_layIn 16 = .ok (.iconst 1, 1) := by decide +kernel
theorem dX5_layIn_17 : decode cX5_layIn 17 = .ok (.putfield 29, 3) := by decide +kernel
theorem dX5_layIn_20 : decode cX5_layIn 20 = .ok (.aload_n 0, 1) := by decide +kernel
theorem dX5_layIn_21 : decode cX5_layIn 21 = .ok (.iconst 3, 1) := by decide +kernel
theorem dX5_layIn_22 : decode cX5_layIn 22 = .ok (.putfield 32, 3) := by decide +kernel
theorem dX5_layIn_25 : decode cX5_layIn 25 = .ok (.aload_n 0, 1) := by decide +kernel
theorem dX5_layIn_26 : decode cX5_layIn 26 = .ok (.iconst 2, 1) := by decide +kernel
theorem dX5_layIn_27 : decode cX5_layIn 27 = .ok (.putfield 35, 3) := by decide +kernel
theorem dX5_layIn_30 : decode cX5_layIn 30 = .ok (.aload_n 0, 1) := by decide +kernel
theorem dX5_layIn_31 : decode cX5_layIn 31 = .ok (.iconst 0, 1) := by decide +kernel
theorem dX5_layIn_32 : decode cX5_layIn 32 = .ok (.putfield 38, 3) := by decide +kernel
theorem dX5_layIn_35 : decode cX5_layIn 35 = .ok (.aload_n 0, 1) := by decide +kernel
theorem dX5_layIn_36 : decode cX5_layIn 36 = .ok (.iconst 0, 1) := by decide +kernel
theorem dX5_layIn_37 : decode cX5_layIn 37 = .ok (.putfield 41, 3) := by decide +kernel
theorem dX5_layIn_40 : decode cX5_layIn 40 = .ok (.aload_n 0, 1) := by decide +kernel
theorem dX5_layIn_41 : decode cX5_layIn 41 = .ok (.iconst 0, 1) := by decide +kernel
theorem dX5_layIn_42 : decode cX5_layIn 42 = .ok (.putfield 44, 3) := by decide +kernel
theorem dX5_layIn_45 : decode cX5_layIn 45 = .ok (.aload_n 0, 1) := by decide +kernel
theorem dX5_layIn_46 : decode cX5_layIn 46 = .ok (.iconst 0, 1) := by decide +kernel
theorem dX5_layIn_47 : decode cX5_layIn 47 = .ok (.putfield 47, 3) := by decide +kernel
theorem dX5_layIn_50 : decode cX5_layIn 50 = .ok (.aload_n 0, 1) := by decide +kernel
theorem dX5_layIn_51 : decode cX5_layIn 51 = .ok (.iconst 1, 1) := by decide +kernel
theorem dX5_layIn_52 : decode cX5_layIn 52 = .ok (.putfield 50, 3) := by decide +kernel
theorem dX5_layIn_55 : decode cX5_layIn 55 = .ok (.aload_n 0, 1) := by decide +kernel
theorem dX5_layIn_56 : decode cX5_layIn 56 = .ok (.iconst 0, 1) := by decide +kernel
theorem dX5_layIn_57 : decode cX5_layIn 57 = .ok (.putfield 53, 3) := by decide +kernel
theorem dX5_layIn_60 : decode cX5_layIn 60 = .ok (.aload_n 0, 1) := by decide +kernel
theorem dX5_layIn_61 : decode cX5_layIn 61 = .ok (.iconst 0, 1) := by decide +kernel
theorem dX5_layIn_62 : decode cX5_layIn 62 = .ok (.putfield 56, 3) := by decide +kernel
theorem dX5_layIn_65 : decode cX5_layIn 65 = .ok (.aload_n 0, 1) := by decide +kernel
theorem dX5_layIn_66 : decode cX5_layIn 66 = .ok (.iconst 0, 1) := by decide +kernel
theorem dX5_layIn_67 : decode cX5_layIn 67 = .ok (.putfield 59, 3) := by decide +kernel
theorem dX5_layIn_70 : decode cX5_layIn 70 = .ok (.aload_n 0, 1) := by decide +kernel
theorem dX5_layIn_71 : decode cX5_layIn 71 = .ok (.iconst 0, 1) := by decide +kernel
theorem dX5_layIn_72 : decode cX5_layIn 72 = .ok (.putfield 62, 3) := by decide +kernel
theorem dX5_layIn_75 : decode cX5_layIn 75 = .ok (.aload_n 0, 1) := by decide +kernel
theorem dX5_layIn_76 : decode cX5_layIn 76 = .ok (.ldc 65, 2) := by decide +kernel
theorem dX5_layIn_78 : decode cX5_layIn 78 = .ok (.putfield 66, 3) := by decide +kernel
theorem dX5_layIn_81 : decode cX5_layIn 81 = .ok (.aload_n 0, 1) := by decide +kernel
theorem dX5_layIn_82 : decode cX5_layIn 82 = .ok (.iconst 0, 1) := by decide +kernel
theorem dX5_layIn_83 : decode cX5_layIn 83 = .ok (.putfield 69, 3) := by decide +kernel
theorem dX5_layIn_86 : decode cX5_layIn 86 = .ok (.return_, 1) := by decide +kernel
theorem dX5_copyFrom_0 : decode cX5_copyFrom 0 = .ok (.aload_n 0, 1) := by decide +kernel
theorem dX5_copyFrom_1 : decode cX5_copyFrom 1 = .ok (.aload_n 1, 1) := by decide +kernel
theorem dX5_copyFrom_2 : decode cX5_copyFrom 2 = .ok (.getfield 18, 3) := by decide +kernel
theorem dX5_copyFrom_5 : decode cX5_copyFrom 5 = .ok (.putfield 18, 3) := by decide +kernel
theorem dX5_copyFrom_8 : decode cX5_copyFrom 8 = .ok (.aload_n 0, 1) := by decide +kernel
theorem dX5_copyFrom_9 : decode cX5_copyFrom 9 = .ok (.aload_n 1, 1) := by decide +kernel
theorem dX5_copyFrom_10 : decode cX5_copyFrom 10 = .ok (.getfield 22, 3) := by decide +kernel
theorem dX5_copyFrom_13 : decode cX5_copyFrom 13 = .ok (.putfield 22, 3) := by decide +kernel
theorem dX5_copyFrom_16 : decode cX5_copyFrom 16 = .ok (.aload_n 0, 1) := by decide +kernel
theorem dX5_copyFrom_17 : decode cX5_copyFrom 17 = .ok (.aload_n 1, 1) := by decide +kernel
theorem dX5_copyFrom_18 : decode cX5_copyFrom 18 = .ok (.getfield 26, 3) := by decide +kernel
theorem dX5_copyFrom_21 : decode cX5_copyFrom 21 = .ok (.putfield 26, 3) := by decide +kernel
theorem dX5_copyFrom_24 : decode cX5_copyFrom 24 = .ok (.aload_n 0, 1) := by decide +kernel
theorem dX5_copyFrom_25 : decode cX5_copyFrom 25 = .ok (.aload_n 1, 1) := by decide +kernel
theorem dX5_copyFrom_26 : decode cX5_copyFrom 26 = .ok (.getfield 29, 3) := by decide +kernel
theorem dX5_copyFrom_29 : decode cX5_copyFrom 29 = .ok (.putfield 29, 3) := by decide +kernel
theorem dX5_copyFrom_32 : decode cX5_copyFrom 32 = .ok (.aload_n 0, 1) := by decide +kernel
theorem dX5_copyFrom_33 : decode cX5_copyFrom 33 = .ok (.aload_n 1, 1) := by decide +kernel
theorem dX5_copyFrom_34 : decode cX5_copyFrom 34 = .ok (.getfield 32, 3) := by decide +kernel
theorem dX5_copyFrom_37 : decode cX5_copyFrom 37 = .ok (.putfield 32, 3) := by decide +kernel
theorem dX5_copyFrom_40 : decode cX5_copyFrom 40 = .ok (.aload_n 0, 1) := by decide +kernel
theorem dX5_copyFrom_41 : decode cX5_copyFrom 41 = .ok (.aload_n 1, 1) := by decide +kernel
theorem dX5_copyFrom_42 : decode cX5_copyFrom 42 = .ok (.getfield 35, 3) := by decide +kernel
theorem dX5_copyFrom_45 : decode cX5_copyFrom 45 = .ok (.putfield 35, 3) := by decide +kernel
theorem dX5_copyFrom_48 : decode cX5_copyFrom 48 = .ok (.aload_n 0, 1) := by decide +kernel
theorem dX5_copyFrom_49 : decode cX5_copyFrom 49 = .ok (.aload_n 1, 1) := by decide +kernel
theorem dX5_copyFrom_50 : decode cX5_copyFrom 50 = .ok (.getfield 38, 3) := by decide +kernel
theorem dX5_copyFrom_53 : decode cX5_copyFrom 53 = .ok (.putfield 38, 3) := by decide +kernel
theorem dX5_copyFrom_56 : decode cX5_copyFrom 56 = .ok (.aload_n 0, 1) := by decide +kernel
theorem dX5_copyFrom_57 : decode cX5_copyFrom 57 = .ok (.aload_n 1, 1) := by decide +kernel
theorem dX5_copyFrom_58 : decode cX5_copyFrom 58 = .ok (.getfield 41, 3) := by decide +kernel
theorem dX5_copyFrom_61 : decode cX5_copyFrom 61 = .ok (.putfield 41, 3) := by decide +kernel
theorem dX5_copyFrom_64 : decode cX5_copyFrom 64 = .ok (.aload_n 0, 1) := by decide +kernel
theorem dX5_copyFrom_65 : decode cX5_copyFrom 65 = .ok (.aload_n 1, 1) := by decide +kernel
theorem dX5_copyFrom_66 : decode cX5_copyFrom 66 = .ok (.getfield 44, 3) := by decide +kernel
theorem dX5_copyFrom_69 : decode cX5_copyFrom 69 = .ok (.putfield 44, 3) := by decide +kernel
theorem dX5_copyFrom_72 : decode cX5_copyFrom 72 = .ok (.aload_n 0, 1) := by decide +kernel
theorem dX5_copyFrom_73 : decode cX5_copyFrom 73 = .ok (.aload_n 1, 1) := by decide +kernel
theorem dX5_copyFrom_74 : decode cX5_copyFrom 74 = .ok (.getfield 47, 3) := by decide +kernel
theorem dX5_copyFrom_77 : decode cX5_copyFrom 77 = .ok (.putfield 47, 3) := by decide +kernel
theorem dX5_copyFrom_80 : decode cX5_copyFrom 80 = .ok (.aload_n 0, 1) := by decide +kernel
theorem dX5_copyFrom_81 : decode cX5_copyFrom 81 = .ok (.aload_n 1, 1) := by decide +kernel
theorem dX5_copyFrom_82 : decode cX5_copyFrom 82 = .ok (.getfield 50, 3) := by decide +kernel
theorem dX5_copyFrom_85 : decode cX5_copyFrom 85 = .ok (.putfield 50, 3) := by decide +kernel
theorem dX5_copyFrom_88 : decode cX5_copyFrom 88 = .ok (.aload_n 0, 1) := by decide +kernel
theorem dX5_copyFrom_89 : decode cX5_copyFrom 89 = .ok (.aload_n 1, 1) := by decide +kernel
theorem dX5_copyFrom_90 : decode cX5_copyFrom 90 = .ok (.getfield 53, 3) := by decide +kernel
theorem dX5_copyFrom_93 : decode cX5_copyFrom 93 = .ok (.putfield 53, 3) := by decide +kernel
theorem dX5_copyFrom_96 : decode cX5_copyFrom 96 = .ok (.aload_n 0, 1) := by decide +kernel
theorem dX5_copyFrom_97 : decode cX5_copyFrom 97 = .ok (.aload_n 1, 1) := by decide +kernel
theorem dX5_copyFrom_98 : decode cX5_copyFrom 98 = .ok (.getfield 56, 3) := by decide +kernel
theorem dX5_copyFrom_101 : decode cX5_copyFrom 101 = .ok (.putfield 56, 3) := by decide +kernel
theorem dX5_copyFrom_104 : decode cX5_copyFrom 104 = .ok (.aload_n 0, 1) := by decide +kernel
theorem dX5_copyFrom_105 : decode cX5_copyFrom 105 = .ok (.aload_n 1, 1) := by decide +kernel
theorem dX5_copyFrom_106 : decode cX5_copyFrom 106 = .ok (.getfield 59, 3) := by decide +kernel
theorem dX5_copyFrom_109 : decode cX5_copyFrom 109 = .ok (.putfield 59, 3) := by decide +kernel
theorem dX5_copyFrom_112 : decode cX5_copyFrom 112 = .ok (.aload_n 0, 1) := by decide +kernel
theorem dX5_copyFrom_113 : decode cX5_copyFrom 113 = .ok (.aload_n 1, 1) := by decide +kernel
theorem dX5_copyFrom_114 : decode cX5_copyFrom 114 = .ok (.getfield 62, 3) := by decide +kernel
theorem dX5_copyFrom_117 : decode cX5_copyFrom 117 = .ok (.putfield 62, 3) := by decide +kernel
theorem dX5_copyFrom_120 : decode cX5_copyFrom 120 = .ok (.aload_n 0, 1) := by decide +kernel
theorem dX5_copyFrom_121 : decode cX5_copyFrom 121 = .ok (.aload_n 1, 1) := by decide +kernel
theorem dX5_copyFrom_122 : decode cX5_copyFrom 122 = .ok (.getfield 66, 3) := by decide +kernel
theorem dX5_copyFrom_125 : decode cX5_copyFrom 125 = .ok (.putfield 66, 3) := by decide +kernel
theorem dX5_copyFrom_128 : decode cX5_copyFrom 128 = .ok (.aload_n 0, 1) := by decide +kernel
theorem dX5_copyFrom_129 : decode cX5_copyFrom 129 = .ok (.aload_n 1, 1) := by decide +kernel
theorem dX5_copyFrom_130 : decode cX5_copyFrom 130 = .ok (.getfield 69, 3) := by decide +kernel
theorem dX5_copyFrom_133 : decode cX5_copyFrom 133 = .ok (.putfield 69, 3) := by decide +kernel
theorem dX5_copyFrom_136 : decode cX5_copyFrom 136 = .ok (.return_, 1) := by decide +kernel
theorem dX5_isEnded_0 : decode cX5_isEnded 0 = .ok (.aload_n 0, 1) := by decide +kernel
theorem dX5_isEnded_1 : decode cX5_isEnded 1 = .ok (.getfield 50, 3) := by decide +kernel
theorem dX5_isEnded_4 : decode cX5_isEnded 4 = .ok (.iconst 5, 1) := by decide +kernel
theorem dX5_isEnded_5 : decode cX5_isEnded 5 = .ok (.if_icmp .eq 30, 3) := by decide +kernel
theorem dX5_isEnded_8 : decode cX5_isEnded 8 = .ok (.aload_n 0, 1) := by decide +kernel
theorem dX5_isEnded_9 : decode cX5_isEnded 9 = .ok (.getfield 50, 3) := by decide +kernel
theorem dX5_isEnded_12 : decode cX5_isEnded 12 = .ok (.bipush 6, 2) := by decide +kernel
theorem dX5_isEnded_14 : decode cX5_isEnded 14 = .ok (.if_icmp .eq 21, 3) := by decide +kernel
theorem dX5_isEnded_17 : decode cX5_isEnded 17 = .ok (.aload_n 0, 1) := by decide +kernel
theorem dX5_isEnded_18 : decode cX5_isEnded 18 = .ok (.getfield 50, 3) := by decide +kernel
theorem dX5_isEnded_21 : decode cX5_isEnded 21 = .ok (.bipush 7, 2) := by decide +kernel
theorem dX5_isEnded_23 : decode cX5_isEnded 23 = .ok (.if_icmp .eq 12, 3) := by decide +kernel
theorem dX5_isEnded_26 : decode cX5_isEnded 26 = .ok (.aload_n 0, 1) := by decide +kernel
theorem dX5_isEnded_27 : decode cX5_isEnded 27 = .ok (.getfield 50, 3) := by decide +kernel
theorem dX5_isEnded_30 : decode cX5_isEnded 30 = .ok (.bipush 8, 2) := by decide +kernel
theorem dX5_isEnded_32 : decode cX5_isEnded 32 = .ok (.if_icmp .ne 7, 3) := by decide +kernel
theorem dX5_isEnded_35 : decode cX5_isEnded 35 = .ok (.iconst 1, 1) := by decide +kernel
theorem dX5_isEnded_36 : decode cX5_isEnded 36 = .ok (.goto 4, 3) := by decide +kernel
theorem dX5_isEnded_39 : decode cX5_isEnded 39 = .ok (.iconst 0, 1) := by decide +kernel
theorem dX5_isEnded_40 : decode cX5_isEnded 40 = .ok (.ireturn, 1) := by decide +kernel
theorem dX5_isAlive_0 : decode cX5_isAlive 0 = .ok (.aload_n 0, 1) := by decide +kernel
theorem dX5_isAlive_1 : decode cX5_isAlive 1 = .ok (.getfield 18, 3) := by decide +kernel
theorem dX5_isAlive_4 : decode cX5_isAlive 4 = .ok (.ifCond .eq 14, 3) := by decide +kernel
theorem dX5_isAlive_7 : decode cX5_isAlive 7 = .ok (.aload_n 0, 1) := by decide +kernel
theorem dX5_isAlive_8 : decode cX5_isAlive 8 = .ok (.invokevirtual 72, 3) := by decide +kernel
theorem dX5_isAlive_11 : decode cX5_isAlive 11 = .ok (.ifCond .ne 7, 3) := by decide +kernel
theorem dX5_isAlive_14 : decode cX5_isAlive 14 = .ok (.iconst 1, 1) := by decide +kernel
theorem dX5_isAlive_15 : decode cX5_isAlive 15 = .ok (.goto 4, 3) := by decide +kernel
theorem dX5_isAlive_18 : decode cX5_isAlive 18 = .ok (.iconst 0, 1) := by decide +kernel
theorem dX5_isAlive_19 : decode cX5_isAlive 19 = .ok (.ireturn, 1) := by decide +kernel
theorem dX5_windIn_0 : decode cX5_windIn 0 = .ok (.aload_n 0, 1) := by decide +kernel
theorem dX5_windIn_1 : decode cX5_windIn 1 = .ok (.getfield 47, 3) := by decide +kernel
theorem dX5_windIn_4 : decode cX5_windIn 4 = .ok (.aload_n 0, 1) := by decide +kernel
theorem dX5_windIn_5 : decode cX5_windIn 5 = .ok (.getfield 66, 3) := by decide +kernel
theorem dX5_windIn_8 : decode cX5_windIn 8 = .ok (.if_icmp .lt 10, 3) := by decide +kernel
theorem dX5_windIn_11 : decode cX5_windIn 11 = .ok (.aload_n 0, 1) := by decide +kernel
theorem dX5_windIn_12 : decode cX5_windIn 12 = .ok (.getfield 69, 3) := by decide +kernel
theorem dX5_windIn_15 : decode cX5_windIn 15 = .ok (.goto 22, 3) := by decide +kernel
theorem dX5_windIn_18 : decode cX5_windIn 18 = .ok (.aload_n 1, 1) := by decide +kernel
theorem dX5_windIn_19 : decode cX5_windIn 19 = .ok (.getfield 76, 3) := by decide +kernel
theorem dX5_windIn_22 : decode cX5_windIn 22 = .ok (.aload_n 0, 1) := by decide +kernel
theorem dX5_windIn_23 : decode cX5_windIn 23 = .ok (.getfield 47, 3) := by decide +kernel
theorem dX5_windIn_26 : decode cX5_windIn 26 = .ok (.invokevirtual 82, 3) := by decide +kernel
theorem dX5_windIn_29 : decode cX5_windIn 29 = .ok (.aload_n 0, 1) := by decide +kernel
theorem dX5_windIn_30 : decode cX5_windIn 30 = .ok (.getfield 62, 3) := by decide +kernel
theorem dX5_windIn_33 : decode cX5_windIn 33 = .ok (.iadd, 1) := by decide +kernel
theorem dX5_windIn_34 : decode cX5_windIn 34 = .ok (.invokestatic 88, 3) := by decide +kernel
theorem dX5_windIn_37 : decode cX5_windIn 37 = .ok (.ireturn, 1) := by decide +kernel
theorem dX5_tideIn_0 : decode cX5_tideIn 0 = .ok (.aload_n 1, 1) := by decide +kernel
theorem dX5_tideIn_1 : decode cX5_tideIn 1 = .ok (.getfield 91, 3) := by decide +kernel
theorem dX5_tideIn_4 : decode cX5_tideIn 4 = .ok (.aload_n 0, 1) := by decide +kernel
theorem dX5_tideIn_5 : decode cX5_tideIn 5 = .ok (.getfield 47, 3) := by decide +kernel
theorem dX5_tideIn_8 : decode cX5_tideIn 8 = .ok (.invokevirtual 82, 3) := by decide +kernel
theorem dX5_tideIn_11 : decode cX5_tideIn 11 = .ok (.ireturn, 1) := by decide +kernel
theorem dX5_livesIn_0 : decode cX5_livesIn 0 = .ok (.aload_n 1, 1) := by decide +kernel
theorem dX5_livesIn_1 : decode cX5_livesIn 1 = .ok (.getfield 94, 3) := by decide +kernel
theorem dX5_livesIn_4 : decode cX5_livesIn 4 = .ok (.istore_n 2, 1) := by decide +kernel
theorem dX5_livesIn_5 : decode cX5_livesIn 5 = .ok (.aload_n 0, 1) := by decide +kernel
theorem dX5_livesIn_6 : decode cX5_livesIn 6 = .ok (.getfield 50, 3) := by decide +kernel
theorem dX5_livesIn_9 : decode cX5_livesIn 9 = .ok (.tableswitch 62 5 7 #[27, 40, 60], 27) := by decide +kernel
theorem dX5_livesIn_36 : decode cX5_livesIn 36 = .ok (.aload_n 1, 1) := by decide +kernel
theorem dX5_livesIn_37 : decode cX5_livesIn 37 = .ok (.aload_n 0, 1) := by decide +kernel
theorem dX5_livesIn_38 : decode cX5_livesIn 38 = .ok (.getfield 53, 3) := by decide +kernel
theorem dX5_livesIn_41 : decode cX5_livesIn 41 = .ok (.aload_n 0, 1) := by decide +kernel
theorem dX5_livesIn_42 : decode cX5_livesIn 42 = .ok (.getfield 56, 3) := by decide +kernel
theorem dX5_livesIn_45 : decode cX5_livesIn 45 = .ok (.invokevirtual 97, 3) := by decide +kernel
theorem dX5_livesIn_48 : decode cX5_livesIn 48 = .ok (.ireturn, 1) := by decide +kernel
theorem dX5_livesIn_49 : decode cX5_livesIn 49 = .ok (.iload_n 2, 1) := by decide +kernel
theorem dX5_livesIn_50 : decode cX5_livesIn 50 = .ok (.aload_n 0, 1) := by decide +kernel
theorem dX5_livesIn_51 : decode cX5_livesIn 51 = .ok (.getfield 56, 3) := by decide +kernel
theorem dX5_livesIn_54 : decode cX5_livesIn 54 = .ok (.ifCond .eq 8, 3) := by decide +kernel
theorem dX5_livesIn_57 : decode cX5_livesIn 57 = .ok (.bipush 10, 2) := by decide +kernel
theorem dX5_livesIn_59 : decode cX5_livesIn 59 = .ok (.goto 5, 3) := by decide +kernel
theorem dX5_livesIn_62 : decode cX5_livesIn 62 = .ok (.bipush 40, 2) := by decide +kernel
theorem dX5_livesIn_64 : decode cX5_livesIn 64 = .ok (.imul, 1) := by decide +kernel
theorem dX5_livesIn_65 : decode cX5_livesIn 65 = .ok (.bipush 100, 2) := by decide +kernel
theorem dX5_livesIn_67 : decode cX5_livesIn 67 = .ok (.idiv, 1) := by decide +kernel
theorem dX5_livesIn_68 : decode cX5_livesIn 68 = .ok (.ireturn, 1) := by decide +kernel
theorem dX5_livesIn_69 : decode cX5_livesIn 69 = .ok (.iconst 0, 1) := by decide +kernel
theorem dX5_livesIn_70 : decode cX5_livesIn 70 = .ok (.ireturn, 1) := by decide +kernel
theorem dX5_livesIn_71 : decode cX5_livesIn 71 = .ok (.iload_n 2, 1) := by decide +kernel
theorem dX5_livesIn_72 : decode cX5_livesIn 72 = .ok (.ireturn, 1) := by decide +kernel
theorem dX5_mayTurn_0 : decode cX5_mayTurn 0 = .ok (.aload_n 0, 1) := by decide +kernel
theorem dX5_mayTurn_1 : decode cX5_mayTurn 1 = .ok (.invokevirtual 101, 3) := by decide +kernel
theorem dX5_mayTurn_4 : decode cX5_mayTurn 4 = .ok (.ifCond .eq 31, 3) := by decide +kernel
theorem dX5_mayTurn_7 : decode cX5_mayTurn 7 = .ok (.aload_n 0, 1) := by decide +kernel
theorem dX5_mayTurn_8 : decode cX5_mayTurn 8 = .ok (.getfield 50, 3) := by decide +kernel
theorem dX5_mayTurn_11 : decode cX5_mayTurn 11 = .ok (.iconst 4, 1) := by decide +kernel
theorem dX5_mayTurn_12 : decode cX5_mayTurn 12 = .ok (.if_icmp .eq 23, 3) := by decide +kernel
theorem dX5_mayTurn_15 : decode cX5_mayTurn 15 = .ok (.iload_n 2, 1) := by decide +kernel
theorem dX5_mayTurn_16 : decode cX5_mayTurn 16 = .ok (.aload_n 0, 1) := by decide +kernel
theorem dX5_mayTurn_17 : decode cX5_mayTurn 17 = .ok (.aload_n 1, 1) := by decide +kernel
theorem dX5_mayTurn_18 : decode cX5_mayTurn 18 = .ok (.invokevirtual 104, 3) := by decide +kernel
theorem dX5_mayTurn_21 : decode cX5_mayTurn 21 = .ok (.invokestatic 108, 3) := by decide +kernel
theorem dX5_mayTurn_24 : decode cX5_mayTurn 24 = .ok (.aload_n 1, 1) := by decide +kernel
theorem dX5_mayTurn_25 : decode cX5_mayTurn 25 = .ok (.getfield 112, 3) := by decide +kernel
theorem dX5_mayTurn_28 : decode cX5_mayTurn 28 = .ok (.if_icmp .lt 7, 3) := by decide +kernel
theorem dX5_mayTurn_31 : decode cX5_mayTurn 31 = .ok (.iconst 1, 1) := by decide +kernel
theorem dX5_mayTurn_32 : decode cX5_mayTurn 32 = .ok (.goto 4, 3) := by decide +kernel
theorem dX5_mayTurn_35 : decode cX5_mayTurn 35 = .ok (.iconst 0, 1) := by decide +kernel
theorem dX5_mayTurn_36 : decode cX5_mayTurn 36 = .ok (.ireturn, 1) := by decide +kernel
theorem dX5_wouldFailInStays_0 : decode cX5_wouldFailInStays 0 = .ok (.aload_n 1, 1) := by decide +kernel
theorem dX5_wouldFailInStays_1 : decode cX5_wouldFailInStays 1 = .ok (.getfield 115, 3) := by decide +kernel
theorem dX5_wouldFailInStays_4 : decode cX5_wouldFailInStays 4 = .ok (.iconst 5, 1) := by decide +kernel
theorem dX5_wouldFailInStays_5 : decode cX5_wouldFailInStays 5 = .ok (.if_icmp .le 20, 3) := by decide +kernel
theorem dX5_wouldFailInStays_8 : decode cX5_wouldFailInStays 8 = .ok (.aload_n 0, 1) := by decide +kernel
theorem dX5_wouldFailInStays_9 : decode cX5_wouldFailInStays 9 = .ok (.aload_n 0, 1) := by decide +kernel
theorem dX5_wouldFailInStays_10 : decode cX5_wouldFailInStays 10 = .ok (.aload_n 1, 1) := by decide +kernel
theorem dX5_wouldFailInStays_11 : decode cX5_wouldFailInStays 11 = .ok (.invokevirtual 104, 3) := by decide +kernel
theorem dX5_wouldFailInStays_14 : decode cX5_wouldFailInStays 14 = .ok (.iload_n 2, 1) := by decide +kernel
theorem dX5_wouldFailInStays_15 : decode cX5_wouldFailInStays 15 = .ok (.invokevirtual 118, 3) := by decide +kernel
theorem dX5_wouldFailInStays_18 : decode cX5_wouldFailInStays 18 = .ok (.ifCond .eq 7, 3) := by decide +kernel
theorem dX5_wouldFailInStays_21 : decode cX5_wouldFailInStays 21 = .ok (.iconst 1, 1) := by decide +kernel
theorem dX5_wouldFailInStays_22 : decode cX5_wouldFailInStays 22 = .ok (.goto 4, 3) := by decide +kernel
theorem dX5_wouldFailInStays_25 : decode cX5_wouldFailInStays 25 = .ok (.iconst 0, 1) := by decide +kernel
theorem dX5_wouldFailInStays_26 : decode cX5_wouldFailInStays 26 = .ok (.ireturn, 1) := by decide +kernel
theorem dX5_passesWind_0 : decode cX5_passesWind 0 = .ok (.aload_n 0, 1) := by decide +kernel
theorem dX5_passesWind_1 : decode cX5_passesWind 1 = .ok (.getfield 26, 3) := by decide +kernel
theorem dX5_passesWind_4 : decode cX5_passesWind 4 = .ok (.iload_n 2, 1) := by decide +kernel
theorem dX5_passesWind_5 : decode cX5_passesWind 5 = .ok (.invokestatic 108, 3) := by decide +kernel
theorem dX5_passesWind_8 : decode cX5_passesWind 8 = .ok (.istore_n 3, 1) := by decide +kernel
theorem dX5_passesWind_9 : decode cX5_passesWind 9 = .ok (.iload_n 3, 1) := by decide +kernel
theorem dX5_passesWind_10 : decode cX5_passesWind 10 = .ok (.iconst 4, 1) := by decide +kernel
theorem dX5_passesWind_11 : decode cX5_passesWind 11 = .ok (.if_icmp .eq 16, 3) := by decide +kernel
theorem dX5_passesWind_14 : decode cX5_passesWind 14 = .ok (.iload_n 1, 1) := by decide +kernel
theorem dX5_passesWind_15 : decode cX5_passesWind 15 = .ok (.aload_n 0, 1) := by decide +kernel
theorem dX5_passesWind_16 : decode cX5_passesWind 16 = .ok (.getfield 26, 3) := by decide +kernel
theorem dX5_passesWind_19 : decode cX5_passesWind 19 = .ok (.if_icmp .eq 8, 3) := by decide +kernel
theorem dX5_passesWind_22 : decode cX5_passesWind 22 = .ok (.iload_n 1, 1) := by decide +kernel
theorem dX5_passesWind_23 : decode cX5_passesWind 23 = .ok (.iload_n 2, 1) := by decide +kernel
theorem dX5_passesWind_24 : decode cX5_passesWind 24 = .ok (.if_icmp .ne 5, 3) := by decide +kernel
theorem dX5_passesWind_27 : decode cX5_passesWind 27 = .ok (.iconst 0, 1) := by decide +kernel
theorem dX5_passesWind_28 : decode cX5_passesWind 28 = .ok (.ireturn, 1) := by decide +kernel
theorem dX5_passesWind_29 : decode cX5_passesWind 29 = .ok (.aload_n 0, 1) := by decide +kernel
theorem dX5_passesWind_30 : decode cX5_passesWind 30 = .ok (.getfield 26, 3) := by decide +kernel
theorem dX5_passesWind_33 : decode cX5_passesWind 33 = .ok (.iload_n 1, 1) := by decide +kernel
theorem dX5_passesWind_34 : decode cX5_passesWind 34 = .ok (.invokestatic 108, 3) := by decide +kernel
theorem dX5_passesWind_37 : decode cX5_passesWind 37 = .ok (.iload_n 1, 1) := by decide +kernel
theorem dX5_passesWind_38 : decode cX5_passesWind 38 = .ok (.iload_n 2, 1) := by decide +kernel
theorem dX5_passesWind_39 : decode cX5_passesWind 39 = .ok (.invokestatic 108, 3) := by decide +kernel
theorem dX5_passesWind_42 : decode cX5_passesWind 42 = .ok (.iadd, 1) := by decide +kernel
theorem dX5_passesWind_43 : decode cX5_passesWind 43 = .ok (.iload_n 3, 1) := by decide +kernel
theorem dX5_passesWind_44 : decode cX5_passesWind 44 = .ok (.if_icmp .ne 7, 3) := by decide +kernel
theorem dX5_passesWind_47 : decode cX5_passesWind 47 = .ok (.iconst 1, 1) := by decide +kernel
theorem dX5_passesWind_48 : decode cX5_passesWind 48 = .ok (.goto 4, 3) := by decide +kernel
theorem dX5_passesWind_51 : decode cX5_passesWind 51 = .ok (.iconst 0, 1) := by decide +kernel
theorem dX5_passesWind_52 : decode cX5_passesWind 52 = .ok (.ireturn, 1) := by decide +kernel
theorem dX5_mayAnchor_0 : decode cX5_mayAnchor 0 = .ok (.aload_n 0, 1) := by decide +kernel
theorem dX5_mayAnchor_1 : decode cX5_mayAnchor 1 = .ok (.invokevirtual 101, 3) := by decide +kernel
theorem dX5_mayAnchor_4 : decode cX5_mayAnchor 4 = .ok (.ifCond .eq 22, 3) := by decide +kernel
theorem dX5_mayAnchor_7 : decode cX5_mayAnchor 7 = .ok (.aload_n 0, 1) := by decide +kernel
theorem dX5_mayAnchor_8 : decode cX5_mayAnchor 8 = .ok (.getfield 50, 3) := by decide +kernel
theorem dX5_mayAnchor_11 : decode cX5_mayAnchor 11 = .ok (.iconst 4, 1) := by decide +kernel
theorem dX5_mayAnchor_12 : decode cX5_mayAnchor 12 = .ok (.if_icmp .eq 14, 3) := by decide +kernel
theorem dX5_mayAnchor_15 : decode cX5_mayAnchor 15 = .ok (.aload_n 0, 1) := by decide +kernel
theorem dX5_mayAnchor_16 : decode cX5_mayAnchor 16 = .ok (.getfield 35, 3) := by decide +kernel
theorem dX5_mayAnchor_19 : decode cX5_mayAnchor 19 = .ok (.ifCond .le 7, 3) := by decide +kernel
theorem dX5_mayAnchor_22 : decode cX5_mayAnchor 22 = .ok (.iconst 1, 1) := by decide +kernel
theorem dX5_mayAnchor_23 : decode cX5_mayAnchor 23 = .ok (.goto 4, 3) := by decide +kernel
theorem dX5_mayAnchor_26 : decode cX5_mayAnchor 26 = .ok (.iconst 0, 1) := by decide +kernel
theorem dX5_mayAnchor_27 : decode cX5_mayAnchor 27 = .ok (.ireturn, 1) := by decide +kernel
theorem dX5_turnBeforeWind_0 : decode cX5_turnBeforeWind 0 = .ok (.aload_n 0, 1) := by decide +kernel
theorem dX5_turnBeforeWind_1 : decode cX5_turnBeforeWind 1 = .ok (.iload_n 2, 1) := by decide +kernel
theorem dX5_turnBeforeWind_2 : decode cX5_turnBeforeWind 2 = .ok (.putfield 26, 3) := by decide +kernel
theorem dX5_turnBeforeWind_5 : decode cX5_turnBeforeWind 5 = .ok (.aload_n 0, 1) := by decide +kernel
theorem dX5_turnBeforeWind_6 : decode cX5_turnBeforeWind 6 = .ok (.aload_n 1, 1) := by decide +kernel
theorem dX5_turnBeforeWind_7 : decode cX5_turnBeforeWind 7 = .ok (.aload_n 0, 1) := by decide +kernel
theorem dX5_turnBeforeWind_8 : decode cX5_turnBeforeWind 8 = .ok (.aload_n 1, 1) := by decide +kernel
theorem dX5_turnBeforeWind_9 : decode cX5_turnBeforeWind 9 = .ok (.invokevirtual 104, 3) := by decide +kernel
theorem dX5_turnBeforeWind_12 : decode cX5_turnBeforeWind 12 = .ok (.invokestatic 122, 3) := by decide +kernel
theorem dX5_turnBeforeWind_15 : decode cX5_turnBeforeWind 15 = .ok (.invokevirtual 125, 3) := by decide +kernel
theorem dX5_turnBeforeWind_18 : decode cX5_turnBeforeWind 18 = .ok (.aload_n 0, 1) := by decide +kernel
theorem dX5_turnBeforeWind_19 : decode cX5_turnBeforeWind 19 = .ok (.invokevirtual 72, 3) := by decide +kernel
theorem dX5_turnBeforeWind_22 : decode cX5_turnBeforeWind 22 = .ok (.ifCond .ne 8, 3) := by decide +kernel
theorem dX5_turnBeforeWind_25 : decode cX5_turnBeforeWind 25 = .ok (.aload_n 0, 1) := by decide +kernel
theorem dX5_turnBeforeWind_26 : decode cX5_turnBeforeWind 26 = .ok (.iconst 2, 1) := by decide +kernel
theorem dX5_turnBeforeWind_27 : decode cX5_turnBeforeWind 27 = .ok (.putfield 50, 3) := by decide +kernel
theorem dX5_turnBeforeWind_30 : decode cX5_turnBeforeWind 30 = .ok (.return_, 1) := by decide +kernel
theorem dX5_turnRoundAnchor_0 : decode cX5_turnRoundAnchor 0 = .ok (.aload_n 0, 1) := by decide +kernel
theorem dX5_turnRoundAnchor_1 : decode cX5_turnRoundAnchor 1 = .ok (.iload_n 1, 1) := by decide +kernel
theorem dX5_turnRoundAnchor_2 : decode cX5_turnRoundAnchor 2 = .ok (.putfield 26, 3) := by decide +kernel
theorem dX5_turnRoundAnchor_5 : decode cX5_turnRoundAnchor 5 = .ok (.aload_n 0, 1) := by decide +kernel
theorem dX5_turnRoundAnchor_6 : decode cX5_turnRoundAnchor 6 = .ok (.dup, 1) := by decide +kernel
theorem dX5_turnRoundAnchor_7 : decode cX5_turnRoundAnchor 7 = .ok (.getfield 35, 3) := by decide +kernel
theorem dX5_turnRoundAnchor_10 : decode cX5_turnRoundAnchor 10 = .ok (.iconst 1, 1) := by decide +kernel
theorem dX5_turnRoundAnchor_11 : decode cX5_turnRoundAnchor 11 = .ok (.isub, 1) := by decide +kernel
theorem dX5_turnRoundAnchor_12 : decode cX5_turnRoundAnchor 12 = .ok (.putfield 35, 3) := by decide +kernel
theorem dX5_turnRoundAnchor_15 : decode cX5_turnRoundAnchor 15 = .ok (.aload_n 0, 1) := by decide +kernel
theorem dX5_turnRoundAnchor_16 : decode cX5_turnRoundAnchor 16 = .ok (.iconst 3, 1) := by decide +kernel
theorem dX5_turnRoundAnchor_17 : decode cX5_turnRoundAnchor 17 = .ok (.putfield 50, 3) := by decide +kernel
theorem dX5_turnRoundAnchor_20 : decode cX5_turnRoundAnchor 20 = .ok (.return_, 1) := by decide +kernel
theorem dX5_tryAct_0 : decode cX5_tryAct 0 = .ok (.iload_n 2, 1) := by decide +kernel
theorem dX5_tryAct_1 : decode cX5_tryAct 1 = .ok (.iconst 1, 1) := by decide +kernel
theorem dX5_tryAct_2 : decode cX5_tryAct 2 = .ok (.if_icmp .eq 8, 3) := by decide +kernel
theorem dX5_tryAct_5 : decode cX5_tryAct 5 = .ok (.iload_n 2, 1) := by decide +kernel
theorem dX5_tryAct_6 : decode cX5_tryAct 6 = .ok (.iconst 2, 1) := by decide +kernel
theorem dX5_tryAct_7 : decode cX5_tryAct 7 = .ok (.if_icmp .ne 41, 3) := by decide +kernel
theorem dX5_tryAct_10 : decode cX5_tryAct 10 = .ok (.aload_n 0, 1) := by decide +kernel
theorem dX5_tryAct_11 : decode cX5_tryAct 11 = .ok (.getfield 26, 3) := by decide +kernel
theorem dX5_tryAct_14 : decode cX5_tryAct 14 = .ok (.iload_n 2, 1) := by decide +kernel
theorem dX5_tryAct_15 : decode cX5_tryAct 15 = .ok (.iconst 1, 1) := by decide +kernel
theorem dX5_tryAct_16 : decode cX5_tryAct 16 = .ok (.if_icmp .ne 7, 3) := by decide +kernel
theorem dX5_tryAct_19 : decode cX5_tryAct 19 = .ok (.iconst 2, 1) := by decide +kernel
theorem dX5_tryAct_20 : decode cX5_tryAct 20 = .ok (.goto 5, 3) := by decide +kernel
theorem dX5_tryAct_23 : decode cX5_tryAct 23 = .ok (.bipush (-2), 2) := by decide +kernel
theorem dX5_tryAct_25 : decode cX5_tryAct 25 = .ok (.iadd, 1) := by decide +kernel
theorem dX5_tryAct_26 : decode cX5_tryAct 26 = .ok (.invokestatic 88, 3) := by decide +kernel
theorem dX5_tryAct_29 : decode cX5_tryAct 29 = .ok (.istore_n 3, 1) := by decide +kernel
theorem dX5_tryAct_30 : decode cX5_tryAct 30 = .ok (.aload_n 0, 1) := by decide +kernel
theorem dX5_tryAct_31 : decode cX5_tryAct 31 = .ok (.aload_n 1, 1) := by decide +kernel
theorem dX5_tryAct_32 : decode cX5_tryAct 32 = .ok (.iload_n 3, 1) := by decide +kernel
theorem dX5_tryAct_33 : decode cX5_tryAct 33 = .ok (.invokevirtual 129, 3) := by decide +kernel
theorem dX5_tryAct_36 : decode cX5_tryAct 36 = .ok (.ifCond .eq 9, 3) := by decide +kernel
theorem dX5_tryAct_39 : decode cX5_tryAct 39 = .ok (.aload_n 0, 1) := by decide +kernel
theorem dX5_tryAct_40 : decode cX5_tryAct 40 = .ok (.aload_n 1, 1) := by decide +kernel
theorem dX5_tryAct_41 : decode cX5_tryAct 41 = .ok (.iload_n 3, 1) := by decide +kernel
theorem dX5_tryAct_42 : decode cX5_tryAct 42 = .ok (.invokevirtual 133, 3) := by decide +kernel
theorem dX5_tryAct_45 : decode cX5_tryAct 45 = .ok (.goto 53, 3) := by decide +kernel
theorem dX5_tryAct_48 : decode cX5_tryAct 48 = .ok (.iload_n 2, 1) := by decide +kernel
theorem dX5_tryAct_49 : decode cX5_tryAct 49 = .ok (.iconst 3, 1) := by decide +kernel
theorem dX5_tryAct_50 : decode cX5_tryAct 50 = .ok (.if_icmp .ne 18, 3) := by decide +kernel
theorem dX5_tryAct_53 : decode cX5_tryAct 53 = .ok (.aload_n 0, 1) := by decide +kernel
theorem dX5_tryAct_54 : decode cX5_tryAct 54 = .ok (.invokevirtual 136, 3) := by decide +kernel
theorem dX5_tryAct_57 : decode cX5_tryAct 57 = .ok (.ifCond .eq 41, 3) := by decide +kernel
theorem dX5_tryAct_60 : decode cX5_tryAct 60 = .ok (.aload_n 0, 1) := by decide +kernel
theorem dX5_tryAct_61 : decode cX5_tryAct 61 = .ok (.iconst 4, 1) := by decide +kernel
theorem dX5_tryAct_62 : decode cX5_tryAct 62 = .ok (.putfield 50, 3) := by decide +kernel
theorem dX5_tryAct_65 : decode cX5_tryAct 65 = .ok (.goto 33, 3) := by decide +kernel
theorem dX5_tryAct_68 : decode cX5_tryAct 68 = .ok (.iload_n 2, 1) := by decide +kernel
theorem dX5_tryAct_69 : decode cX5_tryAct 69 = .ok (.iconst 4, 1) := by decide +kernel
theorem dX5_tryAct_70 : decode cX5_tryAct 70 = .ok (.if_icmp .ne 28, 3) := by decide +kernel
theorem dX5_tryAct_73 : decode cX5_tryAct 73 = .ok (.aload_n 0, 1) := by decide +kernel
theorem dX5_tryAct_74 : decode cX5_tryAct 74 = .ok (.invokevirtual 101, 3) := by decide +kernel
theorem dX5_tryAct_77 : decode cX5_tryAct 77 = .ok (.ifCond .eq 21, 3) := by decide +kernel
theorem dX5_tryAct_80 : decode cX5_tryAct 80 = .ok (.aload_n 0, 1) := by decide +kernel
theorem dX5_tryAct_81 : decode cX5_tryAct 81 = .ok (.getfield 29, 3) := by decide +kernel
theorem dX5_tryAct_84 : decode cX5_tryAct 84 = .ok (.iconst 3, 1) := by decide +kernel
theorem dX5_tryAct_85 : decode cX5_tryAct 85 = .ok (.if_icmp .ge 13, 3) := by decide +kernel
theorem dX5_tryAct_88 : decode cX5_tryAct 88 = .ok (.aload_n 0, 1) := by decide +kernel
theorem dX5_tryAct_89 : decode cX5_tryAct 89 = .ok (.dup, 1) := by decide +kernel
theorem dX5_tryAct_90 : decode cX5_tryAct 90 = .ok (.getfield 29, 3) := by decide +kernel
theorem dX5_tryAct_93 : decode cX5_tryAct 93 = .ok (.iconst 1, 1) := by decide +kernel
theorem dX5_tryAct_94 : decode cX5_tryAct 94 = .ok (.iadd, 1) := by decide +kernel
theorem dX5_tryAct_95 : decode cX5_tryAct 95 = .ok (.putfield 29, 3) := by decide +kernel
theorem dX5_tryAct_98 : decode cX5_tryAct 98 = .ok (.return_, 1) := by decide +kernel
theorem dX5_passTens_0 : decode cX5_passTens 0 = .ok (.iconst 0, 1) := by decide +kernel
theorem dX5_passTens_1 : decode cX5_passTens 1 = .ok (.istore_n 3, 1) := by decide +kernel
theorem dX5_passTens_2 : decode cX5_passTens 2 = .ok (.iload_n 3, 1) := by decide +kernel
theorem dX5_passTens_3 : decode cX5_passTens 3 = .ok (.iload_n 2, 1) := by decide +kernel
theorem dX5_passTens_4 : decode cX5_passTens 4 = .ok (.if_icmp .ge 14, 3) := by decide +kernel
theorem dX5_passTens_7 : decode cX5_passTens 7 = .ok (.aload_n 0, 1) := by decide +kernel
theorem dX5_passTens_8 : decode cX5_passTens 8 = .ok (.aload_n 1, 1) := by decide +kernel
theorem dX5_passTens_9 : decode cX5_passTens 9 = .ok (.invokevirtual 139, 3) := by decide +kernel
theorem dX5_passTens_12 : decode cX5_passTens 12 = .ok (.iinc 3 1, 3) := by decide +kernel
theorem dX5_passTens_15 : decode cX5_passTens 15 = .ok (.goto (-13), 3) := by decide +kernel
theorem dX5_passTens_18 : decode cX5_passTens 18 = .ok (.return_, 1) := by decide +kernel
theorem dX5_tensTillEnded_0 : decode cX5_tensTillEnded 0 = .ok (.iconst 0, 1) := by decide +kernel
theorem dX5_tensTillEnded_1 : decode cX5_tensTillEnded 1 = .ok (.istore_n 2, 1) := by decide +kernel
theorem dX5_tensTillEnded_2 : decode cX5_tensTillEnded 2 = .ok (.iload_n 2, 1) := by decide +kernel
theorem dX5_tensTillEnded_3 : decode cX5_tensTillEnded 3 = .ok (.bipush 60, 2) := by decide +kernel
theorem dX5_tensTillEnded_5 : decode cX5_tensTillEnded 5 = .ok (.if_icmp .ge 21, 3) := by decide +kernel
theorem dX5_tensTillEnded_8 : decode cX5_tensTillEnded 8 = .ok (.aload_n 0, 1) := by decide +kernel
theorem dX5_tensTillEnded_9 : decode cX5_tensTillEnded 9 = .ok (.invokevirtual 72, 3) := by decide +kernel
theorem dX5_tensTillEnded_12 : decode cX5_tensTillEnded 12 = .ok (.ifCond .ne 14, 3) := by decide +kernel
theorem dX5_tensTillEnded_15 : decode cX5_tensTillEnded 15 = .ok (.aload_n 0, 1) := by decide +kernel
theorem dX5_tensTillEnded_16 : decode cX5_tensTillEnded 16 = .ok (.aload_n 1, 1) := by decide +kernel
theorem dX5_tensTillEnded_17 : decode cX5_tensTillEnded 17 = .ok (.invokevirtual 139, 3) := by decide +kernel
theorem dX5_tensTillEnded_20 : decode cX5_tensTillEnded 20 = .ok (.iinc 2 1, 3) := by decide +kernel
theorem dX5_tensTillEnded_23 : decode cX5_tensTillEnded 23 = .ok (.goto (-21), 3) := by decide +kernel
theorem dX5_tensTillEnded_26 : decode cX5_tensTillEnded 26 = .ok (.iload_n 2, 1) := by decide +kernel
theorem dX5_tensTillEnded_27 : decode cX5_tensTillEnded 27 = .ok (.ireturn, 1) := by decide +kernel
theorem dX5_passTen_0 : decode cX5_passTen 0 = .ok (.aload_n 0, 1) := by decide +kernel
theorem dX5_passTen_1 : decode cX5_passTen 1 = .ok (.invokevirtual 72, 3) := by decide +kernel
theorem dX5_passTen_4 : decode cX5_passTen 4 = .ok (.ifCond .ne 76, 3) := by decide +kernel
theorem dX5_passTen_7 : decode cX5_passTen 7 = .ok (.aload_n 0, 1) := by decide +kernel
theorem dX5_passTen_8 : decode cX5_passTen 8 = .ok (.getfield 50, 3) := by decide +kernel
theorem dX5_passTen_11 : decode cX5_passTen 11 = .ok (.iconst 4, 1) := by decide +kernel
theorem dX5_passTen_12 : decode cX5_passTen 12 = .ok (.if_icmp .ne 7, 3) := by decide +kernel
theorem dX5_passTen_15 : decode cX5_passTen 15 = .ok (.iconst 0, 1) := by decide +kernel
theorem dX5_passTen_16 : decode cX5_passTen 16 = .ok (.goto 8, 3) := by decide +kernel
theorem dX5_passTen_19 : decode cX5_passTen 19 = .ok (.aload_n 0, 1) := by decide +kernel
theorem dX5_passTen_20 : decode cX5_passTen 20 = .ok (.aload_n 1, 1) := by decide +kernel
theorem dX5_passTen_21 : decode cX5_passTen 21 = .ok (.invokevirtual 143, 3) := by decide +kernel
theorem dX5_passTen_24 : decode cX5_passTen 24 = .ok (.istore_n 2, 1) := by decide +kernel
theorem dX5_passTen_25 : decode cX5_passTen 25 = .ok (.aload_n 0, 1) := by decide +kernel
theorem dX5_passTen_26 : decode cX5_passTen 26 = .ok (.getfield 50, 3) := by decide +kernel
theorem dX5_passTen_29 : decode cX5_passTen 29 = .ok (.iconst 4, 1) := by decide +kernel
theorem dX5_passTen_30 : decode cX5_passTen 30 = .ok (.if_icmp .ne 11, 3) := by decide +kernel
theorem dX5_passTen_33 : decode cX5_passTen 33 = .ok (.aload_n 0, 1) := by decide +kernel
theorem dX5_passTen_34 : decode cX5_passTen 34 = .ok (.aload_n 1, 1) := by decide +kernel
theorem dX5_passTen_35 : decode cX5_passTen 35 = .ok (.invokevirtual 146, 3) := by decide +kernel
theorem dX5_passTen_38 : decode cX5_passTen 38 = .ok (.goto 9, 3) := by decide +kernel
theorem dX5_passTen_41 : decode cX5_passTen 41 = .ok (.aload_n 0, 1) := by decide +kernel
theorem dX5_passTen_42 : decode cX5_passTen 42 = .ok (.aload_n 1, 1) := by decide +kernel
theorem dX5_passTen_43 : decode cX5_passTen 43 = .ok (.iload_n 2, 1) := by decide +kernel
theorem dX5_passTen_44 : decode cX5_passTen 44 = .ok (.invokevirtual 149, 3) := by decide +kernel
theorem dX5_passTen_47 : decode cX5_passTen 47 = .ok (.aload_n 0, 1) := by decide +kernel
theorem dX5_passTen_48 : decode cX5_passTen 48 = .ok (.invokevirtual 72, 3) := by decide +kernel
theorem dX5_passTen_51 : decode cX5_passTen 51 = .ok (.ifCond .ne 8, 3) := by decide +kernel
theorem dX5_passTen_54 : decode cX5_passTen 54 = .ok (.aload_n 0, 1) := by decide +kernel
theorem dX5_passTen_55 : decode cX5_passTen 55 = .ok (.aload_n 1, 1) := by decide +kernel
theorem dX5_passTen_56 : decode cX5_passTen 56 = .ok (.invokevirtual 152, 3) := by decide +kernel
theorem dX5_passTen_59 : decode cX5_passTen 59 = .ok (.aload_n 0, 1) := by decide +kernel
theorem dX5_passTen_60 : decode cX5_passTen 60 = .ok (.invokevirtual 72, 3) := by decide +kernel
theorem dX5_passTen_63 : decode cX5_passTen 63 = .ok (.ifCond .ne 17, 3) := by decide +kernel
theorem dX5_passTen_66 : decode cX5_passTen 66 = .ok (.aload_n 0, 1) := by decide +kernel
theorem dX5_passTen_67 : decode cX5_passTen 67 = .ok (.getfield 50, 3) := by decide +kernel
theorem dX5_passTen_70 : decode cX5_passTen 70 = .ok (.iconst 4, 1) := by decide +kernel
theorem dX5_passTen_71 : decode cX5_passTen 71 = .ok (.if_icmp .eq 9, 3) := by decide +kernel
theorem dX5_passTen_74 : decode cX5_passTen 74 = .ok (.aload_n 0, 1) := by decide +kernel
theorem dX5_passTen_75 : decode cX5_passTen 75 = .ok (.aload_n 1, 1) := by decide +kernel
theorem dX5_passTen_76 : decode cX5_passTen 76 = .ok (.iload_n 2, 1) := by decide +kernel
theorem dX5_passTen_77 : decode cX5_passTen 77 = .ok (.invokevirtual 155, 3) := by decide +kernel
theorem dX5_passTen_80 : decode cX5_passTen 80 = .ok (.aload_n 0, 1) := by decide +kernel
theorem dX5_passTen_81 : decode cX5_passTen 81 = .ok (.dup, 1) := by decide +kernel
theorem dX5_passTen_82 : decode cX5_passTen 82 = .ok (.getfield 47, 3) := by decide +kernel
theorem dX5_passTen_85 : decode cX5_passTen 85 = .ok (.iconst 1, 1) := by decide +kernel
theorem dX5_passTen_86 : decode cX5_passTen 86 = .ok (.iadd, 1) := by decide +kernel
theorem dX5_passTen_87 : decode cX5_passTen 87 = .ok (.putfield 47, 3) := by decide +kernel
theorem dX5_passTen_90 : decode cX5_passTen 90 = .ok (.return_, 1) := by decide +kernel
theorem dX5_paceIn_0 : decode cX5_paceIn 0 = .ok (.aload_n 0, 1) := by decide +kernel
theorem dX5_paceIn_1 : decode cX5_paceIn 1 = .ok (.getfield 26, 3) := by decide +kernel
theorem dX5_paceIn_4 : decode cX5_paceIn 4 = .ok (.aload_n 0, 1) := by decide +kernel
theorem dX5_paceIn_5 : decode cX5_paceIn 5 = .ok (.aload_n 1, 1) := by decide +kernel
theorem dX5_paceIn_6 : decode cX5_paceIn 6 = .ok (.invokevirtual 104, 3) := by decide +kernel
theorem dX5_paceIn_9 : decode cX5_paceIn 9 = .ok (.invokestatic 108, 3) := by decide +kernel
theorem dX5_paceIn_12 : decode cX5_paceIn 12 = .ok (.istore_n 2, 1) := by decide +kernel
theorem dX5_paceIn_13 : decode cX5_paceIn 13 = .ok (.iload_n 2, 1) := by decide +kernel
theorem dX5_paceIn_14 : decode cX5_paceIn 14 = .ok (.aload_n 1, 1) := by decide +kernel
theorem dX5_paceIn_15 : decode cX5_paceIn 15 = .ok (.getfield 112, 3) := by decide +kernel
theorem dX5_paceIn_18 : decode cX5_paceIn 18 = .ok (.if_icmp .ge 7, 3) := by decide +kernel
theorem dX5_paceIn_21 : decode cX5_paceIn 21 = .ok (.iconst 0, 1) := by decide +kernel
theorem dX5_paceIn_22 : decode cX5_paceIn 22 = .ok (.goto 18, 3) := by decide +kernel
theorem dX5_paceIn_25 : decode cX5_paceIn 25 = .ok (.aload_n 0, 1) := by decide +kernel
theorem dX5_paceIn_26 : decode cX5_paceIn 26 = .ok (.getfield 29, 3) := by decide +kernel
theorem dX5_paceIn_29 : decode cX5_paceIn 29 = .ok (.aload_n 0, 1) := by decide +kernel
theorem dX5_paceIn_30 : decode cX5_paceIn 30 = .ok (.getfield 32, 3) := by decide +kernel
theorem dX5_paceIn_33 : decode cX5_paceIn 33 = .ok (.invokestatic 158, 3) := by decide +kernel
theorem dX5_paceIn_36 : decode cX5_paceIn 36 = .ok (.iload_n 2, 1) := by decide +kernel
theorem dX5_paceIn_37 : decode cX5_paceIn 37 = .ok (.iconst 1, 1) := by decide +kernel
theorem dX5_paceIn_38 : decode cX5_paceIn 38 = .ok (.iadd, 1) := by decide +kernel
theorem dX5_paceIn_39 : decode cX5_paceIn 39 = .ok (.imul, 1) := by decide +kernel
theorem dX5_paceIn_40 : decode cX5_paceIn 40 = .ok (.ireturn, 1) := by decide +kernel
theorem dX5_strainAtAnchor_0 : decode cX5_strainAtAnchor 0 = .ok (.aload_n 1, 1) := by decide +kernel
theorem dX5_strainAtAnchor_1 : decode cX5_strainAtAnchor 1 = .ok (.getfield 163, 3) := by decide +kernel
theorem dX5_strainAtAnchor_4 : decode cX5_strainAtAnchor 4 = .ok (.aload_n 0, 1) := by decide +kernel
theorem dX5_strainAtAnchor_5 : decode cX5_strainAtAnchor 5 = .ok (.getfield 22, 3) := by decide +kernel
theorem dX5_strainAtAnchor_8 : decode cX5_strainAtAnchor 8 = .ok (.invokevirtual 167, 3) := by decide +kernel
theorem dX5_strainAtAnchor_11 : decode cX5_strainAtAnchor 11 = .ok (.aload_n 0, 1) := by decide +kernel
theorem dX5_strainAtAnchor_12 : decode cX5_strainAtAnchor 12 = .ok (.aload_n 1, 1) := by decide +kernel
theorem dX5_strainAtAnchor_13 : decode cX5_strainAtAnchor 13 = .ok (.invokevirtual 172, 3) := by decide +kernel
theorem dX5_strainAtAnchor_16 : decode cX5_strainAtAnchor 16 = .ok (.invokestatic 175, 3) := by decide +kernel
theorem dX5_strainAtAnchor_19 : decode cX5_strainAtAnchor 19 = .ok (.istore_n 2, 1) := by decide +kernel
theorem dX5_strainAtAnchor_20 : decode cX5_strainAtAnchor 20 = .ok (.aload_n 1, 1) := by decide +kernel
theorem dX5_strainAtAnchor_21 : decode cX5_strainAtAnchor 21 = .ok (.getfield 115, 3) := by decide +kernel
theorem dX5_strainAtAnchor_24 : decode cX5_strainAtAnchor 24 = .ok (.aload_n 0, 1) := by decide +kernel
theorem dX5_strainAtAnchor_25 : decode cX5_strainAtAnchor 25 = .ok (.getfield 32, 3) := by decide +kernel
theorem dX5_strainAtAnchor_28 : decode cX5_strainAtAnchor 28 = .ok (.invokestatic 178, 3) := by decide +kernel
theorem dX5_strainAtAnchor_31 : decode cX5_strainAtAnchor 31 = .ok (.iload_n 2, 1) := by decide +kernel
theorem dX5_strainAtAnchor_32 : decode cX5_strainAtAnchor 32 = .ok (.if_icmp .le 16, 3) := by decide +kernel
theorem dX5_strainAtAnchor_35 : decode cX5_strainAtAnchor 35 = .ok (.aload_n 0, 1) := by decide +kernel
theorem dX5_strainAtAnchor_36 : decode cX5_strainAtAnchor 36 = .ok (.aload_n 1, 1) := by decide +kernel
theorem dX5_strainAtAnchor_37 : decode cX5_strainAtAnchor 37 = .ok (.aload_n 0, 1) := by decide +kernel
theorem dX5_strainAtAnchor_38 : decode cX5_strainAtAnchor 38 = .ok (.aload_n 1, 1) := by decide +kernel
theorem dX5_strainAtAnchor_39 : decode cX5_strainAtAnchor 39 = .ok (.invokevirtual 104, 3) := by decide +kernel
theorem dX5_strainAtAnchor_42 : decode cX5_strainAtAnchor 42 = .ok (.invokestatic 122, 3) := by decide +kernel
theorem dX5_strainAtAnchor_45 : decode cX5_strainAtAnchor 45 = .ok (.invokevirtual 125, 3) := by decide +kernel
theorem dX5_strainAtAnchor_48 : decode cX5_strainAtAnchor 48 = .ok (.return_, 1) := by decide +kernel
theorem dX5_goOn_0 : decode cX5_goOn 0 = .ok (.aload_n 0, 1) := by decide +kernel
theorem dX5_goOn_1 : decode cX5_goOn 1 = .ok (.getfield 59, 3) := by decide +kernel
theorem dX5_goOn_4 : decode cX5_goOn 4 = .ok (.ifCond .eq 7, 3) := by decide +kernel
theorem dX5_goOn_7 : decode cX5_goOn 7 = .ok (.iconst 0, 1) := by decide +kernel
theorem dX5_goOn_8 : decode cX5_goOn 8 = .ok (.goto 7, 3) := by decide +kernel
theorem dX5_goOn_11 : decode cX5_goOn 11 = .ok (.aload_n 1, 1) := by decide +kernel
theorem dX5_goOn_12 : decode cX5_goOn 12 = .ok (.getfield 181, 3) := by decide +kernel
theorem dX5_goOn_15 : decode cX5_goOn 15 = .ok (.istore_n 3, 1) := by decide +kernel
theorem dX5_goOn_16 : decode cX5_goOn 16 = .ok (.aload_n 0, 1) := by decide +kernel
theorem dX5_goOn_17 : decode cX5_goOn 17 = .ok (.dup, 1) := by decide +kernel
theorem dX5_goOn_18 : decode cX5_goOn 18 = .ok (.getfield 41, 3) := by decide +kernel
theorem dX5_goOn_21 : decode cX5_goOn 21 = .ok (.iload_n 2, 1) := by decide +kernel
theorem dX5_goOn_22 : decode cX5_goOn 22 = .ok (.iadd, 1) := by decide +kernel
theorem dX5_goOn_23 : decode cX5_goOn 23 = .ok (.putfield 41, 3) := by decide +kernel
theorem dX5_goOn_26 : decode cX5_goOn 26 = .ok (.aload_n 0, 1) := by decide +kernel
theorem dX5_goOn_27 : decode cX5_goOn 27 = .ok (.dup, 1) := by decide +kernel
theorem dX5_goOn_28 : decode cX5_goOn 28 = .ok (.getfield 44, 3) := by decide +kernel
theorem dX5_goOn_31 : decode cX5_goOn 31 = .ok (.aload_n 1, 1) := by decide +kernel
theorem dX5_goOn_32 : decode cX5_goOn 32 = .ok (.getfield 115, 3) := by decide +kernel
theorem dX5_goOn_35 : decode cX5_goOn 35 = .ok (.bipush 9, 2) := by decide +kernel
theorem dX5_goOn_37 : decode cX5_goOn 37 = .ok (.iload_n 3, 1) := by decide +kernel
theorem dX5_goOn_38 : decode cX5_goOn 38 = .ok (.isub, 1) := by decide +kernel
theorem dX5_goOn_39 : decode cX5_goOn 39 = .ok (.iconst 3, 1) := by decide +kernel
theorem dX5_goOn_40 : decode cX5_goOn 40 = .ok (.idiv, 1) := by decide +kernel
theorem dX5_goOn_41 : decode cX5_goOn 41 = .ok (.iadd, 1) := by decide +kernel
theorem dX5_goOn_42 : decode cX5_goOn 42 = .ok (.aload_n 0, 1) := by decide +kernel
theorem dX5_goOn_43 : decode cX5_goOn 43 = .ok (.getfield 38, 3) := by decide +kernel
theorem dX5_goOn_46 : decode cX5_goOn 46 = .ok (.bipush 25, 2) := by decide +kernel
theorem dX5_goOn_48 : decode cX5_goOn 48 = .ok (.idiv, 1) := by decide +kernel
theorem dX5_goOn_49 : decode cX5_goOn 49 = .ok (.iadd, 1) := by decide +kernel
theorem dX5_goOn_50 : decode cX5_goOn 50 = .ok (.iadd, 1) := by decide +kernel
theorem dX5_goOn_51 : decode cX5_goOn 51 = .ok (.putfield 44, 3) := by decide +kernel
theorem dX5_goOn_54 : decode cX5_goOn 54 = .ok (.aload_n 0, 1) := by decide +kernel
theorem dX5_goOn_55 : decode cX5_goOn 55 = .ok (.getfield 41, 3) := by decide +kernel
theorem dX5_goOn_58 : decode cX5_goOn 58 = .ok (.bipush 10, 2) := by decide +kernel
theorem dX5_goOn_60 : decode cX5_goOn 60 = .ok (.if_icmp .lt 33, 3) := by decide +kernel
theorem dX5_goOn_63 : decode cX5_goOn 63 = .ok (.aload_n 0, 1) := by decide +kernel
theorem dX5_goOn_64 : decode cX5_goOn 64 = .ok (.invokevirtual 72, 3) := by decide +kernel
theorem dX5_goOn_67 : decode cX5_goOn 67 = .ok (.ifCond .ne 26, 3) := by decide +kernel
theorem dX5_goOn_70 : decode cX5_goOn 70 = .ok (.aload_n 0, 1) := by decide +kernel
theorem dX5_goOn_71 : decode cX5_goOn 71 = .ok (.dup, 1) := by decide +kernel
theorem dX5_goOn_72 : decode cX5_goOn 72 = .ok (.getfield 41, 3) := by decide +kernel
theorem dX5_goOn_75 : decode cX5_goOn 75 = .ok (.bipush 10, 2) := by decide +kernel
theorem dX5_goOn_77 : decode cX5_goOn 77 = .ok (.isub, 1) := by decide +kernel
theorem dX5_goOn_78 : decode cX5_goOn 78 = .ok (.putfield 41, 3) := by decide +kernel
theorem dX5_goOn_81 : decode cX5_goOn 81 = .ok (.aload_n 0, 1) := by decide +kernel
theorem dX5_goOn_82 : decode cX5_goOn 82 = .ok (.aload_n 1, 1) := by decide +kernel
theorem dX5_goOn_83 : decode cX5_goOn 83 = .ok (.aload_n 0, 1) := by decide +kernel
theorem dX5_goOn_84 : decode cX5_goOn 84 = .ok (.getfield 26, 3) := by decide +kernel
theorem dX5_goOn_87 : decode cX5_goOn 87 = .ok (.invokevirtual 125, 3) := by decide +kernel
theorem dX5_goOn_90 : decode cX5_goOn 90 = .ok (.goto (-36), 3) := by decide +kernel
theorem dX5_goOn_93 : decode cX5_goOn 93 = .ok (.aload_n 0, 1) := by decide +kernel
theorem dX5_goOn_94 : decode cX5_goOn 94 = .ok (.getfield 44, 3) := by decide +kernel
theorem dX5_goOn_97 : decode cX5_goOn 97 = .ok (.bipush 10, 2) := by decide +kernel
theorem dX5_goOn_99 : decode cX5_goOn 99 = .ok (.if_icmp .lt 37, 3) := by decide +kernel
theorem dX5_goOn_102 : decode cX5_goOn 102 = .ok (.aload_n 0, 1) := by decide +kernel
theorem dX5_goOn_103 : decode cX5_goOn 103 = .ok (.invokevirtual 72, 3) := by decide +kernel
theorem dX5_goOn_106 : decode cX5_goOn 106 = .ok (.ifCond .ne 30, 3) := by decide +kernel
theorem dX5_goOn_109 : decode cX5_goOn 109 = .ok (.aload_n 0, 1) := by decide +kernel
theorem dX5_goOn_110 : decode cX5_goOn 110 = .ok (.dup, 1) := by decide +kernel
theorem dX5_goOn_111 : decode cX5_goOn 111 = .ok (.getfield 44, 3) := by decide +kernel
theorem dX5_goOn_114 : decode cX5_goOn 114 = .ok (.bipush 10, 2) := by decide +kernel
theorem dX5_goOn_116 : decode cX5_goOn 116 = .ok (.isub, 1) := by decide +kernel
theorem dX5_goOn_117 : decode cX5_goOn 117 = .ok (.putfield 44, 3) := by decide +kernel
theorem dX5_goOn_120 : decode cX5_goOn 120 = .ok (.aload_n 0, 1) := by decide +kernel
theorem dX5_goOn_121 : decode cX5_goOn 121 = .ok (.aload_n 1, 1) := by decide +kernel
theorem dX5_goOn_122 : decode cX5_goOn 122 = .ok (.aload_n 0, 1) := by decide +kernel
theorem dX5_goOn_123 : decode cX5_goOn 123 = .ok (.aload_n 1, 1) := by decide +kernel
theorem dX5_goOn_124 : decode cX5_goOn 124 = .ok (.invokevirtual 104, 3) := by decide +kernel
theorem dX5_goOn_127 : decode cX5_goOn 127 = .ok (.invokestatic 122, 3) := by decide +kernel
theorem dX5_goOn_130 : decode cX5_goOn 130 = .ok (.invokevirtual 125, 3) := by decide +kernel
theorem dX5_goOn_133 : decode cX5_goOn 133 = .ok (.goto (-40), 3) := by decide +kernel
theorem dX5_goOn_136 : decode cX5_goOn 136 = .ok (.return_, 1) := by decide +kernel
theorem dX5_goInto_0 : decode cX5_goInto 0 = .ok (.aload_n 1, 1) := by decide +kernel
theorem dX5_goInto_1 : decode cX5_goInto 1 = .ok (.getfield 163, 3) := by decide +kernel
theorem dX5_goInto_4 : decode cX5_goInto 4 = .ok (.aload_n 0, 1) := by decide +kernel
theorem dX5_goInto_5 : decode cX5_goInto 5 = .ok (.getfield 22, 3) := by decide +kernel
theorem dX5_goInto_8 : decode cX5_goInto 8 = .ok (.iload_n 2, 1) := by decide +kernel
theorem dX5_goInto_9 : decode cX5_goInto 9 = .ok (.invokevirtual 184, 3) := by decide +kernel
theorem dX5_goInto_12 : decode cX5_goInto 12 = .ok (.istore_n 3, 1) := by decide +kernel
theorem dX5_goInto_13 : decode cX5_goInto 13 = .ok (.aload_n 1, 1) := by decide +kernel
theorem dX5_goInto_14 : decode cX5_goInto 14 = .ok (.getfield 163, 3) := by decide +kernel
theorem dX5_goInto_17 : decode cX5_goInto 17 = .ok (.iload_n 3, 1) := by decide +kernel
theorem dX5_goInto_18 : decode cX5_goInto 18 = .ok (.invokevirtual 167, 3) := by decide +kernel
theorem dX5_goInto_21 : decode cX5_goInto 21 = .ok (.istore 4, 2) := by decide +kernel
theorem dX5_goInto_23 : decode cX5_goInto 23 = .ok (.aload_n 1, 1) := by decide +kernel
theorem dX5_goInto_24 : decode cX5_goInto 24 = .ok (.getfield 91, 3) := by decide +kernel
theorem dX5_goInto_27 : decode cX5_goInto 27 = .ok (.aload_n 0, 1) := by decide +kernel
theorem dX5_goInto_28 : decode cX5_goInto 28 = .ok (.getfield 47, 3) := by decide +kernel
theorem dX5_goInto_31 : decode cX5_goInto 31 = .ok (.invokevirtual 82, 3) := by decide +kernel
theorem dX5_goInto_34 : decode cX5_goInto 34 = .ok (.istore 5, 2) := by decide +kernel
theorem dX5_goInto_36 : decode cX5_goInto 36 = .ok (.aload_n 0, 1) := by decide +kernel
theorem dX5_goInto_37 : decode cX5_goInto 37 = .ok (.iload_n 3, 1) := by decide +kernel
theorem dX5_goInto_38 : decode cX5_goInto 38 = .ok (.iconst (-1), 1) := by decide +kernel
theorem dX5_goInto_39 : decode cX5_goInto 39 = .ok (.if_icmp .ne 8, 3) := by decide +kernel
theorem dX5_goInto_42 : decode cX5_goInto 42 = .ok (.bipush (-9), 2) := by decide +kernel
theorem dX5_goInto_44 : decode cX5_goInto 44 = .ok (.goto 4, 3) := by decide +kernel
theorem dX5_goInto_47 : decode cX5_goInto 47 = .ok (.iload_n 3, 1) := by decide +kernel
theorem dX5_goInto_48 : decode cX5_goInto 48 = .ok (.putfield 22, 3) := by decide +kernel
theorem dX5_goInto_51 : decode cX5_goInto 51 = .ok (.iload_n 3, 1) := by decide +kernel
theorem dX5_goInto_52 : decode cX5_goInto 52 = .ok (.iconst (-1), 1) := by decide +kernel
theorem dX5_goInto_53 : decode cX5_goInto 53 = .ok (.if_icmp .ne 22, 3) := by decide +kernel
theorem dX5_goInto_56 : decode cX5_goInto 56 = .ok (.aload_n 0, 1) := by decide +kernel
theorem dX5_goInto_57 : decode cX5_goInto 57 = .ok (.bipush 8, 2) := by decide +kernel
theorem dX5_goInto_59 : decode cX5_goInto 59 = .ok (.iload 5, 2) := by decide +kernel
theorem dX5_goInto_61 : decode cX5_goInto 61 = .ok (.aload_n 1, 1) := by decide +kernel
theorem dX5_goInto_62 : decode cX5_goInto 62 = .ok (.aload_n 0, 1) := by decide +kernel
theorem dX5_goInto_63 : decode cX5_goInto 63 = .ok (.getfield 47, 3) := by decide +kernel
theorem dX5_goInto_66 : decode cX5_goInto 66 = .ok (.invokevirtual 187, 3) := by decide +kernel
theorem dX5_goInto_69 : decode cX5_goInto 69 = .ok (.invokevirtual 191, 3) := by decide +kernel
theorem dX5_goInto_72 : decode cX5_goInto 72 = .ok (.goto 61, 3) := by decide +kernel
theorem dX5_goInto_75 : decode cX5_goInto 75 = .ok (.iload 4, 2) := by decide +kernel
theorem dX5_goInto_77 : decode cX5_goInto 77 = .ok (.bipush 30, 2) := by decide +kernel
theorem dX5_goInto_79 : decode cX5_goInto 79 = .ok (.if_icmp .ne 21, 3) := by decide +kernel
theorem dX5_goInto_82 : decode cX5_goInto 82 = .ok (.aload_n 0, 1) := by decide +kernel
theorem dX5_goInto_83 : decode cX5_goInto 83 = .ok (.iconst 5, 1) := by decide +kernel
theorem dX5_goInto_84 : decode cX5_goInto 84 = .ok (.iload 5, 2) := by decide +kernel
theorem dX5_goInto_86 : decode cX5_goInto 86 = .ok (.aload_n 1, 1) := by decide +kernel
theorem dX5_goInto_87 : decode cX5_goInto 87 = .ok (.aload_n 0, 1) := by decide +kernel
theorem dX5_goInto_88 : decode cX5_goInto 88 = .ok (.getfield 47, 3) := by decide +kernel
theorem dX5_goInto_91 : decode cX5_goInto 91 = .ok (.invokevirtual 187, 3) := by decide +kernel
theorem dX5_goInto_94 : decode cX5_goInto 94 = .ok (.invokevirtual 191, 3) := by decide +kernel
theorem dX5_goInto_97 : decode cX5_goInto 97 = .ok (.goto 36, 3) := by decide +kernel
theorem dX5_goInto_100 : decode cX5_goInto 100 = .ok (.iload 4, 2) := by decide +kernel
theorem dX5_goInto_102 : decode cX5_goInto 102 = .ok (.ifCond .eq 15, 3) := by decide +kernel
theorem dX5_goInto_105 : decode cX5_goInto 105 = .ok (.iload 4, 2) := by decide +kernel
theorem dX5_goInto_107 : decode cX5_goInto 107 = .ok (.iload 5, 2) := by decide +kernel
theorem dX5_goInto_109 : decode cX5_goInto 109 = .ok (.iadd, 1) := by decide +kernel
theorem dX5_goInto_110 : decode cX5_goInto 110 = .ok (.aload_n 1, 1) := by decide +kernel
theorem dX5_goInto_111 : decode cX5_goInto 111 = .ok (.getfield 195, 3) := by decide +kernel
theorem dX5_goInto_114 : decode cX5_goInto 114 = .ok (.if_icmp .ge 19, 3) := by decide +kernel
theorem dX5_goInto_117 : decode cX5_goInto 117 = .ok (.aload_n 0, 1) := by decide +kernel
theorem dX5_goInto_118 : decode cX5_goInto 118 = .ok (.bipush 6, 2) := by decide +kernel
theorem dX5_goInto_120 : decode cX5_goInto 120 = .ok (.iload 5, 2) := by decide +kernel
theorem dX5_goInto_122 : decode cX5_goInto 122 = .ok (.aload_n 1, 1) := by decide +kernel
theorem dX5_goInto_123 : decode cX5_goInto 123 = .ok (.aload_n 0, 1) := by decide +kernel
theorem dX5_goInto_124 : decode cX5_goInto 124 = .ok (.getfield 47, 3) := by decide +kernel
theorem dX5_goInto_127 : decode cX5_goInto 127 = .ok (.invokevirtual 187, 3) := by decide +kernel
theorem dX5_goInto_130 : decode cX5_goInto 130 = .ok (.invokevirtual 191, 3) := by decide +kernel
theorem dX5_goInto_133 : decode cX5_goInto 133 = .ok (.return_, 1) := by decide +kernel
theorem dX5_endAs_0 : decode cX5_endAs 0 = .ok (.aload_n 0, 1) := by decide +kernel
theorem dX5_endAs_1 : decode cX5_endAs 1 = .ok (.iload_n 1, 1) := by decide +kernel
theorem dX5_endAs_2 : decode cX5_endAs 2 = .ok (.putfield 50, 3) := by decide +kernel
theorem dX5_endAs_5 : decode cX5_endAs 5 = .ok (.aload_n 0, 1) := by decide +kernel
theorem dX5_endAs_6 : decode cX5_endAs 6 = .ok (.iload_n 2, 1) := by decide +kernel
theorem dX5_endAs_7 : decode cX5_endAs 7 = .ok (.putfield 53, 3) := by decide +kernel
theorem dX5_endAs_10 : decode cX5_endAs 10 = .ok (.aload_n 0, 1) := by decide +kernel
theorem dX5_endAs_11 : decode cX5_endAs 11 = .ok (.iload_n 3, 1) := by decide +kernel
theorem dX5_endAs_12 : decode cX5_endAs 12 = .ok (.putfield 56, 3) := by decide +kernel
theorem dX5_endAs_15 : decode cX5_endAs 15 = .ok (.return_, 1) := by decide +kernel
theorem dX5_leak_0 : decode cX5_leak 0 = .ok (.aload_n 0, 1) := by decide +kernel
theorem dX5_leak_1 : decode cX5_leak 1 = .ok (.iconst 0, 1) := by decide +kernel
theorem dX5_leak_2 : decode cX5_leak 2 = .ok (.aload_n 0, 1) := by decide +kernel
theorem dX5_leak_3 : decode cX5_leak 3 = .ok (.getfield 38, 3) := by decide +kernel
theorem dX5_leak_6 : decode cX5_leak 6 = .ok (.aload_n 1, 1) := by decide +kernel
theorem dX5_leak_7 : decode cX5_leak 7 = .ok (.getfield 198, 3) := by decide +kernel
theorem dX5_leak_10 : decode cX5_leak 10 = .ok (.iadd, 1) := by decide +kernel
theorem dX5_leak_11 : decode cX5_leak 11 = .ok (.aload_n 1, 1) := by decide +kernel
theorem dX5_leak_12 : decode cX5_leak 12 = .ok (.getfield 94, 3) := by decide +kernel
theorem dX5_leak_15 : decode cX5_leak 15 = .ok (.bipush 10, 2) := by decide +kernel
theorem dX5_leak_17 : decode cX5_leak 17 = .ok (.idiv, 1) := by decide +kernel
theorem dX5_leak_18 : decode cX5_leak 18 = .ok (.isub, 1) := by decide +kernel
theorem dX5_leak_19 : decode cX5_leak 19 = .ok (.invokestatic 200, 3) := by decide +kernel
theorem dX5_leak_22 : decode cX5_leak 22 = .ok (.putfield 38, 3) := by decide +kernel
theorem dX5_leak_25 : decode cX5_leak 25 = .ok (.aload_n 0, 1) := by decide +kernel
theorem dX5_leak_26 : decode cX5_leak 26 = .ok (.getfield 38, 3) := by decide +kernel
theorem dX5_leak_29 : decode cX5_leak 29 = .ok (.bipush 100, 2) := by decide +kernel
theorem dX5_leak_31 : decode cX5_leak 31 = .ok (.if_icmp .lt 28, 3) := by decide +kernel
theorem dX5_leak_34 : decode cX5_leak 34 = .ok (.aload_n 0, 1) := by decide +kernel
theorem dX5_leak_35 : decode cX5_leak 35 = .ok (.bipush 100, 2) := by decide +kernel
theorem dX5_leak_37 : decode cX5_leak 37 = .ok (.putfield 38, 3) := by decide +kernel
theorem dX5_leak_40 : decode cX5_leak 40 = .ok (.aload_n 0, 1) := by decide +kernel
theorem dX5_leak_41 : decode cX5_leak 41 = .ok (.bipush 7, 2) := by decide +kernel
theorem dX5_leak_43 : decode cX5_leak 43 = .ok (.aload_n 0, 1) := by decide +kernel
theorem dX5_leak_44 : decode cX5_leak 44 = .ok (.aload_n 1, 1) := by decide +kernel
theorem dX5_leak_45 : decode cX5_leak 45 = .ok (.invokevirtual 172, 3) := by decide +kernel
theorem dX5_leak_48 : decode cX5_leak 48 = .ok (.aload_n 1, 1) := by decide +kernel
theorem dX5_leak_49 : decode cX5_leak 49 = .ok (.aload_n 0, 1) := by decide +kernel
theorem dX5_leak_50 : decode cX5_leak 50 = .ok (.getfield 47, 3) := by decide +kernel
theorem dX5_leak_53 : decode cX5_leak 53 = .ok (.invokevirtual 187, 3) := by decide +kernel
theorem dX5_leak_56 : decode cX5_leak 56 = .ok (.invokevirtual 191, 3) := by decide +kernel
theorem dX5_leak_59 : decode cX5_leak 59 = .ok (.return_, 1) := by decide +kernel
theorem dX5_settleKind_0 : decode cX5_settleKind 0 = .ok (.aload_n 0, 1) := by decide +kernel
theorem dX5_settleKind_1 : decode cX5_settleKind 1 = .ok (.iload_n 2, 1) := by decide +kernel
theorem dX5_settleKind_2 : decode cX5_settleKind 2 = .ok (.ifCond .le 23, 3) := by decide +kernel
theorem dX5_settleKind_5 : decode cX5_settleKind 5 = .ok (.aload_n 0, 1) := by decide +kernel
theorem dX5_settleKind_6 : decode cX5_settleKind 6 = .ok (.getfield 26, 3) := by decide +kernel
theorem dX5_settleKind_9 : decode cX5_settleKind 9 = .ok (.aload_n 0, 1) := by decide +kernel
theorem dX5_settleKind_10 : decode cX5_settleKind 10 = .ok (.aload_n 1, 1) := by decide +kernel
theorem dX5_settleKind_11 : decode cX5_settleKind 11 = .ok (.invokevirtual 104, 3) := by decide +kernel
theorem dX5_settleKind_14 : decode cX5_settleKind 14 = .ok (.invokestatic 108, 3) := by decide +kernel
theorem dX5_settleKind_17 : decode cX5_settleKind 17 = .ok (.iconst 2, 1) := by decide +kernel
theorem dX5_settleKind_18 : decode cX5_settleKind 18 = .ok (.if_icmp .ge 7, 3) := by decide +kernel
theorem dX5_settleKind_21 : decode cX5_settleKind 21 = .ok (.iconst 0, 1) := by decide +kernel
theorem dX5_settleKind_22 : decode cX5_settleKind 22 = .ok (.goto 4, 3) := by decide +kernel
theorem dX5_settleKind_25 : decode cX5_settleKind 25 = .ok (.iconst 1, 1) := by decide +kernel
theorem dX5_settleKind_26 : decode cX5_settleKind 26 = .ok (.putfield 50, 3) := by decide +kernel
theorem dX5_settleKind_29 : decode cX5_settleKind 29 = .ok (.return_, 1) := by decide +kernel
theorem dX6_init_0 : decode cX6_init 0 = .ok (.aload_n 0, 1) := by decide +kernel
theorem dX6_init_1 : decode cX6_init 1 = .ok (.invokespecial 1, 3) := by decide +kernel
theorem dX6_init_4 : decode cX6_init 4 = .ok (.aload_n 0, 1) := by decide +kernel
theorem dX6_init_5 : decode cX6_init 5 = .ok (.new 7, 3) := by decide +kernel
theorem dX6_init_8 : decode cX6_init 8 = .ok (.dup, 1) := by decide +kernel
theorem dX6_init_9 : decode cX6_init 9 = .ok (.invokespecial 9, 3) := by decide +kernel
theorem dX6_init_12 : decode cX6_init 12 = .ok (.putfield 10, 3) := by decide +kernel
theorem dX6_init_15 : decode cX6_init 15 = .ok (.aload_n 0, 1) := by decide +kernel
theorem dX6_init_16 : decode cX6_init 16 = .ok (.new 16, 3) := by decide +kernel
theorem dX6_init_19 : decode cX6_init 19 = .ok (.dup, 1) := by decide +kernel
theorem dX6_init_20 : decode cX6_init 20 = .ok (.invokespecial 18, 3) := by decide +kernel
theorem dX6_init_23 : decode cX6_init 23 = .ok (.putfield 19, 3) := by decide +kernel
theorem dX6_init_26 : decode cX6_init 26 = .ok (.aload_n 0, 1) := by decide +kernel
theorem dX6_init_27 : decode cX6_init 27 = .ok (.new 16, 3) := by decide +kernel
theorem dX6_init_30 : decode cX6_init 30 = .ok (.dup, 1) := by decide +kernel
theorem dX6_init_31 : decode cX6_init 31 = .ok (.invokespecial 18, 3) := by decide +kernel
theorem dX6_init_34 : decode cX6_init 34 = .ok (.putfield 23, 3) := by decide +kernel
theorem dX6_init_37 : decode cX6_init 37 = .ok (.aload_n 0, 1) := by decide +kernel
theorem dX6_init_38 : decode cX6_init 38 = .ok (.iconst 3, 1) := by decide +kernel
theorem dX6_init_39 : decode cX6_init 39 = .ok (.putfield 26, 3) := by decide +kernel
theorem dX6_init_42 : decode cX6_init 42 = .ok (.aload_n 0, 1) := by decide +kernel
theorem dX6_init_43 : decode cX6_init 43 = .ok (.iconst 3, 1) := by decide +kernel
theorem dX6_init_44 : decode cX6_init 44 = .ok (.putfield 30, 3) := by decide +kernel
theorem dX6_init_47 : decode cX6_init 47 = .ok (.aload_n 0, 1) := by decide +kernel
theorem dX6_init_48 : decode cX6_init 48 = .ok (.iconst 0, 1) := by decide +kernel
theorem dX6_init_49 : decode cX6_init 49 = .ok (.putfield 33, 3) := by decide +kernel
theorem dX6_init_52 : decode cX6_init 52 = .ok (.aload_n 0, 1) := by decide +kernel
theorem dX6_init_53 : decode cX6_init 53 = .ok (.bipush 40, 2) := by decide +kernel
theorem dX6_init_55 : decode cX6_init 55 = .ok (.putfield 36, 3) := by decide +kernel
theorem dX6_init_58 : decode cX6_init 58 = .ok (.aload_n 0, 1) := by decide +kernel
theorem dX6_init_59 : decode cX6_init 59 = .ok (.iconst 2, 1) := by decide +kernel
theorem dX6_init_60 : decode cX6_init 60 = .ok (.putfield 39, 3) := by decide +kernel
theorem dX6_init_63 : decode cX6_init 63 = .ok (.aload_n 0, 1) := by decide +kernel
theorem dX6_init_64 : decode cX6_init 64 = .ok (.iconst 5, 1) := by decide +kernel
theorem dX6_init_65 : decode cX6_init 65 = .ok (.putfield 42, 3) := by decide +kernel
theorem dX6_init_68 : decode cX6_init 68 = .ok (.aload_n 0, 1) := by decide +kernel
theorem dX6_init_69 : decode cX6_init 69 = .ok (.bipush 30, 2) := by decide +kernel
theorem dX6_init_71 : decode cX6_init 71 = .ok (.putfield 45, 3) := by decide +kernel
theorem dX6_init_74 : decode cX6_init 74 = .ok (.return_, 1) := by decide +kernel
theorem dX6_setting_0 : decode cX6_setting 0 = .ok (.iload_n 1, 1) := by decide +kernel
theorem dX6_setting_1 : decode cX6_setting 1 = .ok (.tableswitch 69 0 5 #[39, 44, 49, 54, 59, 64], 39) := by decide +kernel
theorem dX6_setting_40 : decode cX6_setting 40 = .ok (.aload_n 0, 1) := by decide +kernel
theorem dX6_setting_41 : decode cX6_setting 41 = .ok (.getfield 26, 3) := by decide +kernel
theorem dX6_setting_44 : decode cX6_setting 44 = .ok (.ireturn, 1) := by decide +kernel
theorem dX6_setting_45 : decode cX6_setting 45 = .ok (.aload_n 0, 1) := by decide +kernel
theorem dX6_setting_46 : decode cX6_setting 46 = .ok (.getfield 30, 3) := by decide +kernel
theorem dX6_setting_49 : decode cX6_setting 49 = .ok (.ireturn, 1) := by decide +kernel
theorem dX6_setting_50 : decode cX6_setting 50 = .ok (.aload_n 0, 1) := by decide +kernel
theorem dX6_setting_51 : decode cX6_setting 51 = .ok (.getfield 33, 3) := by decide +kernel
theorem dX6_setting_54 : decode cX6_setting 54 = .ok (.ireturn, 1) := by decide +kernel
theorem dX6_setting_55 : decode cX6_setting 55 = .ok (.aload_n 0, 1) := by decide +kernel
theorem dX6_setting_56 : decode cX6_setting 56 = .ok (.getfield 36, 3) := by decide +kernel
theorem dX6_setting_59 : decode cX6_setting 59 = .ok (.ireturn, 1) := by decide +kernel
theorem dX6_setting_60 : decode cX6_setting 60 = .ok (.aload_n 0, 1) := by decide +kernel
theorem dX6_setting_61 : decode cX6_setting 61 = .ok (.getfield 39, 3) := by decide +kernel
theorem dX6_setting_64 : decode cX6_setting 64 = .ok (.ireturn, 1) := by decide +kernel
theorem dX6_setting_65 : decode cX6_setting 65 = .ok (.aload_n 0, 1) := by decide +kernel
theorem dX6_setting_66 : decode cX6_setting 66 = .ok (.getfield 42, 3) := by decide +kernel
theorem dX6_setting_69 : decode cX6_setting 69 = .ok (.ireturn, 1) := by decide +kernel
theorem dX6_setting_70 : decode cX6_setting 70 = .ok (.aload_n 0, 1) := by decide +kernel
theorem dX6_setting_71 : decode cX6_setting 71 = .ok (.getfield 45, 3) := by decide +kernel
theorem dX6_setting_74 : decode cX6_setting 74 = .ok (.ireturn, 1) := by decide +kernel
theorem dX6_change_0 : decode cX6_change 0 = .ok (.iload_n 1, 1) := by decide +kernel
theorem dX6_change_1 : decode cX6_change 1 = .ok (.tableswitch 87 0 5 #[39, 47, 55, 63, 71, 79], 39) := by decide +kernel
theorem dX6_change_40 : decode cX6_change 40 = .ok (.aload_n 0, 1) := by decide +kernel
theorem dX6_change_41 : decode cX6_change 41 = .ok (.iload_n 2, 1) := by decide +kernel
theorem dX6_change_42 : decode cX6_change 42 = .ok (.putfield 26, 3) := by decide +kernel
theorem dX6_change_45 : decode cX6_change 45 = .ok (.goto 48, 3) := by decide +kernel
theorem dX6_change_48 : decode cX6_change 48 = .ok (.aload_n 0, 1) := by decide +kernel
theorem dX6_change_49 : decode cX6_change 49 = .ok (.iload_n 2, 1) := by decide +kernel
theorem dX6_change_50 : decode cX6_change 50 = .ok (.putfield 30, 3) := by decide +kernel
theorem dX6_change_53 : decode cX6_change 53 = .ok (.goto 40, 3) := by decide +kernel
theorem dX6_change_56 : decode cX6_change 56 = .ok (.aload_n 0, 1) := by decide +kernel
theorem dX6_change_57 : decode cX6_change 57 = .ok (.iload_n 2, 1) := by decide +kernel
theorem dX6_change_58 : decode cX6_change 58 = .ok (.putfield 33, 3) := by decide +kernel
theorem dX6_change_61 : decode cX6_change 61 = .ok (.goto 32, 3) := by decide +kernel
theorem dX6_change_64 : decode cX6_change 64 = .ok (.aload_n 0, 1) := by decide +kernel
theorem dX6_change_65 : decode cX6_change 65 = .ok (.iload_n 2, 1) := by decide +kernel
theorem dX6_change_66 : decode cX6_change 66 = .ok (.putfield 36, 3) := by decide +kernel
theorem dX6_change_69 : decode cX6_change 69 = .ok (.goto 24, 3) := by decide +kernel
theorem dX6_change_72 : decode cX6_change 72 = .ok (.aload_n 0, 1) := by decide +kernel
theorem dX6_change_73 : decode cX6_change 73 = .ok (.iload_n 2, 1) := by decide +kernel
theorem dX6_change_74 : decode cX6_change 74 = .ok (.putfield 39, 3) := by decide +kernel
theorem dX6_change_77 : decode cX6_change 77 = .ok (.goto 16, 3) := by decide +kernel
theorem dX6_change_80 : decode cX6_change 80 = .ok (.aload_n 0, 1) := by decide +kernel
theorem dX6_change_81 : decode cX6_change 81 = .ok (.iload_n 2, 1) := by decide +kernel
theorem dX6_change_82 : decode cX6_change 82 = .ok (.putfield 42, 3) := by decide +kernel
theorem dX6_change_85 : decode cX6_change 85 = .ok (.goto 8, 3) := by decide +kernel
theorem dX6_change_88 : decode cX6_change 88 = .ok (.aload_n 0, 1) := by decide +kernel
theorem dX6_change_89 : decode cX6_change 89 = .ok (.iload_n 2, 1) := by decide +kernel
theorem dX6_change_90 : decode cX6_change 90 = .ok (.putfield 45, 3) := by decide +kernel
theorem dX6_change_93 : decode cX6_change 93 = .ok (.return_, 1) := by decide +kernel
theorem dX6_floatsAt_0 : decode cX6_floatsAt 0 = .ok (.aload_n 0, 1) := by decide +kernel
theorem dX6_floatsAt_1 : decode cX6_floatsAt 1 = .ok (.getfield 10, 3) := by decide +kernel
theorem dX6_floatsAt_4 : decode cX6_floatsAt 4 = .ok (.iload_n 1, 1) := by decide +kernel
theorem dX6_floatsAt_5 : decode cX6_floatsAt 5 = .ok (.invokevirtual 48, 3) := by decide +kernel
theorem dX6_floatsAt_8 : decode cX6_floatsAt 8 = .ok (.ifCond .ne 5, 3) := by decide +kernel
theorem dX6_floatsAt_11 : decode cX6_floatsAt 11 = .ok (.iconst 0, 1) := by decide +kernel
theorem dX6_floatsAt_12 : decode cX6_floatsAt 12 = .ok (.ireturn, 1) := by decide +kernel
theorem dX6_floatsAt_13 : decode cX6_floatsAt 13 = .ok (.aload_n 0, 1) := by decide +kernel
theorem dX6_floatsAt_14 : decode cX6_floatsAt 14 = .ok (.getfield 10, 3) := by decide +kernel
theorem dX6_floatsAt_17 : decode cX6_floatsAt 17 = .ok (.iload_n 1, 1) := by decide +kernel
theorem dX6_floatsAt_18 : decode cX6_floatsAt 18 = .ok (.invokevirtual 52, 3) := by decide +kernel
theorem dX6_floatsAt_21 : decode cX6_floatsAt 21 = .ok (.istore_n 2, 1) := by decide +kernel
theorem dX6_floatsAt_22 : decode cX6_floatsAt 22 = .ok (.iload_n 2, 1) := by decide +kernel
theorem dX6_floatsAt_23 : decode cX6_floatsAt 23 = .ok (.invokestatic 56, 3) := by decide +kernel
theorem dX6_floatsAt_26 : decode cX6_floatsAt 26 = .ok (.ifCond .eq 15, 3) := by decide +kernel
theorem dX6_floatsAt_29 : decode cX6_floatsAt 29 = .ok (.iload_n 2, 1) := by decide +kernel
theorem dX6_floatsAt_30 : decode cX6_floatsAt 30 = .ok (.aload_n 0, 1) := by decide +kernel
theorem dX6_floatsAt_31 : decode cX6_floatsAt 31 = .ok (.getfield 30, 3) := by decide +kernel
theorem dX6_floatsAt_34 : decode cX6_floatsAt 34 = .ok (.if_icmp .lt 7, 3) := by decide +kernel
theorem dX6_floatsAt_37 : decode cX6_floatsAt 37 = .ok (.iconst 1, 1) := by decide +kernel
theorem dX6_floatsAt_38 : decode cX6_floatsAt 38 = .ok (.goto 4, 3) := by decide +kernel
theorem dX6_floatsAt_41 : decode cX6_floatsAt 41 = .ok (.iconst 0, 1) := by decide +kernel
theorem dX6_floatsAt_42 : decode cX6_floatsAt 42 = .ok (.ireturn, 1) := by decide +kernel
theorem dX6_isDarkAt_0 : decode cX6_isDarkAt 0 = .ok (.iload_n 1, 1) := by decide +kernel
theorem dX6_isDarkAt_1 : decode cX6_isDarkAt 1 = .ok (.aload_n 0, 1) := by decide +kernel
theorem dX6_isDarkAt_2 : decode cX6_isDarkAt 2 = .ok (.getfield 45, 3) := by decide +kernel
theorem dX6_isDarkAt_5 : decode cX6_isDarkAt 5 = .ok (.if_icmp .lt 7, 3) := by decide +kernel
theorem dX6_isDarkAt_8 : decode cX6_isDarkAt 8 = .ok (.iconst 1, 1) := by decide +kernel
theorem dX6_isDarkAt_9 : decode cX6_isDarkAt 9 = .ok (.goto 4, 3) := by decide +kernel
theorem dX6_isDarkAt_12 : decode cX6_isDarkAt 12 = .ok (.iconst 0, 1) := by decide +kernel
theorem dX6_isDarkAt_13 : decode cX6_isDarkAt 13 = .ok (.ireturn, 1) := by decide +kernel
theorem dX6_livesOnBeach_0 : decode cX6_livesOnBeach 0 = .ok (.bipush 20, 2) := by decide +kernel
theorem dX6_livesOnBeach_2 : decode cX6_livesOnBeach 2 = .ok (.bipush 10, 2) := by decide +kernel
theorem dX6_livesOnBeach_4 : decode cX6_livesOnBeach 4 = .ok (.iload_n 1, 1) := by decide +kernel
theorem dX6_livesOnBeach_5 : decode cX6_livesOnBeach 5 = .ok (.imul, 1) := by decide +kernel
theorem dX6_livesOnBeach_6 : decode cX6_livesOnBeach 6 = .ok (.iadd, 1) := by decide +kernel
theorem dX6_livesOnBeach_7 : decode cX6_livesOnBeach 7 = .ok (.iload_n 2, 1) := by decide +kernel
theorem dX6_livesOnBeach_8 : decode cX6_livesOnBeach 8 = .ok (.ifCond .eq 7, 3) := by decide +kernel
theorem dX6_livesOnBeach_11 : decode cX6_livesOnBeach 11 = .ok (.iconst 0, 1) := by decide +kernel
theorem dX6_livesOnBeach_12 : decode cX6_livesOnBeach 12 = .ok (.goto 5, 3) := by decide +kernel
theorem dX6_livesOnBeach_15 : decode cX6_livesOnBeach 15 = .ok (.bipush 30, 2) := by decide +kernel
theorem dX6_livesOnBeach_17 : decode cX6_livesOnBeach 17 = .ok (.iadd, 1) := by decide +kernel
theorem dX6_livesOnBeach_18 : decode cX6_livesOnBeach 18 = .ok (.istore_n 3, 1) := by decide +kernel
theorem dX6_livesOnBeach_19 : decode cX6_livesOnBeach 19 = .ok (.aload_n 0, 1) := by decide +kernel
theorem dX6_livesOnBeach_20 : decode cX6_livesOnBeach 20 = .ok (.getfield 36, 3) := by decide +kernel
theorem dX6_livesOnBeach_23 : decode cX6_livesOnBeach 23 = .ok (.aload_n 0, 1) := by decide +kernel
theorem dX6_livesOnBeach_24 : decode cX6_livesOnBeach 24 = .ok (.getfield 36, 3) := by decide +kernel
theorem dX6_livesOnBeach_27 : decode cX6_livesOnBeach 27 = .ok (.iload_n 3, 1) := by decide +kernel
theorem dX6_livesOnBeach_28 : decode cX6_livesOnBeach 28 = .ok (.imul, 1) := by decide +kernel
theorem dX6_livesOnBeach_29 : decode cX6_livesOnBeach 29 = .ok (.bipush 100, 2) := by decide +kernel
theorem dX6_livesOnBeach_31 : decode cX6_livesOnBeach 31 = .ok (.idiv, 1) := by decide +kernel
theorem dX6_livesOnBeach_32 : decode cX6_livesOnBeach 32 = .ok (.invokestatic 61, 3) := by decide +kernel
theorem dX6_livesOnBeach_35 : decode cX6_livesOnBeach 35 = .ok (.ireturn, 1) := by decide +kernel
theorem dX6_copyFrom_0 : decode cX6_copyFrom 0 = .ok (.aload_n 0, 1) := by decide +kernel
theorem dX6_copyFrom_1 : decode cX6_copyFrom 1 = .ok (.getfield 10, 3) := by decide +kernel
theorem dX6_copyFrom_4 : decode cX6_copyFrom 4 = .ok (.aload_n 1, 1) := by decide +kernel
theorem dX6_copyFrom_5 : decode cX6_copyFrom 5 = .ok (.getfield 10, 3) := by decide +kernel
theorem dX6_copyFrom_8 : decode cX6_copyFrom 8 = .ok (.invokevirtual 67, 3) := by decide +kernel
theorem dX6_copyFrom_11 : decode cX6_copyFrom 11 = .ok (.aload_n 0, 1) := by decide +kernel
theorem dX6_copyFrom_12 : decode cX6_copyFrom 12 = .ok (.getfield 19, 3) := by decide +kernel
theorem dX6_copyFrom_15 : decode cX6_copyFrom 15 = .ok (.aload_n 1, 1) := by decide +kernel
theorem dX6_copyFrom_16 : decode cX6_copyFrom 16 = .ok (.getfield 19, 3) := by decide +kernel
theorem dX6_copyFrom_19 : decode cX6_copyFrom 19 = .ok (.invokevirtual 71, 3) := by decide +kernel
theorem dX6_copyFrom_22 : decode cX6_copyFrom 22 = .ok (.aload_n 0, 1) := by decide +kernel
theorem dX6_copyFrom_23 : decode cX6_copyFrom 23 = .ok (.getfield 23, 3) := by decide +kernel
theorem dX6_copyFrom_26 : decode cX6_copyFrom 26 = .ok (.aload_n 1, 1) := by decide +kernel
theorem dX6_copyFrom_27 : decode cX6_copyFrom 27 = .ok (.getfield 23, 3) := by decide +kernel
theorem dX6_copyFrom_30 : decode cX6_copyFrom 30 = .ok (.invokevirtual 71, 3) := by decide +kernel
theorem dX6_copyFrom_33 : decode cX6_copyFrom 33 = .ok (.aload_n 0, 1) := by decide +kernel
theorem dX6_copyFrom_34 : decode cX6_copyFrom 34 = .ok (.aload_n 1, 1) := by decide +kernel
theorem dX6_copyFrom_35 : decode cX6_copyFrom 35 = .ok (.getfield 26, 3) := by decide +kernel
theorem dX6_copyFrom_38 : decode cX6_copyFrom 38 = .ok (.putfield 26, 3) := by decide +kernel
theorem dX6_copyFrom_41 : decode cX6_copyFrom 41 = .ok (.aload_n 0, 1) := by decide +kernel
theorem dX6_copyFrom_42 : decode cX6_copyFrom 42 = .ok (.aload_n 1, 1) := by decide +kernel
theorem dX6_copyFrom_43 : decode cX6_copyFrom 43 = .ok (.getfield 30, 3) := by decide +kernel
theorem dX6_copyFrom_46 : decode cX6_copyFrom 46 = .ok (.putfield 30, 3) := by decide +kernel
theorem dX6_copyFrom_49 : decode cX6_copyFrom 49 = .ok (.aload_n 0, 1) := by decide +kernel
theorem dX6_copyFrom_50 : decode cX6_copyFrom 50 = .ok (.aload_n 1, 1) := by decide +kernel
theorem dX6_copyFrom_51 : decode cX6_copyFrom 51 = .ok (.getfield 33, 3) := by decide +kernel
theorem dX6_copyFrom_54 : decode cX6_copyFrom 54 = .ok (.putfield 33, 3) := by decide +kernel
theorem dX6_copyFrom_57 : decode cX6_copyFrom 57 = .ok (.aload_n 0, 1) := by decide +kernel
theorem dX6_copyFrom_58 : decode cX6_copyFrom 58 = .ok (.aload_n 1, 1) := by decide +kernel
theorem dX6_copyFrom_59 : decode cX6_copyFrom 59 = .ok (.getfield 36, 3) := by decide +kernel
theorem dX6_copyFrom_62 : decode cX6_copyFrom 62 = .ok (.putfield 36, 3) := by decide +kernel
theorem dX6_copyFrom_65 : decode cX6_copyFrom 65 = .ok (.aload_n 0, 1) := by decide +kernel
theorem dX6_copyFrom_66 : decode cX6_copyFrom 66 = .ok (.aload_n 1, 1) := by decide +kernel
theorem dX6_copyFrom_67 : decode cX6_copyFrom 67 = .ok (.getfield 39, 3) := by decide +kernel
theorem dX6_copyFrom_70 : decode cX6_copyFrom 70 = .ok (.putfield 39, 3) := by decide +kernel
theorem dX6_copyFrom_73 : decode cX6_copyFrom 73 = .ok (.aload_n 0, 1) := by decide +kernel
theorem dX6_copyFrom_74 : decode cX6_copyFrom 74 = .ok (.aload_n 1, 1) := by decide +kernel
theorem dX6_copyFrom_75 : decode cX6_copyFrom 75 = .ok (.getfield 42, 3) := by decide +kernel
theorem dX6_copyFrom_78 : decode cX6_copyFrom 78 = .ok (.putfield 42, 3) := by decide +kernel
theorem dX6_copyFrom_81 : decode cX6_copyFrom 81 = .ok (.aload_n 0, 1) := by decide +kernel
theorem dX6_copyFrom_82 : decode cX6_copyFrom 82 = .ok (.aload_n 1, 1) := by decide +kernel
theorem dX6_copyFrom_83 : decode cX6_copyFrom 83 = .ok (.getfield 45, 3) := by decide +kernel
theorem dX6_copyFrom_86 : decode cX6_copyFrom 86 = .ok (.putfield 45, 3) := by decide +kernel
theorem dX6_copyFrom_89 : decode cX6_copyFrom 89 = .ok (.return_, 1) := by decide +kernel
theorem dX7_init_0 : decode cX7_init 0 = .ok (.aload_n 0, 1) := by decide +kernel
theorem dX7_init_1 : decode cX7_init 1 = .ok (.invokespecial 1, 3) := by decide +kernel
theorem dX7_init_4 : decode cX7_init 4 = .ok (.aload_n 0, 1) := by decide +kernel
theorem dX7_init_5 : decode cX7_init 5 = .ok (.new 7, 3) := by decide +kernel
theorem dX7_init_8 : decode cX7_init 8 = .ok (.dup, 1) := by decide +kernel
theorem dX7_init_9 : decode cX7_init 9 = .ok (.invokespecial 9, 3) := by decide +kernel
theorem dX7_init_12 : decode cX7_init 12 = .ok (.putfield 10, 3) := by decide +kernel
theorem dX7_init_15 : decode cX7_init 15 = .ok (.aload_n 0, 1) := by decide +kernel
theorem dX7_init_16 : decode cX7_init 16 = .ok (.new 16, 3) := by decide +kernel
theorem dX7_init_19 : decode cX7_init 19 = .ok (.dup, 1) := by decide +kernel
theorem dX7_init_20 : decode cX7_init 20 = .ok (.invokespecial 18, 3) := by decide +kernel
theorem dX7_init_23 : decode cX7_init 23 = .ok (.putfield 19, 3) := by decide +kernel
theorem dX7_init_26 : decode cX7_init 26 = .ok (.aload_n 0, 1) := by decide +kernel
theorem dX7_init_27 : decode cX7_init 27 = .ok (.new 23, 3) := by decide +kernel
theorem dX7_init_30 : decode cX7_init 30 = .ok (.dup, 1) := by decide +kernel
theorem dX7_init_31 : decode cX7_init 31 = .ok (.invokespecial 25, 3) := by decide +kernel
theorem dX7_init_34 : decode cX7_init 34 = .ok (.putfield 26, 3) := by decide +kernel
theorem dX7_init_37 : decode cX7_init 37 = .ok (.aload_n 0, 1) := by decide +kernel
theorem dX7_init_38 : decode cX7_init 38 = .ok (.new 23, 3) := by decide +kernel
theorem dX7_init_41 : decode cX7_init 41 = .ok (.dup, 1) := by decide +kernel
theorem dX7_init_42 : decode cX7_init 42 = .ok (.invokespecial 25, 3) := by decide +kernel
theorem dX7_init_45 : decode cX7_init 45 = .ok (.putfield 30, 3) := by decide +kernel
theorem dX7_init_48 : decode cX7_init 48 = .ok (.aload_n 0, 1) := by decide +kernel
theorem dX7_init_49 : decode cX7_init 49 = .ok (.new 16, 3) := by decide +kernel
theorem dX7_init_52 : decode cX7_init 52 = .ok (.dup, 1) := by decide +kernel
theorem dX7_init_53 : decode cX7_init 53 = .ok (.invokespecial 18, 3) := by decide +kernel
theorem dX7_init_56 : decode cX7_init 56 = .ok (.putfield 33, 3) := by decide +kernel
theorem dX7_init_59 : decode cX7_init 59 = .ok (.aload_n 0, 1) := by decide +kernel
theorem dX7_init_60 : decode cX7_init 60 = .ok (.new 23, 3) := by decide +kernel
theorem dX7_init_63 : decode cX7_init 63 = .ok (.dup, 1) := by decide +kernel
theorem dX7_init_64 : decode cX7_init 64 = .ok (.invokespecial 25, 3) := by decide +kernel
theorem dX7_init_67 : decode cX7_init 67 = .ok (.putfield 36, 3) := by decide +kernel
theorem dX7_init_70 : decode cX7_init 70 = .ok (.aload_n 0, 1) := by decide +kernel
theorem dX7_init_71 : decode cX7_init 71 = .ok (.new 39, 3) := by decide +kernel
theorem dX7_init_74 : decode cX7_init 74 = .ok (.dup, 1) := by decide +kernel
theorem dX7_init_75 : decode cX7_init 75 = .ok (.invokespecial 41, 3) := by decide +kernel
theorem dX7_init_78 : decode cX7_init 78 = .ok (.putfield 42, 3) := by decide +kernel
theorem dX7_init_81 : decode cX7_init 81 = .ok (.aload_n 0, 1) := by decide +kernel
theorem dX7_init_82 : decode cX7_init 82 = .ok (.new 46, 3) := by decide +kernel
theorem dX7_init_85 : decode cX7_init 85 = .ok (.dup, 1) := by decide +kernel
theorem dX7_init_86 : decode cX7_init 86 = .ok (.invokespecial 48, 3) := by decide +kernel
theorem dX7_init_89 : decode cX7_init 89 = .ok (.putfield 49, 3) := by decide +kernel
theorem dX7_init_92 : decode cX7_init 92 = .ok (.aload_n 0, 1) := by decide +kernel
theorem dX7_init_93 : decode cX7_init 93 = .ok (.bipush 7, 2) := by decide +kernel
theorem dX7_init_95 : decode cX7_init 95 = .ok (.newarray .int, 2) := by decide +kernel
theorem dX7_init_97 : decode cX7_init 97 = .ok (.putfield 53, 3) := by decide +kernel
theorem dX7_init_100 : decode cX7_init 100 = .ok (.aload_n 0, 1) := by decide +kernel
theorem dX7_init_101 : decode cX7_init 101 = .ok (.iconst 0, 1) := by decide +kernel
theorem dX7_init_102 : decode cX7_init 102 = .ok (.putfield 57, 3) := by decide +kernel
theorem dX7_init_105 : decode cX7_init 105 = .ok (.return_, 1) := by decide +kernel
theorem dX7_letter_0 : decode cX7_letter 0 = .ok (.iload_n 1, 1) := by decide +kernel
theorem dX7_letter_1 : decode cX7_letter 1 = .ok (.ifCond .ge 10, 3) := by decide +kernel
theorem dX7_letter_4 : decode cX7_letter 4 = .ok (.aload_n 0, 1) := by decide +kernel
theorem dX7_letter_5 : decode cX7_letter 5 = .ok (.bipush (-4), 2) := by decide +kernel
theorem dX7_letter_7 : decode cX7_letter 7 = .ok (.invokevirtual 61, 3) := by decide +kernel
theorem dX7_letter_10 : decode cX7_letter 10 = .ok (.ireturn, 1) := by decide +kernel
theorem dX7_letter_11 : decode cX7_letter 11 = .ok (.iload_n 1, 1) := by decide +kernel
theorem dX7_letter_12 : decode cX7_letter 12 = .ok (.sipush 255, 3) := by decide +kernel
theorem dX7_letter_15 : decode cX7_letter 15 = .ok (.if_icmp .gt 15, 3) := by decide +kernel
theorem dX7_letter_18 : decode cX7_letter 18 = .ok (.aload_n 0, 1) := by decide +kernel
theorem dX7_letter_19 : decode cX7_letter 19 = .ok (.getfield 10, 3) := by decide +kernel
theorem dX7_letter_22 : decode cX7_letter 22 = .ok (.getfield 65, 3) := by decide +kernel
theorem dX7_letter_25 : decode cX7_letter 25 = .ok (.bipush 80, 2) := by decide +kernel
theorem dX7_letter_27 : decode cX7_letter 27 = .ok (.if_icmp .lt 10, 3) := by decide +kernel
theorem dX7_letter_30 : decode cX7_letter 30 = .ok (.aload_n 0, 1) := by decide +kernel
theorem dX7_letter_31 : decode cX7_letter 31 = .ok (.bipush (-6), 2) := by decide +kernel
theorem dX7_letter_33 : decode cX7_letter 33 = .ok (.invokevirtual 61, 3) := by decide +kernel
theorem dX7_letter_36 : decode cX7_letter 36 = .ok (.ireturn, 1) := by decide +kernel
theorem dX7_letter_37 : decode cX7_letter 37 = .ok (.aload_n 0, 1) := by decide +kernel
theorem dX7_letter_38 : decode cX7_letter 38 = .ok (.getfield 10, 3) := by decide +kernel
theorem dX7_letter_41 : decode cX7_letter 41 = .ok (.iload_n 1, 1) := by decide +kernel
theorem dX7_letter_42 : decode cX7_letter 42 = .ok (.invokevirtual 69, 3) := by decide +kernel
theorem dX7_letter_45 : decode cX7_letter 45 = .ok (.ireturn, 1) := by decide +kernel
theorem dX7_bay_0 : decode cX7_bay 0 = .ok (.aload_n 0, 1) := by decide +kernel
theorem dX7_bay_1 : decode cX7_bay 1 = .ok (.getfield 10, 3) := by decide +kernel
theorem dX7_bay_4 : decode cX7_bay 4 = .ok (.invokevirtual 72, 3) := by decide +kernel
theorem dX7_bay_7 : decode cX7_bay 7 = .ok (.istore_n 1, 1) := by decide +kernel
theorem dX7_bay_8 : decode cX7_bay 8 = .ok (.iload_n 1, 1) := by decide +kernel
theorem dX7_bay_9 : decode cX7_bay 9 = .ok (.ifCond .lt 16, 3) := by decide +kernel
theorem dX7_bay_12 : decode cX7_bay 12 = .ok (.aload_n 0, 1) := by decide +kernel
theorem dX7_bay_13 : decode cX7_bay 13 = .ok (.getfield 10, 3) := by decide +kernel
theorem dX7_bay_16 : decode cX7_bay 16 = .ok (.invokevirtual 76, 3) := by decide +kernel
theorem dX7_bay_19 : decode cX7_bay 19 = .ok (.sipush (-1000), 3) := by decide +kernel
theorem dX7_bay_22 : decode cX7_bay 22 = .ok (.iload_n 1, 1) := by decide +kernel
theorem dX7_bay_23 : decode cX7_bay 23 = .ok (.isub, 1) := by decide +kernel
theorem dX7_bay_24 : decode cX7_bay 24 = .ok (.ireturn, 1) := by decide +kernel
theorem dX7_bay_25 : decode cX7_bay 25 = .ok (.aload_n 0, 1) := by decide +kernel
theorem dX7_bay_26 : decode cX7_bay 26 = .ok (.getfield 19, 3) := by decide +kernel
theorem dX7_bay_29 : decode cX7_bay 29 = .ok (.getfield 79, 3) := by decide +kernel
theorem dX7_bay_32 : decode cX7_bay 32 = .ok (.aload_n 0, 1) := by decide +kernel
theorem dX7_bay_33 : decode cX7_bay 33 = .ok (.getfield 10, 3) := by decide +kernel
theorem dX7_bay_36 : decode cX7_bay 36 = .ok (.invokevirtual 83, 3) := by decide +kernel
theorem dX7_bay_39 : decode cX7_bay 39 = .ok (.aload_n 0, 1) := by decide +kernel
theorem dX7_bay_40 : decode cX7_bay 40 = .ok (.getfield 10, 3) := by decide +kernel
theorem dX7_bay_43 : decode cX7_bay 43 = .ok (.invokevirtual 76, 3) := by decide +kernel
theorem dX7_bay_46 : decode cX7_bay 46 = .ok (.aload_n 0, 1) := by decide +kernel
theorem dX7_bay_47 : decode cX7_bay 47 = .ok (.getfield 26, 3) := by decide +kernel
theorem dX7_bay_50 : decode cX7_bay 50 = .ok (.invokevirtual 89, 3) := by decide +kernel
theorem dX7_bay_53 : decode cX7_bay 53 = .ok (.aload_n 0, 1) := by decide +kernel
theorem dX7_bay_54 : decode cX7_bay 54 = .ok (.getfield 19, 3) := by decide +kernel
theorem dX7_bay_57 : decode cX7_bay 57 = .ok (.getfield 79, 3) := by decide +kernel
theorem dX7_bay_60 : decode cX7_bay 60 = .ok (.invokevirtual 92, 3) := by decide +kernel
theorem dX7_bay_63 : decode cX7_bay 63 = .ok (.ireturn, 1) := by decide +kernel
theorem dX7_cell_0 : decode cX7_cell 0 = .ok (.aload_n 0, 1) := by decide +kernel
theorem dX7_cell_1 : decode cX7_cell 1 = .ok (.getfield 19, 3) := by decide +kernel
theorem dX7_cell_4 : decode cX7_cell 4 = .ok (.getfield 79, 3) := by decide +kernel
theorem dX7_cell_7 : decode cX7_cell 7 = .ok (.iload_n 1, 1) := by decide +kernel
theorem dX7_cell_8 : decode cX7_cell 8 = .ok (.invokevirtual 95, 3) := by decide +kernel
theorem dX7_cell_11 : decode cX7_cell 11 = .ok (.ifCond .ne 9, 3) := by decide +kernel
theorem dX7_cell_14 : decode cX7_cell 14 = .ok (.aload_n 0, 1) := by decide +kernel
theorem dX7_cell_15 : decode cX7_cell 15 = .ok (.iconst (-1), 1) := by decide +kernel
theorem dX7_cell_16 : decode cX7_cell 16 = .ok (.invokevirtual 61, 3) := by decide +kernel
theorem dX7_cell_19 : decode cX7_cell 19 = .ok (.ireturn, 1) := by decide +kernel
theorem dX7_cell_20 : decode cX7_cell 20 = .ok (.aload_n 0, 1) := by decide +kernel
theorem dX7_cell_21 : decode cX7_cell 21 = .ok (.getfield 19, 3) := by decide +kernel
theorem dX7_cell_24 : decode cX7_cell 24 = .ok (.getfield 79, 3) := by decide +kernel
theorem dX7_cell_27 : decode cX7_cell 27 = .ok (.iload_n 1, 1) := by decide +kernel
theorem dX7_cell_28 : decode cX7_cell 28 = .ok (.invokevirtual 99, 3) := by decide +kernel
theorem dX7_cell_31 : decode cX7_cell 31 = .ok (.ireturn, 1) := by decide +kernel
theorem dX7_set_0 : decode cX7_set 0 = .ok (.iload_n 1, 1) := by decide +kernel
theorem dX7_set_1 : decode cX7_set 1 = .ok (.ifCond .lt 9, 3) := by decide +kernel
theorem dX7_set_4 : decode cX7_set 4 = .ok (.iload_n 1, 1) := by decide +kernel
theorem dX7_set_5 : decode cX7_set 5 = .ok (.bipush 7, 2) := by decide +kernel
theorem dX7_set_7 : decode cX7_set 7 = .ok (.if_icmp .lt 10, 3) := by decide +kernel
theorem dX7_set_10 : decode cX7_set 10 = .ok (.aload_n 0, 1) := by decide +kernel
theorem dX7_set_11 : decode cX7_set 11 = .ok (.bipush (-2), 2) := by decide +kernel
theorem dX7_set_13 : decode cX7_set 13 = .ok (.invokevirtual 61, 3) := by decide +kernel
theorem dX7_set_16 : decode cX7_set 16 = .ok (.ireturn, 1) := by decide +kernel
theorem dX7_set_17 : decode cX7_set 17 = .ok (.iload_n 2, 1) := by decide +kernel
theorem dX7_set_18 : decode cX7_set 18 = .ok (.getstatic 102, 3) := by decide +kernel
theorem dX7_set_21 : decode cX7_set 21 = .ok (.iload_n 1, 1) := by decide +kernel
theorem dX7_set_22 : decode cX7_set 22 = .ok (.invokestatic 105, 3) := by decide +kernel
theorem dX7_set_25 : decode cX7_set 25 = .ok (.if_icmp .ge 10, 3) := by decide +kernel
theorem dX7_set_28 : decode cX7_set 28 = .ok (.aload_n 0, 1) := by decide +kernel
theorem dX7_set_29 : decode cX7_set 29 = .ok (.bipush (-4), 2) := by decide +kernel
theorem dX7_set_31 : decode cX7_set 31 = .ok (.invokevirtual 61, 3) := by decide +kernel
theorem dX7_set_34 : decode cX7_set 34 = .ok (.ireturn, 1) := by decide +kernel
theorem dX7_set_35 : decode cX7_set 35 = .ok (.iload_n 2, 1) := by decide +kernel
theorem dX7_set_36 : decode cX7_set 36 = .ok (.getstatic 109, 3) := by decide +kernel
theorem dX7_set_39 : decode cX7_set 39 = .ok (.iload_n 1, 1) := by decide +kernel
theorem dX7_set_40 : decode cX7_set 40 = .ok (.invokestatic 105, 3) := by decide +kernel
theorem dX7_set_43 : decode cX7_set 43 = .ok (.if_icmp .le 10, 3) := by decide +kernel
theorem dX7_set_46 : decode cX7_set 46 = .ok (.aload_n 0, 1) := by decide +kernel
theorem dX7_set_47 : decode cX7_set 47 = .ok (.bipush (-6), 2) := by decide +kernel
theorem dX7_set_49 : decode cX7_set 49 = .ok (.invokevirtual 61, 3) := by decide +kernel
theorem dX7_set_52 : decode cX7_set 52 = .ok (.ireturn, 1) := by decide +kernel
theorem dX7_set_53 : decode cX7_set 53 = .ok (.aload_n 0, 1) := by decide +kernel
theorem dX7_set_54 : decode cX7_set 54 = .ok (.getfield 19, 3) := by decide +kernel
theorem dX7_set_57 : decode cX7_set 57 = .ok (.iload_n 1, 1) := by decide +kernel
theorem dX7_set_58 : decode cX7_set 58 = .ok (.invokevirtual 112, 3) := by decide +kernel
theorem dX7_set_61 : decode cX7_set 61 = .ok (.istore_n 3, 1) := by decide +kernel
theorem dX7_set_62 : decode cX7_set 62 = .ok (.aload_n 0, 1) := by decide +kernel
theorem dX7_set_63 : decode cX7_set 63 = .ok (.getfield 19, 3) := by decide +kernel
theorem dX7_set_66 : decode cX7_set 66 = .ok (.iload_n 1, 1) := by decide +kernel
theorem dX7_set_67 : decode cX7_set 67 = .ok (.iload_n 2, 1) := by decide +kernel
theorem dX7_set_68 : decode cX7_set 68 = .ok (.invokevirtual 115, 3) := by decide +kernel
theorem dX7_set_71 : decode cX7_set 71 = .ok (.iload_n 3, 1) := by decide +kernel
theorem dX7_set_72 : decode cX7_set 72 = .ok (.ireturn, 1) := by decide +kernel
theorem dX7_wind_0 : decode cX7_wind 0 = .ok (.iload_n 2, 1) := by decide +kernel
theorem dX7_wind_1 : decode cX7_wind 1 = .ok (.invokestatic 119, 3) := by decide +kernel
theorem dX7_wind_4 : decode cX7_wind 4 = .ok (.ifCond .ne 9, 3) := by decide +kernel
theorem dX7_wind_7 : decode cX7_wind 7 = .ok (.aload_n 0, 1) := by decide +kernel
theorem dX7_wind_8 : decode cX7_wind 8 = .ok (.iconst (-1), 1) := by decide +kernel
theorem dX7_wind_9 : decode cX7_wind 9 = .ok (.invokevirtual 61, 3) := by decide +kernel
theorem dX7_wind_12 : decode cX7_wind 12 = .ok (.ireturn, 1) := by decide +kernel
theorem dX7_wind_13 : decode cX7_wind 13 = .ok (.iload_n 1, 1) := by decide +kernel
theorem dX7_wind_14 : decode cX7_wind 14 = .ok (.ifCond .ge 10, 3) := by decide +kernel
theorem dX7_wind_17 : decode cX7_wind 17 = .ok (.aload_n 0, 1) := by decide +kernel
theorem dX7_wind_18 : decode cX7_wind 18 = .ok (.bipush (-4), 2) := by decide +kernel
theorem dX7_wind_20 : decode cX7_wind 20 = .ok (.invokevirtual 61, 3) := by decide +kernel
theorem dX7_wind_23 : decode cX7_wind 23 = .ok (.ireturn, 1) := by decide +kernel
theorem dX7_wind_24 : decode cX7_wind 24 = .ok (.iload_n 1, 1) := by decide +kernel
theorem dX7_wind_25 : decode cX7_wind 25 = .ok (.sipush 999, 3) := by decide +kernel
theorem dX7_wind_28 : decode cX7_wind 28 = .ok (.if_icmp .gt 16, 3) := by decide +kernel
theorem dX7_wind_31 : decode cX7_wind 31 = .ok (.aload_n 0, 1) := by decide +kernel
theorem dX7_wind_32 : decode cX7_wind 32 = .ok (.getfield 19, 3) := by decide +kernel
theorem dX7_wind_35 : decode cX7_wind 35 = .ok (.getfield 122, 3) := by decide +kernel
theorem dX7_wind_38 : decode cX7_wind 38 = .ok (.invokevirtual 126, 3) := by decide +kernel
theorem dX7_wind_41 : decode cX7_wind 41 = .ok (.ifCond .eq 10, 3) := by decide +kernel
theorem dX7_wind_44 : decode cX7_wind 44 = .ok (.aload_n 0, 1) := by decide +kernel
theorem dX7_wind_45 : decode cX7_wind 45 = .ok (.bipush (-6), 2) := by decide +kernel
theorem dX7_wind_47 : decode cX7_wind 47 = .ok (.invokevirtual 61, 3) := by decide +kernel
theorem dX7_wind_50 : decode cX7_wind 50 = .ok (.ireturn, 1) := by decide +kernel
theorem dX7_wind_51 : decode cX7_wind 51 = .ok (.aload_n 0, 1) := by decide +kernel
theorem dX7_wind_52 : decode cX7_wind 52 = .ok (.getfield 19, 3) := by decide +kernel
theorem dX7_wind_55 : decode cX7_wind 55 = .ok (.getfield 122, 3) := by decide +kernel
theorem dX7_wind_58 : decode cX7_wind 58 = .ok (.iload_n 1, 1) := by decide +kernel
theorem dX7_wind_59 : decode cX7_wind 59 = .ok (.iload_n 2, 1) := by decide +kernel
theorem dX7_wind_60 : decode cX7_wind 60 = .ok (.invokevirtual 132, 3) := by decide +kernel
theorem dX7_wind_63 : decode cX7_wind 63 = .ok (.ireturn, 1) := by decide +kernel
theorem dX7_tide_0 : decode cX7_tide 0 = .ok (.iload_n 1, 1) := by decide +kernel
theorem dX7_tide_1 : decode cX7_tide 1 = .ok (.ifCond .lt 7, 3) := by decide +kernel
theorem dX7_tide_4 : decode cX7_tide 4 = .ok (.iload_n 2, 1) := by decide +kernel
theorem dX7_tide_5 : decode cX7_tide 5 = .ok (.ifCond .ge 10, 3) := by decide +kernel
theorem dX7_tide_8 : decode cX7_tide 8 = .ok (.aload_n 0, 1) := by decide +kernel
theorem dX7_tide_9 : decode cX7_tide 9 = .ok (.bipush (-4), 2) := by decide +kernel
theorem dX7_tide_11 : decode cX7_tide 11 = .ok (.invokevirtual 61, 3) := by decide +kernel
theorem dX7_tide_14 : decode cX7_tide 14 = .ok (.ireturn, 1) := by decide +kernel
theorem dX7_tide_15 : decode cX7_tide 15 = .ok (.iload_n 1, 1) := by decide +kernel
theorem dX7_tide_16 : decode cX7_tide 16 = .ok (.sipush 999, 3) := by decide +kernel
theorem dX7_tide_19 : decode cX7_tide 19 = .ok (.if_icmp .gt 21, 3) := by decide +kernel
theorem dX7_tide_22 : decode cX7_tide 22 = .ok (.iload_n 2, 1) := by decide +kernel
theorem dX7_tide_23 : decode cX7_tide 23 = .ok (.iconst 5, 1) := by decide +kernel
theorem dX7_tide_24 : decode cX7_tide 24 = .ok (.if_icmp .gt 16, 3) := by decide +kernel
theorem dX7_tide_27 : decode cX7_tide 27 = .ok (.aload_n 0, 1) := by decide +kernel
theorem dX7_tide_28 : decode cX7_tide 28 = .ok (.getfield 19, 3) := by decide +kernel
theorem dX7_tide_31 : decode cX7_tide 31 = .ok (.getfield 135, 3) := by decide +kernel
theorem dX7_tide_34 : decode cX7_tide 34 = .ok (.invokevirtual 126, 3) := by decide +kernel
theorem dX7_tide_37 : decode cX7_tide 37 = .ok (.ifCond .eq 10, 3) := by decide +kernel
theorem dX7_tide_40 : decode cX7_tide 40 = .ok (.aload_n 0, 1) := by decide +kernel
theorem dX7_tide_41 : decode cX7_tide 41 = .ok (.bipush (-6), 2) := by decide +kernel
theorem dX7_tide_43 : decode cX7_tide 43 = .ok (.invokevirtual 61, 3) := by decide +kernel
theorem dX7_tide_46 : decode cX7_tide 46 = .ok (.ireturn, 1) := by decide +kernel
theorem dX7_tide_47 : decode cX7_tide 47 = .ok (.aload_n 0, 1) := by decide +kernel
theorem dX7_tide_48 : decode cX7_tide 48 = .ok (.getfield 19, 3) := by decide +kernel
theorem dX7_tide_51 : decode cX7_tide 51 = .ok (.getfield 135, 3) := by decide +kernel
theorem dX7_tide_54 : decode cX7_tide 54 = .ok (.iload_n 1, 1) := by decide +kernel
theorem dX7_tide_55 : decode cX7_tide 55 = .ok (.iload_n 2, 1) := by decide +kernel
theorem dX7_tide_56 : decode cX7_tide 56 = .ok (.invokevirtual 132, 3) := by decide +kernel
theorem dX7_tide_59 : decode cX7_tide 59 = .ok (.ireturn, 1) := by decide +kernel
theorem dX7_lays_0 : decode cX7_lays 0 = .ok (.aload_n 0, 1) := by decide +kernel
theorem dX7_lays_1 : decode cX7_lays 1 = .ok (.getfield 19, 3) := by decide +kernel
theorem dX7_lays_4 : decode cX7_lays 4 = .ok (.getfield 79, 3) := by decide +kernel
theorem dX7_lays_7 : decode cX7_lays 7 = .ok (.iload_n 1, 1) := by decide +kernel
theorem dX7_lays_8 : decode cX7_lays 8 = .ok (.invokevirtual 95, 3) := by decide +kernel
theorem dX7_lays_11 : decode cX7_lays 11 = .ok (.ifCond .ne 9, 3) := by decide +kernel
theorem dX7_lays_14 : decode cX7_lays 14 = .ok (.aload_n 0, 1) := by decide +kernel
theorem dX7_lays_15 : decode cX7_lays 15 = .ok (.iconst (-1), 1) := by decide +kernel
theorem dX7_lays_16 : decode cX7_lays 16 = .ok (.invokevirtual 61, 3) := by decide +kernel
theorem dX7_lays_19 : decode cX7_lays 19 = .ok (.ireturn, 1) := by decide +kernel
theorem dX7_lays_20 : decode cX7_lays 20 = .ok (.aload_n 0, 1) := by decide +kernel
theorem dX7_lays_21 : decode cX7_lays 21 = .ok (.getfield 19, 3) := by decide +kernel
theorem dX7_lays_24 : decode cX7_lays 24 = .ok (.iload_n 1, 1) := by decide +kernel
theorem dX7_lays_25 : decode cX7_lays 25 = .ok (.invokevirtual 138, 3) := by decide +kernel
theorem dX7_lays_28 : decode cX7_lays 28 = .ok (.ifCond .ne 10, 3) := by decide +kernel
theorem dX7_lays_31 : decode cX7_lays 31 = .ok (.aload_n 0, 1) := by decide +kernel
theorem dX7_lays_32 : decode cX7_lays 32 = .ok (.bipush (-3), 2) := by decide +kernel
theorem dX7_lays_34 : decode cX7_lays 34 = .ok (.invokevirtual 61, 3) := by decide +kernel
theorem dX7_lays_37 : decode cX7_lays 37 = .ok (.ireturn, 1) := by decide +kernel
theorem dX7_lays_38 : decode cX7_lays 38 = .ok (.aload_n 0, 1) := by decide +kernel
theorem dX7_lays_39 : decode cX7_lays 39 = .ok (.getfield 26, 3) := by decide +kernel
theorem dX7_lays_42 : decode cX7_lays 42 = .ok (.iload_n 1, 1) := by decide +kernel
theorem dX7_lays_43 : decode cX7_lays 43 = .ok (.invokevirtual 141, 3) := by decide +kernel
theorem dX7_lays_46 : decode cX7_lays 46 = .ok (.aload_n 0, 1) := by decide +kernel
theorem dX7_lays_47 : decode cX7_lays 47 = .ok (.getfield 26, 3) := by decide +kernel
theorem dX7_lays_50 : decode cX7_lays 50 = .ok (.aload_n 0, 1) := by decide +kernel
theorem dX7_lays_51 : decode cX7_lays 51 = .ok (.getfield 26, 3) := by decide +kernel
theorem dX7_lays_54 : decode cX7_lays 54 = .ok (.aload_n 0, 1) := by decide +kernel
theorem dX7_lays_55 : decode cX7_lays 55 = .ok (.getfield 19, 3) := by decide +kernel
theorem dX7_lays_58 : decode cX7_lays 58 = .ok (.invokevirtual 145, 3) := by decide +kernel
theorem dX7_lays_61 : decode cX7_lays 61 = .ok (.invokestatic 149, 3) := by decide +kernel
theorem dX7_lays_64 : decode cX7_lays 64 = .ok (.putfield 152, 3) := by decide +kernel
theorem dX7_lays_67 : decode cX7_lays 67 = .ok (.aload_n 0, 1) := by decide +kernel
theorem dX7_lays_68 : decode cX7_lays 68 = .ok (.getfield 26, 3) := by decide +kernel
theorem dX7_lays_71 : decode cX7_lays 71 = .ok (.getfield 152, 3) := by decide +kernel
theorem dX7_lays_74 : decode cX7_lays 74 = .ok (.ireturn, 1) := by decide +kernel
theorem dX7_now_0 : decode cX7_now 0 = .ok (.iload_n 1, 1) := by decide +kernel
theorem dX7_now_1 : decode cX7_now 1 = .ok (.ifCond .lt 9, 3) := by decide +kernel
theorem dX7_now_4 : decode cX7_now 4 = .ok (.iload_n 1, 1) := by decide +kernel
theorem dX7_now_5 : decode cX7_now 5 = .ok (.bipush 13, 2) := by decide +kernel
theorem dX7_now_7 : decode cX7_now 7 = .ok (.if_icmp .le 10, 3) := by decide +kernel
theorem dX7_now_10 : decode cX7_now 10 = .ok (.aload_n 0, 1) := by decide +kernel
theorem dX7_now_11 : decode cX7_now 11 = .ok (.bipush (-2), 2) := by decide +kernel
theorem dX7_now_13 : decode cX7_now 13 = .ok (.invokevirtual 61, 3) := by decide +kernel
theorem dX7_now_16 : decode cX7_now 16 = .ok (.ireturn, 1) := by decide +kernel
theorem dX7_now_17 : decode cX7_now 17 = .ok (.aload_n 0, 1) := by decide +kernel
theorem dX7_now_18 : decode cX7_now 18 = .ok (.getfield 26, 3) := by decide +kernel
theorem dX7_now_21 : decode cX7_now 21 = .ok (.getfield 155, 3) := by decide +kernel
theorem dX7_now_24 : decode cX7_now 24 = .ok (.ifCond .ne 10, 3) := by decide +kernel
theorem dX7_now_27 : decode cX7_now 27 = .ok (.aload_n 0, 1) := by decide +kernel
theorem dX7_now_28 : decode cX7_now 28 = .ok (.bipush (-3), 2) := by decide +kernel
theorem dX7_now_30 : decode cX7_now 30 = .ok (.invokevirtual 61, 3) := by decide +kernel
theorem dX7_now_33 : decode cX7_now 33 = .ok (.ireturn, 1) := by decide +kernel
theorem dX7_now_34 : decode cX7_now 34 = .ok (.iload_n 1, 1) := by decide +kernel
theorem dX7_now_35 : decode cX7_now 35 = .ok (.tableswitch 177 0 12 #[65, 73, 81, 89, 97, 105, 113, 121, 129, 137, 145, 157, 169], 65) := by decide +kernel
theorem dX7_now_100 : decode cX7_now 100 = .ok (.aload_n 0, 1) := by decide +kernel
theorem dX7_now_101 : decode cX7_now 101 = .ok (.getfield 26, 3) := by decide +kernel
theorem dX7_now_104 : decode cX7_now 104 = .ok (.getfield 158, 3) := by decide +kernel
theorem dX7_now_107 : decode cX7_now 107 = .ok (.ireturn, 1) := by decide +kernel
theorem dX7_now_108 : decode cX7_now 108 = .ok (.aload_n 0, 1) := by decide +kernel
theorem dX7_now_109 : decode cX7_now 109 = .ok (.getfield 26, 3) := by decide +kernel
theorem dX7_now_112 : decode cX7_now 112 = .ok (.getfield 152, 3) := by decide +kernel
theorem dX7_now_115 : decode cX7_now 115 = .ok (.ireturn, 1) := by decide +kernel
theorem dX7_now_116 : decode cX7_now 116 = .ok (.aload_n 0, 1) := by decide +kernel
theorem dX7_now_117 : decode cX7_now 117 = .ok (.getfield 26, 3) := by decide +kernel
theorem dX7_now_120 : decode cX7_now 120 = .ok (.getfield 161, 3) := by decide +kernel
theorem dX7_now_123 : decode cX7_now 123 = .ok (.ireturn, 1) := by decide +kernel
theorem dX7_now_124 : decode cX7_now 124 = .ok (.aload_n 0, 1) := by decide +kernel
theorem dX7_now_125 : decode cX7_now 125 = .ok (.getfield 26, 3) := by decide +kernel
theorem dX7_now_128 : decode cX7_now 128 = .ok (.getfield 164, 3) := by decide +kernel
theorem dX7_now_131 : decode cX7_now 131 = .ok (.ireturn, 1) := by decide +kernel
theorem dX7_now_132 : decode cX7_now 132 = .ok (.aload_n 0, 1) := by decide +kernel
theorem dX7_now_133 : decode cX7_now 133 = .ok (.getfield 26, 3) := by decide +kernel
theorem dX7_now_136 : decode cX7_now 136 = .ok (.getfield 167, 3) := by decide +kernel
theorem dX7_now_139 : decode cX7_now 139 = .ok (.ireturn, 1) := by decide +kernel
theorem dX7_now_140 : decode cX7_now 140 = .ok (.aload_n 0, 1) := by decide +kernel
theorem dX7_now_141 : decode cX7_now 141 = .ok (.getfield 26, 3) := by decide +kernel
theorem dX7_now_144 : decode cX7_now 144 = .ok (.getfield 170, 3) := by decide +kernel
theorem dX7_now_147 : decode cX7_now 147 = .ok (.ireturn, 1) := by decide +kernel
theorem dX7_now_148 : decode cX7_now 148 = .ok (.aload_n 0, 1) := by decide +kernel
theorem dX7_now_149 : decode cX7_now 149 = .ok (.getfield 26, 3) := by decide +kernel
theorem dX7_now_152 : decode cX7_now 152 = .ok (.getfield 173, 3) := by decide +kernel
theorem dX7_now_155 : decode cX7_now 155 = .ok (.ireturn, 1) := by decide +kernel
theorem dX7_now_156 : decode cX7_now 156 = .ok (.aload_n 0, 1) := by decide +kernel
theorem dX7_now_157 : decode cX7_now 157 = .ok (.getfield 26, 3) := by decide +kernel
theorem dX7_now_160 : decode cX7_now 160 = .ok (.getfield 176, 3) := by decide +kernel
theorem dX7_now_163 : decode cX7_now 163 = .ok (.ireturn, 1) := by decide +kernel
theorem dX7_now_164 : decode cX7_now 164 = .ok (.aload_n 0, 1) := by decide +kernel
theorem dX7_now_165 : decode cX7_now 165 = .ok (.getfield 26, 3) := by decide +kernel
theorem dX7_now_168 : decode cX7_now 168 = .ok (.getfield 179, 3) := by decide +kernel
theorem dX7_now_171 : decode cX7_now 171 = .ok (.ireturn, 1) := by decide +kernel
theorem dX7_now_172 : decode cX7_now 172 = .ok (.aload_n 0, 1) := by decide +kernel
theorem dX7_now_173 : decode cX7_now 173 = .ok (.getfield 26, 3) := by decide +kernel
theorem dX7_now_176 : decode cX7_now 176 = .ok (.getfield 182, 3) := by decide +kernel
theorem dX7_now_179 : decode cX7_now 179 = .ok (.ireturn, 1) := by decide +kernel
theorem dX7_now_180 : decode cX7_now 180 = .ok (.aload_n 0, 1) := by decide +kernel
theorem dX7_now_181 : decode cX7_now 181 = .ok (.getfield 26, 3) := by decide +kernel
theorem dX7_now_184 : decode cX7_now 184 = .ok (.aload_n 0, 1) := by decide +kernel
theorem dX7_now_185 : decode cX7_now 185 = .ok (.getfield 19, 3) := by decide +kernel
theorem dX7_now_188 : decode cX7_now 188 = .ok (.invokevirtual 145, 3) := by decide +kernel
theorem dX7_now_191 : decode cX7_now 191 = .ok (.ireturn, 1) := by decide +kernel
theorem dX7_now_192 : decode cX7_now 192 = .ok (.aload_n 0, 1) := by decide +kernel
theorem dX7_now_193 : decode cX7_now 193 = .ok (.getfield 26, 3) := by decide +kernel
theorem dX7_now_196 : decode cX7_now 196 = .ok (.aload_n 0, 1) := by decide +kernel
theorem dX7_now_197 : decode cX7_now 197 = .ok (.getfield 19, 3) := by decide +kernel
theorem dX7_now_200 : decode cX7_now 200 = .ok (.invokevirtual 185, 3) := by decide +kernel
theorem dX7_now_203 : decode cX7_now 203 = .ok (.ireturn, 1) := by decide +kernel
theorem dX7_now_204 : decode cX7_now 204 = .ok (.aload_n 0, 1) := by decide +kernel
theorem dX7_now_205 : decode cX7_now 205 = .ok (.getfield 19, 3) := by decide +kernel
theorem dX7_now_208 : decode cX7_now 208 = .ok (.getfield 188, 3) := by decide +kernel
theorem dX7_now_211 : decode cX7_now 211 = .ok (.ireturn, 1) := by decide +kernel
theorem dX7_now_212 : decode cX7_now 212 = .ok (.aload_n 0, 1) := by decide +kernel
theorem dX7_now_213 : decode cX7_now 213 = .ok (.getfield 26, 3) := by decide +kernel
theorem dX7_now_216 : decode cX7_now 216 = .ok (.aload_n 0, 1) := by decide +kernel
theorem dX7_now_217 : decode cX7_now 217 = .ok (.getfield 19, 3) := by decide +kernel
theorem dX7_now_220 : decode cX7_now 220 = .ok (.invokevirtual 191, 3) := by decide +kernel
theorem dX7_now_223 : decode cX7_now 223 = .ok (.ireturn, 1) := by decide +kernel
theorem dX7_run_0 : decode cX7_run 0 = .ok (.iload_n 1, 1) := by decide +kernel
theorem dX7_run_1 : decode cX7_run 1 = .ok (.iconst 1, 1) := by decide +kernel
theorem dX7_run_2 : decode cX7_run 2 = .ok (.if_icmp .ge 10, 3) := by decide +kernel
theorem dX7_run_5 : decode cX7_run 5 = .ok (.aload_n 0, 1) := by decide +kernel
theorem dX7_run_6 : decode cX7_run 6 = .ok (.bipush (-4), 2) := by decide +kernel
theorem dX7_run_8 : decode cX7_run 8 = .ok (.invokevirtual 61, 3) := by decide +kernel
theorem dX7_run_11 : decode cX7_run 11 = .ok (.ireturn, 1) := by decide +kernel
theorem dX7_run_12 : decode cX7_run 12 = .ok (.iload_n 1, 1) := by decide +kernel
theorem dX7_run_13 : decode cX7_run 13 = .ok (.bipush 99, 2) := by decide +kernel
theorem dX7_run_15 : decode cX7_run 15 = .ok (.if_icmp .le 10, 3) := by decide +kernel
theorem dX7_run_18 : decode cX7_run 18 = .ok (.aload_n 0, 1) := by decide +kernel
theorem dX7_run_19 : decode cX7_run 19 = .ok (.bipush (-6), 2) := by decide +kernel
theorem dX7_run_21 : decode cX7_run 21 = .ok (.invokevirtual 61, 3) := by decide +kernel
theorem dX7_run_24 : decode cX7_run 24 = .ok (.ireturn, 1) := by decide +kernel
theorem dX7_run_25 : decode cX7_run 25 = .ok (.aload_n 0, 1) := by decide +kernel
theorem dX7_run_26 : decode cX7_run 26 = .ok (.getfield 26, 3) := by decide +kernel
theorem dX7_run_29 : decode cX7_run 29 = .ok (.getfield 155, 3) := by decide +kernel
theorem dX7_run_32 : decode cX7_run 32 = .ok (.ifCond .ne 10, 3) := by decide +kernel
theorem dX7_run_35 : decode cX7_run 35 = .ok (.aload_n 0, 1) := by decide +kernel
theorem dX7_run_36 : decode cX7_run 36 = .ok (.bipush (-3), 2) := by decide +kernel
theorem dX7_run_38 : decode cX7_run 38 = .ok (.invokevirtual 61, 3) := by decide +kernel
theorem dX7_run_41 : decode cX7_run 41 = .ok (.ireturn, 1) := by decide +kernel
theorem dX7_run_42 : decode cX7_run 42 = .ok (.aload_n 0, 1) := by decide +kernel
theorem dX7_run_43 : decode cX7_run 43 = .ok (.getfield 26, 3) := by decide +kernel
theorem dX7_run_46 : decode cX7_run 46 = .ok (.aload_n 0, 1) := by decide +kernel
theorem dX7_run_47 : decode cX7_run 47 = .ok (.getfield 19, 3) := by decide +kernel
theorem dX7_run_50 : decode cX7_run 50 = .ok (.iload_n 1, 1) := by decide +kernel
theorem dX7_run_51 : decode cX7_run 51 = .ok (.invokevirtual 194, 3) := by decide +kernel
theorem dX7_run_54 : decode cX7_run 54 = .ok (.aload_n 0, 1) := by decide +kernel
theorem dX7_run_55 : decode cX7_run 55 = .ok (.getfield 26, 3) := by decide +kernel
theorem dX7_run_58 : decode cX7_run 58 = .ok (.getfield 182, 3) := by decide +kernel
theorem dX7_run_61 : decode cX7_run 61 = .ok (.ireturn, 1) := by decide +kernel
theorem dX7_head_0 : decode cX7_head 0 = .ok (.iload_n 1, 1) := by decide +kernel
theorem dX7_head_1 : decode cX7_head 1 = .ok (.invokestatic 119, 3) := by decide +kernel
theorem dX7_head_4 : decode cX7_head 4 = .ok (.ifCond .ne 9, 3) := by decide +kernel
theorem dX7_head_7 : decode cX7_head 7 = .ok (.aload_n 0, 1) := by decide +kernel
theorem dX7_head_8 : decode cX7_head 8 = .ok (.iconst (-1), 1) := by decide +kernel
theorem dX7_head_9 : decode cX7_head 9 = .ok (.invokevirtual 61, 3) := by decide +kernel
theorem dX7_head_12 : decode cX7_head 12 = .ok (.ireturn, 1) := by decide +kernel
theorem dX7_head_13 : decode cX7_head 13 = .ok (.aload_n 0, 1) := by decide +kernel
theorem dX7_head_14 : decode cX7_head 14 = .ok (.getfield 26, 3) := by decide +kernel
theorem dX7_head_17 : decode cX7_head 17 = .ok (.aload_n 0, 1) := by decide +kernel
theorem dX7_head_18 : decode cX7_head 18 = .ok (.getfield 19, 3) := by decide +kernel
theorem dX7_head_21 : decode cX7_head 21 = .ok (.iload_n 1, 1) := by decide +kernel
theorem dX7_head_22 : decode cX7_head 22 = .ok (.invokevirtual 198, 3) := by decide +kernel
theorem dX7_head_25 : decode cX7_head 25 = .ok (.ifCond .ne 10, 3) := by decide +kernel
theorem dX7_head_28 : decode cX7_head 28 = .ok (.aload_n 0, 1) := by decide +kernel
theorem dX7_head_29 : decode cX7_head 29 = .ok (.bipush (-3), 2) := by decide +kernel
theorem dX7_head_31 : decode cX7_head 31 = .ok (.invokevirtual 61, 3) := by decide +kernel
theorem dX7_head_34 : decode cX7_head 34 = .ok (.ireturn, 1) := by decide +kernel
theorem dX7_head_35 : decode cX7_head 35 = .ok (.aload_n 0, 1) := by decide +kernel
theorem dX7_head_36 : decode cX7_head 36 = .ok (.getfield 26, 3) := by decide +kernel
theorem dX7_head_39 : decode cX7_head 39 = .ok (.aload_n 0, 1) := by decide +kernel
theorem dX7_head_40 : decode cX7_head 40 = .ok (.getfield 19, 3) := by decide +kernel
theorem dX7_head_43 : decode cX7_head 43 = .ok (.iload_n 1, 1) := by decide +kernel
theorem dX7_head_44 : decode cX7_head 44 = .ok (.invokevirtual 202, 3) := by decide +kernel
theorem dX7_head_47 : decode cX7_head 47 = .ok (.ifCond .eq 10, 3) := by decide +kernel
theorem dX7_head_50 : decode cX7_head 50 = .ok (.aload_n 0, 1) := by decide +kernel
theorem dX7_head_51 : decode cX7_head 51 = .ok (.bipush (-3), 2) := by decide +kernel
theorem dX7_head_53 : decode cX7_head 53 = .ok (.invokevirtual 61, 3) := by decide +kernel
theorem dX7_head_56 : decode cX7_head 56 = .ok (.ireturn, 1) := by decide +kernel
theorem dX7_head_57 : decode cX7_head 57 = .ok (.aload_n 0, 1) := by decide +kernel
theorem dX7_head_58 : decode cX7_head 58 = .ok (.getfield 26, 3) := by decide +kernel
theorem dX7_head_61 : decode cX7_head 61 = .ok (.iload_n 1, 1) := by decide +kernel
theorem dX7_head_62 : decode cX7_head 62 = .ok (.putfield 152, 3) := by decide +kernel
theorem dX7_head_65 : decode cX7_head 65 = .ok (.iload_n 1, 1) := by decide +kernel
theorem dX7_head_66 : decode cX7_head 66 = .ok (.aload_n 0, 1) := by decide +kernel
theorem dX7_head_67 : decode cX7_head 67 = .ok (.getfield 26, 3) := by decide +kernel
theorem dX7_head_70 : decode cX7_head 70 = .ok (.aload_n 0, 1) := by decide +kernel
theorem dX7_head_71 : decode cX7_head 71 = .ok (.getfield 19, 3) := by decide +kernel
theorem dX7_head_74 : decode cX7_head 74 = .ok (.invokevirtual 145, 3) := by decide +kernel
theorem dX7_head_77 : decode cX7_head 77 = .ok (.invokestatic 205, 3) := by decide +kernel
theorem dX7_head_80 : decode cX7_head 80 = .ok (.ireturn, 1) := by decide +kernel
theorem dX7_wear_0 : decode cX7_wear 0 = .ok (.iload_n 1, 1) := by decide +kernel
theorem dX7_wear_1 : decode cX7_wear 1 = .ok (.invokestatic 119, 3) := by decide +kernel
theorem dX7_wear_4 : decode cX7_wear 4 = .ok (.ifCond .ne 9, 3) := by decide +kernel
theorem dX7_wear_7 : decode cX7_wear 7 = .ok (.aload_n 0, 1) := by decide +kernel
theorem dX7_wear_8 : decode cX7_wear 8 = .ok (.iconst (-1), 1) := by decide +kernel
theorem dX7_wear_9 : decode cX7_wear 9 = .ok (.invokevirtual 61, 3) := by decide +kernel
theorem dX7_wear_12 : decode cX7_wear 12 = .ok (.ireturn, 1) := by decide +kernel
theorem dX7_wear_13 : decode cX7_wear 13 = .ok (.aload_n 0, 1) := by decide +kernel
theorem dX7_wear_14 : decode cX7_wear 14 = .ok (.getfield 26, 3) := by decide +kernel
theorem dX7_wear_17 : decode cX7_wear 17 = .ok (.aload_n 0, 1) := by decide +kernel
theorem dX7_wear_18 : decode cX7_wear 18 = .ok (.getfield 19, 3) := by decide +kernel
theorem dX7_wear_21 : decode cX7_wear 21 = .ok (.iload_n 1, 1) := by decide +kernel
theorem dX7_wear_22 : decode cX7_wear 22 = .ok (.invokevirtual 198, 3) := by decide +kernel
theorem dX7_wear_25 : decode cX7_wear 25 = .ok (.ifCond .ne 10, 3) := by decide +kernel
theorem dX7_wear_28 : decode cX7_wear 28 = .ok (.aload_n 0, 1) := by decide +kernel
theorem dX7_wear_29 : decode cX7_wear 29 = .ok (.bipush (-3), 2) := by decide +kernel
theorem dX7_wear_31 : decode cX7_wear 31 = .ok (.invokevirtual 61, 3) := by decide +kernel
theorem dX7_wear_34 : decode cX7_wear 34 = .ok (.ireturn, 1) := by decide +kernel
theorem dX7_wear_35 : decode cX7_wear 35 = .ok (.aload_n 0, 1) := by decide +kernel
theorem dX7_wear_36 : decode cX7_wear 36 = .ok (.getfield 26, 3) := by decide +kernel
theorem dX7_wear_39 : decode cX7_wear 39 = .ok (.aload_n 0, 1) := by decide +kernel
theorem dX7_wear_40 : decode cX7_wear 40 = .ok (.getfield 19, 3) := by decide +kernel
theorem dX7_wear_43 : decode cX7_wear 43 = .ok (.iload_n 1, 1) := by decide +kernel
theorem dX7_wear_44 : decode cX7_wear 44 = .ok (.invokevirtual 208, 3) := by decide +kernel
theorem dX7_wear_47 : decode cX7_wear 47 = .ok (.aload_n 0, 1) := by decide +kernel
theorem dX7_wear_48 : decode cX7_wear 48 = .ok (.getfield 26, 3) := by decide +kernel
theorem dX7_wear_51 : decode cX7_wear 51 = .ok (.getfield 182, 3) := by decide +kernel
theorem dX7_wear_54 : decode cX7_wear 54 = .ok (.ireturn, 1) := by decide +kernel
theorem dX7_haul_0 : decode cX7_haul 0 = .ok (.iload_n 1, 1) := by decide +kernel
theorem dX7_haul_1 : decode cX7_haul 1 = .ok (.invokestatic 119, 3) := by decide +kernel
theorem dX7_haul_4 : decode cX7_haul 4 = .ok (.ifCond .ne 9, 3) := by decide +kernel
theorem dX7_haul_7 : decode cX7_haul 7 = .ok (.aload_n 0, 1) := by decide +kernel
theorem dX7_haul_8 : decode cX7_haul 8 = .ok (.iconst (-1), 1) := by decide +kernel
theorem dX7_haul_9 : decode cX7_haul 9 = .ok (.invokevirtual 61, 3) := by decide +kernel
theorem dX7_haul_12 : decode cX7_haul 12 = .ok (.ireturn, 1) := by decide +kernel
theorem dX7_haul_13 : decode cX7_haul 13 = .ok (.aload_n 0, 1) := by decide +kernel
theorem dX7_haul_14 : decode cX7_haul 14 = .ok (.getfield 26, 3) := by decide +kernel
theorem dX7_haul_17 : decode cX7_haul 17 = .ok (.aload_n 0, 1) := by decide +kernel
theorem dX7_haul_18 : decode cX7_haul 18 = .ok (.getfield 19, 3) := by decide +kernel
theorem dX7_haul_21 : decode cX7_haul 21 = .ok (.iload_n 1, 1) := by decide +kernel
theorem dX7_haul_22 : decode cX7_haul 22 = .ok (.invokevirtual 198, 3) := by decide +kernel
theorem dX7_haul_25 : decode cX7_haul 25 = .ok (.ifCond .eq 14, 3) := by decide +kernel
theorem dX7_haul_28 : decode cX7_haul 28 = .ok (.aload_n 0, 1) := by decide +kernel
theorem dX7_haul_29 : decode cX7_haul 29 = .ok (.getfield 26, 3) := by decide +kernel
theorem dX7_haul_32 : decode cX7_haul 32 = .ok (.getfield 167, 3) := by decide +kernel
theorem dX7_haul_35 : decode cX7_haul 35 = .ok (.iconst 1, 1) := by decide +kernel
theorem dX7_haul_36 : decode cX7_haul 36 = .ok (.if_icmp .ge 10, 3) := by decide +kernel
theorem dX7_haul_39 : decode cX7_haul 39 = .ok (.aload_n 0, 1) := by decide +kernel
theorem dX7_haul_40 : decode cX7_haul 40 = .ok (.bipush (-3), 2) := by decide +kernel
theorem dX7_haul_42 : decode cX7_haul 42 = .ok (.invokevirtual 61, 3) := by decide +kernel
theorem dX7_haul_45 : decode cX7_haul 45 = .ok (.ireturn, 1) := by decide +kernel
theorem dX7_haul_46 : decode cX7_haul 46 = .ok (.aload_n 0, 1) := by decide +kernel
theorem dX7_haul_47 : decode cX7_haul 47 = .ok (.getfield 26, 3) := by decide +kernel
theorem dX7_haul_50 : decode cX7_haul 50 = .ok (.iload_n 1, 1) := by decide +kernel
theorem dX7_haul_51 : decode cX7_haul 51 = .ok (.invokevirtual 211, 3) := by decide +kernel
theorem dX7_haul_54 : decode cX7_haul 54 = .ok (.aload_n 0, 1) := by decide +kernel
theorem dX7_haul_55 : decode cX7_haul 55 = .ok (.getfield 26, 3) := by decide +kernel
theorem dX7_haul_58 : decode cX7_haul 58 = .ok (.getfield 167, 3) := by decide +kernel
theorem dX7_haul_61 : decode cX7_haul 61 = .ok (.ireturn, 1) := by decide +kernel
theorem dX7_sail_0 : decode cX7_sail 0 = .ok (.iload_n 1, 1) := by decide +kernel
theorem dX7_sail_1 : decode cX7_sail 1 = .ok (.ifCond .ge 10, 3) := by decide +kernel
theorem dX7_sail_4 : decode cX7_sail 4 = .ok (.aload_n 0, 1) := by decide +kernel
theorem dX7_sail_5 : decode cX7_sail 5 = .ok (.bipush (-4), 2) := by decide +kernel
theorem dX7_sail_7 : decode cX7_sail 7 = .ok (.invokevirtual 61, 3) := by decide +kernel
theorem dX7_sail_10 : decode cX7_sail 10 = .ok (.ireturn, 1) := by decide +kernel
theorem dX7_sail_11 : decode cX7_sail 11 = .ok (.iload_n 1, 1) := by decide +kernel
theorem dX7_sail_12 : decode cX7_sail 12 = .ok (.iconst 3, 1) := by decide +kernel
theorem dX7_sail_13 : decode cX7_sail 13 = .ok (.if_icmp .le 10, 3) := by decide +kernel
theorem dX7_sail_16 : decode cX7_sail 16 = .ok (.aload_n 0, 1) := by decide +kernel
theorem dX7_sail_17 : decode cX7_sail 17 = .ok (.bipush (-6), 2) := by decide +kernel
theorem dX7_sail_19 : decode cX7_sail 19 = .ok (.invokevirtual 61, 3) := by decide +kernel
theorem dX7_sail_22 : decode cX7_sail 22 = .ok (.ireturn, 1) := by decide +kernel
theorem dX7_sail_23 : decode cX7_sail 23 = .ok (.aload_n 0, 1) := by decide +kernel
theorem dX7_sail_24 : decode cX7_sail 24 = .ok (.getfield 26, 3) := by decide +kernel
theorem dX7_sail_27 : decode cX7_sail 27 = .ok (.invokevirtual 214, 3) := by decide +kernel
theorem dX7_sail_30 : decode cX7_sail 30 = .ok (.ifCond .ne 10, 3) := by decide +kernel
theorem dX7_sail_33 : decode cX7_sail 33 = .ok (.aload_n 0, 1) := by decide +kernel
theorem dX7_sail_34 : decode cX7_sail 34 = .ok (.bipush (-3), 2) := by decide +kernel
theorem dX7_sail_36 : decode cX7_sail 36 = .ok (.invokevirtual 61, 3) := by decide +kernel
theorem dX7_sail_39 : decode cX7_sail 39 = .ok (.ireturn, 1) := by decide +kernel
theorem dX7_sail_40 : decode cX7_sail 40 = .ok (.aload_n 0, 1) := by decide +kernel
theorem dX7_sail_41 : decode cX7_sail 41 = .ok (.getfield 26, 3) := by decide +kernel
theorem dX7_sail_44 : decode cX7_sail 44 = .ok (.getfield 161, 3) := by decide +kernel
theorem dX7_sail_47 : decode cX7_sail 47 = .ok (.istore_n 2, 1) := by decide +kernel
theorem dX7_sail_48 : decode cX7_sail 48 = .ok (.aload_n 0, 1) := by decide +kernel
theorem dX7_sail_49 : decode cX7_sail 49 = .ok (.getfield 26, 3) := by decide +kernel
theorem dX7_sail_52 : decode cX7_sail 52 = .ok (.iload_n 1, 1) := by decide +kernel
theorem dX7_sail_53 : decode cX7_sail 53 = .ok (.putfield 161, 3) := by decide +kernel
theorem dX7_sail_56 : decode cX7_sail 56 = .ok (.iload_n 2, 1) := by decide +kernel
theorem dX7_sail_57 : decode cX7_sail 57 = .ok (.ireturn, 1) := by decide +kernel
theorem dX7_anchor_0 : decode cX7_anchor 0 = .ok (.aload_n 0, 1) := by decide +kernel
theorem dX7_anchor_1 : decode cX7_anchor 1 = .ok (.getfield 26, 3) := by decide +kernel
theorem dX7_anchor_4 : decode cX7_anchor 4 = .ok (.invokevirtual 217, 3) := by decide +kernel
theorem dX7_anchor_7 : decode cX7_anchor 7 = .ok (.ifCond .ne 10, 3) := by decide +kernel
theorem dX7_anchor_10 : decode cX7_anchor 10 = .ok (.aload_n 0, 1) := by decide +kernel
theorem dX7_anchor_11 : decode cX7_anchor 11 = .ok (.bipush (-3), 2) := by decide +kernel
theorem dX7_anchor_13 : decode cX7_anchor 13 = .ok (.invokevirtual 61, 3) := by decide +kernel
theorem dX7_anchor_16 : decode cX7_anchor 16 = .ok (.ireturn, 1) := by decide +kernel
theorem dX7_anchor_17 : decode cX7_anchor 17 = .ok (.aload_n 0, 1) := by decide +kernel
theorem dX7_anchor_18 : decode cX7_anchor 18 = .ok (.getfield 26, 3) := by decide +kernel
theorem dX7_anchor_21 : decode cX7_anchor 21 = .ok (.iconst 4, 1) := by decide +kernel
theorem dX7_anchor_22 : decode cX7_anchor 22 = .ok (.putfield 182, 3) := by decide +kernel
theorem dX7_anchor_25 : decode cX7_anchor 25 = .ok (.aload_n 0, 1) := by decide +kernel
theorem dX7_anchor_26 : decode cX7_anchor 26 = .ok (.getfield 26, 3) := by decide +kernel
theorem dX7_anchor_29 : decode cX7_anchor 29 = .ok (.getfield 167, 3) := by decide +kernel
theorem dX7_anchor_32 : decode cX7_anchor 32 = .ok (.ireturn, 1) := by decide +kernel
theorem dX7_cut_0 : decode cX7_cut 0 = .ok (.aload_n 0, 1) := by decide +kernel
theorem dX7_cut_1 : decode cX7_cut 1 = .ok (.getfield 26, 3) := by decide +kernel
theorem dX7_cut_4 : decode cX7_cut 4 = .ok (.getfield 155, 3) := by decide +kernel
theorem dX7_cut_7 : decode cX7_cut 7 = .ok (.ifCond .eq 14, 3) := by decide +kernel
theorem dX7_cut_10 : decode cX7_cut 10 = .ok (.aload_n 0, 1) := by decide +kernel
theorem dX7_cut_11 : decode cX7_cut 11 = .ok (.getfield 26, 3) := by decide +kernel
theorem dX7_cut_14 : decode cX7_cut 14 = .ok (.getfield 182, 3) := by decide +kernel
theorem dX7_cut_17 : decode cX7_cut 17 = .ok (.iconst 4, 1) := by decide +kernel
theorem dX7_cut_18 : decode cX7_cut 18 = .ok (.if_icmp .eq 10, 3) := by decide +kernel
theorem dX7_cut_21 : decode cX7_cut 21 = .ok (.aload_n 0, 1) := by decide +kernel
theorem dX7_cut_22 : decode cX7_cut 22 = .ok (.bipush (-3), 2) := by decide +kernel
theorem dX7_cut_24 : decode cX7_cut 24 = .ok (.invokevirtual 61, 3) := by decide +kernel
theorem dX7_cut_27 : decode cX7_cut 27 = .ok (.ireturn, 1) := by decide +kernel
theorem dX7_cut_28 : decode cX7_cut 28 = .ok (.aload_n 0, 1) := by decide +kernel
theorem dX7_cut_29 : decode cX7_cut 29 = .ok (.getfield 26, 3) := by decide +kernel
theorem dX7_cut_32 : decode cX7_cut 32 = .ok (.dup, 1) := by decide +kernel
theorem dX7_cut_33 : decode cX7_cut 33 = .ok (.getfield 167, 3) := by decide +kernel
theorem dX7_cut_36 : decode cX7_cut 36 = .ok (.iconst 1, 1) := by decide +kernel
theorem dX7_cut_37 : decode cX7_cut 37 = .ok (.isub, 1) := by decide +kernel
theorem dX7_cut_38 : decode cX7_cut 38 = .ok (.putfield 167, 3) := by decide +kernel
theorem dX7_cut_41 : decode cX7_cut 41 = .ok (.aload_n 0, 1) := by decide +kernel
theorem dX7_cut_42 : decode cX7_cut 42 = .ok (.getfield 26, 3) := by decide +kernel
theorem dX7_cut_45 : decode cX7_cut 45 = .ok (.iconst 1, 1) := by decide +kernel
theorem dX7_cut_46 : decode cX7_cut 46 = .ok (.putfield 182, 3) := by decide +kernel
theorem dX7_cut_49 : decode cX7_cut 49 = .ok (.aload_n 0, 1) := by decide +kernel
theorem dX7_cut_50 : decode cX7_cut 50 = .ok (.getfield 26, 3) := by decide +kernel
theorem dX7_cut_53 : decode cX7_cut 53 = .ok (.getfield 167, 3) := by decide +kernel
theorem dX7_cut_56 : decode cX7_cut 56 = .ok (.ireturn, 1) := by decide +kernel
theorem dX7_axe_0 : decode cX7_axe 0 = .ok (.aload_n 0, 1) := by decide +kernel
theorem dX7_axe_1 : decode cX7_axe 1 = .ok (.getfield 26, 3) := by decide +kernel
theorem dX7_axe_4 : decode cX7_axe 4 = .ok (.invokevirtual 214, 3) := by decide +kernel
theorem dX7_axe_7 : decode cX7_axe 7 = .ok (.ifCond .eq 14, 3) := by decide +kernel
theorem dX7_axe_10 : decode cX7_axe 10 = .ok (.aload_n 0, 1) := by decide +kernel
theorem dX7_axe_11 : decode cX7_axe 11 = .ok (.getfield 26, 3) := by decide +kernel
theorem dX7_axe_14 : decode cX7_axe 14 = .ok (.getfield 164, 3) := by decide +kernel
theorem dX7_axe_17 : decode cX7_axe 17 = .ok (.iconst 1, 1) := by decide +kernel
theorem dX7_axe_18 : decode cX7_axe 18 = .ok (.if_icmp .ge 10, 3) := by decide +kernel
theorem dX7_axe_21 : decode cX7_axe 21 = .ok (.aload_n 0, 1) := by decide +kernel
theorem dX7_axe_22 : decode cX7_axe 22 = .ok (.bipush (-3), 2) := by decide +kernel
theorem dX7_axe_24 : decode cX7_axe 24 = .ok (.invokevirtual 61, 3) := by decide +kernel
theorem dX7_axe_27 : decode cX7_axe 27 = .ok (.ireturn, 1) := by decide +kernel
theorem dX7_axe_28 : decode cX7_axe 28 = .ok (.aload_n 0, 1) := by decide +kernel
theorem dX7_axe_29 : decode cX7_axe 29 = .ok (.getfield 26, 3) := by decide +kernel
theorem dX7_axe_32 : decode cX7_axe 32 = .ok (.dup, 1) := by decide +kernel
theorem dX7_axe_33 : decode cX7_axe 33 = .ok (.getfield 164, 3) := by decide +kernel
theorem dX7_axe_36 : decode cX7_axe 36 = .ok (.iconst 1, 1) := by decide +kernel
theorem dX7_axe_37 : decode cX7_axe 37 = .ok (.isub, 1) := by decide +kernel
theorem dX7_axe_38 : decode cX7_axe 38 = .ok (.putfield 164, 3) := by decide +kernel
theorem dX7_axe_41 : decode cX7_axe 41 = .ok (.aload_n 0, 1) := by decide +kernel
theorem dX7_axe_42 : decode cX7_axe 42 = .ok (.getfield 26, 3) := by decide +kernel
theorem dX7_axe_45 : decode cX7_axe 45 = .ok (.getfield 164, 3) := by decide +kernel
theorem dX7_axe_48 : decode cX7_axe 48 = .ok (.ireturn, 1) := by decide +kernel
theorem dX7_over_0 : decode cX7_over 0 = .ok (.aload_n 0, 1) := by decide +kernel
theorem dX7_over_1 : decode cX7_over 1 = .ok (.getfield 26, 3) := by decide +kernel
theorem dX7_over_4 : decode cX7_over 4 = .ok (.invokevirtual 214, 3) := by decide +kernel
theorem dX7_over_7 : decode cX7_over 7 = .ok (.ifCond .eq 14, 3) := by decide +kernel
theorem dX7_over_10 : decode cX7_over 10 = .ok (.aload_n 0, 1) := by decide +kernel
theorem dX7_over_11 : decode cX7_over 11 = .ok (.getfield 19, 3) := by decide +kernel
theorem dX7_over_14 : decode cX7_over 14 = .ok (.getfield 188, 3) := by decide +kernel
theorem dX7_over_17 : decode cX7_over 17 = .ok (.iconst 1, 1) := by decide +kernel
theorem dX7_over_18 : decode cX7_over 18 = .ok (.if_icmp .ge 10, 3) := by decide +kernel
theorem dX7_over_21 : decode cX7_over 21 = .ok (.aload_n 0, 1) := by decide +kernel
theorem dX7_over_22 : decode cX7_over 22 = .ok (.bipush (-3), 2) := by decide +kernel
theorem dX7_over_24 : decode cX7_over 24 = .ok (.invokevirtual 61, 3) := by decide +kernel
theorem dX7_over_27 : decode cX7_over 27 = .ok (.ireturn, 1) := by decide +kernel
theorem dX7_over_28 : decode cX7_over 28 = .ok (.aload_n 0, 1) := by decide +kernel
theorem dX7_over_29 : decode cX7_over 29 = .ok (.getfield 19, 3) := by decide +kernel
theorem dX7_over_32 : decode cX7_over 32 = .ok (.dup, 1) := by decide +kernel
theorem dX7_over_33 : decode cX7_over 33 = .ok (.getfield 188, 3) := by decide +kernel
theorem dX7_over_36 : decode cX7_over 36 = .ok (.iconst 1, 1) := by decide +kernel
theorem dX7_over_37 : decode cX7_over 37 = .ok (.isub, 1) := by decide +kernel
theorem dX7_over_38 : decode cX7_over 38 = .ok (.putfield 188, 3) := by decide +kernel
theorem dX7_over_41 : decode cX7_over 41 = .ok (.aload_n 0, 1) := by decide +kernel
theorem dX7_over_42 : decode cX7_over 42 = .ok (.getfield 19, 3) := by decide +kernel
theorem dX7_over_45 : decode cX7_over 45 = .ok (.getfield 188, 3) := by decide +kernel
theorem dX7_over_48 : decode cX7_over 48 = .ok (.ireturn, 1) := by decide +kernel
theorem dX7_still_0 : decode cX7_still 0 = .ok (.aload_n 0, 1) := by decide +kernel
theorem dX7_still_1 : decode cX7_still 1 = .ok (.getfield 19, 3) := by decide +kernel
theorem dX7_still_4 : decode cX7_still 4 = .ok (.getfield 79, 3) := by decide +kernel
theorem dX7_still_7 : decode cX7_still 7 = .ok (.iload_n 1, 1) := by decide +kernel
theorem dX7_still_8 : decode cX7_still 8 = .ok (.invokevirtual 95, 3) := by decide +kernel
theorem dX7_still_11 : decode cX7_still 11 = .ok (.ifCond .ne 9, 3) := by decide +kernel
theorem dX7_still_14 : decode cX7_still 14 = .ok (.aload_n 0, 1) := by decide +kernel
theorem dX7_still_15 : decode cX7_still 15 = .ok (.iconst (-1), 1) := by decide +kernel
theorem dX7_still_16 : decode cX7_still 16 = .ok (.invokevirtual 61, 3) := by decide +kernel
theorem dX7_still_19 : decode cX7_still 19 = .ok (.ireturn, 1) := by decide +kernel
theorem dX7_still_20 : decode cX7_still 20 = .ok (.aload_n 0, 1) := by decide +kernel
theorem dX7_still_21 : decode cX7_still 21 = .ok (.getfield 42, 3) := by decide +kernel
theorem dX7_still_24 : decode cX7_still 24 = .ok (.aload_n 0, 1) := by decide +kernel
theorem dX7_still_25 : decode cX7_still 25 = .ok (.getfield 19, 3) := by decide +kernel
theorem dX7_still_28 : decode cX7_still 28 = .ok (.aload_n 0, 1) := by decide +kernel
theorem dX7_still_29 : decode cX7_still 29 = .ok (.getfield 26, 3) := by decide +kernel
theorem dX7_still_32 : decode cX7_still 32 = .ok (.aload_n 0, 1) := by decide +kernel
theorem dX7_still_33 : decode cX7_still 33 = .ok (.getfield 19, 3) := by decide +kernel
theorem dX7_still_36 : decode cX7_still 36 = .ok (.invokevirtual 145, 3) := by decide +kernel
theorem dX7_still_39 : decode cX7_still 39 = .ok (.invokevirtual 220, 3) := by decide +kernel
theorem dX7_still_42 : decode cX7_still 42 = .ok (.aload_n 0, 1) := by decide +kernel
theorem dX7_still_43 : decode cX7_still 43 = .ok (.getfield 42, 3) := by decide +kernel
theorem dX7_still_46 : decode cX7_still 46 = .ok (.iload_n 1, 1) := by decide +kernel
theorem dX7_still_47 : decode cX7_still 47 = .ok (.invokevirtual 223, 3) := by decide +kernel
theorem dX7_still_50 : decode cX7_still 50 = .ok (.ireturn, 1) := by decide +kernel
theorem dX7_clears_0 : decode cX7_clears 0 = .ok (.aload_n 0, 1) := by decide +kernel
theorem dX7_clears_1 : decode cX7_clears 1 = .ok (.getfield 42, 3) := by decide +kernel
theorem dX7_clears_4 : decode cX7_clears 4 = .ok (.aload_n 0, 1) := by decide +kernel
theorem dX7_clears_5 : decode cX7_clears 5 = .ok (.getfield 19, 3) := by decide +kernel
theorem dX7_clears_8 : decode cX7_clears 8 = .ok (.aload_n 0, 1) := by decide +kernel
theorem dX7_clears_9 : decode cX7_clears 9 = .ok (.getfield 26, 3) := by decide +kernel
theorem dX7_clears_12 : decode cX7_clears 12 = .ok (.aload_n 0, 1) := by decide +kernel
theorem dX7_clears_13 : decode cX7_clears 13 = .ok (.getfield 19, 3) := by decide +kernel
theorem dX7_clears_16 : decode cX7_clears 16 = .ok (.invokevirtual 145, 3) := by decide +kernel
theorem dX7_clears_19 : decode cX7_clears 19 = .ok (.invokevirtual 220, 3) := by decide +kernel
theorem dX7_clears_22 : decode cX7_clears 22 = .ok (.iconst 0, 1) := by decide +kernel
theorem dX7_clears_23 : decode cX7_clears 23 = .ok (.istore_n 1, 1) := by decide +kernel
theorem dX7_clears_24 : decode cX7_clears 24 = .ok (.iconst 0, 1) := by decide +kernel
theorem dX7_clears_25 : decode cX7_clears 25 = .ok (.istore_n 2, 1) := by decide +kernel
theorem dX7_clears_26 : decode cX7_clears 26 = .ok (.iload_n 2, 1) := by decide +kernel
theorem dX7_clears_27 : decode cX7_clears 27 = .ok (.aload_n 0, 1) := by decide +kernel
theorem dX7_clears_28 : decode cX7_clears 28 = .ok (.getfield 19, 3) := by decide +kernel
theorem dX7_clears_31 : decode cX7_clears 31 = .ok (.getfield 79, 3) := by decide +kernel
theorem dX7_clears_34 : decode cX7_clears 34 = .ok (.invokevirtual 92, 3) := by decide +kernel
theorem dX7_clears_37 : decode cX7_clears 37 = .ok (.if_icmp .ge 25, 3) := by decide +kernel
theorem dX7_clears_40 : decode cX7_clears 40 = .ok (.aload_n 0, 1) := by decide +kernel
theorem dX7_clears_41 : decode cX7_clears 41 = .ok (.getfield 42, 3) := by decide +kernel
theorem dX7_clears_44 : decode cX7_clears 44 = .ok (.iload_n 2, 1) := by decide +kernel
theorem dX7_clears_45 : decode cX7_clears 45 = .ok (.invokevirtual 223, 3) := by decide +kernel
theorem dX7_clears_48 : decode cX7_clears 48 = .ok (.bipush (-9), 2) := by decide +kernel
theorem dX7_clears_50 : decode cX7_clears 50 = .ok (.if_icmp .eq 6, 3) := by decide +kernel
theorem dX7_clears_53 : decode cX7_clears 53 = .ok (.iinc 1 1, 3) := by decide +kernel
theorem dX7_clears_56 : decode cX7_clears 56 = .ok (.iinc 2 1, 3) := by decide +kernel
theorem dX7_clears_59 : decode cX7_clears 59 = .ok (.goto (-33), 3) := by decide +kernel
theorem dX7_clears_62 : decode cX7_clears 62 = .ok (.iload_n 1, 1) := by decide +kernel
theorem dX7_clears_63 : decode cX7_clears 63 = .ok (.ireturn, 1) := by decide +kernel
theorem dX7_line_0 : decode cX7_line 0 = .ok (.aload_n 0, 1) := by decide +kernel
theorem dX7_line_1 : decode cX7_line 1 = .ok (.getfield 26, 3) := by decide +kernel
theorem dX7_line_4 : decode cX7_line 4 = .ok (.getfield 155, 3) := by decide +kernel
theorem dX7_line_7 : decode cX7_line 7 = .ok (.ifCond .ne 10, 3) := by decide +kernel
theorem dX7_line_10 : decode cX7_line 10 = .ok (.aload_n 0, 1) := by decide +kernel
theorem dX7_line_11 : decode cX7_line 11 = .ok (.bipush (-3), 2) := by decide +kernel
theorem dX7_line_13 : decode cX7_line 13 = .ok (.invokevirtual 61, 3) := by decide +kernel
theorem dX7_line_16 : decode cX7_line 16 = .ok (.ireturn, 1) := by decide +kernel
theorem dX7_line_17 : decode cX7_line 17 = .ok (.iconst 1, 1) := by decide +kernel
theorem dX7_line_18 : decode cX7_line 18 = .ok (.istore_n 1, 1) := by decide +kernel
theorem dX7_line_19 : decode cX7_line 19 = .ok (.iload_n 1, 1) := by decide +kernel
theorem dX7_line_20 : decode cX7_line 20 = .ok (.iconst 3, 1) := by decide +kernel
theorem dX7_line_21 : decode cX7_line 21 = .ok (.if_icmp .gt 55, 3) := by decide +kernel
theorem dX7_line_24 : decode cX7_line 24 = .ok (.aload_n 0, 1) := by decide +kernel
theorem dX7_line_25 : decode cX7_line 25 = .ok (.getfield 30, 3) := by decide +kernel
theorem dX7_line_28 : decode cX7_line 28 = .ok (.aload_n 0, 1) := by decide +kernel
theorem dX7_line_29 : decode cX7_line 29 = .ok (.getfield 26, 3) := by decide +kernel
theorem dX7_line_32 : decode cX7_line 32 = .ok (.invokevirtual 226, 3) := by decide +kernel
theorem dX7_line_35 : decode cX7_line 35 = .ok (.aload_n 0, 1) := by decide +kernel
theorem dX7_line_36 : decode cX7_line 36 = .ok (.getfield 30, 3) := by decide +kernel
theorem dX7_line_39 : decode cX7_line 39 = .ok (.iload_n 1, 1) := by decide +kernel
theorem dX7_line_40 : decode cX7_line 40 = .ok (.putfield 161, 3) := by decide +kernel
theorem dX7_line_43 : decode cX7_line 43 = .ok (.aload_n 0, 1) := by decide +kernel
theorem dX7_line_44 : decode cX7_line 44 = .ok (.getfield 30, 3) := by decide +kernel
theorem dX7_line_47 : decode cX7_line 47 = .ok (.aload_n 0, 1) := by decide +kernel
theorem dX7_line_48 : decode cX7_line 48 = .ok (.getfield 19, 3) := by decide +kernel
theorem dX7_line_51 : decode cX7_line 51 = .ok (.bipush 60, 2) := by decide +kernel
theorem dX7_line_53 : decode cX7_line 53 = .ok (.invokevirtual 194, 3) := by decide +kernel
theorem dX7_line_56 : decode cX7_line 56 = .ok (.aload_n 0, 1) := by decide +kernel
theorem dX7_line_57 : decode cX7_line 57 = .ok (.getfield 30, 3) := by decide +kernel
theorem dX7_line_60 : decode cX7_line 60 = .ok (.getfield 182, 3) := by decide +kernel
theorem dX7_line_63 : decode cX7_line 63 = .ok (.bipush 8, 2) := by decide +kernel
theorem dX7_line_65 : decode cX7_line 65 = .ok (.if_icmp .ne 5, 3) := by decide +kernel
theorem dX7_line_68 : decode cX7_line 68 = .ok (.iload_n 1, 1) := by decide +kernel
theorem dX7_line_69 : decode cX7_line 69 = .ok (.ireturn, 1) := by decide +kernel
theorem dX7_line_70 : decode cX7_line 70 = .ok (.iinc 1 1, 3) := by decide +kernel
theorem dX7_line_73 : decode cX7_line 73 = .ok (.goto (-54), 3) := by decide +kernel
theorem dX7_line_76 : decode cX7_line 76 = .ok (.bipush (-9), 2) := by decide +kernel
theorem dX7_line_78 : decode cX7_line 78 = .ok (.ireturn, 1) := by decide +kernel
theorem dX7_lighter_0 : decode cX7_lighter 0 = .ok (.aload_n 0, 1) := by decide +kernel
theorem dX7_lighter_1 : decode cX7_lighter 1 = .ok (.getfield 26, 3) := by decide +kernel
theorem dX7_lighter_4 : decode cX7_lighter 4 = .ok (.getfield 155, 3) := by decide +kernel
theorem dX7_lighter_7 : decode cX7_lighter 7 = .ok (.ifCond .ne 13, 3) := by decide +kernel
theorem dX7_lighter_10 : decode cX7_lighter 10 = .ok (.ldc 230, 2) := by decide +kernel
theorem dX7_lighter_12 : decode cX7_lighter 12 = .ok (.aload_n 0, 1) := by decide +kernel
theorem dX7_lighter_13 : decode cX7_lighter 13 = .ok (.bipush (-3), 2) := by decide +kernel
theorem dX7_lighter_15 : decode cX7_lighter 15 = .ok (.invokevirtual 61, 3) := by decide +kernel
theorem dX7_lighter_18 : decode cX7_lighter 18 = .ok (.isub, 1) := by decide +kernel
theorem dX7_lighter_19 : decode cX7_lighter 19 = .ok (.ireturn, 1) := by decide +kernel
theorem dX7_lighter_20 : decode cX7_lighter 20 = .ok (.aload_n 0, 1) := by decide +kernel
theorem dX7_lighter_21 : decode cX7_lighter 21 = .ok (.getfield 30, 3) := by decide +kernel
theorem dX7_lighter_24 : decode cX7_lighter 24 = .ok (.aload_n 0, 1) := by decide +kernel
theorem dX7_lighter_25 : decode cX7_lighter 25 = .ok (.getfield 26, 3) := by decide +kernel
theorem dX7_lighter_28 : decode cX7_lighter 28 = .ok (.invokevirtual 226, 3) := by decide +kernel
theorem dX7_lighter_31 : decode cX7_lighter 31 = .ok (.aload_n 0, 1) := by decide +kernel
theorem dX7_lighter_32 : decode cX7_lighter 32 = .ok (.getfield 30, 3) := by decide +kernel
theorem dX7_lighter_35 : decode cX7_lighter 35 = .ok (.iconst 1, 1) := by decide +kernel
theorem dX7_lighter_36 : decode cX7_lighter 36 = .ok (.putfield 231, 3) := by decide +kernel
theorem dX7_lighter_39 : decode cX7_lighter 39 = .ok (.aload_n 0, 1) := by decide +kernel
theorem dX7_lighter_40 : decode cX7_lighter 40 = .ok (.getfield 30, 3) := by decide +kernel
theorem dX7_lighter_43 : decode cX7_lighter 43 = .ok (.aload_n 0, 1) := by decide +kernel
theorem dX7_lighter_44 : decode cX7_lighter 44 = .ok (.getfield 19, 3) := by decide +kernel
theorem dX7_lighter_47 : decode cX7_lighter 47 = .ok (.invokevirtual 234, 3) := by decide +kernel
theorem dX7_lighter_50 : decode cX7_lighter 50 = .ok (.istore_n 1, 1) := by decide +kernel
theorem dX7_lighter_51 : decode cX7_lighter 51 = .ok (.aload_n 0, 1) := by decide +kernel
theorem dX7_lighter_52 : decode cX7_lighter 52 = .ok (.getfield 30, 3) := by decide +kernel
theorem dX7_lighter_55 : decode cX7_lighter 55 = .ok (.aload_n 0, 1) := by decide +kernel
theorem dX7_lighter_56 : decode cX7_lighter 56 = .ok (.getfield 26, 3) := by decide +kernel
theorem dX7_lighter_59 : decode cX7_lighter 59 = .ok (.invokevirtual 226, 3) := by decide +kernel
theorem dX7_lighter_62 : decode cX7_lighter 62 = .ok (.iload_n 1, 1) := by decide +kernel
theorem dX7_lighter_63 : decode cX7_lighter 63 = .ok (.aload_n 0, 1) := by decide +kernel
theorem dX7_lighter_64 : decode cX7_lighter 64 = .ok (.getfield 30, 3) := by decide +kernel
theorem dX7_lighter_67 : decode cX7_lighter 67 = .ok (.aload_n 0, 1) := by decide +kernel
theorem dX7_lighter_68 : decode cX7_lighter 68 = .ok (.getfield 19, 3) := by decide +kernel
theorem dX7_lighter_71 : decode cX7_lighter 71 = .ok (.invokevirtual 234, 3) := by decide +kernel
theorem dX7_lighter_74 : decode cX7_lighter 74 = .ok (.isub, 1) := by decide +kernel
theorem dX7_lighter_75 : decode cX7_lighter 75 = .ok (.ireturn, 1) := by decide +kernel
theorem dX7_holds_0 : decode cX7_holds 0 = .ok (.aload_n 0, 1) := by decide +kernel
theorem dX7_holds_1 : decode cX7_holds 1 = .ok (.getfield 19, 3) := by decide +kernel
theorem dX7_holds_4 : decode cX7_holds 4 = .ok (.getfield 79, 3) := by decide +kernel
theorem dX7_holds_7 : decode cX7_holds 7 = .ok (.iload_n 1, 1) := by decide +kernel
theorem dX7_holds_8 : decode cX7_holds 8 = .ok (.invokevirtual 95, 3) := by decide +kernel
theorem dX7_holds_11 : decode cX7_holds 11 = .ok (.ifCond .ne 9, 3) := by decide +kernel
theorem dX7_holds_14 : decode cX7_holds 14 = .ok (.aload_n 0, 1) := by decide +kernel
theorem dX7_holds_15 : decode cX7_holds 15 = .ok (.iconst (-1), 1) := by decide +kernel
theorem dX7_holds_16 : decode cX7_holds 16 = .ok (.invokevirtual 61, 3) := by decide +kernel
theorem dX7_holds_19 : decode cX7_holds 19 = .ok (.ireturn, 1) := by decide +kernel
theorem dX7_holds_20 : decode cX7_holds 20 = .ok (.iload_n 2, 1) := by decide +kernel
theorem dX7_holds_21 : decode cX7_holds 21 = .ok (.ifCond .lt 7, 3) := by decide +kernel
theorem dX7_holds_24 : decode cX7_holds 24 = .ok (.iload_n 3, 1) := by decide +kernel
theorem dX7_holds_25 : decode cX7_holds 25 = .ok (.ifCond .ge 10, 3) := by decide +kernel
theorem dX7_holds_28 : decode cX7_holds 28 = .ok (.aload_n 0, 1) := by decide +kernel
theorem dX7_holds_29 : decode cX7_holds 29 = .ok (.bipush (-4), 2) := by decide +kernel
theorem dX7_holds_31 : decode cX7_holds 31 = .ok (.invokevirtual 61, 3) := by decide +kernel
theorem dX7_holds_34 : decode cX7_holds 34 = .ok (.ireturn, 1) := by decide +kernel
theorem dX7_holds_35 : decode cX7_holds 35 = .ok (.iload_n 2, 1) := by decide +kernel
theorem dX7_holds_36 : decode cX7_holds 36 = .ok (.iconst 3, 1) := by decide +kernel
theorem dX7_holds_37 : decode cX7_holds 37 = .ok (.if_icmp .gt 8, 3) := by decide +kernel
theorem dX7_holds_40 : decode cX7_holds 40 = .ok (.iload_n 3, 1) := by decide +kernel
theorem dX7_holds_41 : decode cX7_holds 41 = .ok (.iconst 5, 1) := by decide +kernel
theorem dX7_holds_42 : decode cX7_holds 42 = .ok (.if_icmp .le 10, 3) := by decide +kernel
theorem dX7_holds_45 : decode cX7_holds 45 = .ok (.aload_n 0, 1) := by decide +kernel
theorem dX7_holds_46 : decode cX7_holds 46 = .ok (.bipush (-6), 2) := by decide +kernel
theorem dX7_holds_48 : decode cX7_holds 48 = .ok (.invokevirtual 61, 3) := by decide +kernel
theorem dX7_holds_51 : decode cX7_holds 51 = .ok (.ireturn, 1) := by decide +kernel
theorem dX7_holds_52 : decode cX7_holds 52 = .ok (.aload_n 0, 1) := by decide +kernel
theorem dX7_holds_53 : decode cX7_holds 53 = .ok (.getfield 19, 3) := by decide +kernel
theorem dX7_holds_56 : decode cX7_holds 56 = .ok (.getfield 79, 3) := by decide +kernel
theorem dX7_holds_59 : decode cX7_holds 59 = .ok (.iload_n 1, 1) := by decide +kernel
theorem dX7_holds_60 : decode cX7_holds 60 = .ok (.invokevirtual 99, 3) := by decide +kernel
theorem dX7_holds_63 : decode cX7_holds 63 = .ok (.istore 4, 2) := by decide +kernel
theorem dX7_holds_65 : decode cX7_holds 65 = .ok (.iload 4, 2) := by decide +kernel
theorem dX7_holds_67 : decode cX7_holds 67 = .ok (.invokestatic 237, 3) := by decide +kernel
theorem dX7_holds_70 : decode cX7_holds 70 = .ok (.ifCond .ne 10, 3) := by decide +kernel
theorem dX7_holds_73 : decode cX7_holds 73 = .ok (.aload_n 0, 1) := by decide +kernel
theorem dX7_holds_74 : decode cX7_holds 74 = .ok (.bipush (-3), 2) := by decide +kernel
theorem dX7_holds_76 : decode cX7_holds 76 = .ok (.invokevirtual 61, 3) := by decide +kernel
theorem dX7_holds_79 : decode cX7_holds 79 = .ok (.ireturn, 1) := by decide +kernel
theorem dX7_holds_80 : decode cX7_holds 80 = .ok (.bipush 9, 2) := by decide +kernel
theorem dX7_holds_82 : decode cX7_holds 82 = .ok (.istore 5, 2) := by decide +kernel
theorem dX7_holds_84 : decode cX7_holds 84 = .ok (.iload 5, 2) := by decide +kernel
theorem dX7_holds_86 : decode cX7_holds 86 = .ok (.ifCond .lt 27, 3) := by decide +kernel
theorem dX7_holds_89 : decode cX7_holds 89 = .ok (.iload 5, 2) := by decide +kernel
theorem dX7_holds_91 : decode cX7_holds 91 = .ok (.iload_n 2, 1) := by decide +kernel
theorem dX7_holds_92 : decode cX7_holds 92 = .ok (.invokestatic 240, 3) := by decide +kernel
theorem dX7_holds_95 : decode cX7_holds 95 = .ok (.iload 4, 2) := by decide +kernel
theorem dX7_holds_97 : decode cX7_holds 97 = .ok (.iload_n 3, 1) := by decide +kernel
theorem dX7_holds_98 : decode cX7_holds 98 = .ok (.invokestatic 243, 3) := by decide +kernel
theorem dX7_holds_101 : decode cX7_holds 101 = .ok (.if_icmp .gt 6, 3) := by decide +kernel
theorem dX7_holds_104 : decode cX7_holds 104 = .ok (.iload 5, 2) := by decide +kernel
theorem dX7_holds_106 : decode cX7_holds 106 = .ok (.ireturn, 1) := by decide +kernel
theorem dX7_holds_107 : decode cX7_holds 107 = .ok (.iinc 5 (-1), 3) := by decide +kernel
theorem dX7_holds_110 : decode cX7_holds 110 = .ok (.goto (-26), 3) := by decide +kernel
theorem dX7_holds_113 : decode cX7_holds 113 = .ok (.bipush (-9), 2) := by decide +kernel
theorem dX7_holds_115 : decode cX7_holds 115 = .ok (.ireturn, 1) := by decide +kernel
theorem dX7_beachBest_0 : decode cX7_beachBest 0 = .ok (.aload_n 0, 1) := by decide +kernel
theorem dX7_beachBest_1 : decode cX7_beachBest 1 = .ok (.getfield 19, 3) := by decide +kernel
theorem dX7_beachBest_4 : decode cX7_beachBest 4 = .ok (.getfield 79, 3) := by decide +kernel
theorem dX7_beachBest_7 : decode cX7_beachBest 7 = .ok (.invokevirtual 246, 3) := by decide +kernel
theorem dX7_beachBest_10 : decode cX7_beachBest 10 = .ok (.ifCond .ne 6, 3) := by decide +kernel
theorem dX7_beachBest_13 : decode cX7_beachBest 13 = .ok (.bipush (-9), 2) := by decide +kernel
theorem dX7_beachBest_15 : decode cX7_beachBest 15 = .ok (.ireturn, 1) := by decide +kernel
theorem dX7_beachBest_16 : decode cX7_beachBest 16 = .ok (.iconst 0, 1) := by decide +kernel
theorem dX7_beachBest_17 : decode cX7_beachBest 17 = .ok (.istore_n 1, 1) := by decide +kernel
theorem dX7_beachBest_18 : decode cX7_beachBest 18 = .ok (.iconst (-1), 1) := by decide +kernel
theorem dX7_beachBest_19 : decode cX7_beachBest 19 = .ok (.istore_n 2, 1) := by decide +kernel
theorem dX7_beachBest_20 : decode cX7_beachBest 20 = .ok (.iconst 0, 1) := by decide +kernel
theorem dX7_beachBest_21 : decode cX7_beachBest 21 = .ok (.istore_n 3, 1) := by decide +kernel
theorem dX7_beachBest_22 : decode cX7_beachBest 22 = .ok (.iload_n 3, 1) := by decide +kernel
theorem dX7_beachBest_23 : decode cX7_beachBest 23 = .ok (.bipush 30, 2) := by decide +kernel
theorem dX7_beachBest_25 : decode cX7_beachBest 25 = .ok (.if_icmp .gt 48, 3) := by decide +kernel
theorem dX7_beachBest_28 : decode cX7_beachBest 28 = .ok (.aload_n 0, 1) := by decide +kernel
theorem dX7_beachBest_29 : decode cX7_beachBest 29 = .ok (.getfield 19, 3) := by decide +kernel
theorem dX7_beachBest_32 : decode cX7_beachBest 32 = .ok (.aload_n 0, 1) := by decide +kernel
theorem dX7_beachBest_33 : decode cX7_beachBest 33 = .ok (.getfield 19, 3) := by decide +kernel
theorem dX7_beachBest_36 : decode cX7_beachBest 36 = .ok (.getfield 135, 3) := by decide +kernel
theorem dX7_beachBest_39 : decode cX7_beachBest 39 = .ok (.iload_n 3, 1) := by decide +kernel
theorem dX7_beachBest_40 : decode cX7_beachBest 40 = .ok (.invokevirtual 249, 3) := by decide +kernel
theorem dX7_beachBest_43 : decode cX7_beachBest 43 = .ok (.aload_n 0, 1) := by decide +kernel
theorem dX7_beachBest_44 : decode cX7_beachBest 44 = .ok (.getfield 19, 3) := by decide +kernel
theorem dX7_beachBest_47 : decode cX7_beachBest 47 = .ok (.iload_n 3, 1) := by decide +kernel
theorem dX7_beachBest_48 : decode cX7_beachBest 48 = .ok (.invokevirtual 252, 3) := by decide +kernel
theorem dX7_beachBest_51 : decode cX7_beachBest 51 = .ok (.invokevirtual 255, 3) := by decide +kernel
theorem dX7_beachBest_54 : decode cX7_beachBest 54 = .ok (.istore 4, 2) := by decide +kernel
theorem dX7_beachBest_56 : decode cX7_beachBest 56 = .ok (.iload 4, 2) := by decide +kernel
theorem dX7_beachBest_58 : decode cX7_beachBest 58 = .ok (.iload_n 2, 1) := by decide +kernel
theorem dX7_beachBest_59 : decode cX7_beachBest 59 = .ok (.if_icmp .le 8, 3) := by decide +kernel
theorem dX7_beachBest_62 : decode cX7_beachBest 62 = .ok (.iload 4, 2) := by decide +kernel
theorem dX7_beachBest_64 : decode cX7_beachBest 64 = .ok (.istore_n 2, 1) := by decide +kernel
theorem dX7_beachBest_65 : decode cX7_beachBest 65 = .ok (.iload_n 3, 1) := by decide +kernel
theorem dX7_beachBest_66 : decode cX7_beachBest 66 = .ok (.istore_n 1, 1) := by decide +kernel
theorem dX7_beachBest_67 : decode cX7_beachBest 67 = .ok (.iinc 3 1, 3) := by decide +kernel
theorem dX7_beachBest_70 : decode cX7_beachBest 70 = .ok (.goto (-48), 3) := by decide +kernel
theorem dX7_beachBest_73 : decode cX7_beachBest 73 = .ok (.iload_n 1, 1) := by decide +kernel
theorem dX7_beachBest_74 : decode cX7_beachBest 74 = .ok (.ireturn, 1) := by decide +kernel
theorem dX7_plan_0 : decode cX7_plan 0 = .ok (.iload_n 1, 1) := by decide +kernel
theorem dX7_plan_1 : decode cX7_plan 1 = .ok (.ifCond .lt 8, 3) := by decide +kernel
theorem dX7_plan_4 : decode cX7_plan 4 = .ok (.iload_n 2, 1) := by decide +kernel
theorem dX7_plan_5 : decode cX7_plan 5 = .ok (.iconst (-1), 1) := by decide +kernel
theorem dX7_plan_6 : decode cX7_plan 6 = .ok (.if_icmp .ge 10, 3) := by decide +kernel
theorem dX7_plan_9 : decode cX7_plan 9 = .ok (.aload_n 0, 1) := by decide +kernel
theorem dX7_plan_10 : decode cX7_plan 10 = .ok (.bipush (-4), 2) := by decide +kernel
theorem dX7_plan_12 : decode cX7_plan 12 = .ok (.invokevirtual 61, 3) := by decide +kernel
theorem dX7_plan_15 : decode cX7_plan 15 = .ok (.ireturn, 1) := by decide +kernel
theorem dX7_plan_16 : decode cX7_plan 16 = .ok (.iload_n 1, 1) := by decide +kernel
theorem dX7_plan_17 : decode cX7_plan 17 = .ok (.iconst 4, 1) := by decide +kernel
theorem dX7_plan_18 : decode cX7_plan 18 = .ok (.if_icmp .le 10, 3) := by decide +kernel
theorem dX7_plan_21 : decode cX7_plan 21 = .ok (.aload_n 0, 1) := by decide +kernel
theorem dX7_plan_22 : decode cX7_plan 22 = .ok (.bipush (-6), 2) := by decide +kernel
theorem dX7_plan_24 : decode cX7_plan 24 = .ok (.invokevirtual 61, 3) := by decide +kernel
theorem dX7_plan_27 : decode cX7_plan 27 = .ok (.ireturn, 1) := by decide +kernel
theorem dX7_plan_28 : decode cX7_plan 28 = .ok (.aload_n 0, 1) := by decide +kernel
theorem dX7_plan_29 : decode cX7_plan 29 = .ok (.getfield 26, 3) := by decide +kernel
theorem dX7_plan_32 : decode cX7_plan 32 = .ok (.getfield 155, 3) := by decide +kernel
theorem dX7_plan_35 : decode cX7_plan 35 = .ok (.ifCond .ne 10, 3) := by decide +kernel
theorem dX7_plan_38 : decode cX7_plan 38 = .ok (.aload_n 0, 1) := by decide +kernel
theorem dX7_plan_39 : decode cX7_plan 39 = .ok (.bipush (-3), 2) := by decide +kernel
theorem dX7_plan_41 : decode cX7_plan 41 = .ok (.invokevirtual 61, 3) := by decide +kernel
theorem dX7_plan_44 : decode cX7_plan 44 = .ok (.ireturn, 1) := by decide +kernel
theorem dX7_plan_45 : decode cX7_plan 45 = .ok (.iload_n 2, 1) := by decide +kernel
theorem dX7_plan_46 : decode cX7_plan 46 = .ok (.iload_n 1, 1) := by decide +kernel
theorem dX7_plan_47 : decode cX7_plan 47 = .ok (.if_icmp .lt 6, 3) := by decide +kernel
theorem dX7_plan_50 : decode cX7_plan 50 = .ok (.bipush (-9), 2) := by decide +kernel
theorem dX7_plan_52 : decode cX7_plan 52 = .ok (.ireturn, 1) := by decide +kernel
theorem dX7_plan_53 : decode cX7_plan 53 = .ok (.aload_n 0, 1) := by decide +kernel
theorem dX7_plan_54 : decode cX7_plan 54 = .ok (.iload_n 1, 1) := by decide +kernel
theorem dX7_plan_55 : decode cX7_plan 55 = .ok (.invokevirtual 259, 3) := by decide +kernel
theorem dX7_plan_58 : decode cX7_plan 58 = .ok (.istore_n 3, 1) := by decide +kernel
theorem dX7_plan_59 : decode cX7_plan 59 = .ok (.iload_n 2, 1) := by decide +kernel
theorem dX7_plan_60 : decode cX7_plan 60 = .ok (.ifCond .ge 12, 3) := by decide +kernel
theorem dX7_plan_63 : decode cX7_plan 63 = .ok (.aload_n 0, 1) := by decide +kernel
theorem dX7_plan_64 : decode cX7_plan 64 = .ok (.iload_n 1, 1) := by decide +kernel
theorem dX7_plan_65 : decode cX7_plan 65 = .ok (.iload_n 3, 1) := by decide +kernel
theorem dX7_plan_66 : decode cX7_plan 66 = .ok (.invokevirtual 262, 3) := by decide +kernel
theorem dX7_plan_69 : decode cX7_plan 69 = .ok (.goto 9, 3) := by decide +kernel
theorem dX7_plan_72 : decode cX7_plan 72 = .ok (.iload_n 1, 1) := by decide +kernel
theorem dX7_plan_73 : decode cX7_plan 73 = .ok (.iload_n 3, 1) := by decide +kernel
theorem dX7_plan_74 : decode cX7_plan 74 = .ok (.iload_n 2, 1) := by decide +kernel
theorem dX7_plan_75 : decode cX7_plan 75 = .ok (.invokestatic 265, 3) := by decide +kernel
theorem dX7_plan_78 : decode cX7_plan 78 = .ok (.ireturn, 1) := by decide +kernel
theorem dX7_stood_0 : decode cX7_stood 0 = .ok (.aload_n 0, 1) := by decide +kernel
theorem dX7_stood_1 : decode cX7_stood 1 = .ok (.getfield 19, 3) := by decide +kernel
theorem dX7_stood_4 : decode cX7_stood 4 = .ok (.getfield 79, 3) := by decide +kernel
theorem dX7_stood_7 : decode cX7_stood 7 = .ok (.iload_n 1, 1) := by decide +kernel
theorem dX7_stood_8 : decode cX7_stood 8 = .ok (.invokevirtual 95, 3) := by decide +kernel
theorem dX7_stood_11 : decode cX7_stood 11 = .ok (.ifCond .eq 10, 3) := by decide +kernel
theorem dX7_stood_14 : decode cX7_stood 14 = .ok (.iload_n 2, 1) := by decide +kernel
theorem dX7_stood_15 : decode cX7_stood 15 = .ok (.invokestatic 119, 3) := by decide +kernel
theorem dX7_stood_18 : decode cX7_stood 18 = .ok (.ifCond .ne 9, 3) := by decide +kernel
theorem dX7_stood_21 : decode cX7_stood 21 = .ok (.aload_n 0, 1) := by decide +kernel
theorem dX7_stood_22 : decode cX7_stood 22 = .ok (.iconst (-1), 1) := by decide +kernel
theorem dX7_stood_23 : decode cX7_stood 23 = .ok (.invokevirtual 61, 3) := by decide +kernel
theorem dX7_stood_26 : decode cX7_stood 26 = .ok (.ireturn, 1) := by decide +kernel
theorem dX7_stood_27 : decode cX7_stood 27 = .ok (.aload_n 0, 1) := by decide +kernel
theorem dX7_stood_28 : decode cX7_stood 28 = .ok (.getfield 19, 3) := by decide +kernel
theorem dX7_stood_31 : decode cX7_stood 31 = .ok (.iload_n 1, 1) := by decide +kernel
theorem dX7_stood_32 : decode cX7_stood 32 = .ok (.invokevirtual 138, 3) := by decide +kernel
theorem dX7_stood_35 : decode cX7_stood 35 = .ok (.ifCond .eq 13, 3) := by decide +kernel
theorem dX7_stood_38 : decode cX7_stood 38 = .ok (.aload_n 0, 1) := by decide +kernel
theorem dX7_stood_39 : decode cX7_stood 39 = .ok (.getfield 26, 3) := by decide +kernel
theorem dX7_stood_42 : decode cX7_stood 42 = .ok (.getfield 155, 3) := by decide +kernel
theorem dX7_stood_45 : decode cX7_stood 45 = .ok (.ifCond .ne 10, 3) := by decide +kernel
theorem dX7_stood_48 : decode cX7_stood 48 = .ok (.aload_n 0, 1) := by decide +kernel
theorem dX7_stood_49 : decode cX7_stood 49 = .ok (.bipush (-3), 2) := by decide +kernel
theorem dX7_stood_51 : decode cX7_stood 51 = .ok (.invokevirtual 61, 3) := by decide +kernel
theorem dX7_stood_54 : decode cX7_stood 54 = .ok (.ireturn, 1) := by decide +kernel
theorem dX7_stood_55 : decode cX7_stood 55 = .ok (.bipush 40, 2) := by decide +kernel
theorem dX7_stood_57 : decode cX7_stood 57 = .ok (.istore_n 3, 1) := by decide +kernel
theorem dX7_stood_58 : decode cX7_stood 58 = .ok (.iload_n 3, 1) := by decide +kernel
theorem dX7_stood_59 : decode cX7_stood 59 = .ok (.ifCond .lt 74, 3) := by decide +kernel
theorem dX7_stood_62 : decode cX7_stood 62 = .ok (.aload_n 0, 1) := by decide +kernel
theorem dX7_stood_63 : decode cX7_stood 63 = .ok (.getfield 30, 3) := by decide +kernel
theorem dX7_stood_66 : decode cX7_stood 66 = .ok (.iload_n 1, 1) := by decide +kernel
theorem dX7_stood_67 : decode cX7_stood 67 = .ok (.invokevirtual 141, 3) := by decide +kernel
theorem dX7_stood_70 : decode cX7_stood 70 = .ok (.aload_n 0, 1) := by decide +kernel
theorem dX7_stood_71 : decode cX7_stood 71 = .ok (.getfield 30, 3) := by decide +kernel
theorem dX7_stood_74 : decode cX7_stood 74 = .ok (.iload_n 2, 1) := by decide +kernel
theorem dX7_stood_75 : decode cX7_stood 75 = .ok (.putfield 152, 3) := by decide +kernel
theorem dX7_stood_78 : decode cX7_stood 78 = .ok (.aload_n 0, 1) := by decide +kernel
theorem dX7_stood_79 : decode cX7_stood 79 = .ok (.getfield 30, 3) := by decide +kernel
theorem dX7_stood_82 : decode cX7_stood 82 = .ok (.aload_n 0, 1) := by decide +kernel
theorem dX7_stood_83 : decode cX7_stood 83 = .ok (.getfield 26, 3) := by decide +kernel
theorem dX7_stood_86 : decode cX7_stood 86 = .ok (.getfield 161, 3) := by decide +kernel
theorem dX7_stood_89 : decode cX7_stood 89 = .ok (.putfield 161, 3) := by decide +kernel
theorem dX7_stood_92 : decode cX7_stood 92 = .ok (.aload_n 0, 1) := by decide +kernel
theorem dX7_stood_93 : decode cX7_stood 93 = .ok (.getfield 30, 3) := by decide +kernel
theorem dX7_stood_96 : decode cX7_stood 96 = .ok (.iload_n 3, 1) := by decide +kernel
theorem dX7_stood_97 : decode cX7_stood 97 = .ok (.putfield 179, 3) := by decide +kernel
theorem dX7_stood_100 : decode cX7_stood 100 = .ok (.aload_n 0, 1) := by decide +kernel
theorem dX7_stood_101 : decode cX7_stood 101 = .ok (.getfield 30, 3) := by decide +kernel
theorem dX7_stood_104 : decode cX7_stood 104 = .ok (.aload_n 0, 1) := by decide +kernel
theorem dX7_stood_105 : decode cX7_stood 105 = .ok (.getfield 19, 3) := by decide +kernel
theorem dX7_stood_108 : decode cX7_stood 108 = .ok (.bipush 60, 2) := by decide +kernel
theorem dX7_stood_110 : decode cX7_stood 110 = .ok (.invokevirtual 194, 3) := by decide +kernel
theorem dX7_stood_113 : decode cX7_stood 113 = .ok (.aload_n 0, 1) := by decide +kernel
theorem dX7_stood_114 : decode cX7_stood 114 = .ok (.getfield 30, 3) := by decide +kernel
theorem dX7_stood_117 : decode cX7_stood 117 = .ok (.getfield 182, 3) := by decide +kernel
theorem dX7_stood_120 : decode cX7_stood 120 = .ok (.bipush 8, 2) := by decide +kernel
theorem dX7_stood_122 : decode cX7_stood 122 = .ok (.if_icmp .ne 5, 3) := by decide +kernel
theorem dX7_stood_125 : decode cX7_stood 125 = .ok (.iload_n 3, 1) := by decide +kernel
theorem dX7_stood_126 : decode cX7_stood 126 = .ok (.ireturn, 1) := by decide +kernel
theorem dX7_stood_127 : decode cX7_stood 127 = .ok (.iinc 3 (-1), 3) := by decide +kernel
theorem dX7_stood_130 : decode cX7_stood 130 = .ok (.goto (-72), 3) := by decide +kernel
theorem dX7_stood_133 : decode cX7_stood 133 = .ok (.bipush (-9), 2) := by decide +kernel
theorem dX7_stood_135 : decode cX7_stood 135 = .ok (.ireturn, 1) := by decide +kernel
theorem dX7_worth_0 : decode cX7_worth 0 = .ok (.iload_n 2, 1) := by decide +kernel
theorem dX7_worth_1 : decode cX7_worth 1 = .ok (.invokestatic 119, 3) := by decide +kernel
theorem dX7_worth_4 : decode cX7_worth 4 = .ok (.ifCond .ne 12, 3) := by decide +kernel
theorem dX7_worth_7 : decode cX7_worth 7 = .ok (.ldc 230, 2) := by decide +kernel
theorem dX7_worth_9 : decode cX7_worth 9 = .ok (.aload_n 0, 1) := by decide +kernel
theorem dX7_worth_10 : decode cX7_worth 10 = .ok (.iconst (-1), 1) := by decide +kernel
theorem dX7_worth_11 : decode cX7_worth 11 = .ok (.invokevirtual 61, 3) := by decide +kernel
theorem dX7_worth_14 : decode cX7_worth 14 = .ok (.isub, 1) := by decide +kernel
theorem dX7_worth_15 : decode cX7_worth 15 = .ok (.ireturn, 1) := by decide +kernel
theorem dX7_worth_16 : decode cX7_worth 16 = .ok (.iload_n 1, 1) := by decide +kernel
theorem dX7_worth_17 : decode cX7_worth 17 = .ok (.ifCond .ge 13, 3) := by decide +kernel
theorem dX7_worth_20 : decode cX7_worth 20 = .ok (.ldc 230, 2) := by decide +kernel
theorem dX7_worth_22 : decode cX7_worth 22 = .ok (.aload_n 0, 1) := by decide +kernel
theorem dX7_worth_23 : decode cX7_worth 23 = .ok (.bipush (-4), 2) := by decide +kernel
theorem dX7_worth_25 : decode cX7_worth 25 = .ok (.invokevirtual 61, 3) := by decide +kernel
theorem dX7_worth_28 : decode cX7_worth 28 = .ok (.isub, 1) := by decide +kernel
theorem dX7_worth_29 : decode cX7_worth 29 = .ok (.ireturn, 1) := by decide +kernel
theorem dX7_worth_30 : decode cX7_worth 30 = .ok (.iload_n 1, 1) := by decide +kernel
theorem dX7_worth_31 : decode cX7_worth 31 = .ok (.bipush 30, 2) := by decide +kernel
theorem dX7_worth_33 : decode cX7_worth 33 = .ok (.if_icmp .lt 13, 3) := by decide +kernel
theorem dX7_worth_36 : decode cX7_worth 36 = .ok (.ldc 230, 2) := by decide +kernel
theorem dX7_worth_38 : decode cX7_worth 38 = .ok (.aload_n 0, 1) := by decide +kernel
theorem dX7_worth_39 : decode cX7_worth 39 = .ok (.bipush (-6), 2) := by decide +kernel
theorem dX7_worth_41 : decode cX7_worth 41 = .ok (.invokevirtual 61, 3) := by decide +kernel
theorem dX7_worth_44 : decode cX7_worth 44 = .ok (.isub, 1) := by decide +kernel
theorem dX7_worth_45 : decode cX7_worth 45 = .ok (.ireturn, 1) := by decide +kernel
theorem dX7_worth_46 : decode cX7_worth 46 = .ok (.aload_n 0, 1) := by decide +kernel
theorem dX7_worth_47 : decode cX7_worth 47 = .ok (.getfield 26, 3) := by decide +kernel
theorem dX7_worth_50 : decode cX7_worth 50 = .ok (.getfield 155, 3) := by decide +kernel
theorem dX7_worth_53 : decode cX7_worth 53 = .ok (.ifCond .ne 13, 3) := by decide +kernel
theorem dX7_worth_56 : decode cX7_worth 56 = .ok (.ldc 230, 2) := by decide +kernel
theorem dX7_worth_58 : decode cX7_worth 58 = .ok (.aload_n 0, 1) := by decide +kernel
theorem dX7_worth_59 : decode cX7_worth 59 = .ok (.bipush (-3), 2) := by decide +kernel
theorem dX7_worth_61 : decode cX7_worth 61 = .ok (.invokevirtual 61, 3) := by decide +kernel
theorem dX7_worth_64 : decode cX7_worth 64 = .ok (.isub, 1) := by decide +kernel
theorem dX7_worth_65 : decode cX7_worth 65 = .ok (.ireturn, 1) := by decide +kernel
theorem dX7_worth_66 : decode cX7_worth 66 = .ok (.aload_n 0, 1) := by decide +kernel
theorem dX7_worth_67 : decode cX7_worth 67 = .ok (.getfield 30, 3) := by decide +kernel
theorem dX7_worth_70 : decode cX7_worth 70 = .ok (.aload_n 0, 1) := by decide +kernel
theorem dX7_worth_71 : decode cX7_worth 71 = .ok (.getfield 26, 3) := by decide +kernel
theorem dX7_worth_74 : decode cX7_worth 74 = .ok (.invokevirtual 226, 3) := by decide +kernel
theorem dX7_worth_77 : decode cX7_worth 77 = .ok (.aload_n 0, 1) := by decide +kernel
theorem dX7_worth_78 : decode cX7_worth 78 = .ok (.getfield 30, 3) := by decide +kernel
theorem dX7_worth_81 : decode cX7_worth 81 = .ok (.aload_n 0, 1) := by decide +kernel
theorem dX7_worth_82 : decode cX7_worth 82 = .ok (.getfield 26, 3) := by decide +kernel
theorem dX7_worth_85 : decode cX7_worth 85 = .ok (.getfield 179, 3) := by decide +kernel
theorem dX7_worth_88 : decode cX7_worth 88 = .ok (.iload_n 1, 1) := by decide +kernel
theorem dX7_worth_89 : decode cX7_worth 89 = .ok (.iadd, 1) := by decide +kernel
theorem dX7_worth_90 : decode cX7_worth 90 = .ok (.putfield 269, 3) := by decide +kernel
theorem dX7_worth_93 : decode cX7_worth 93 = .ok (.aload_n 0, 1) := by decide +kernel
theorem dX7_worth_94 : decode cX7_worth 94 = .ok (.getfield 30, 3) := by decide +kernel
theorem dX7_worth_97 : decode cX7_worth 97 = .ok (.iload_n 2, 1) := by decide +kernel
theorem dX7_worth_98 : decode cX7_worth 98 = .ok (.putfield 272, 3) := by decide +kernel
theorem dX7_worth_101 : decode cX7_worth 101 = .ok (.aload_n 0, 1) := by decide +kernel
theorem dX7_worth_102 : decode cX7_worth 102 = .ok (.getfield 30, 3) := by decide +kernel
theorem dX7_worth_105 : decode cX7_worth 105 = .ok (.aload_n 0, 1) := by decide +kernel
theorem dX7_worth_106 : decode cX7_worth 106 = .ok (.getfield 19, 3) := by decide +kernel
theorem dX7_worth_109 : decode cX7_worth 109 = .ok (.bipush 30, 2) := by decide +kernel
theorem dX7_worth_111 : decode cX7_worth 111 = .ok (.invokevirtual 194, 3) := by decide +kernel
theorem dX7_worth_114 : decode cX7_worth 114 = .ok (.aload_n 0, 1) := by decide +kernel
theorem dX7_worth_115 : decode cX7_worth 115 = .ok (.getfield 30, 3) := by decide +kernel
theorem dX7_worth_118 : decode cX7_worth 118 = .ok (.aload_n 0, 1) := by decide +kernel
theorem dX7_worth_119 : decode cX7_worth 119 = .ok (.getfield 19, 3) := by decide +kernel
theorem dX7_worth_122 : decode cX7_worth 122 = .ok (.invokevirtual 191, 3) := by decide +kernel
theorem dX7_worth_125 : decode cX7_worth 125 = .ok (.istore_n 3, 1) := by decide +kernel
theorem dX7_worth_126 : decode cX7_worth 126 = .ok (.aload_n 0, 1) := by decide +kernel
theorem dX7_worth_127 : decode cX7_worth 127 = .ok (.getfield 30, 3) := by decide +kernel
theorem dX7_worth_130 : decode cX7_worth 130 = .ok (.aload_n 0, 1) := by decide +kernel
theorem dX7_worth_131 : decode cX7_worth 131 = .ok (.getfield 26, 3) := by decide +kernel
theorem dX7_worth_134 : decode cX7_worth 134 = .ok (.invokevirtual 226, 3) := by decide +kernel
theorem dX7_worth_137 : decode cX7_worth 137 = .ok (.aload_n 0, 1) := by decide +kernel
theorem dX7_worth_138 : decode cX7_worth 138 = .ok (.getfield 30, 3) := by decide +kernel
theorem dX7_worth_141 : decode cX7_worth 141 = .ok (.aload_n 0, 1) := by decide +kernel
theorem dX7_worth_142 : decode cX7_worth 142 = .ok (.getfield 19, 3) := by decide +kernel
theorem dX7_worth_145 : decode cX7_worth 145 = .ok (.bipush 30, 2) := by decide +kernel
theorem dX7_worth_147 : decode cX7_worth 147 = .ok (.invokevirtual 194, 3) := by decide +kernel
theorem dX7_worth_150 : decode cX7_worth 150 = .ok (.iload_n 3, 1) := by decide +kernel
theorem dX7_worth_151 : decode cX7_worth 151 = .ok (.aload_n 0, 1) := by decide +kernel
theorem dX7_worth_152 : decode cX7_worth 152 = .ok (.getfield 30, 3) := by decide +kernel
theorem dX7_worth_155 : decode cX7_worth 155 = .ok (.aload_n 0, 1) := by decide +kernel
theorem dX7_worth_156 : decode cX7_worth 156 = .ok (.getfield 19, 3) := by decide +kernel
theorem dX7_worth_159 : decode cX7_worth 159 = .ok (.invokevirtual 191, 3) := by decide +kernel
theorem dX7_worth_162 : decode cX7_worth 162 = .ok (.isub, 1) := by decide +kernel
theorem dX7_worth_163 : decode cX7_worth 163 = .ok (.ireturn, 1) := by decide +kernel
theorem dX7_light_0 : decode cX7_light 0 = .ok (.bipush (-9), 2) := by decide +kernel
theorem dX7_light_2 : decode cX7_light 2 = .ok (.istore_n 1, 1) := by decide +kernel
theorem dX7_light_3 : decode cX7_light 3 = .ok (.iconst (-1), 1) := by decide +kernel
theorem dX7_light_4 : decode cX7_light 4 = .ok (.istore_n 2, 1) := by decide +kernel
theorem dX7_light_5 : decode cX7_light 5 = .ok (.iconst 0, 1) := by decide +kernel
theorem dX7_light_6 : decode cX7_light 6 = .ok (.istore_n 3, 1) := by decide +kernel
theorem dX7_light_7 : decode cX7_light 7 = .ok (.iload_n 3, 1) := by decide +kernel
theorem dX7_light_8 : decode cX7_light 8 = .ok (.aload_n 0, 1) := by decide +kernel
theorem dX7_light_9 : decode cX7_light 9 = .ok (.getfield 19, 3) := by decide +kernel
theorem dX7_light_12 : decode cX7_light 12 = .ok (.getfield 79, 3) := by decide +kernel
theorem dX7_light_15 : decode cX7_light 15 = .ok (.invokevirtual 92, 3) := by decide +kernel
theorem dX7_light_18 : decode cX7_light 18 = .ok (.if_icmp .ge 51, 3) := by decide +kernel
theorem dX7_light_21 : decode cX7_light 21 = .ok (.aload_n 0, 1) := by decide +kernel
theorem dX7_light_22 : decode cX7_light 22 = .ok (.getfield 19, 3) := by decide +kernel
theorem dX7_light_25 : decode cX7_light 25 = .ok (.getfield 79, 3) := by decide +kernel
theorem dX7_light_28 : decode cX7_light 28 = .ok (.iload_n 3, 1) := by decide +kernel
theorem dX7_light_29 : decode cX7_light 29 = .ok (.invokevirtual 99, 3) := by decide +kernel
theorem dX7_light_32 : decode cX7_light 32 = .ok (.ifCond .ne 17, 3) := by decide +kernel
theorem dX7_light_35 : decode cX7_light 35 = .ok (.aload_n 0, 1) := by decide +kernel
theorem dX7_light_36 : decode cX7_light 36 = .ok (.getfield 19, 3) := by decide +kernel
theorem dX7_light_39 : decode cX7_light 39 = .ok (.getfield 79, 3) := by decide +kernel
theorem dX7_light_42 : decode cX7_light 42 = .ok (.iload_n 3, 1) := by decide +kernel
theorem dX7_light_43 : decode cX7_light 43 = .ok (.invokevirtual 275, 3) := by decide +kernel
theorem dX7_light_46 : decode cX7_light 46 = .ok (.goto 4, 3) := by decide +kernel
theorem dX7_light_49 : decode cX7_light 49 = .ok (.iconst (-1), 1) := by decide +kernel
theorem dX7_light_50 : decode cX7_light 50 = .ok (.istore 4, 2) := by decide +kernel
theorem dX7_light_52 : decode cX7_light 52 = .ok (.iload 4, 2) := by decide +kernel
theorem dX7_light_54 : decode cX7_light 54 = .ok (.iload_n 2, 1) := by decide +kernel
theorem dX7_light_55 : decode cX7_light 55 = .ok (.if_icmp .le 8, 3) := by decide +kernel
theorem dX7_light_58 : decode cX7_light 58 = .ok (.iload 4, 2) := by decide +kernel
theorem dX7_light_60 : decode cX7_light 60 = .ok (.istore_n 2, 1) := by decide +kernel
theorem dX7_light_61 : decode cX7_light 61 = .ok (.iload_n 3, 1) := by decide +kernel
theorem dX7_light_62 : decode cX7_light 62 = .ok (.istore_n 1, 1) := by decide +kernel
theorem dX7_light_63 : decode cX7_light 63 = .ok (.iinc 3 1, 3) := by decide +kernel
theorem dX7_light_66 : decode cX7_light 66 = .ok (.goto (-59), 3) := by decide +kernel
theorem dX7_light_69 : decode cX7_light 69 = .ok (.iload_n 1, 1) := by decide +kernel
theorem dX7_light_70 : decode cX7_light 70 = .ok (.ireturn, 1) := by decide +kernel
theorem dX7_night_0 : decode cX7_night 0 = .ok (.iload_n 1, 1) := by decide +kernel
theorem dX7_night_1 : decode cX7_night 1 = .ok (.iconst 1, 1) := by decide +kernel
theorem dX7_night_2 : decode cX7_night 2 = .ok (.if_icmp .ge 10, 3) := by decide +kernel
theorem dX7_night_5 : decode cX7_night 5 = .ok (.aload_n 0, 1) := by decide +kernel
theorem dX7_night_6 : decode cX7_night 6 = .ok (.bipush (-4), 2) := by decide +kernel
theorem dX7_night_8 : decode cX7_night 8 = .ok (.invokevirtual 61, 3) := by decide +kernel
theorem dX7_night_11 : decode cX7_night 11 = .ok (.ireturn, 1) := by decide +kernel
theorem dX7_night_12 : decode cX7_night 12 = .ok (.iload_n 1, 1) := by decide +kernel
theorem dX7_night_13 : decode cX7_night 13 = .ok (.bipush 99, 2) := by decide +kernel
theorem dX7_night_15 : decode cX7_night 15 = .ok (.if_icmp .le 10, 3) := by decide +kernel
theorem dX7_night_18 : decode cX7_night 18 = .ok (.aload_n 0, 1) := by decide +kernel
theorem dX7_night_19 : decode cX7_night 19 = .ok (.bipush (-6), 2) := by decide +kernel
theorem dX7_night_21 : decode cX7_night 21 = .ok (.invokevirtual 61, 3) := by decide +kernel
theorem dX7_night_24 : decode cX7_night 24 = .ok (.ireturn, 1) := by decide +kernel
theorem dX7_night_25 : decode cX7_night 25 = .ok (.aload_n 0, 1) := by decide +kernel
theorem dX7_night_26 : decode cX7_night 26 = .ok (.getfield 26, 3) := by decide +kernel
theorem dX7_night_29 : decode cX7_night 29 = .ok (.getfield 155, 3) := by decide +kernel
theorem dX7_night_32 : decode cX7_night 32 = .ok (.ifCond .ne 10, 3) := by decide +kernel
theorem dX7_night_35 : decode cX7_night 35 = .ok (.aload_n 0, 1) := by decide +kernel
theorem dX7_night_36 : decode cX7_night 36 = .ok (.bipush (-3), 2) := by decide +kernel
theorem dX7_night_38 : decode cX7_night 38 = .ok (.invokevirtual 61, 3) := by decide +kernel
theorem dX7_night_41 : decode cX7_night 41 = .ok (.ireturn, 1) := by decide +kernel
theorem dX7_night_42 : decode cX7_night 42 = .ok (.aload_n 0, 1) := by decide +kernel
theorem dX7_night_43 : decode cX7_night 43 = .ok (.getfield 30, 3) := by decide +kernel
theorem dX7_night_46 : decode cX7_night 46 = .ok (.aload_n 0, 1) := by decide +kernel
theorem dX7_night_47 : decode cX7_night 47 = .ok (.getfield 26, 3) := by decide +kernel
theorem dX7_night_50 : decode cX7_night 50 = .ok (.invokevirtual 226, 3) := by decide +kernel
theorem dX7_night_53 : decode cX7_night 53 = .ok (.iload_n 2, 1) := by decide +kernel
theorem dX7_night_54 : decode cX7_night 54 = .ok (.istore_n 3, 1) := by decide +kernel
theorem dX7_night_55 : decode cX7_night 55 = .ok (.iconst 0, 1) := by decide +kernel
theorem dX7_night_56 : decode cX7_night 56 = .ok (.istore 4, 2) := by decide +kernel
theorem dX7_night_58 : decode cX7_night 58 = .ok (.iload 4, 2) := by decide +kernel
theorem dX7_night_60 : decode cX7_night 60 = .ok (.iload_n 1, 1) := by decide +kernel
theorem dX7_night_61 : decode cX7_night 61 = .ok (.if_icmp .ge 63, 3) := by decide +kernel
theorem dX7_night_64 : decode cX7_night 64 = .ok (.iload_n 3, 1) := by decide +kernel
theorem dX7_night_65 : decode cX7_night 65 = .ok (.invokestatic 278, 3) := by decide +kernel
theorem dX7_night_68 : decode cX7_night 68 = .ok (.istore_n 3, 1) := by decide +kernel
theorem dX7_night_69 : decode cX7_night 69 = .ok (.iload_n 3, 1) := by decide +kernel
theorem dX7_night_70 : decode cX7_night 70 = .ok (.bipush 10, 2) := by decide +kernel
theorem dX7_night_72 : decode cX7_night 72 = .ok (.invokestatic 281, 3) := by decide +kernel
theorem dX7_night_75 : decode cX7_night 75 = .ok (.ifCond .ne 32, 3) := by decide +kernel
theorem dX7_night_78 : decode cX7_night 78 = .ok (.iload_n 3, 1) := by decide +kernel
theorem dX7_night_79 : decode cX7_night 79 = .ok (.invokestatic 278, 3) := by decide +kernel
theorem dX7_night_82 : decode cX7_night 82 = .ok (.istore_n 3, 1) := by decide +kernel
theorem dX7_night_83 : decode cX7_night 83 = .ok (.aload_n 0, 1) := by decide +kernel
theorem dX7_night_84 : decode cX7_night 84 = .ok (.getfield 30, 3) := by decide +kernel
theorem dX7_night_87 : decode cX7_night 87 = .ok (.aload_n 0, 1) := by decide +kernel
theorem dX7_night_88 : decode cX7_night 88 = .ok (.getfield 30, 3) := by decide +kernel
theorem dX7_night_91 : decode cX7_night 91 = .ok (.getfield 284, 3) := by decide +kernel
theorem dX7_night_94 : decode cX7_night 94 = .ok (.iload_n 3, 1) := by decide +kernel
theorem dX7_night_95 : decode cX7_night 95 = .ok (.bipush 8, 2) := by decide +kernel
theorem dX7_night_97 : decode cX7_night 97 = .ok (.invokestatic 281, 3) := by decide +kernel
theorem dX7_night_100 : decode cX7_night 100 = .ok (.iadd, 1) := by decide +kernel
theorem dX7_night_101 : decode cX7_night 101 = .ok (.invokestatic 287, 3) := by decide +kernel
theorem dX7_night_104 : decode cX7_night 104 = .ok (.putfield 284, 3) := by decide +kernel
theorem dX7_night_107 : decode cX7_night 107 = .ok (.aload_n 0, 1) := by decide +kernel
theorem dX7_night_108 : decode cX7_night 108 = .ok (.getfield 30, 3) := by decide +kernel
theorem dX7_night_111 : decode cX7_night 111 = .ok (.aload_n 0, 1) := by decide +kernel
theorem dX7_night_112 : decode cX7_night 112 = .ok (.getfield 19, 3) := by decide +kernel
theorem dX7_night_115 : decode cX7_night 115 = .ok (.invokevirtual 290, 3) := by decide +kernel
theorem dX7_night_118 : decode cX7_night 118 = .ok (.iinc 4 1, 3) := by decide +kernel
theorem dX7_night_121 : decode cX7_night 121 = .ok (.goto (-63), 3) := by decide +kernel
theorem dX7_night_124 : decode cX7_night 124 = .ok (.aload_n 0, 1) := by decide +kernel
theorem dX7_night_125 : decode cX7_night 125 = .ok (.getfield 30, 3) := by decide +kernel
theorem dX7_night_128 : decode cX7_night 128 = .ok (.aload_n 0, 1) := by decide +kernel
theorem dX7_night_129 : decode cX7_night 129 = .ok (.getfield 19, 3) := by decide +kernel
theorem dX7_night_132 : decode cX7_night 132 = .ok (.invokevirtual 191, 3) := by decide +kernel
theorem dX7_night_135 : decode cX7_night 135 = .ok (.ireturn, 1) := by decide +kernel
theorem dX7_log_0 : decode cX7_log 0 = .ok (.iload_n 1, 1) := by decide +kernel
theorem dX7_log_1 : decode cX7_log 1 = .ok (.ifCond .ge 10, 3) := by decide +kernel
theorem dX7_log_4 : decode cX7_log 4 = .ok (.aload_n 0, 1) := by decide +kernel
theorem dX7_log_5 : decode cX7_log 5 = .ok (.bipush (-4), 2) := by decide +kernel
theorem dX7_log_7 : decode cX7_log 7 = .ok (.invokevirtual 61, 3) := by decide +kernel
theorem dX7_log_10 : decode cX7_log 10 = .ok (.ireturn, 1) := by decide +kernel
theorem dX7_log_11 : decode cX7_log 11 = .ok (.iload_n 1, 1) := by decide +kernel
theorem dX7_log_12 : decode cX7_log 12 = .ok (.bipush 99, 2) := by decide +kernel
theorem dX7_log_14 : decode cX7_log 14 = .ok (.if_icmp .gt 13, 3) := by decide +kernel
theorem dX7_log_17 : decode cX7_log 17 = .ok (.aload_n 0, 1) := by decide +kernel
theorem dX7_log_18 : decode cX7_log 18 = .ok (.getfield 49, 3) := by decide +kernel
theorem dX7_log_21 : decode cX7_log 21 = .ok (.invokevirtual 294, 3) := by decide +kernel
theorem dX7_log_24 : decode cX7_log 24 = .ok (.ifCond .eq 10, 3) := by decide +kernel
theorem dX7_log_27 : decode cX7_log 27 = .ok (.aload_n 0, 1) := by decide +kernel
theorem dX7_log_28 : decode cX7_log 28 = .ok (.bipush (-6), 2) := by decide +kernel
theorem dX7_log_30 : decode cX7_log 30 = .ok (.invokevirtual 61, 3) := by decide +kernel
theorem dX7_log_33 : decode cX7_log 33 = .ok (.ireturn, 1) := by decide +kernel
theorem dX7_log_34 : decode cX7_log 34 = .ok (.aload_n 0, 1) := by decide +kernel
theorem dX7_log_35 : decode cX7_log 35 = .ok (.getfield 49, 3) := by decide +kernel
theorem dX7_log_38 : decode cX7_log 38 = .ok (.iload_n 1, 1) := by decide +kernel
theorem dX7_log_39 : decode cX7_log 39 = .ok (.invokevirtual 295, 3) := by decide +kernel
theorem dX7_log_42 : decode cX7_log 42 = .ok (.ireturn, 1) := by decide +kernel
theorem dX7_judge_0 : decode cX7_judge 0 = .ok (.aload_n 0, 1) := by decide +kernel
theorem dX7_judge_1 : decode cX7_judge 1 = .ok (.getfield 26, 3) := by decide +kernel
theorem dX7_judge_4 : decode cX7_judge 4 = .ok (.getfield 155, 3) := by decide +kernel
theorem dX7_judge_7 : decode cX7_judge 7 = .ok (.ifCond .ne 10, 3) := by decide +kernel
theorem dX7_judge_10 : decode cX7_judge 10 = .ok (.aload_n 0, 1) := by decide +kernel
theorem dX7_judge_11 : decode cX7_judge 11 = .ok (.bipush (-3), 2) := by decide +kernel
theorem dX7_judge_13 : decode cX7_judge 13 = .ok (.invokevirtual 61, 3) := by decide +kernel
theorem dX7_judge_16 : decode cX7_judge 16 = .ok (.ireturn, 1) := by decide +kernel
theorem dX7_judge_17 : decode cX7_judge 17 = .ok (.aload_n 0, 1) := by decide +kernel
theorem dX7_judge_18 : decode cX7_judge 18 = .ok (.getfield 30, 3) := by decide +kernel
theorem dX7_judge_21 : decode cX7_judge 21 = .ok (.aload_n 0, 1) := by decide +kernel
theorem dX7_judge_22 : decode cX7_judge 22 = .ok (.getfield 26, 3) := by decide +kernel
theorem dX7_judge_25 : decode cX7_judge 25 = .ok (.invokevirtual 226, 3) := by decide +kernel
theorem dX7_judge_28 : decode cX7_judge 28 = .ok (.aload_n 0, 1) := by decide +kernel
theorem dX7_judge_29 : decode cX7_judge 29 = .ok (.getfield 49, 3) := by decide +kernel
theorem dX7_judge_32 : decode cX7_judge 32 = .ok (.aload_n 0, 1) := by decide +kernel
theorem dX7_judge_33 : decode cX7_judge 33 = .ok (.getfield 19, 3) := by decide +kernel
theorem dX7_judge_36 : decode cX7_judge 36 = .ok (.aload_n 0, 1) := by decide +kernel
theorem dX7_judge_37 : decode cX7_judge 37 = .ok (.getfield 30, 3) := by decide +kernel
theorem dX7_judge_40 : decode cX7_judge 40 = .ok (.invokevirtual 296, 3) := by decide +kernel
theorem dX7_judge_43 : decode cX7_judge 43 = .ok (.istore_n 1, 1) := by decide +kernel
theorem dX7_judge_44 : decode cX7_judge 44 = .ok (.aload_n 0, 1) := by decide +kernel
theorem dX7_judge_45 : decode cX7_judge 45 = .ok (.getfield 49, 3) := by decide +kernel
theorem dX7_judge_48 : decode cX7_judge 48 = .ok (.iconst 0, 1) := by decide +kernel
theorem dX7_judge_49 : decode cX7_judge 49 = .ok (.putfield 300, 3) := by decide +kernel
theorem dX7_judge_52 : decode cX7_judge 52 = .ok (.iload_n 1, 1) := by decide +kernel
theorem dX7_judge_53 : decode cX7_judge 53 = .ok (.ireturn, 1) := by decide +kernel
theorem dX7_image_0 : decode cX7_image 0 = .ok (.aload_n 0, 1) := by decide +kernel
theorem dX7_image_1 : decode cX7_image 1 = .ok (.getfield 33, 3) := by decide +kernel
theorem dX7_image_4 : decode cX7_image 4 = .ok (.aload_n 0, 1) := by decide +kernel
theorem dX7_image_5 : decode cX7_image 5 = .ok (.getfield 19, 3) := by decide +kernel
theorem dX7_image_8 : decode cX7_image 8 = .ok (.invokevirtual 301, 3) := by decide +kernel
theorem dX7_image_11 : decode cX7_image 11 = .ok (.aload_n 0, 1) := by decide +kernel
theorem dX7_image_12 : decode cX7_image 12 = .ok (.getfield 36, 3) := by decide +kernel
theorem dX7_image_15 : decode cX7_image 15 = .ok (.aload_n 0, 1) := by decide +kernel
theorem dX7_image_16 : decode cX7_image 16 = .ok (.getfield 26, 3) := by decide +kernel
theorem dX7_image_19 : decode cX7_image 19 = .ok (.invokevirtual 226, 3) := by decide +kernel
theorem dX7_image_22 : decode cX7_image 22 = .ok (.aload_n 0, 1) := by decide +kernel
theorem dX7_image_23 : decode cX7_image 23 = .ok (.iconst 1, 1) := by decide +kernel
theorem dX7_image_24 : decode cX7_image 24 = .ok (.putfield 57, 3) := by decide +kernel
theorem dX7_image_27 : decode cX7_image 27 = .ok (.aload_n 0, 1) := by decide +kernel
theorem dX7_image_28 : decode cX7_image 28 = .ok (.getfield 19, 3) := by decide +kernel
theorem dX7_image_31 : decode cX7_image 31 = .ok (.getfield 79, 3) := by decide +kernel
theorem dX7_image_34 : decode cX7_image 34 = .ok (.invokevirtual 92, 3) := by decide +kernel
theorem dX7_image_37 : decode cX7_image 37 = .ok (.ireturn, 1) := by decide +kernel
theorem dX7_on_0 : decode cX7_on 0 = .ok (.aload_n 0, 1) := by decide +kernel
theorem dX7_on_1 : decode cX7_on 1 = .ok (.getfield 57, 3) := by decide +kernel
theorem dX7_on_4 : decode cX7_on 4 = .ok (.ifCond .ne 10, 3) := by decide +kernel
theorem dX7_on_7 : decode cX7_on 7 = .ok (.aload_n 0, 1) := by decide +kernel
theorem dX7_on_8 : decode cX7_on 8 = .ok (.bipush (-3), 2) := by decide +kernel
theorem dX7_on_10 : decode cX7_on 10 = .ok (.invokevirtual 61, 3) := by decide +kernel
theorem dX7_on_13 : decode cX7_on 13 = .ok (.ireturn, 1) := by decide +kernel
theorem dX7_on_14 : decode cX7_on 14 = .ok (.aload_n 0, 1) := by decide +kernel
theorem dX7_on_15 : decode cX7_on 15 = .ok (.getfield 19, 3) := by decide +kernel
theorem dX7_on_18 : decode cX7_on 18 = .ok (.aload_n 0, 1) := by decide +kernel
theorem dX7_on_19 : decode cX7_on 19 = .ok (.getfield 33, 3) := by decide +kernel
theorem dX7_on_22 : decode cX7_on 22 = .ok (.invokevirtual 301, 3) := by decide +kernel
theorem dX7_on_25 : decode cX7_on 25 = .ok (.aload_n 0, 1) := by decide +kernel
theorem dX7_on_26 : decode cX7_on 26 = .ok (.getfield 26, 3) := by decide +kernel
theorem dX7_on_29 : decode cX7_on 29 = .ok (.aload_n 0, 1) := by decide +kernel
theorem dX7_on_30 : decode cX7_on 30 = .ok (.getfield 36, 3) := by decide +kernel
theorem dX7_on_33 : decode cX7_on 33 = .ok (.invokevirtual 226, 3) := by decide +kernel
theorem dX7_on_36 : decode cX7_on 36 = .ok (.aload_n 0, 1) := by decide +kernel
theorem dX7_on_37 : decode cX7_on 37 = .ok (.getfield 19, 3) := by decide +kernel
theorem dX7_on_40 : decode cX7_on 40 = .ok (.getfield 79, 3) := by decide +kernel
theorem dX7_on_43 : decode cX7_on 43 = .ok (.invokevirtual 92, 3) := by decide +kernel
theorem dX7_on_46 : decode cX7_on 46 = .ok (.ireturn, 1) := by decide +kernel
theorem dX7_count_0 : decode cX7_count 0 = .ok (.iload_n 1, 1) := by decide +kernel
theorem dX7_count_1 : decode cX7_count 1 = .ok (.tableswitch 119 0 6 #[43, 54, 65, 76, 87, 95, 103], 43) := by decide +kernel
theorem dX7_count_44 : decode cX7_count 44 = .ok (.aload_n 0, 1) := by decide +kernel
theorem dX7_count_45 : decode cX7_count 45 = .ok (.getfield 19, 3) := by decide +kernel
theorem dX7_count_48 : decode cX7_count 48 = .ok (.getfield 79, 3) := by decide +kernel
theorem dX7_count_51 : decode cX7_count 51 = .ok (.getfield 303, 3) := by decide +kernel
theorem dX7_count_54 : decode cX7_count 54 = .ok (.ireturn, 1) := by decide +kernel
theorem dX7_count_55 : decode cX7_count 55 = .ok (.aload_n 0, 1) := by decide +kernel
theorem dX7_count_56 : decode cX7_count 56 = .ok (.getfield 19, 3) := by decide +kernel
theorem dX7_count_59 : decode cX7_count 59 = .ok (.getfield 79, 3) := by decide +kernel
theorem dX7_count_62 : decode cX7_count 62 = .ok (.getfield 306, 3) := by decide +kernel
theorem dX7_count_65 : decode cX7_count 65 = .ok (.ireturn, 1) := by decide +kernel
theorem dX7_count_66 : decode cX7_count 66 = .ok (.aload_n 0, 1) := by decide +kernel
theorem dX7_count_67 : decode cX7_count 67 = .ok (.getfield 19, 3) := by decide +kernel
theorem dX7_count_70 : decode cX7_count 70 = .ok (.getfield 122, 3) := by decide +kernel
theorem dX7_count_73 : decode cX7_count 73 = .ok (.getfield 309, 3) := by decide +kernel
theorem dX7_count_76 : decode cX7_count 76 = .ok (.ireturn, 1) := by decide +kernel
theorem dX7_count_77 : decode cX7_count 77 = .ok (.aload_n 0, 1) := by decide +kernel
theorem dX7_count_78 : decode cX7_count 78 = .ok (.getfield 19, 3) := by decide +kernel
theorem dX7_count_81 : decode cX7_count 81 = .ok (.getfield 135, 3) := by decide +kernel
theorem dX7_count_84 : decode cX7_count 84 = .ok (.getfield 309, 3) := by decide +kernel
theorem dX7_count_87 : decode cX7_count 87 = .ok (.ireturn, 1) := by decide +kernel
theorem dX7_count_88 : decode cX7_count 88 = .ok (.aload_n 0, 1) := by decide +kernel
theorem dX7_count_89 : decode cX7_count 89 = .ok (.getfield 49, 3) := by decide +kernel
theorem dX7_count_92 : decode cX7_count 92 = .ok (.getfield 300, 3) := by decide +kernel
theorem dX7_count_95 : decode cX7_count 95 = .ok (.ireturn, 1) := by decide +kernel
theorem dX7_count_96 : decode cX7_count 96 = .ok (.aload_n 0, 1) := by decide +kernel
theorem dX7_count_97 : decode cX7_count 97 = .ok (.getfield 10, 3) := by decide +kernel
theorem dX7_count_100 : decode cX7_count 100 = .ok (.getfield 65, 3) := by decide +kernel
theorem dX7_count_103 : decode cX7_count 103 = .ok (.ireturn, 1) := by decide +kernel
theorem dX7_count_104 : decode cX7_count 104 = .ok (.aload_n 0, 1) := by decide +kernel
theorem dX7_count_105 : decode cX7_count 105 = .ok (.getfield 26, 3) := by decide +kernel
theorem dX7_count_108 : decode cX7_count 108 = .ok (.getfield 155, 3) := by decide +kernel
theorem dX7_count_111 : decode cX7_count 111 = .ok (.ifCond .eq 7, 3) := by decide +kernel
theorem dX7_count_114 : decode cX7_count 114 = .ok (.iconst 1, 1) := by decide +kernel
theorem dX7_count_115 : decode cX7_count 115 = .ok (.goto 4, 3) := by decide +kernel
theorem dX7_count_118 : decode cX7_count 118 = .ok (.iconst 0, 1) := by decide +kernel
theorem dX7_count_119 : decode cX7_count 119 = .ok (.ireturn, 1) := by decide +kernel
theorem dX7_count_120 : decode cX7_count 120 = .ok (.iload_n 1, 1) := by decide +kernel
theorem dX7_count_121 : decode cX7_count 121 = .ok (.bipush 10, 2) := by decide +kernel
theorem dX7_count_123 : decode cX7_count 123 = .ok (.if_icmp .le 21, 3) := by decide +kernel
theorem dX7_count_126 : decode cX7_count 126 = .ok (.iload_n 1, 1) := by decide +kernel
theorem dX7_count_127 : decode cX7_count 127 = .ok (.bipush 16, 2) := by decide +kernel
theorem dX7_count_129 : decode cX7_count 129 = .ok (.if_icmp .gt 15, 3) := by decide +kernel
theorem dX7_count_132 : decode cX7_count 132 = .ok (.aload_n 0, 1) := by decide +kernel
theorem dX7_count_133 : decode cX7_count 133 = .ok (.getfield 53, 3) := by decide +kernel
theorem dX7_count_136 : decode cX7_count 136 = .ok (.iload_n 1, 1) := by decide +kernel
theorem dX7_count_137 : decode cX7_count 137 = .ok (.bipush 10, 2) := by decide +kernel
theorem dX7_count_139 : decode cX7_count 139 = .ok (.isub, 1) := by decide +kernel
theorem dX7_count_140 : decode cX7_count 140 = .ok (.invokestatic 105, 3) := by decide +kernel
theorem dX7_count_143 : decode cX7_count 143 = .ok (.ireturn, 1) := by decide +kernel
theorem dX7_count_144 : decode cX7_count 144 = .ok (.bipush (-9), 2) := by decide +kernel
theorem dX7_count_146 : decode cX7_count 146 = .ok (.ireturn, 1) := by decide +kernel
theorem dX7_refuse_0 : decode cX7_refuse 0 = .ok (.iload_n 1, 1) := by decide +kernel
theorem dX7_refuse_1 : decode cX7_refuse 1 = .ok (.ineg, 1) := by decide +kernel
theorem dX7_refuse_2 : decode cX7_refuse 2 = .ok (.istore_n 2, 1) := by decide +kernel
theorem dX7_refuse_3 : decode cX7_refuse 3 = .ok (.iload_n 2, 1) := by decide +kernel
theorem dX7_refuse_4 : decode cX7_refuse 4 = .ok (.ifCond .lt 22, 3) := by decide +kernel
theorem dX7_refuse_7 : decode cX7_refuse 7 = .ok (.iload_n 2, 1) := by decide +kernel
theorem dX7_refuse_8 : decode cX7_refuse 8 = .ok (.aload_n 0, 1) := by decide +kernel
theorem dX7_refuse_9 : decode cX7_refuse 9 = .ok (.getfield 53, 3) := by decide +kernel
theorem dX7_refuse_12 : decode cX7_refuse 12 = .ok (.arraylength, 1) := by decide +kernel
theorem dX7_refuse_13 : decode cX7_refuse 13 = .ok (.if_icmp .ge 13, 3) := by decide +kernel
theorem dX7_refuse_16 : decode cX7_refuse 16 = .ok (.aload_n 0, 1) := by decide +kernel
theorem dX7_refuse_17 : decode cX7_refuse 17 = .ok (.getfield 53, 3) := by decide +kernel
theorem dX7_refuse_20 : decode cX7_refuse 20 = .ok (.iload_n 2, 1) := by decide +kernel
theorem dX7_refuse_21 : decode cX7_refuse 21 = .ok (.dup2, 1) := by decide +kernel
theorem dX7_refuse_22 : decode cX7_refuse 22 = .ok (.iaload, 1) := by decide +kernel
theorem dX7_refuse_23 : decode cX7_refuse 23 = .ok (.iconst 1, 1) := by decide +kernel
theorem dX7_refuse_24 : decode cX7_refuse 24 = .ok (.iadd, 1) := by decide +kernel
theorem dX7_refuse_25 : decode cX7_refuse 25 = .ok (.iastore, 1) := by decide +kernel
theorem dX7_refuse_26 : decode cX7_refuse 26 = .ok (.iload_n 1, 1) := by decide +kernel
theorem dX7_refuse_27 : decode cX7_refuse 27 = .ok (.ireturn, 1) := by decide +kernel
theorem dX7_bestRowOfActs_0 : decode cX7_bestRowOfActs 0 = .ok (.getstatic 310, 3) := by decide +kernel
theorem dX7_bestRowOfActs_3 : decode cX7_bestRowOfActs 3 = .ok (.iload_n 1, 1) := by decide +kernel
theorem dX7_bestRowOfActs_4 : decode cX7_bestRowOfActs 4 = .ok (.invokestatic 105, 3) := by decide +kernel
theorem dX7_bestRowOfActs_7 : decode cX7_bestRowOfActs 7 = .ok (.istore_n 2, 1) := by decide +kernel
theorem dX7_bestRowOfActs_8 : decode cX7_bestRowOfActs 8 = .ok (.aload_n 0, 1) := by decide +kernel
theorem dX7_bestRowOfActs_9 : decode cX7_bestRowOfActs 9 = .ok (.getfield 19, 3) := by decide +kernel
theorem dX7_bestRowOfActs_12 : decode cX7_bestRowOfActs 12 = .ok (.getfield 313, 3) := by decide +kernel
theorem dX7_bestRowOfActs_15 : decode cX7_bestRowOfActs 15 = .ok (.istore_n 3, 1) := by decide +kernel
theorem dX7_bestRowOfActs_16 : decode cX7_bestRowOfActs 16 = .ok (.iconst 0, 1) := by decide +kernel
theorem dX7_bestRowOfActs_17 : decode cX7_bestRowOfActs 17 = .ok (.istore 4, 2) := by decide +kernel
theorem dX7_bestRowOfActs_19 : decode cX7_bestRowOfActs 19 = .ok (.iconst (-1), 1) := by decide +kernel
theorem dX7_bestRowOfActs_20 : decode cX7_bestRowOfActs 20 = .ok (.istore 5, 2) := by decide +kernel
theorem dX7_bestRowOfActs_22 : decode cX7_bestRowOfActs 22 = .ok (.iconst 0, 1) := by decide +kernel
theorem dX7_bestRowOfActs_23 : decode cX7_bestRowOfActs 23 = .ok (.istore 6, 2) := by decide +kernel
theorem dX7_bestRowOfActs_25 : decode cX7_bestRowOfActs 25 = .ok (.iload 6, 2) := by decide +kernel
theorem dX7_bestRowOfActs_27 : decode cX7_bestRowOfActs 27 = .ok (.iload_n 2, 1) := by decide +kernel
theorem dX7_bestRowOfActs_28 : decode cX7_bestRowOfActs 28 = .ok (.if_icmp .ge 39, 3) := by decide +kernel
theorem dX7_bestRowOfActs_31 : decode cX7_bestRowOfActs 31 = .ok (.iload 5, 2) := by decide +kernel
theorem dX7_bestRowOfActs_33 : decode cX7_bestRowOfActs 33 = .ok (.iload_n 3, 1) := by decide +kernel
theorem dX7_bestRowOfActs_34 : decode cX7_bestRowOfActs 34 = .ok (.if_icmp .ge 33, 3) := by decide +kernel
theorem dX7_bestRowOfActs_37 : decode cX7_bestRowOfActs 37 = .ok (.aload_n 0, 1) := by decide +kernel
theorem dX7_bestRowOfActs_38 : decode cX7_bestRowOfActs 38 = .ok (.iload_n 1, 1) := by decide +kernel
theorem dX7_bestRowOfActs_39 : decode cX7_bestRowOfActs 39 = .ok (.iload 6, 2) := by decide +kernel
theorem dX7_bestRowOfActs_41 : decode cX7_bestRowOfActs 41 = .ok (.invokevirtual 262, 3) := by decide +kernel
theorem dX7_bestRowOfActs_44 : decode cX7_bestRowOfActs 44 = .ok (.istore 7, 2) := by decide +kernel
theorem dX7_bestRowOfActs_46 : decode cX7_bestRowOfActs 46 = .ok (.iload 7, 2) := by decide +kernel
theorem dX7_bestRowOfActs_48 : decode cX7_bestRowOfActs 48 = .ok (.iload 5, 2) := by decide +kernel
theorem dX7_bestRowOfActs_50 : decode cX7_bestRowOfActs 50 = .ok (.if_icmp .le 11, 3) := by decide +kernel
theorem dX7_bestRowOfActs_53 : decode cX7_bestRowOfActs 53 = .ok (.iload 7, 2) := by decide +kernel
theorem dX7_bestRowOfActs_55 : decode cX7_bestRowOfActs 55 = .ok (.istore 5, 2) := by decide +kernel
theorem dX7_bestRowOfActs_57 : decode cX7_bestRowOfActs 57 = .ok (.iload 6, 2) := by decide +kernel
theorem dX7_bestRowOfActs_59 : decode cX7_bestRowOfActs 59 = .ok (.istore 4, 2) := by decide +kernel
theorem dX7_bestRowOfActs_61 : decode cX7_bestRowOfActs 61 = .ok (.iinc 6 1, 3) := by decide +kernel
theorem dX7_bestRowOfActs_64 : decode cX7_bestRowOfActs 64 = .ok (.goto (-39), 3) := by decide +kernel
theorem dX7_bestRowOfActs_67 : decode cX7_bestRowOfActs 67 = .ok (.iload 4, 2) := by decide +kernel
theorem dX7_bestRowOfActs_69 : decode cX7_bestRowOfActs 69 = .ok (.ireturn, 1) := by decide +kernel
theorem dX7_livesByActs_0 : decode cX7_livesByActs 0 = .ok (.aload_n 0, 1) := by decide +kernel
theorem dX7_livesByActs_1 : decode cX7_livesByActs 1 = .ok (.getfield 30, 3) := by decide +kernel
theorem dX7_livesByActs_4 : decode cX7_livesByActs 4 = .ok (.aload_n 0, 1) := by decide +kernel
theorem dX7_livesByActs_5 : decode cX7_livesByActs 5 = .ok (.getfield 26, 3) := by decide +kernel
theorem dX7_livesByActs_8 : decode cX7_livesByActs 8 = .ok (.invokevirtual 226, 3) := by decide +kernel
theorem dX7_livesByActs_11 : decode cX7_livesByActs 11 = .ok (.iconst 0, 1) := by decide +kernel
theorem dX7_livesByActs_12 : decode cX7_livesByActs 12 = .ok (.istore_n 3, 1) := by decide +kernel
theorem dX7_livesByActs_13 : decode cX7_livesByActs 13 = .ok (.iload_n 3, 1) := by decide +kernel
theorem dX7_livesByActs_14 : decode cX7_livesByActs 14 = .ok (.bipush 20, 2) := by decide +kernel
theorem dX7_livesByActs_16 : decode cX7_livesByActs 16 = .ok (.if_icmp .ge 52, 3) := by decide +kernel
theorem dX7_livesByActs_19 : decode cX7_livesByActs 19 = .ok (.aload_n 0, 1) := by decide +kernel
theorem dX7_livesByActs_20 : decode cX7_livesByActs 20 = .ok (.getfield 30, 3) := by decide +kernel
theorem dX7_livesByActs_23 : decode cX7_livesByActs 23 = .ok (.invokevirtual 316, 3) := by decide +kernel
theorem dX7_livesByActs_26 : decode cX7_livesByActs 26 = .ok (.ifCond .ne 42, 3) := by decide +kernel
theorem dX7_livesByActs_29 : decode cX7_livesByActs 29 = .ok (.iload_n 3, 1) := by decide +kernel
theorem dX7_livesByActs_30 : decode cX7_livesByActs 30 = .ok (.iload_n 1, 1) := by decide +kernel
theorem dX7_livesByActs_31 : decode cX7_livesByActs 31 = .ok (.if_icmp .ge 20, 3) := by decide +kernel
theorem dX7_livesByActs_34 : decode cX7_livesByActs 34 = .ok (.aload_n 0, 1) := by decide +kernel
theorem dX7_livesByActs_35 : decode cX7_livesByActs 35 = .ok (.getfield 30, 3) := by decide +kernel
theorem dX7_livesByActs_38 : decode cX7_livesByActs 38 = .ok (.aload_n 0, 1) := by decide +kernel
theorem dX7_livesByActs_39 : decode cX7_livesByActs 39 = .ok (.getfield 19, 3) := by decide +kernel
theorem dX7_livesByActs_42 : decode cX7_livesByActs 42 = .ok (.iload_n 1, 1) := by decide +kernel
theorem dX7_livesByActs_43 : decode cX7_livesByActs 43 = .ok (.iload_n 2, 1) := by decide +kernel
theorem dX7_livesByActs_44 : decode cX7_livesByActs 44 = .ok (.iload_n 3, 1) := by decide +kernel
theorem dX7_livesByActs_45 : decode cX7_livesByActs 45 = .ok (.invokestatic 265, 3) := by decide +kernel
theorem dX7_livesByActs_48 : decode cX7_livesByActs 48 = .ok (.invokevirtual 319, 3) := by decide +kernel
theorem dX7_livesByActs_51 : decode cX7_livesByActs 51 = .ok (.aload_n 0, 1) := by decide +kernel
theorem dX7_livesByActs_52 : decode cX7_livesByActs 52 = .ok (.getfield 30, 3) := by decide +kernel
theorem dX7_livesByActs_55 : decode cX7_livesByActs 55 = .ok (.aload_n 0, 1) := by decide +kernel
theorem dX7_livesByActs_56 : decode cX7_livesByActs 56 = .ok (.getfield 19, 3) := by decide +kernel
theorem dX7_livesByActs_59 : decode cX7_livesByActs 59 = .ok (.invokevirtual 290, 3) := by decide +kernel
theorem dX7_livesByActs_62 : decode cX7_livesByActs 62 = .ok (.iinc 3 1, 3) := by decide +kernel
theorem dX7_livesByActs_65 : decode cX7_livesByActs 65 = .ok (.goto (-52), 3) := by decide +kernel
theorem dX7_livesByActs_68 : decode cX7_livesByActs 68 = .ok (.aload_n 0, 1) := by decide +kernel
theorem dX7_livesByActs_69 : decode cX7_livesByActs 69 = .ok (.getfield 30, 3) := by decide +kernel
theorem dX7_livesByActs_72 : decode cX7_livesByActs 72 = .ok (.aload_n 0, 1) := by decide +kernel
theorem dX7_livesByActs_73 : decode cX7_livesByActs 73 = .ok (.getfield 19, 3) := by decide +kernel
theorem dX7_livesByActs_76 : decode cX7_livesByActs 76 = .ok (.invokevirtual 191, 3) := by decide +kernel
theorem dX7_livesByActs_79 : decode cX7_livesByActs 79 = .ok (.ireturn, 1) := by decide +kernel
theorem dX7_actInRow_0 : decode cX7_actInRow 0 = .ok (.getstatic 310, 3) := by decide +kernel
theorem dX7_actInRow_3 : decode cX7_actInRow 3 = .ok (.iload_n 0, 1) := by decide +kernel
theorem dX7_actInRow_4 : decode cX7_actInRow 4 = .ok (.iconst 1, 1) := by decide +kernel
theorem dX7_actInRow_5 : decode cX7_actInRow 5 = .ok (.isub, 1) := by decide +kernel
theorem dX7_actInRow_6 : decode cX7_actInRow 6 = .ok (.iload_n 2, 1) := by decide +kernel
theorem dX7_actInRow_7 : decode cX7_actInRow 7 = .ok (.isub, 1) := by decide +kernel
theorem dX7_actInRow_8 : decode cX7_actInRow 8 = .ok (.invokestatic 105, 3) := by decide +kernel
theorem dX7_actInRow_11 : decode cX7_actInRow 11 = .ok (.istore_n 3, 1) := by decide +kernel
theorem dX7_actInRow_12 : decode cX7_actInRow 12 = .ok (.iload_n 3, 1) := by decide +kernel
theorem dX7_actInRow_13 : decode cX7_actInRow 13 = .ok (.ifCond .le 11, 3) := by decide +kernel
theorem dX7_actInRow_16 : decode cX7_actInRow 16 = .ok (.iload_n 1, 1) := by decide +kernel
theorem dX7_actInRow_17 : decode cX7_actInRow 17 = .ok (.iload_n 3, 1) := by decide +kernel
theorem dX7_actInRow_18 : decode cX7_actInRow 18 = .ok (.idiv, 1) := by decide +kernel
theorem dX7_actInRow_19 : decode cX7_actInRow 19 = .ok (.iconst 5, 1) := by decide +kernel
theorem dX7_actInRow_20 : decode cX7_actInRow 20 = .ok (.irem, 1) := by decide +kernel
theorem dX7_actInRow_21 : decode cX7_actInRow 21 = .ok (.goto 4, 3) := by decide +kernel
theorem dX7_actInRow_24 : decode cX7_actInRow 24 = .ok (.iconst 0, 1) := by decide +kernel
theorem dX7_actInRow_25 : decode cX7_actInRow 25 = .ok (.ireturn, 1) := by decide +kernel
theorem dX7_valueAt_0 : decode cX7_valueAt 0 = .ok (.iload_n 1, 1) := by decide +kernel
theorem dX7_valueAt_1 : decode cX7_valueAt 1 = .ok (.ifCond .lt 15, 3) := by decide +kernel
theorem dX7_valueAt_4 : decode cX7_valueAt 4 = .ok (.iload_n 1, 1) := by decide +kernel
theorem dX7_valueAt_5 : decode cX7_valueAt 5 = .ok (.aload_n 0, 1) := by decide +kernel
theorem dX7_valueAt_6 : decode cX7_valueAt 6 = .ok (.arraylength, 1) := by decide +kernel
theorem dX7_valueAt_7 : decode cX7_valueAt 7 = .ok (.if_icmp .ge 9, 3) := by decide +kernel
theorem dX7_valueAt_10 : decode cX7_valueAt 10 = .ok (.aload_n 0, 1) := by decide +kernel
theorem dX7_valueAt_11 : decode cX7_valueAt 11 = .ok (.iload_n 1, 1) := by decide +kernel
theorem dX7_valueAt_12 : decode cX7_valueAt 12 = .ok (.iaload, 1) := by decide +kernel
theorem dX7_valueAt_13 : decode cX7_valueAt 13 = .ok (.goto 4, 3) := by decide +kernel
theorem dX7_valueAt_16 : decode cX7_valueAt 16 = .ok (.iconst 0, 1) := by decide +kernel
theorem dX7_valueAt_17 : decode cX7_valueAt 17 = .ok (.ireturn, 1) := by decide +kernel
theorem dX7_copyRow_0 : decode cX7_copyRow 0 = .ok (.iconst 0, 1) := by decide +kernel
theorem dX7_copyRow_1 : decode cX7_copyRow 1 = .ok (.istore_n 2, 1) := by decide +kernel
theorem dX7_copyRow_2 : decode cX7_copyRow 2 = .ok (.iload_n 2, 1) := by decide +kernel
theorem dX7_copyRow_3 : decode cX7_copyRow 3 = .ok (.aload_n 0, 1) := by decide +kernel
theorem dX7_copyRow_4 : decode cX7_copyRow 4 = .ok (.arraylength, 1) := by decide +kernel
theorem dX7_copyRow_5 : decode cX7_copyRow 5 = .ok (.if_icmp .ge 21, 3) := by decide +kernel
theorem dX7_copyRow_8 : decode cX7_copyRow 8 = .ok (.iload_n 2, 1) := by decide +kernel
theorem dX7_copyRow_9 : decode cX7_copyRow 9 = .ok (.aload_n 1, 1) := by decide +kernel
theorem dX7_copyRow_10 : decode cX7_copyRow 10 = .ok (.arraylength, 1) := by decide +kernel
theorem dX7_copyRow_11 : decode cX7_copyRow 11 = .ok (.if_icmp .ge 15, 3) := by decide +kernel
theorem dX7_copyRow_14 : decode cX7_copyRow 14 = .ok (.aload_n 1, 1) := by decide +kernel
theorem dX7_copyRow_15 : decode cX7_copyRow 15 = .ok (.iload_n 2, 1) := by decide +kernel
theorem dX7_copyRow_16 : decode cX7_copyRow 16 = .ok (.aload_n 0, 1) := by decide +kernel
theorem dX7_copyRow_17 : decode cX7_copyRow 17 = .ok (.iload_n 2, 1) := by decide +kernel
theorem dX7_copyRow_18 : decode cX7_copyRow 18 = .ok (.iaload, 1) := by decide +kernel
theorem dX7_copyRow_19 : decode cX7_copyRow 19 = .ok (.iastore, 1) := by decide +kernel
theorem dX7_copyRow_20 : decode cX7_copyRow 20 = .ok (.iinc 2 1, 3) := by decide +kernel
theorem dX7_copyRow_23 : decode cX7_copyRow 23 = .ok (.goto (-21), 3) := by decide +kernel
theorem dX7_copyRow_26 : decode cX7_copyRow 26 = .ok (.return_, 1) := by decide +kernel
theorem dX7_isDirection_0 : decode cX7_isDirection 0 = .ok (.iload_n 0, 1) := by decide +kernel
theorem dX7_isDirection_1 : decode cX7_isDirection 1 = .ok (.ifCond .lt 13, 3) := by decide +kernel
theorem dX7_isDirection_4 : decode cX7_isDirection 4 = .ok (.iload_n 0, 1) := by decide +kernel
theorem dX7_isDirection_5 : decode cX7_isDirection 5 = .ok (.bipush 8, 2) := by decide +kernel
theorem dX7_isDirection_7 : decode cX7_isDirection 7 = .ok (.if_icmp .ge 7, 3) := by decide +kernel
theorem dX7_isDirection_10 : decode cX7_isDirection 10 = .ok (.iconst 1, 1) := by decide +kernel
theorem dX7_isDirection_11 : decode cX7_isDirection 11 = .ok (.goto 4, 3) := by decide +kernel
theorem dX7_isDirection_14 : decode cX7_isDirection 14 = .ok (.iconst 0, 1) := by decide +kernel
theorem dX7_isDirection_15 : decode cX7_isDirection 15 = .ok (.ireturn, 1) := by decide +kernel
theorem dX7_goneRound_0 : decode cX7_goneRound 0 = .ok (.iload_n 0, 1) := by decide +kernel
theorem dX7_goneRound_1 : decode cX7_goneRound 1 = .ok (.bipush 7, 2) := by decide +kernel
theorem dX7_goneRound_3 : decode cX7_goneRound 3 = .ok (.iand, 1) := by decide +kernel
theorem dX7_goneRound_4 : decode cX7_goneRound 4 = .ok (.ireturn, 1) := by decide +kernel
theorem dX7_leeOf_0 : decode cX7_leeOf 0 = .ok (.iload_n 0, 1) := by decide +kernel
theorem dX7_leeOf_1 : decode cX7_leeOf 1 = .ok (.iconst 4, 1) := by decide +kernel
theorem dX7_leeOf_2 : decode cX7_leeOf 2 = .ok (.iadd, 1) := by decide +kernel
theorem dX7_leeOf_3 : decode cX7_leeOf 3 = .ok (.invokestatic 287, 3) := by decide +kernel
theorem dX7_leeOf_6 : decode cX7_leeOf 6 = .ok (.ireturn, 1) := by decide +kernel
theorem dX7_apart_0 : decode cX7_apart 0 = .ok (.iload_n 0, 1) := by decide +kernel
theorem dX7_apart_1 : decode cX7_apart 1 = .ok (.iload_n 1, 1) := by decide +kernel
theorem dX7_apart_2 : decode cX7_apart 2 = .ok (.isub, 1) := by decide +kernel
theorem dX7_apart_3 : decode cX7_apart 3 = .ok (.invokestatic 287, 3) := by decide +kernel
theorem dX7_apart_6 : decode cX7_apart 6 = .ok (.istore_n 2, 1) := by decide +kernel
theorem dX7_apart_7 : decode cX7_apart 7 = .ok (.iload_n 2, 1) := by decide +kernel
theorem dX7_apart_8 : decode cX7_apart 8 = .ok (.bipush 8, 2) := by decide +kernel
theorem dX7_apart_10 : decode cX7_apart 10 = .ok (.iload_n 2, 1) := by decide +kernel
theorem dX7_apart_11 : decode cX7_apart 11 = .ok (.isub, 1) := by decide +kernel
theorem dX7_apart_12 : decode cX7_apart 12 = .ok (.invokestatic 322, 3) := by decide +kernel
theorem dX7_apart_15 : decode cX7_apart 15 = .ok (.ireturn, 1) := by decide +kernel
theorem dX7_isSea_0 : decode cX7_isSea 0 = .ok (.iload_n 0, 1) := by decide +kernel
theorem dX7_isSea_1 : decode cX7_isSea 1 = .ok (.ifCond .le 13, 3) := by decide +kernel
theorem dX7_isSea_4 : decode cX7_isSea 4 = .ok (.iload_n 0, 1) := by decide +kernel
theorem dX7_isSea_5 : decode cX7_isSea 5 = .ok (.bipush 20, 2) := by decide +kernel
theorem dX7_isSea_7 : decode cX7_isSea 7 = .ok (.if_icmp .gt 7, 3) := by decide +kernel
theorem dX7_isSea_10 : decode cX7_isSea 10 = .ok (.iconst 1, 1) := by decide +kernel
theorem dX7_isSea_11 : decode cX7_isSea 11 = .ok (.goto 4, 3) := by decide +kernel
theorem dX7_isSea_14 : decode cX7_isSea 14 = .ok (.iconst 0, 1) := by decide +kernel
theorem dX7_isSea_15 : decode cX7_isSea 15 = .ok (.ireturn, 1) := by decide +kernel
theorem dX7_holdOf_0 : decode cX7_holdOf 0 = .ok (.iconst 2, 1) := by decide +kernel
theorem dX7_holdOf_1 : decode cX7_holdOf 1 = .ok (.bipush 9, 2) := by decide +kernel
theorem dX7_holdOf_3 : decode cX7_holdOf 3 = .ok (.iload_n 0, 1) := by decide +kernel
theorem dX7_holdOf_4 : decode cX7_holdOf 4 = .ok (.iload_n 1, 1) := by decide +kernel
theorem dX7_holdOf_5 : decode cX7_holdOf 5 = .ok (.iadd, 1) := by decide +kernel
theorem dX7_holdOf_6 : decode cX7_holdOf 6 = .ok (.invokestatic 322, 3) := by decide +kernel
theorem dX7_holdOf_9 : decode cX7_holdOf 9 = .ok (.imul, 1) := by decide +kernel
theorem dX7_holdOf_10 : decode cX7_holdOf 10 = .ok (.iconst 3, 1) := by decide +kernel
theorem dX7_holdOf_11 : decode cX7_holdOf 11 = .ok (.iadd, 1) := by decide +kernel
theorem dX7_holdOf_12 : decode cX7_holdOf 12 = .ok (.ireturn, 1) := by decide +kernel
theorem dX7_loadOf_0 : decode cX7_loadOf 0 = .ok (.iconst 2, 1) := by decide +kernel
theorem dX7_loadOf_1 : decode cX7_loadOf 1 = .ok (.iload_n 0, 1) := by decide +kernel
theorem dX7_loadOf_2 : decode cX7_loadOf 2 = .ok (.imul, 1) := by decide +kernel
theorem dX7_loadOf_3 : decode cX7_loadOf 3 = .ok (.iload_n 1, 1) := by decide +kernel
theorem dX7_loadOf_4 : decode cX7_loadOf 4 = .ok (.iadd, 1) := by decide +kernel
theorem dX7_loadOf_5 : decode cX7_loadOf 5 = .ok (.ireturn, 1) := by decide +kernel
theorem dX7_seedAfter_0 : decode cX7_seedAfter 0 = .ok (.iload_n 0, 1) := by decide +kernel
theorem dX7_seedAfter_1 : decode cX7_seedAfter 1 = .ok (.ldc_w 327, 3) := by decide +kernel
theorem dX7_seedAfter_4 : decode cX7_seedAfter 4 = .ok (.imul, 1) := by decide +kernel
theorem dX7_seedAfter_5 : decode cX7_seedAfter 5 = .ok (.ldc_w 328, 3) := by decide +kernel
theorem dX7_seedAfter_8 : decode cX7_seedAfter 8 = .ok (.iadd, 1) := by decide +kernel
theorem dX7_seedAfter_9 : decode cX7_seedAfter 9 = .ok (.ireturn, 1) := by decide +kernel
theorem dX7_drawn_0 : decode cX7_drawn 0 = .ok (.iload_n 1, 1) := by decide +kernel
theorem dX7_drawn_1 : decode cX7_drawn 1 = .ok (.ifCond .le 17, 3) := by decide +kernel
theorem dX7_drawn_4 : decode cX7_drawn 4 = .ok (.iload_n 0, 1) := by decide +kernel
theorem dX7_drawn_5 : decode cX7_drawn 5 = .ok (.ldc_w 329, 3) := by decide +kernel
theorem dX7_drawn_8 : decode cX7_drawn 8 = .ok (.iand, 1) := by decide +kernel
theorem dX7_drawn_9 : decode cX7_drawn 9 = .ok (.sipush 256, 3) := by decide +kernel
theorem dX7_drawn_12 : decode cX7_drawn 12 = .ok (.idiv, 1) := by decide +kernel
theorem dX7_drawn_13 : decode cX7_drawn 13 = .ok (.iload_n 1, 1) := by decide +kernel
theorem dX7_drawn_14 : decode cX7_drawn 14 = .ok (.irem, 1) := by decide +kernel
theorem dX7_drawn_15 : decode cX7_drawn 15 = .ok (.goto 4, 3) := by decide +kernel
theorem dX7_drawn_18 : decode cX7_drawn 18 = .ok (.iconst 0, 1) := by decide +kernel
theorem dX7_drawn_19 : decode cX7_drawn 19 = .ok (.ireturn, 1) := by decide +kernel
theorem dX8_init_0 : decode cX8_init 0 = .ok (.aload_n 0, 1) := by decide +kernel
theorem dX8_init_1 : decode cX8_init 1 = .ok (.invokespecial 1, 3) := by decide +kernel
theorem dX8_init_4 : decode cX8_init 4 = .ok (.aload_n 0, 1) := by decide +kernel
theorem dX8_init_5 : decode cX8_init 5 = .ok (.bipush 64, 2) := by decide +kernel
theorem dX8_init_7 : decode cX8_init 7 = .ok (.newarray .int, 2) := by decide +kernel
theorem dX8_init_9 : decode cX8_init 9 = .ok (.putfield 7, 3) := by decide +kernel
theorem dX8_init_12 : decode cX8_init 12 = .ok (.aload_n 0, 1) := by decide +kernel
theorem dX8_init_13 : decode cX8_init 13 = .ok (.bipush 80, 2) := by decide +kernel
theorem dX8_init_15 : decode cX8_init 15 = .ok (.newarray .int, 2) := by decide +kernel
theorem dX8_init_17 : decode cX8_init 17 = .ok (.putfield 13, 3) := by decide +kernel
theorem dX8_init_20 : decode cX8_init 20 = .ok (.aload_n 0, 1) := by decide +kernel
theorem dX8_init_21 : decode cX8_init 21 = .ok (.bipush 7, 2) := by decide +kernel
theorem dX8_init_23 : decode cX8_init 23 = .ok (.newarray .int, 2) := by decide +kernel
theorem dX8_init_25 : decode cX8_init 25 = .ok (.putfield 16, 3) := by decide +kernel
theorem dX8_init_28 : decode cX8_init 28 = .ok (.aload_n 0, 1) := by decide +kernel
theorem dX8_init_29 : decode cX8_init 29 = .ok (.bipush 8, 2) := by decide +kernel
theorem dX8_init_31 : decode cX8_init 31 = .ok (.newarray .int, 2) := by decide +kernel
theorem dX8_init_33 : decode cX8_init 33 = .ok (.putfield 19, 3) := by decide +kernel
theorem dX8_init_36 : decode cX8_init 36 = .ok (.aload_n 0, 1) := by decide +kernel
theorem dX8_init_37 : decode cX8_init 37 = .ok (.bipush 8, 2) := by decide +kernel
theorem dX8_init_39 : decode cX8_init 39 = .ok (.newarray .int, 2) := by decide +kernel
theorem dX8_init_41 : decode cX8_init 41 = .ok (.putfield 22, 3) := by decide +kernel
theorem dX8_init_44 : decode cX8_init 44 = .ok (.aload_n 0, 1) := by decide +kernel
theorem dX8_init_45 : decode cX8_init 45 = .ok (.bipush 8, 2) := by decide +kernel
theorem dX8_init_47 : decode cX8_init 47 = .ok (.newarray .int, 2) := by decide +kernel
theorem dX8_init_49 : decode cX8_init 49 = .ok (.putfield 25, 3) := by decide +kernel
theorem dX8_init_52 : decode cX8_init 52 = .ok (.aload_n 0, 1) := by decide +kernel
theorem dX8_init_53 : decode cX8_init 53 = .ok (.bipush 8, 2) := by decide +kernel
theorem dX8_init_55 : decode cX8_init 55 = .ok (.newarray .int, 2) := by decide +kernel
theorem dX8_init_57 : decode cX8_init 57 = .ok (.putfield 28, 3) := by decide +kernel
theorem dX8_init_60 : decode cX8_init 60 = .ok (.aload_n 0, 1) := by decide +kernel
theorem dX8_init_61 : decode cX8_init 61 = .ok (.bipush 12, 2) := by decide +kernel
theorem dX8_init_63 : decode cX8_init 63 = .ok (.newarray .int, 2) := by decide +kernel
theorem dX8_init_65 : decode cX8_init 65 = .ok (.putfield 31, 3) := by decide +kernel
theorem dX8_init_68 : decode cX8_init 68 = .ok (.aload_n 0, 1) := by decide +kernel
theorem dX8_init_69 : decode cX8_init 69 = .ok (.bipush 7, 2) := by decide +kernel
theorem dX8_init_71 : decode cX8_init 71 = .ok (.newarray .int, 2) := by decide +kernel
theorem dX8_init_73 : decode cX8_init 73 = .ok (.putfield 34, 3) := by decide +kernel
theorem dX8_init_76 : decode cX8_init 76 = .ok (.aload_n 0, 1) := by decide +kernel
theorem dX8_init_77 : decode cX8_init 77 = .ok (.sipush 140, 3) := by decide +kernel
theorem dX8_init_80 : decode cX8_init 80 = .ok (.newarray .int, 2) := by decide +kernel
theorem dX8_init_82 : decode cX8_init 82 = .ok (.putfield 37, 3) := by decide +kernel
theorem dX8_init_85 : decode cX8_init 85 = .ok (.aload_n 0, 1) := by decide +kernel
theorem dX8_init_86 : decode cX8_init 86 = .ok (.bipush 20, 2) := by decide +kernel
theorem dX8_init_88 : decode cX8_init 88 = .ok (.newarray .int, 2) := by decide +kernel
theorem dX8_init_90 : decode cX8_init 90 = .ok (.putfield 40, 3) := by decide +kernel
theorem dX8_init_93 : decode cX8_init 93 = .ok (.aload_n 0, 1) := by decide +kernel
theorem dX8_init_94 : decode cX8_init 94 = .ok (.sipush 192, 3) := by decide +kernel
theorem dX8_init_97 : decode cX8_init 97 = .ok (.newarray .int, 2) := by decide +kernel
theorem dX8_init_99 : decode cX8_init 99 = .ok (.putfield 43, 3) := by decide +kernel
theorem dX8_init_102 : decode cX8_init 102 = .ok (.aload_n 0, 1) := by decide +kernel
theorem dX8_init_103 : decode cX8_init 103 = .ok (.sipush 192, 3) := by decide +kernel
theorem dX8_init_106 : decode cX8_init 106 = .ok (.newarray .int, 2) := by decide +kernel
theorem dX8_init_108 : decode cX8_init 108 = .ok (.putfield 46, 3) := by decide +kernel
theorem dX8_init_111 : decode cX8_init 111 = .ok (.aload_n 0, 1) := by decide +kernel
theorem dX8_init_112 : decode cX8_init 112 = .ok (.getfield 16, 3) := by decide +kernel
theorem dX8_init_115 : decode cX8_init 115 = .ok (.iconst 0, 1) := by decide +kernel
theorem dX8_init_116 : decode cX8_init 116 = .ok (.iconst 3, 1) := by decide +kernel
theorem dX8_init_117 : decode cX8_init 117 = .ok (.iastore, 1) := by decide +kernel
theorem dX8_init_118 : decode cX8_init 118 = .ok (.aload_n 0, 1) := by decide +kernel
theorem dX8_init_119 : decode cX8_init 119 = .ok (.getfield 16, 3) := by decide +kernel
theorem dX8_init_122 : decode cX8_init 122 = .ok (.iconst 1, 1) := by decide +kernel
theorem dX8_init_123 : decode cX8_init 123 = .ok (.iconst 3, 1) := by decide +kernel
theorem dX8_init_124 : decode cX8_init 124 = .ok (.iastore, 1) := by decide +kernel
theorem dX8_init_125 : decode cX8_init 125 = .ok (.aload_n 0, 1) := by decide +kernel
theorem dX8_init_126 : decode cX8_init 126 = .ok (.getfield 16, 3) := by decide +kernel
theorem dX8_init_129 : decode cX8_init 129 = .ok (.iconst 3, 1) := by decide +kernel
theorem dX8_init_130 : decode cX8_init 130 = .ok (.bipush 40, 2) := by decide +kernel
theorem dX8_init_132 : decode cX8_init 132 = .ok (.iastore, 1) := by decide +kernel
theorem dX8_init_133 : decode cX8_init 133 = .ok (.aload_n 0, 1) := by decide +kernel
theorem dX8_init_134 : decode cX8_init 134 = .ok (.getfield 16, 3) := by decide +kernel
theorem dX8_init_137 : decode cX8_init 137 = .ok (.iconst 4, 1) := by decide +kernel
theorem dX8_init_138 : decode cX8_init 138 = .ok (.iconst 2, 1) := by decide +kernel
theorem dX8_init_139 : decode cX8_init 139 = .ok (.iastore, 1) := by decide +kernel
theorem dX8_init_140 : decode cX8_init 140 = .ok (.aload_n 0, 1) := by decide +kernel
theorem dX8_init_141 : decode cX8_init 141 = .ok (.getfield 16, 3) := by decide +kernel
theorem dX8_init_144 : decode cX8_init 144 = .ok (.iconst 5, 1) := by decide +kernel
theorem dX8_init_145 : decode cX8_init 145 = .ok (.iconst 5, 1) := by decide +kernel
theorem dX8_init_146 : decode cX8_init 146 = .ok (.iastore, 1) := by decide +kernel
theorem dX8_init_147 : decode cX8_init 147 = .ok (.aload_n 0, 1) := by decide +kernel
theorem dX8_init_148 : decode cX8_init 148 = .ok (.getfield 16, 3) := by decide +kernel
theorem dX8_init_151 : decode cX8_init 151 = .ok (.bipush 6, 2) := by decide +kernel
theorem dX8_init_153 : decode cX8_init 153 = .ok (.bipush 30, 2) := by decide +kernel
theorem dX8_init_155 : decode cX8_init 155 = .ok (.iastore, 1) := by decide +kernel
theorem dX8_init_156 : decode cX8_init 156 = .ok (.aload_n 0, 1) := by decide +kernel
theorem dX8_init_157 : decode cX8_init 157 = .ok (.iconst (-1), 1) := by decide +kernel
theorem dX8_init_158 : decode cX8_init 158 = .ok (.putfield 49, 3) := by decide +kernel
theorem dX8_init_161 : decode cX8_init 161 = .ok (.return_, 1) := by decide +kernel
theorem dX8_no_0 : decode cX8_no 0 = .ok (.aload_n 0, 1) := by decide +kernel
theorem dX8_no_1 : decode cX8_no 1 = .ok (.getfield 34, 3) := by decide +kernel
theorem dX8_no_4 : decode cX8_no 4 = .ok (.iload_n 1, 1) := by decide +kernel
theorem dX8_no_5 : decode cX8_no 5 = .ok (.ineg, 1) := by decide +kernel
theorem dX8_no_6 : decode cX8_no 6 = .ok (.dup2, 1) := by decide +kernel
theorem dX8_no_7 : decode cX8_no 7 = .ok (.iaload, 1) := by decide +kernel
theorem dX8_no_8 : decode cX8_no 8 = .ok (.iconst 1, 1) := by decide +kernel
theorem dX8_no_9 : decode cX8_no 9 = .ok (.iadd, 1) := by decide +kernel
theorem dX8_no_10 : decode cX8_no 10 = .ok (.iastore, 1) := by decide +kernel
theorem dX8_no_11 : decode cX8_no 11 = .ok (.iload_n 1, 1) := by decide +kernel
theorem dX8_no_12 : decode cX8_no 12 = .ok (.ireturn, 1) := by decide +kernel
theorem dX8_isCell_0 : decode cX8_isCell 0 = .ok (.iload_n 1, 1) := by decide +kernel
theorem dX8_isCell_1 : decode cX8_isCell 1 = .ok (.ifCond .lt 20, 3) := by decide +kernel
theorem dX8_isCell_4 : decode cX8_isCell 4 = .ok (.iload_n 1, 1) := by decide +kernel
theorem dX8_isCell_5 : decode cX8_isCell 5 = .ok (.aload_n 0, 1) := by decide +kernel
theorem dX8_isCell_6 : decode cX8_isCell 6 = .ok (.getfield 53, 3) := by decide +kernel
theorem dX8_isCell_9 : decode cX8_isCell 9 = .ok (.aload_n 0, 1) := by decide +kernel
theorem dX8_isCell_10 : decode cX8_isCell 10 = .ok (.getfield 56, 3) := by decide +kernel
theorem dX8_isCell_13 : decode cX8_isCell 13 = .ok (.imul, 1) := by decide +kernel
theorem dX8_isCell_14 : decode cX8_isCell 14 = .ok (.if_icmp .ge 7, 3) := by decide +kernel
theorem dX8_isCell_17 : decode cX8_isCell 17 = .ok (.iconst 1, 1) := by decide +kernel
theorem dX8_isCell_18 : decode cX8_isCell 18 = .ok (.goto 4, 3) := by decide +kernel
theorem dX8_isCell_21 : decode cX8_isCell 21 = .ok (.iconst 0, 1) := by decide +kernel
theorem dX8_isCell_22 : decode cX8_isCell 22 = .ok (.ireturn, 1) := by decide +kernel
theorem dX8_isDirection_0 : decode cX8_isDirection 0 = .ok (.iload_n 0, 1) := by decide +kernel
theorem dX8_isDirection_1 : decode cX8_isDirection 1 = .ok (.ifCond .lt 13, 3) := by decide +kernel
theorem dX8_isDirection_4 : decode cX8_isDirection 4 = .ok (.iload_n 0, 1) := by decide +kernel
theorem dX8_isDirection_5 : decode cX8_isDirection 5 = .ok (.bipush 8, 2) := by decide +kernel
theorem dX8_isDirection_7 : decode cX8_isDirection 7 = .ok (.if_icmp .ge 7, 3) := by decide +kernel
theorem dX8_isDirection_10 : decode cX8_isDirection 10 = .ok (.iconst 1, 1) := by decide +kernel
theorem dX8_isDirection_11 : decode cX8_isDirection 11 = .ok (.goto 4, 3) := by decide +kernel
theorem dX8_isDirection_14 : decode cX8_isDirection 14 = .ok (.iconst 0, 1) := by decide +kernel
theorem dX8_isDirection_15 : decode cX8_isDirection 15 = .ok (.ireturn, 1) := by decide +kernel
theorem dX8_letter_0 : decode cX8_letter 0 = .ok (.iload_n 1, 1) := by decide +kernel
theorem dX8_letter_1 : decode cX8_letter 1 = .ok (.ifCond .ge 10, 3) := by decide +kernel
theorem dX8_letter_4 : decode cX8_letter 4 = .ok (.aload_n 0, 1) := by decide +kernel
theorem dX8_letter_5 : decode cX8_letter 5 = .ok (.bipush (-4), 2) := by decide +kernel
theorem dX8_letter_7 : decode cX8_letter 7 = .ok (.invokevirtual 59, 3) := by decide +kernel
theorem dX8_letter_10 : decode cX8_letter 10 = .ok (.ireturn, 1) := by decide +kernel
theorem dX8_letter_11 : decode cX8_letter 11 = .ok (.iload_n 1, 1) := by decide +kernel
theorem dX8_letter_12 : decode cX8_letter 12 = .ok (.sipush 255, 3) := by decide +kernel
theorem dX8_letter_15 : decode cX8_letter 15 = .ok (.if_icmp .gt 12, 3) := by decide +kernel
theorem dX8_letter_18 : decode cX8_letter 18 = .ok (.aload_n 0, 1) := by decide +kernel
theorem dX8_letter_19 : decode cX8_letter 19 = .ok (.getfield 63, 3) := by decide +kernel
theorem dX8_letter_22 : decode cX8_letter 22 = .ok (.bipush 80, 2) := by decide +kernel
theorem dX8_letter_24 : decode cX8_letter 24 = .ok (.if_icmp .ne 10, 3) := by decide +kernel
theorem dX8_letter_27 : decode cX8_letter 27 = .ok (.aload_n 0, 1) := by decide +kernel
theorem dX8_letter_28 : decode cX8_letter 28 = .ok (.bipush (-6), 2) := by decide +kernel
theorem dX8_letter_30 : decode cX8_letter 30 = .ok (.invokevirtual 59, 3) := by decide +kernel
theorem dX8_letter_33 : decode cX8_letter 33 = .ok (.ireturn, 1) := by decide +kernel
theorem dX8_letter_34 : decode cX8_letter 34 = .ok (.aload_n 0, 1) := by decide +kernel
theorem dX8_letter_35 : decode cX8_letter 35 = .ok (.getfield 13, 3) := by decide +kernel
theorem dX8_letter_38 : decode cX8_letter 38 = .ok (.aload_n 0, 1) := by decide +kernel
theorem dX8_letter_39 : decode cX8_letter 39 = .ok (.getfield 63, 3) := by decide +kernel
theorem dX8_letter_42 : decode cX8_letter 42 = .ok (.iload_n 1, 1) := by decide +kernel
theorem dX8_letter_43 : decode cX8_letter 43 = .ok (.iastore, 1) := by decide +kernel
theorem dX8_letter_44 : decode cX8_letter 44 = .ok (.aload_n 0, 1) := by decide +kernel
theorem dX8_letter_45 : decode cX8_letter 45 = .ok (.dup, 1) := by decide +kernel
theorem dX8_letter_46 : decode cX8_letter 46 = .ok (.getfield 63, 3) := by decide +kernel
theorem dX8_letter_49 : decode cX8_letter 49 = .ok (.iconst 1, 1) := by decide +kernel
theorem dX8_letter_50 : decode cX8_letter 50 = .ok (.iadd, 1) := by decide +kernel
theorem dX8_letter_51 : decode cX8_letter 51 = .ok (.dup_x1, 1) := by decide +kernel
theorem dX8_letter_52 : decode cX8_letter 52 = .ok (.putfield 63, 3) := by decide +kernel
theorem dX8_letter_55 : decode cX8_letter 55 = .ok (.ireturn, 1) := by decide +kernel
theorem dX8_ground_0 : decode cX8_ground 0 = .ok (.iload_n 0, 1) := by decide +kernel
theorem dX8_ground_1 : decode cX8_ground 1 = .ok (.bipush 35, 2) := by decide +kernel
theorem dX8_ground_3 : decode cX8_ground 3 = .ok (.if_icmp .ne 5, 3) := by decide +kernel
theorem dX8_ground_6 : decode cX8_ground 6 = .ok (.iconst 0, 1) := by decide +kernel
theorem dX8_ground_7 : decode cX8_ground 7 = .ok (.ireturn, 1) := by decide +kernel
theorem dX8_ground_8 : decode cX8_ground 8 = .ok (.iload_n 0, 1) := by decide +kernel
theorem dX8_ground_9 : decode cX8_ground 9 = .ok (.bipush 98, 2) := by decide +kernel
theorem dX8_ground_11 : decode cX8_ground 11 = .ok (.if_icmp .ne 6, 3) := by decide +kernel
theorem dX8_ground_14 : decode cX8_ground 14 = .ok (.bipush 30, 2) := by decide +kernel
theorem dX8_ground_16 : decode cX8_ground 16 = .ok (.ireturn, 1) := by decide +kernel
theorem dX8_ground_17 : decode cX8_ground 17 = .ok (.iload_n 0, 1) := by decide +kernel
theorem dX8_ground_18 : decode cX8_ground 18 = .ok (.bipush 46, 2) := by decide +kernel
theorem dX8_ground_20 : decode cX8_ground 20 = .ok (.if_icmp .ne 6, 3) := by decide +kernel
theorem dX8_ground_23 : decode cX8_ground 23 = .ok (.bipush 20, 2) := by decide +kernel
theorem dX8_ground_25 : decode cX8_ground 25 = .ok (.ireturn, 1) := by decide +kernel
theorem dX8_ground_26 : decode cX8_ground 26 = .ok (.iload_n 0, 1) := by decide +kernel
theorem dX8_ground_27 : decode cX8_ground 27 = .ok (.bipush 49, 2) := by decide +kernel
theorem dX8_ground_29 : decode cX8_ground 29 = .ok (.if_icmp .lt 16, 3) := by decide +kernel
theorem dX8_ground_32 : decode cX8_ground 32 = .ok (.iload_n 0, 1) := by decide +kernel
theorem dX8_ground_33 : decode cX8_ground 33 = .ok (.bipush 57, 2) := by decide +kernel
theorem dX8_ground_35 : decode cX8_ground 35 = .ok (.if_icmp .gt 10, 3) := by decide +kernel
theorem dX8_ground_38 : decode cX8_ground 38 = .ok (.iload_n 0, 1) := by decide +kernel
theorem dX8_ground_39 : decode cX8_ground 39 = .ok (.bipush 48, 2) := by decide +kernel
theorem dX8_ground_41 : decode cX8_ground 41 = .ok (.isub, 1) := by decide +kernel
theorem dX8_ground_42 : decode cX8_ground 42 = .ok (.goto 4, 3) := by decide +kernel
theorem dX8_ground_45 : decode cX8_ground 45 = .ok (.iconst (-1), 1) := by decide +kernel
theorem dX8_ground_46 : decode cX8_ground 46 = .ok (.ireturn, 1) := by decide +kernel
theorem dX8_fault_0 : decode cX8_fault 0 = .ok (.iconst 0, 1) := by decide +kernel
theorem dX8_fault_1 : decode cX8_fault 1 = .ok (.istore_n 1, 1) := by decide +kernel
theorem dX8_fault_2 : decode cX8_fault 2 = .ok (.iconst 0, 1) := by decide +kernel
theorem dX8_fault_3 : decode cX8_fault 3 = .ok (.istore_n 2, 1) := by decide +kernel
theorem dX8_fault_4 : decode cX8_fault 4 = .ok (.iconst 0, 1) := by decide +kernel
theorem dX8_fault_5 : decode cX8_fault 5 = .ok (.istore_n 3, 1) := by decide +kernel
theorem dX8_fault_6 : decode cX8_fault 6 = .ok (.iconst 0, 1) := by decide +kernel
theorem dX8_fault_7 : decode cX8_fault 7 = .ok (.istore 4, 2) := by decide +kernel
theorem dX8_fault_9 : decode cX8_fault 9 = .ok (.iload 4, 2) := by decide +kernel
theorem dX8_fault_11 : decode cX8_fault 11 = .ok (.aload_n 0, 1) := by decide +kernel
theorem dX8_fault_12 : decode cX8_fault 12 = .ok (.getfield 63, 3) := by decide +kernel
theorem dX8_fault_15 : decode cX8_fault 15 = .ok (.if_icmp .ge 88, 3) := by decide +kernel
theorem dX8_fault_18 : decode cX8_fault 18 = .ok (.aload_n 0, 1) := by decide +kernel
theorem dX8_fault_19 : decode cX8_fault 19 = .ok (.getfield 13, 3) := by decide +kernel
theorem dX8_fault_22 : decode cX8_fault 22 = .ok (.iload 4, 2) := by decide +kernel
theorem dX8_fault_24 : decode cX8_fault 24 = .ok (.iaload, 1) := by decide +kernel
theorem dX8_fault_25 : decode cX8_fault 25 = .ok (.bipush 47, 2) := by decide +kernel
theorem dX8_fault_27 : decode cX8_fault 27 = .ok (.if_icmp .ne 36, 3) := by decide +kernel
theorem dX8_fault_30 : decode cX8_fault 30 = .ok (.iload_n 2, 1) := by decide +kernel
theorem dX8_fault_31 : decode cX8_fault 31 = .ok (.bipush 7, 2) := by decide +kernel
theorem dX8_fault_33 : decode cX8_fault 33 = .ok (.if_icmp .eq 17, 3) := by decide +kernel
theorem dX8_fault_36 : decode cX8_fault 36 = .ok (.iload_n 3, 1) := by decide +kernel
theorem dX8_fault_37 : decode cX8_fault 37 = .ok (.iconst 2, 1) := by decide +kernel
theorem dX8_fault_38 : decode cX8_fault 38 = .ok (.if_icmp .lt 12, 3) := by decide +kernel
theorem dX8_fault_41 : decode cX8_fault 41 = .ok (.iload_n 2, 1) := by decide +kernel
theorem dX8_fault_42 : decode cX8_fault 42 = .ok (.ifCond .le 11, 3) := by decide +kernel
theorem dX8_fault_45 : decode cX8_fault 45 = .ok (.iload_n 3, 1) := by decide +kernel
theorem dX8_fault_46 : decode cX8_fault 46 = .ok (.iload_n 1, 1) := by decide +kernel
theorem dX8_fault_47 : decode cX8_fault 47 = .ok (.if_icmp .ge 6, 3) := by decide +kernel
theorem dX8_fault_50 : decode cX8_fault 50 = .ok (.iload 4, 2) := by decide +kernel
theorem dX8_fault_52 : decode cX8_fault 52 = .ok (.ireturn, 1) := by decide +kernel
theorem dX8_fault_53 : decode cX8_fault 53 = .ok (.iload_n 3, 1) := by decide +kernel
theorem dX8_fault_54 : decode cX8_fault 54 = .ok (.istore_n 1, 1) := by decide +kernel
theorem dX8_fault_55 : decode cX8_fault 55 = .ok (.iconst 0, 1) := by decide +kernel
theorem dX8_fault_56 : decode cX8_fault 56 = .ok (.istore_n 3, 1) := by decide +kernel
theorem dX8_fault_57 : decode cX8_fault 57 = .ok (.iinc 2 1, 3) := by decide +kernel
theorem dX8_fault_60 : decode cX8_fault 60 = .ok (.goto 37, 3) := by decide +kernel
theorem dX8_fault_63 : decode cX8_fault 63 = .ok (.aload_n 0, 1) := by decide +kernel
theorem dX8_fault_64 : decode cX8_fault 64 = .ok (.getfield 13, 3) := by decide +kernel
theorem dX8_fault_67 : decode cX8_fault 67 = .ok (.iload 4, 2) := by decide +kernel
theorem dX8_fault_69 : decode cX8_fault 69 = .ok (.iaload, 1) := by decide +kernel
theorem dX8_fault_70 : decode cX8_fault 70 = .ok (.invokestatic 66, 3) := by decide +kernel
theorem dX8_fault_73 : decode cX8_fault 73 = .ok (.ifCond .lt 18, 3) := by decide +kernel
theorem dX8_fault_76 : decode cX8_fault 76 = .ok (.iload_n 3, 1) := by decide +kernel
theorem dX8_fault_77 : decode cX8_fault 77 = .ok (.bipush 8, 2) := by decide +kernel
theorem dX8_fault_79 : decode cX8_fault 79 = .ok (.if_icmp .eq 12, 3) := by decide +kernel
theorem dX8_fault_82 : decode cX8_fault 82 = .ok (.iload_n 2, 1) := by decide +kernel
theorem dX8_fault_83 : decode cX8_fault 83 = .ok (.ifCond .le 11, 3) := by decide +kernel
theorem dX8_fault_86 : decode cX8_fault 86 = .ok (.iload_n 3, 1) := by decide +kernel
theorem dX8_fault_87 : decode cX8_fault 87 = .ok (.iload_n 1, 1) := by decide +kernel
theorem dX8_fault_88 : decode cX8_fault 88 = .ok (.if_icmp .ne 6, 3) := by decide +kernel
theorem dX8_fault_91 : decode cX8_fault 91 = .ok (.iload 4, 2) := by decide +kernel
theorem dX8_fault_93 : decode cX8_fault 93 = .ok (.ireturn, 1) := by decide +kernel
theorem dX8_fault_94 : decode cX8_fault 94 = .ok (.iinc 3 1, 3) := by decide +kernel
theorem dX8_fault_97 : decode cX8_fault 97 = .ok (.iinc 4 1, 3) := by decide +kernel
theorem dX8_fault_100 : decode cX8_fault 100 = .ok (.goto (-91), 3) := by decide +kernel
theorem dX8_fault_103 : decode cX8_fault 103 = .ok (.iload_n 2, 1) := by decide +kernel
theorem dX8_fault_104 : decode cX8_fault 104 = .ok (.ifCond .eq 8, 3) := by decide +kernel
theorem dX8_fault_107 : decode cX8_fault 107 = .ok (.iload_n 3, 1) := by decide +kernel
theorem dX8_fault_108 : decode cX8_fault 108 = .ok (.iload_n 1, 1) := by decide +kernel
theorem dX8_fault_109 : decode cX8_fault 109 = .ok (.if_icmp .ge 10, 3) := by decide +kernel
theorem dX8_fault_112 : decode cX8_fault 112 = .ok (.aload_n 0, 1) := by decide +kernel
theorem dX8_fault_113 : decode cX8_fault 113 = .ok (.getfield 63, 3) := by decide +kernel
theorem dX8_fault_116 : decode cX8_fault 116 = .ok (.goto 4, 3) := by decide +kernel
theorem dX8_fault_119 : decode cX8_fault 119 = .ok (.iconst (-1), 1) := by decide +kernel
theorem dX8_fault_120 : decode cX8_fault 120 = .ok (.ireturn, 1) := by decide +kernel
theorem dX8_bay_0 : decode cX8_bay 0 = .ok (.aload_n 0, 1) := by decide +kernel
theorem dX8_bay_1 : decode cX8_bay 1 = .ok (.invokevirtual 69, 3) := by decide +kernel
theorem dX8_bay_4 : decode cX8_bay 4 = .ok (.istore_n 1, 1) := by decide +kernel
theorem dX8_bay_5 : decode cX8_bay 5 = .ok (.aload_n 0, 1) := by decide +kernel
theorem dX8_bay_6 : decode cX8_bay 6 = .ok (.getfield 63, 3) := by decide +kernel
theorem dX8_bay_9 : decode cX8_bay 9 = .ok (.istore_n 2, 1) := by decide +kernel
theorem dX8_bay_10 : decode cX8_bay 10 = .ok (.aload_n 0, 1) := by decide +kernel
theorem dX8_bay_11 : decode cX8_bay 11 = .ok (.iconst 0, 1) := by decide +kernel
theorem dX8_bay_12 : decode cX8_bay 12 = .ok (.putfield 63, 3) := by decide +kernel
theorem dX8_bay_15 : decode cX8_bay 15 = .ok (.iload_n 1, 1) := by decide +kernel
theorem dX8_bay_16 : decode cX8_bay 16 = .ok (.ifCond .lt 9, 3) := by decide +kernel
theorem dX8_bay_19 : decode cX8_bay 19 = .ok (.sipush (-1000), 3) := by decide +kernel
theorem dX8_bay_22 : decode cX8_bay 22 = .ok (.iload_n 1, 1) := by decide +kernel
theorem dX8_bay_23 : decode cX8_bay 23 = .ok (.isub, 1) := by decide +kernel
theorem dX8_bay_24 : decode cX8_bay 24 = .ok (.ireturn, 1) := by decide +kernel
theorem dX8_bay_25 : decode cX8_bay 25 = .ok (.aload_n 0, 1) := by decide +kernel
theorem dX8_bay_26 : decode cX8_bay 26 = .ok (.iconst 1, 1) := by decide +kernel
theorem dX8_bay_27 : decode cX8_bay 27 = .ok (.putfield 53, 3) := by decide +kernel
theorem dX8_bay_30 : decode cX8_bay 30 = .ok (.iconst 0, 1) := by decide +kernel
theorem dX8_bay_31 : decode cX8_bay 31 = .ok (.istore_n 3, 1) := by decide +kernel
theorem dX8_bay_32 : decode cX8_bay 32 = .ok (.iconst 0, 1) := by decide +kernel
theorem dX8_bay_33 : decode cX8_bay 33 = .ok (.istore 4, 2) := by decide +kernel
theorem dX8_bay_35 : decode cX8_bay 35 = .ok (.iload 4, 2) := by decide +kernel
theorem dX8_bay_37 : decode cX8_bay 37 = .ok (.iload_n 2, 1) := by decide +kernel
theorem dX8_bay_38 : decode cX8_bay 38 = .ok (.if_icmp .ge 53, 3) := by decide +kernel
theorem dX8_bay_41 : decode cX8_bay 41 = .ok (.aload_n 0, 1) := by decide +kernel
theorem dX8_bay_42 : decode cX8_bay 42 = .ok (.getfield 13, 3) := by decide +kernel
theorem dX8_bay_45 : decode cX8_bay 45 = .ok (.iload 4, 2) := by decide +kernel
theorem dX8_bay_47 : decode cX8_bay 47 = .ok (.iaload, 1) := by decide +kernel
theorem dX8_bay_48 : decode cX8_bay 48 = .ok (.bipush 47, 2) := by decide +kernel
theorem dX8_bay_50 : decode cX8_bay 50 = .ok (.if_icmp .ne 16, 3) := by decide +kernel
theorem dX8_bay_53 : decode cX8_bay 53 = .ok (.aload_n 0, 1) := by decide +kernel
theorem dX8_bay_54 : decode cX8_bay 54 = .ok (.dup, 1) := by decide +kernel
theorem dX8_bay_55 : decode cX8_bay 55 = .ok (.getfield 53, 3) := by decide +kernel
theorem dX8_bay_58 : decode cX8_bay 58 = .ok (.iconst 1, 1) := by decide +kernel
theorem dX8_bay_59 : decode cX8_bay 59 = .ok (.iadd, 1) := by decide +kernel
theorem dX8_bay_60 : decode cX8_bay 60 = .ok (.putfield 53, 3) := by decide +kernel
theorem dX8_bay_63 : decode cX8_bay 63 = .ok (.goto 22, 3) := by decide +kernel
theorem dX8_bay_66 : decode cX8_bay 66 = .ok (.aload_n 0, 1) := by decide +kernel
theorem dX8_bay_67 : decode cX8_bay 67 = .ok (.getfield 7, 3) := by decide +kernel
theorem dX8_bay_70 : decode cX8_bay 70 = .ok (.iload_n 3, 1) := by decide +kernel
theorem dX8_bay_71 : decode cX8_bay 71 = .ok (.iinc 3 1, 3) := by decide +kernel
theorem dX8_bay_74 : decode cX8_bay 74 = .ok (.aload_n 0, 1) := by decide +kernel
theorem dX8_bay_75 : decode cX8_bay 75 = .ok (.getfield 13, 3) := by decide +kernel
theorem dX8_bay_78 : decode cX8_bay 78 = .ok (.iload 4, 2) := by decide +kernel
theorem dX8_bay_80 : decode cX8_bay 80 = .ok (.iaload, 1) := by decide +kernel
theorem dX8_bay_81 : decode cX8_bay 81 = .ok (.invokestatic 66, 3) := by decide +kernel
theorem dX8_bay_84 : decode cX8_bay 84 = .ok (.iastore, 1) := by decide +kernel
theorem dX8_bay_85 : decode cX8_bay 85 = .ok (.iinc 4 1, 3) := by decide +kernel
theorem dX8_bay_88 : decode cX8_bay 88 = .ok (.goto (-53), 3) := by decide +kernel
theorem dX8_bay_91 : decode cX8_bay 91 = .ok (.aload_n 0, 1) := by decide +kernel
theorem dX8_bay_92 : decode cX8_bay 92 = .ok (.iload_n 3, 1) := by decide +kernel
theorem dX8_bay_93 : decode cX8_bay 93 = .ok (.aload_n 0, 1) := by decide +kernel
theorem dX8_bay_94 : decode cX8_bay 94 = .ok (.getfield 53, 3) := by decide +kernel
theorem dX8_bay_97 : decode cX8_bay 97 = .ok (.idiv, 1) := by decide +kernel
theorem dX8_bay_98 : decode cX8_bay 98 = .ok (.putfield 56, 3) := by decide +kernel
theorem dX8_bay_101 : decode cX8_bay 101 = .ok (.aload_n 0, 1) := by decide +kernel
theorem dX8_bay_102 : decode cX8_bay 102 = .ok (.iconst 0, 1) := by decide +kernel
theorem dX8_bay_103 : decode cX8_bay 103 = .ok (.putfield 73, 3) := by decide +kernel
theorem dX8_bay_106 : decode cX8_bay 106 = .ok (.aload_n 0, 1) := by decide +kernel
theorem dX8_bay_107 : decode cX8_bay 107 = .ok (.iconst 0, 1) := by decide +kernel
theorem dX8_bay_108 : decode cX8_bay 108 = .ok (.putfield 77, 3) := by decide +kernel
theorem dX8_bay_111 : decode cX8_bay 111 = .ok (.iload_n 3, 1) := by decide +kernel
theorem dX8_bay_112 : decode cX8_bay 112 = .ok (.ireturn, 1) := by decide +kernel
theorem dX8_cell_0 : decode cX8_cell 0 = .ok (.aload_n 0, 1) := by decide +kernel
theorem dX8_cell_1 : decode cX8_cell 1 = .ok (.iload_n 1, 1) := by decide +kernel
theorem dX8_cell_2 : decode cX8_cell 2 = .ok (.invokevirtual 80, 3) := by decide +kernel
theorem dX8_cell_5 : decode cX8_cell 5 = .ok (.ifCond .eq 12, 3) := by decide +kernel
theorem dX8_cell_8 : decode cX8_cell 8 = .ok (.aload_n 0, 1) := by decide +kernel
theorem dX8_cell_9 : decode cX8_cell 9 = .ok (.getfield 7, 3) := by decide +kernel
theorem dX8_cell_12 : decode cX8_cell 12 = .ok (.iload_n 1, 1) := by decide +kernel
theorem dX8_cell_13 : decode cX8_cell 13 = .ok (.iaload, 1) := by decide +kernel
theorem dX8_cell_14 : decode cX8_cell 14 = .ok (.goto 8, 3) := by decide +kernel
theorem dX8_cell_17 : decode cX8_cell 17 = .ok (.aload_n 0, 1) := by decide +kernel
theorem dX8_cell_18 : decode cX8_cell 18 = .ok (.iconst (-1), 1) := by decide +kernel
theorem dX8_cell_19 : decode cX8_cell 19 = .ok (.invokevirtual 59, 3) := by decide +kernel
theorem dX8_cell_22 : decode cX8_cell 22 = .ok (.ireturn, 1) := by decide +kernel
theorem dX8_set_0 : decode cX8_set 0 = .ok (.iload_n 1, 1) := by decide +kernel
theorem dX8_set_1 : decode cX8_set 1 = .ok (.ifCond .lt 9, 3) := by decide +kernel
theorem dX8_set_4 : decode cX8_set 4 = .ok (.iload_n 1, 1) := by decide +kernel
theorem dX8_set_5 : decode cX8_set 5 = .ok (.bipush 6, 2) := by decide +kernel
theorem dX8_set_7 : decode cX8_set 7 = .ok (.if_icmp .le 10, 3) := by decide +kernel
theorem dX8_set_10 : decode cX8_set 10 = .ok (.aload_n 0, 1) := by decide +kernel
theorem dX8_set_11 : decode cX8_set 11 = .ok (.bipush (-2), 2) := by decide +kernel
theorem dX8_set_13 : decode cX8_set 13 = .ok (.invokevirtual 59, 3) := by decide +kernel
theorem dX8_set_16 : decode cX8_set 16 = .ok (.ireturn, 1) := by decide +kernel
theorem dX8_set_17 : decode cX8_set 17 = .ok (.iload_n 1, 1) := by decide +kernel
theorem dX8_set_18 : decode cX8_set 18 = .ok (.iconst 1, 1) := by decide +kernel
theorem dX8_set_19 : decode cX8_set 19 = .ok (.if_icmp .eq 8, 3) := by decide +kernel
theorem dX8_set_22 : decode cX8_set 22 = .ok (.iload_n 1, 1) := by decide +kernel
theorem dX8_set_23 : decode cX8_set 23 = .ok (.iconst 4, 1) := by decide +kernel
theorem dX8_set_24 : decode cX8_set 24 = .ok (.if_icmp .ne 7, 3) := by decide +kernel
theorem dX8_set_27 : decode cX8_set 27 = .ok (.iconst 1, 1) := by decide +kernel
theorem dX8_set_28 : decode cX8_set 28 = .ok (.goto 4, 3) := by decide +kernel
theorem dX8_set_31 : decode cX8_set 31 = .ok (.iconst 0, 1) := by decide +kernel
theorem dX8_set_32 : decode cX8_set 32 = .ok (.istore_n 3, 1) := by decide +kernel
theorem dX8_set_33 : decode cX8_set 33 = .ok (.iload_n 1, 1) := by decide +kernel
theorem dX8_set_34 : decode cX8_set 34 = .ok (.iconst 3, 1) := by decide +kernel
theorem dX8_set_35 : decode cX8_set 35 = .ok (.if_icmp .ne 8, 3) := by decide +kernel
theorem dX8_set_38 : decode cX8_set 38 = .ok (.bipush 60, 2) := by decide +kernel
theorem dX8_set_40 : decode cX8_set 40 = .ok (.goto 25, 3) := by decide +kernel
theorem dX8_set_43 : decode cX8_set 43 = .ok (.iload_n 1, 1) := by decide +kernel
theorem dX8_set_44 : decode cX8_set 44 = .ok (.iconst 4, 1) := by decide +kernel
theorem dX8_set_45 : decode cX8_set 45 = .ok (.if_icmp .ne 7, 3) := by decide +kernel
theorem dX8_set_48 : decode cX8_set 48 = .ok (.iconst 3, 1) := by decide +kernel
theorem dX8_set_49 : decode cX8_set 49 = .ok (.goto 16, 3) := by decide +kernel
theorem dX8_set_52 : decode cX8_set 52 = .ok (.iload_n 1, 1) := by decide +kernel
theorem dX8_set_53 : decode cX8_set 53 = .ok (.bipush 6, 2) := by decide +kernel
theorem dX8_set_55 : decode cX8_set 55 = .ok (.if_icmp .ne 8, 3) := by decide +kernel
theorem dX8_set_58 : decode cX8_set 58 = .ok (.bipush 99, 2) := by decide +kernel
theorem dX8_set_60 : decode cX8_set 60 = .ok (.goto 5, 3) := by decide +kernel
theorem dX8_set_63 : decode cX8_set 63 = .ok (.bipush 9, 2) := by decide +kernel
theorem dX8_set_65 : decode cX8_set 65 = .ok (.istore 4, 2) := by decide +kernel
theorem dX8_set_67 : decode cX8_set 67 = .ok (.iload_n 2, 1) := by decide +kernel
theorem dX8_set_68 : decode cX8_set 68 = .ok (.iload_n 3, 1) := by decide +kernel
theorem dX8_set_69 : decode cX8_set 69 = .ok (.if_icmp .ge 10, 3) := by decide +kernel
theorem dX8_set_72 : decode cX8_set 72 = .ok (.aload_n 0, 1) := by decide +kernel
theorem dX8_set_73 : decode cX8_set 73 = .ok (.bipush (-4), 2) := by decide +kernel
theorem dX8_set_75 : decode cX8_set 75 = .ok (.invokevirtual 59, 3) := by decide +kernel
theorem dX8_set_78 : decode cX8_set 78 = .ok (.ireturn, 1) := by decide +kernel
theorem dX8_set_79 : decode cX8_set 79 = .ok (.iload_n 2, 1) := by decide +kernel
theorem dX8_set_80 : decode cX8_set 80 = .ok (.iload 4, 2) := by decide +kernel
theorem dX8_set_82 : decode cX8_set 82 = .ok (.if_icmp .le 10, 3) := by decide +kernel
theorem dX8_set_85 : decode cX8_set 85 = .ok (.aload_n 0, 1) := by decide +kernel
theorem dX8_set_86 : decode cX8_set 86 = .ok (.bipush (-6), 2) := by decide +kernel
theorem dX8_set_88 : decode cX8_set 88 = .ok (.invokevirtual 59, 3) := by decide +kernel
theorem dX8_set_91 : decode cX8_set 91 = .ok (.ireturn, 1) := by decide +kernel
theorem dX8_set_92 : decode cX8_set 92 = .ok (.aload_n 0, 1) := by decide +kernel
theorem dX8_set_93 : decode cX8_set 93 = .ok (.getfield 16, 3) := by decide +kernel
theorem dX8_set_96 : decode cX8_set 96 = .ok (.iload_n 1, 1) := by decide +kernel
theorem dX8_set_97 : decode cX8_set 97 = .ok (.iaload, 1) := by decide +kernel
theorem dX8_set_98 : decode cX8_set 98 = .ok (.istore 5, 2) := by decide +kernel
theorem dX8_set_100 : decode cX8_set 100 = .ok (.aload_n 0, 1) := by decide +kernel
theorem dX8_set_101 : decode cX8_set 101 = .ok (.getfield 16, 3) := by decide +kernel
theorem dX8_set_104 : decode cX8_set 104 = .ok (.iload_n 1, 1) := by decide +kernel
theorem dX8_set_105 : decode cX8_set 105 = .ok (.iload_n 2, 1) := by decide +kernel
theorem dX8_set_106 : decode cX8_set 106 = .ok (.iastore, 1) := by decide +kernel
theorem dX8_set_107 : decode cX8_set 107 = .ok (.iload 5, 2) := by decide +kernel
theorem dX8_set_109 : decode cX8_set 109 = .ok (.ireturn, 1) := by decide +kernel
theorem dX8_wind_0 : decode cX8_wind 0 = .ok (.iload_n 2, 1) := by decide +kernel
theorem dX8_wind_1 : decode cX8_wind 1 = .ok (.invokestatic 84, 3) := by decide +kernel
theorem dX8_wind_4 : decode cX8_wind 4 = .ok (.ifCond .ne 9, 3) := by decide +kernel
theorem dX8_wind_7 : decode cX8_wind 7 = .ok (.aload_n 0, 1) := by decide +kernel
theorem dX8_wind_8 : decode cX8_wind 8 = .ok (.iconst (-1), 1) := by decide +kernel
theorem dX8_wind_9 : decode cX8_wind 9 = .ok (.invokevirtual 59, 3) := by decide +kernel
theorem dX8_wind_12 : decode cX8_wind 12 = .ok (.ireturn, 1) := by decide +kernel
theorem dX8_wind_13 : decode cX8_wind 13 = .ok (.iload_n 1, 1) := by decide +kernel
theorem dX8_wind_14 : decode cX8_wind 14 = .ok (.ifCond .ge 10, 3) := by decide +kernel
theorem dX8_wind_17 : decode cX8_wind 17 = .ok (.aload_n 0, 1) := by decide +kernel
theorem dX8_wind_18 : decode cX8_wind 18 = .ok (.bipush (-4), 2) := by decide +kernel
theorem dX8_wind_20 : decode cX8_wind 20 = .ok (.invokevirtual 59, 3) := by decide +kernel
theorem dX8_wind_23 : decode cX8_wind 23 = .ok (.ireturn, 1) := by decide +kernel
theorem dX8_wind_24 : decode cX8_wind 24 = .ok (.iload_n 1, 1) := by decide +kernel
theorem dX8_wind_25 : decode cX8_wind 25 = .ok (.sipush 999, 3) := by decide +kernel
theorem dX8_wind_28 : decode cX8_wind 28 = .ok (.if_icmp .gt 12, 3) := by decide +kernel
theorem dX8_wind_31 : decode cX8_wind 31 = .ok (.aload_n 0, 1) := by decide +kernel
theorem dX8_wind_32 : decode cX8_wind 32 = .ok (.getfield 87, 3) := by decide +kernel
theorem dX8_wind_35 : decode cX8_wind 35 = .ok (.bipush 8, 2) := by decide +kernel
theorem dX8_wind_37 : decode cX8_wind 37 = .ok (.if_icmp .ne 10, 3) := by decide +kernel
theorem dX8_wind_40 : decode cX8_wind 40 = .ok (.aload_n 0, 1) := by decide +kernel
theorem dX8_wind_41 : decode cX8_wind 41 = .ok (.bipush (-6), 2) := by decide +kernel
theorem dX8_wind_43 : decode cX8_wind 43 = .ok (.invokevirtual 59, 3) := by decide +kernel
theorem dX8_wind_46 : decode cX8_wind 46 = .ok (.ireturn, 1) := by decide +kernel
theorem dX8_wind_47 : decode cX8_wind 47 = .ok (.aload_n 0, 1) := by decide +kernel
theorem dX8_wind_48 : decode cX8_wind 48 = .ok (.getfield 19, 3) := by decide +kernel
theorem dX8_wind_51 : decode cX8_wind 51 = .ok (.aload_n 0, 1) := by decide +kernel
theorem dX8_wind_52 : decode cX8_wind 52 = .ok (.getfield 87, 3) := by decide +kernel
theorem dX8_wind_55 : decode cX8_wind 55 = .ok (.iload_n 1, 1) := by decide +kernel
theorem dX8_wind_56 : decode cX8_wind 56 = .ok (.iastore, 1) := by decide +kernel
theorem dX8_wind_57 : decode cX8_wind 57 = .ok (.aload_n 0, 1) := by decide +kernel
theorem dX8_wind_58 : decode cX8_wind 58 = .ok (.getfield 22, 3) := by decide +kernel
theorem dX8_wind_61 : decode cX8_wind 61 = .ok (.aload_n 0, 1) := by decide +kernel
theorem dX8_wind_62 : decode cX8_wind 62 = .ok (.getfield 87, 3) := by decide +kernel
theorem dX8_wind_65 : decode cX8_wind 65 = .ok (.iload_n 2, 1) := by decide +kernel
theorem dX8_wind_66 : decode cX8_wind 66 = .ok (.iastore, 1) := by decide +kernel
theorem dX8_wind_67 : decode cX8_wind 67 = .ok (.aload_n 0, 1) := by decide +kernel
theorem dX8_wind_68 : decode cX8_wind 68 = .ok (.dup, 1) := by decide +kernel
theorem dX8_wind_69 : decode cX8_wind 69 = .ok (.getfield 87, 3) := by decide +kernel
theorem dX8_wind_72 : decode cX8_wind 72 = .ok (.iconst 1, 1) := by decide +kernel
theorem dX8_wind_73 : decode cX8_wind 73 = .ok (.iadd, 1) := by decide +kernel
theorem dX8_wind_74 : decode cX8_wind 74 = .ok (.dup_x1, 1) := by decide +kernel
theorem dX8_wind_75 : decode cX8_wind 75 = .ok (.putfield 87, 3) := by decide +kernel
theorem dX8_wind_78 : decode cX8_wind 78 = .ok (.ireturn, 1) := by decide +kernel
theorem dX8_tide_0 : decode cX8_tide 0 = .ok (.iload_n 1, 1) := by decide +kernel
theorem dX8_tide_1 : decode cX8_tide 1 = .ok (.ifCond .lt 7, 3) := by decide +kernel
theorem dX8_tide_4 : decode cX8_tide 4 = .ok (.iload_n 2, 1) := by decide +kernel
theorem dX8_tide_5 : decode cX8_tide 5 = .ok (.ifCond .ge 10, 3) := by decide +kernel
theorem dX8_tide_8 : decode cX8_tide 8 = .ok (.aload_n 0, 1) := by decide +kernel
theorem dX8_tide_9 : decode cX8_tide 9 = .ok (.bipush (-4), 2) := by decide +kernel
theorem dX8_tide_11 : decode cX8_tide 11 = .ok (.invokevirtual 59, 3) := by decide +kernel
theorem dX8_tide_14 : decode cX8_tide 14 = .ok (.ireturn, 1) := by decide +kernel
theorem dX8_tide_15 : decode cX8_tide 15 = .ok (.iload_n 1, 1) := by decide +kernel
theorem dX8_tide_16 : decode cX8_tide 16 = .ok (.sipush 999, 3) := by decide +kernel
theorem dX8_tide_19 : decode cX8_tide 19 = .ok (.if_icmp .gt 17, 3) := by decide +kernel
theorem dX8_tide_22 : decode cX8_tide 22 = .ok (.iload_n 2, 1) := by decide +kernel
theorem dX8_tide_23 : decode cX8_tide 23 = .ok (.iconst 5, 1) := by decide +kernel
theorem dX8_tide_24 : decode cX8_tide 24 = .ok (.if_icmp .gt 12, 3) := by decide +kernel
theorem dX8_tide_27 : decode cX8_tide 27 = .ok (.aload_n 0, 1) := by decide +kernel
theorem dX8_tide_28 : decode cX8_tide 28 = .ok (.getfield 90, 3) := by decide +kernel
theorem dX8_tide_31 : decode cX8_tide 31 = .ok (.bipush 8, 2) := by decide +kernel
theorem dX8_tide_33 : decode cX8_tide 33 = .ok (.if_icmp .ne 10, 3) := by decide +kernel
theorem dX8_tide_36 : decode cX8_tide 36 = .ok (.aload_n 0, 1) := by decide +kernel
theorem dX8_tide_37 : decode cX8_tide 37 = .ok (.bipush (-6), 2) := by decide +kernel
theorem dX8_tide_39 : decode cX8_tide 39 = .ok (.invokevirtual 59, 3) := by decide +kernel
theorem dX8_tide_42 : decode cX8_tide 42 = .ok (.ireturn, 1) := by decide +kernel
theorem dX8_tide_43 : decode cX8_tide 43 = .ok (.aload_n 0, 1) := by decide +kernel
theorem dX8_tide_44 : decode cX8_tide 44 = .ok (.getfield 25, 3) := by decide +kernel
theorem dX8_tide_47 : decode cX8_tide 47 = .ok (.aload_n 0, 1) := by decide +kernel
theorem dX8_tide_48 : decode cX8_tide 48 = .ok (.getfield 90, 3) := by decide +kernel
theorem dX8_tide_51 : decode cX8_tide 51 = .ok (.iload_n 1, 1) := by decide +kernel
theorem dX8_tide_52 : decode cX8_tide 52 = .ok (.iastore, 1) := by decide +kernel
theorem dX8_tide_53 : decode cX8_tide 53 = .ok (.aload_n 0, 1) := by decide +kernel
theorem dX8_tide_54 : decode cX8_tide 54 = .ok (.getfield 28, 3) := by decide +kernel
theorem dX8_tide_57 : decode cX8_tide 57 = .ok (.aload_n 0, 1) := by decide +kernel
theorem dX8_tide_58 : decode cX8_tide 58 = .ok (.getfield 90, 3) := by decide +kernel
theorem dX8_tide_61 : decode cX8_tide 61 = .ok (.iload_n 2, 1) := by decide +kernel
theorem dX8_tide_62 : decode cX8_tide 62 = .ok (.iastore, 1) := by decide +kernel
theorem dX8_tide_63 : decode cX8_tide 63 = .ok (.aload_n 0, 1) := by decide +kernel
theorem dX8_tide_64 : decode cX8_tide 64 = .ok (.dup, 1) := by decide +kernel
theorem dX8_tide_65 : decode cX8_tide 65 = .ok (.getfield 90, 3) := by decide +kernel
theorem dX8_tide_68 : decode cX8_tide 68 = .ok (.iconst 1, 1) := by decide +kernel
theorem dX8_tide_69 : decode cX8_tide 69 = .ok (.iadd, 1) := by decide +kernel
theorem dX8_tide_70 : decode cX8_tide 70 = .ok (.dup_x1, 1) := by decide +kernel
theorem dX8_tide_71 : decode cX8_tide 71 = .ok (.putfield 90, 3) := by decide +kernel
theorem dX8_tide_74 : decode cX8_tide 74 = .ok (.ireturn, 1) := by decide +kernel
theorem dX8_wind__0 : decode cX8_wind_ 0 = .ok (.aload_n 0, 1) := by decide +kernel
theorem dX8_wind__1 : decode cX8_wind_ 1 = .ok (.getfield 49, 3) := by decide +kernel
theorem dX8_wind__4 : decode cX8_wind_ 4 = .ok (.ifCond .lt 16, 3) := by decide +kernel
theorem dX8_wind__7 : decode cX8_wind_ 7 = .ok (.iload_n 1, 1) := by decide +kernel
theorem dX8_wind__8 : decode cX8_wind_ 8 = .ok (.aload_n 0, 1) := by decide +kernel
theorem dX8_wind__9 : decode cX8_wind_ 9 = .ok (.getfield 49, 3) := by decide +kernel
theorem dX8_wind__12 : decode cX8_wind_ 12 = .ok (.if_icmp .lt 8, 3) := by decide +kernel
theorem dX8_wind__15 : decode cX8_wind_ 15 = .ok (.aload_n 0, 1) := by decide +kernel
theorem dX8_wind__16 : decode cX8_wind_ 16 = .ok (.getfield 93, 3) := by decide +kernel
theorem dX8_wind__19 : decode cX8_wind_ 19 = .ok (.ireturn, 1) := by decide +kernel
theorem dX8_wind__20 : decode cX8_wind_ 20 = .ok (.iconst (-1), 1) := by decide +kernel
theorem dX8_wind__21 : decode cX8_wind_ 21 = .ok (.istore_n 2, 1) := by decide +kernel
theorem dX8_wind__22 : decode cX8_wind_ 22 = .ok (.iconst 0, 1) := by decide +kernel
theorem dX8_wind__23 : decode cX8_wind_ 23 = .ok (.istore_n 3, 1) := by decide +kernel
theorem dX8_wind__24 : decode cX8_wind_ 24 = .ok (.iconst 0, 1) := by decide +kernel
theorem dX8_wind__25 : decode cX8_wind_ 25 = .ok (.istore 4, 2) := by decide +kernel
theorem dX8_wind__27 : decode cX8_wind_ 27 = .ok (.iload 4, 2) := by decide +kernel
theorem dX8_wind__29 : decode cX8_wind_ 29 = .ok (.aload_n 0, 1) := by decide +kernel
theorem dX8_wind__30 : decode cX8_wind_ 30 = .ok (.getfield 87, 3) := by decide +kernel
theorem dX8_wind__33 : decode cX8_wind_ 33 = .ok (.if_icmp .ge 47, 3) := by decide +kernel
theorem dX8_wind__36 : decode cX8_wind_ 36 = .ok (.aload_n 0, 1) := by decide +kernel
theorem dX8_wind__37 : decode cX8_wind_ 37 = .ok (.getfield 19, 3) := by decide +kernel
theorem dX8_wind__40 : decode cX8_wind_ 40 = .ok (.iload 4, 2) := by decide +kernel
theorem dX8_wind__42 : decode cX8_wind_ 42 = .ok (.iaload, 1) := by decide +kernel
theorem dX8_wind__43 : decode cX8_wind_ 43 = .ok (.iload_n 1, 1) := by decide +kernel
theorem dX8_wind__44 : decode cX8_wind_ 44 = .ok (.if_icmp .gt 30, 3) := by decide +kernel
theorem dX8_wind__47 : decode cX8_wind_ 47 = .ok (.aload_n 0, 1) := by decide +kernel
theorem dX8_wind__48 : decode cX8_wind_ 48 = .ok (.getfield 19, 3) := by decide +kernel
theorem dX8_wind__51 : decode cX8_wind_ 51 = .ok (.iload 4, 2) := by decide +kernel
theorem dX8_wind__53 : decode cX8_wind_ 53 = .ok (.iaload, 1) := by decide +kernel
theorem dX8_wind__54 : decode cX8_wind_ 54 = .ok (.iload_n 2, 1) := by decide +kernel
theorem dX8_wind__55 : decode cX8_wind_ 55 = .ok (.if_icmp .lt 19, 3) := by decide +kernel
theorem dX8_wind__58 : decode cX8_wind_ 58 = .ok (.aload_n 0, 1) := by decide +kernel
theorem dX8_wind__59 : decode cX8_wind_ 59 = .ok (.getfield 19, 3) := by decide +kernel
theorem dX8_wind__62 : decode cX8_wind_ 62 = .ok (.iload 4, 2) := by decide +kernel
theorem dX8_wind__64 : decode cX8_wind_ 64 = .ok (.iaload, 1) := by decide +kernel
theorem dX8_wind__65 : decode cX8_wind_ 65 = .ok (.istore_n 2, 1) := by decide +kernel
theorem dX8_wind__66 : decode cX8_wind_ 66 = .ok (.aload_n 0, 1) := by decide +kernel
theorem dX8_wind__67 : decode cX8_wind_ 67 = .ok (.getfield 22, 3) := by decide +kernel
theorem dX8_wind__70 : decode cX8_wind_ 70 = .ok (.iload 4, 2) := by decide +kernel
theorem dX8_wind__72 : decode cX8_wind_ 72 = .ok (.iaload, 1) := by decide +kernel
theorem dX8_wind__73 : decode cX8_wind_ 73 = .ok (.istore_n 3, 1) := by decide +kernel
theorem dX8_wind__74 : decode cX8_wind_ 74 = .ok (.iinc 4 1, 3) := by decide +kernel
theorem dX8_wind__77 : decode cX8_wind_ 77 = .ok (.goto (-50), 3) := by decide +kernel
theorem dX8_wind__80 : decode cX8_wind_ 80 = .ok (.iload_n 3, 1) := by decide +kernel
theorem dX8_wind__81 : decode cX8_wind_ 81 = .ok (.aload_n 0, 1) := by decide +kernel
theorem dX8_wind__82 : decode cX8_wind_ 82 = .ok (.getfield 96, 3) := by decide +kernel
theorem dX8_wind__85 : decode cX8_wind_ 85 = .ok (.iadd, 1) := by decide +kernel
theorem dX8_wind__86 : decode cX8_wind_ 86 = .ok (.bipush 8, 2) := by decide +kernel
theorem dX8_wind__88 : decode cX8_wind_ 88 = .ok (.irem, 1) := by decide +kernel
theorem dX8_wind__89 : decode cX8_wind_ 89 = .ok (.ireturn, 1) := by decide +kernel
theorem dX8_tide__0 : decode cX8_tide_ 0 = .ok (.iconst (-1), 1) := by decide +kernel
theorem dX8_tide__1 : decode cX8_tide_ 1 = .ok (.istore_n 2, 1) := by decide +kernel
theorem dX8_tide__2 : decode cX8_tide_ 2 = .ok (.iconst 0, 1) := by decide +kernel
theorem dX8_tide__3 : decode cX8_tide_ 3 = .ok (.istore_n 3, 1) := by decide +kernel
theorem dX8_tide__4 : decode cX8_tide_ 4 = .ok (.iconst 0, 1) := by decide +kernel
theorem dX8_tide__5 : decode cX8_tide_ 5 = .ok (.istore 4, 2) := by decide +kernel
theorem dX8_tide__7 : decode cX8_tide_ 7 = .ok (.iload 4, 2) := by decide +kernel
theorem dX8_tide__9 : decode cX8_tide_ 9 = .ok (.aload_n 0, 1) := by decide +kernel
theorem dX8_tide__10 : decode cX8_tide_ 10 = .ok (.getfield 90, 3) := by decide +kernel
theorem dX8_tide__13 : decode cX8_tide_ 13 = .ok (.if_icmp .ge 47, 3) := by decide +kernel
theorem dX8_tide__16 : decode cX8_tide_ 16 = .ok (.aload_n 0, 1) := by decide +kernel
theorem dX8_tide__17 : decode cX8_tide_ 17 = .ok (.getfield 25, 3) := by decide +kernel
theorem dX8_tide__20 : decode cX8_tide_ 20 = .ok (.iload 4, 2) := by decide +kernel
theorem dX8_tide__22 : decode cX8_tide_ 22 = .ok (.iaload, 1) := by decide +kernel
theorem dX8_tide__23 : decode cX8_tide_ 23 = .ok (.iload_n 1, 1) := by decide +kernel
theorem dX8_tide__24 : decode cX8_tide_ 24 = .ok (.if_icmp .gt 30, 3) := by decide +kernel
theorem dX8_tide__27 : decode cX8_tide_ 27 = .ok (.aload_n 0, 1) := by decide +kernel
theorem dX8_tide__28 : decode cX8_tide_ 28 = .ok (.getfield 25, 3) := by decide +kernel
theorem dX8_tide__31 : decode cX8_tide_ 31 = .ok (.iload 4, 2) := by decide +kernel
theorem dX8_tide__33 : decode cX8_tide_ 33 = .ok (.iaload, 1) := by decide +kernel
theorem dX8_tide__34 : decode cX8_tide_ 34 = .ok (.iload_n 2, 1) := by decide +kernel
theorem dX8_tide__35 : decode cX8_tide_ 35 = .ok (.if_icmp .lt 19, 3) := by decide +kernel
theorem dX8_tide__38 : decode cX8_tide_ 38 = .ok (.aload_n 0, 1) := by decide +kernel
theorem dX8_tide__39 : decode cX8_tide_ 39 = .ok (.getfield 25, 3) := by decide +kernel
theorem dX8_tide__42 : decode cX8_tide_ 42 = .ok (.iload 4, 2) := by decide +kernel
theorem dX8_tide__44 : decode cX8_tide_ 44 = .ok (.iaload, 1) := by decide +kernel
theorem dX8_tide__45 : decode cX8_tide_ 45 = .ok (.istore_n 2, 1) := by decide +kernel
theorem dX8_tide__46 : decode cX8_tide_ 46 = .ok (.aload_n 0, 1) := by decide +kernel
theorem dX8_tide__47 : decode cX8_tide_ 47 = .ok (.getfield 28, 3) := by decide +kernel
theorem dX8_tide__50 : decode cX8_tide_ 50 = .ok (.iload 4, 2) := by decide +kernel
theorem dX8_tide__52 : decode cX8_tide_ 52 = .ok (.iaload, 1) := by decide +kernel
theorem dX8_tide__53 : decode cX8_tide_ 53 = .ok (.istore_n 3, 1) := by decide +kernel
theorem dX8_tide__54 : decode cX8_tide_ 54 = .ok (.iinc 4 1, 3) := by decide +kernel
theorem dX8_tide__57 : decode cX8_tide_ 57 = .ok (.goto (-50), 3) := by decide +kernel
theorem dX8_tide__60 : decode cX8_tide_ 60 = .ok (.iload_n 3, 1) := by decide +kernel
theorem dX8_tide__61 : decode cX8_tide_ 61 = .ok (.ireturn, 1) := by decide +kernel
theorem dX8_apart_0 : decode cX8_apart 0 = .ok (.iload_n 0, 1) := by decide +kernel
theorem dX8_apart_1 : decode cX8_apart 1 = .ok (.iload_n 1, 1) := by decide +kernel
theorem dX8_apart_2 : decode cX8_apart 2 = .ok (.if_icmp .le 9, 3) := by decide +kernel
theorem dX8_apart_5 : decode cX8_apart 5 = .ok (.iload_n 0, 1) := by decide +kernel
theorem dX8_apart_6 : decode cX8_apart 6 = .ok (.iload_n 1, 1) := by decide +kernel
theorem dX8_apart_7 : decode cX8_apart 7 = .ok (.isub, 1) := by decide +kernel
theorem dX8_apart_8 : decode cX8_apart 8 = .ok (.goto 6, 3) := by decide +kernel
theorem dX8_apart_11 : decode cX8_apart 11 = .ok (.iload_n 1, 1) := by decide +kernel
theorem dX8_apart_12 : decode cX8_apart 12 = .ok (.iload_n 0, 1) := by decide +kernel
theorem dX8_apart_13 : decode cX8_apart 13 = .ok (.isub, 1) := by decide +kernel
theorem dX8_apart_14 : decode cX8_apart 14 = .ok (.istore_n 2, 1) := by decide +kernel
theorem dX8_apart_15 : decode cX8_apart 15 = .ok (.iload_n 2, 1) := by decide +kernel
theorem dX8_apart_16 : decode cX8_apart 16 = .ok (.iconst 4, 1) := by decide +kernel
theorem dX8_apart_17 : decode cX8_apart 17 = .ok (.if_icmp .le 10, 3) := by decide +kernel
theorem dX8_apart_20 : decode cX8_apart 20 = .ok (.bipush 8, 2) := by decide +kernel
theorem dX8_apart_22 : decode cX8_apart 22 = .ok (.iload_n 2, 1) := by decide +kernel
theorem dX8_apart_23 : decode cX8_apart 23 = .ok (.isub, 1) := by decide +kernel
theorem dX8_apart_24 : decode cX8_apart 24 = .ok (.goto 4, 3) := by decide +kernel
theorem dX8_apart_27 : decode cX8_apart 27 = .ok (.iload_n 2, 1) := by decide +kernel
theorem dX8_apart_28 : decode cX8_apart 28 = .ok (.ireturn, 1) := by decide +kernel
theorem dX8_isSea_0 : decode cX8_isSea 0 = .ok (.aload_n 0, 1) := by decide +kernel
theorem dX8_isSea_1 : decode cX8_isSea 1 = .ok (.getfield 7, 3) := by decide +kernel
theorem dX8_isSea_4 : decode cX8_isSea 4 = .ok (.iload_n 1, 1) := by decide +kernel
theorem dX8_isSea_5 : decode cX8_isSea 5 = .ok (.iaload, 1) := by decide +kernel
theorem dX8_isSea_6 : decode cX8_isSea 6 = .ok (.ifCond .le 18, 3) := by decide +kernel
theorem dX8_isSea_9 : decode cX8_isSea 9 = .ok (.aload_n 0, 1) := by decide +kernel
theorem dX8_isSea_10 : decode cX8_isSea 10 = .ok (.getfield 7, 3) := by decide +kernel
theorem dX8_isSea_13 : decode cX8_isSea 13 = .ok (.iload_n 1, 1) := by decide +kernel
theorem dX8_isSea_14 : decode cX8_isSea 14 = .ok (.iaload, 1) := by decide +kernel
theorem dX8_isSea_15 : decode cX8_isSea 15 = .ok (.bipush 30, 2) := by decide +kernel
theorem dX8_isSea_17 : decode cX8_isSea 17 = .ok (.if_icmp .ge 7, 3) := by decide +kernel
theorem dX8_isSea_20 : decode cX8_isSea 20 = .ok (.iconst 1, 1) := by decide +kernel
theorem dX8_isSea_21 : decode cX8_isSea 21 = .ok (.goto 4, 3) := by decide +kernel
theorem dX8_isSea_24 : decode cX8_isSea 24 = .ok (.iconst 0, 1) := by decide +kernel
theorem dX8_isSea_25 : decode cX8_isSea 25 = .ok (.ireturn, 1) := by decide +kernel
theorem dX8_bears_0 : decode cX8_bears 0 = .ok (.aload_n 0, 1) := by decide +kernel
theorem dX8_bears_1 : decode cX8_bears 1 = .ok (.iload_n 1, 1) := by decide +kernel
theorem dX8_bears_2 : decode cX8_bears 2 = .ok (.invokevirtual 99, 3) := by decide +kernel
theorem dX8_bears_5 : decode cX8_bears 5 = .ok (.ifCond .eq 22, 3) := by decide +kernel
theorem dX8_bears_8 : decode cX8_bears 8 = .ok (.aload_n 0, 1) := by decide +kernel
theorem dX8_bears_9 : decode cX8_bears 9 = .ok (.getfield 7, 3) := by decide +kernel
theorem dX8_bears_12 : decode cX8_bears 12 = .ok (.iload_n 1, 1) := by decide +kernel
theorem dX8_bears_13 : decode cX8_bears 13 = .ok (.iaload, 1) := by decide +kernel
theorem dX8_bears_14 : decode cX8_bears 14 = .ok (.aload_n 0, 1) := by decide +kernel
theorem dX8_bears_15 : decode cX8_bears 15 = .ok (.getfield 16, 3) := by decide +kernel
theorem dX8_bears_18 : decode cX8_bears 18 = .ok (.iconst 1, 1) := by decide +kernel
theorem dX8_bears_19 : decode cX8_bears 19 = .ok (.iaload, 1) := by decide +kernel
theorem dX8_bears_20 : decode cX8_bears 20 = .ok (.if_icmp .lt 7, 3) := by decide +kernel
theorem dX8_bears_23 : decode cX8_bears 23 = .ok (.iconst 1, 1) := by decide +kernel
theorem dX8_bears_24 : decode cX8_bears 24 = .ok (.goto 4, 3) := by decide +kernel
theorem dX8_bears_27 : decode cX8_bears 27 = .ok (.iconst 0, 1) := by decide +kernel
theorem dX8_bears_28 : decode cX8_bears 28 = .ok (.ireturn, 1) := by decide +kernel
theorem dX8_lay_0 : decode cX8_lay 0 = .ok (.aload_n 0, 1) := by decide +kernel
theorem dX8_lay_1 : decode cX8_lay 1 = .ok (.iconst 1, 1) := by decide +kernel
theorem dX8_lay_2 : decode cX8_lay 2 = .ok (.putfield 73, 3) := by decide +kernel
theorem dX8_lay_5 : decode cX8_lay 5 = .ok (.aload_n 0, 1) := by decide +kernel
theorem dX8_lay_6 : decode cX8_lay 6 = .ok (.iload_n 1, 1) := by decide +kernel
theorem dX8_lay_7 : decode cX8_lay 7 = .ok (.putfield 102, 3) := by decide +kernel
theorem dX8_lay_10 : decode cX8_lay 10 = .ok (.aload_n 0, 1) := by decide +kernel
theorem dX8_lay_11 : decode cX8_lay 11 = .ok (.iconst 0, 1) := by decide +kernel
theorem dX8_lay_12 : decode cX8_lay 12 = .ok (.putfield 77, 3) := by decide +kernel
theorem dX8_lay_15 : decode cX8_lay 15 = .ok (.aload_n 0, 1) := by decide +kernel
theorem dX8_lay_16 : decode cX8_lay 16 = .ok (.iconst 1, 1) := by decide +kernel
theorem dX8_lay_17 : decode cX8_lay 17 = .ok (.putfield 105, 3) := by decide +kernel
theorem dX8_lay_20 : decode cX8_lay 20 = .ok (.aload_n 0, 1) := by decide +kernel
theorem dX8_lay_21 : decode cX8_lay 21 = .ok (.iconst 3, 1) := by decide +kernel
theorem dX8_lay_22 : decode cX8_lay 22 = .ok (.putfield 108, 3) := by decide +kernel
theorem dX8_lay_25 : decode cX8_lay 25 = .ok (.aload_n 0, 1) := by decide +kernel
theorem dX8_lay_26 : decode cX8_lay 26 = .ok (.iconst 2, 1) := by decide +kernel
theorem dX8_lay_27 : decode cX8_lay 27 = .ok (.putfield 111, 3) := by decide +kernel
theorem dX8_lay_30 : decode cX8_lay 30 = .ok (.aload_n 0, 1) := by decide +kernel
theorem dX8_lay_31 : decode cX8_lay 31 = .ok (.iconst 0, 1) := by decide +kernel
theorem dX8_lay_32 : decode cX8_lay 32 = .ok (.putfield 114, 3) := by decide +kernel
theorem dX8_lay_35 : decode cX8_lay 35 = .ok (.aload_n 0, 1) := by decide +kernel
theorem dX8_lay_36 : decode cX8_lay 36 = .ok (.iconst 0, 1) := by decide +kernel
theorem dX8_lay_37 : decode cX8_lay 37 = .ok (.putfield 117, 3) := by decide +kernel
theorem dX8_lay_40 : decode cX8_lay 40 = .ok (.aload_n 0, 1) := by decide +kernel
theorem dX8_lay_41 : decode cX8_lay 41 = .ok (.iconst 0, 1) := by decide +kernel
theorem dX8_lay_42 : decode cX8_lay 42 = .ok (.putfield 120, 3) := by decide +kernel
theorem dX8_lay_45 : decode cX8_lay 45 = .ok (.aload_n 0, 1) := by decide +kernel
theorem dX8_lay_46 : decode cX8_lay 46 = .ok (.iconst 1, 1) := by decide +kernel
theorem dX8_lay_47 : decode cX8_lay 47 = .ok (.putfield 123, 3) := by decide +kernel
theorem dX8_lay_50 : decode cX8_lay 50 = .ok (.aload_n 0, 1) := by decide +kernel
theorem dX8_lay_51 : decode cX8_lay 51 = .ok (.aload_n 0, 1) := by decide +kernel
theorem dX8_lay_52 : decode cX8_lay 52 = .ok (.iconst 0, 1) := by decide +kernel
theorem dX8_lay_53 : decode cX8_lay 53 = .ok (.invokevirtual 126, 3) := by decide +kernel
theorem dX8_lay_56 : decode cX8_lay 56 = .ok (.iconst 4, 1) := by decide +kernel
theorem dX8_lay_57 : decode cX8_lay 57 = .ok (.iadd, 1) := by decide +kernel
theorem dX8_lay_58 : decode cX8_lay 58 = .ok (.bipush 8, 2) := by decide +kernel
theorem dX8_lay_60 : decode cX8_lay 60 = .ok (.irem, 1) := by decide +kernel
theorem dX8_lay_61 : decode cX8_lay 61 = .ok (.putfield 129, 3) := by decide +kernel
theorem dX8_lay_64 : decode cX8_lay 64 = .ok (.return_, 1) := by decide +kernel
theorem dX8_lays_0 : decode cX8_lays 0 = .ok (.aload_n 0, 1) := by decide +kernel
theorem dX8_lays_1 : decode cX8_lays 1 = .ok (.iload_n 1, 1) := by decide +kernel
theorem dX8_lays_2 : decode cX8_lays 2 = .ok (.invokevirtual 80, 3) := by decide +kernel
theorem dX8_lays_5 : decode cX8_lays 5 = .ok (.ifCond .ne 9, 3) := by decide +kernel
theorem dX8_lays_8 : decode cX8_lays 8 = .ok (.aload_n 0, 1) := by decide +kernel
theorem dX8_lays_9 : decode cX8_lays 9 = .ok (.iconst (-1), 1) := by decide +kernel
theorem dX8_lays_10 : decode cX8_lays 10 = .ok (.invokevirtual 59, 3) := by decide +kernel
theorem dX8_lays_13 : decode cX8_lays 13 = .ok (.ireturn, 1) := by decide +kernel
theorem dX8_lays_14 : decode cX8_lays 14 = .ok (.aload_n 0, 1) := by decide +kernel
theorem dX8_lays_15 : decode cX8_lays 15 = .ok (.iload_n 1, 1) := by decide +kernel
theorem dX8_lays_16 : decode cX8_lays 16 = .ok (.invokevirtual 132, 3) := by decide +kernel
theorem dX8_lays_19 : decode cX8_lays 19 = .ok (.ifCond .ne 10, 3) := by decide +kernel
theorem dX8_lays_22 : decode cX8_lays 22 = .ok (.aload_n 0, 1) := by decide +kernel
theorem dX8_lays_23 : decode cX8_lays 23 = .ok (.bipush (-3), 2) := by decide +kernel
theorem dX8_lays_25 : decode cX8_lays 25 = .ok (.invokevirtual 59, 3) := by decide +kernel
theorem dX8_lays_28 : decode cX8_lays 28 = .ok (.ireturn, 1) := by decide +kernel
theorem dX8_lays_29 : decode cX8_lays 29 = .ok (.aload_n 0, 1) := by decide +kernel
theorem dX8_lays_30 : decode cX8_lays 30 = .ok (.iload_n 1, 1) := by decide +kernel
theorem dX8_lays_31 : decode cX8_lays 31 = .ok (.invokevirtual 135, 3) := by decide +kernel
theorem dX8_lays_34 : decode cX8_lays 34 = .ok (.aload_n 0, 1) := by decide +kernel
theorem dX8_lays_35 : decode cX8_lays 35 = .ok (.getfield 129, 3) := by decide +kernel
theorem dX8_lays_38 : decode cX8_lays 38 = .ok (.ireturn, 1) := by decide +kernel
theorem dX8_ended_0 : decode cX8_ended 0 = .ok (.aload_n 0, 1) := by decide +kernel
theorem dX8_ended_1 : decode cX8_ended 1 = .ok (.getfield 105, 3) := by decide +kernel
theorem dX8_ended_4 : decode cX8_ended 4 = .ok (.iconst 4, 1) := by decide +kernel
theorem dX8_ended_5 : decode cX8_ended 5 = .ok (.if_icmp .le 7, 3) := by decide +kernel
theorem dX8_ended_8 : decode cX8_ended 8 = .ok (.iconst 1, 1) := by decide +kernel
theorem dX8_ended_9 : decode cX8_ended 9 = .ok (.goto 4, 3) := by decide +kernel
theorem dX8_ended_12 : decode cX8_ended 12 = .ok (.iconst 0, 1) := by decide +kernel
theorem dX8_ended_13 : decode cX8_ended 13 = .ok (.ireturn, 1) := by decide +kernel
theorem dX8_lives_0 : decode cX8_lives 0 = .ok (.aload_n 0, 1) := by decide +kernel
theorem dX8_lives_1 : decode cX8_lives 1 = .ok (.getfield 16, 3) := by decide +kernel
theorem dX8_lives_4 : decode cX8_lives 4 = .ok (.iconst 3, 1) := by decide +kernel
theorem dX8_lives_5 : decode cX8_lives 5 = .ok (.iaload, 1) := by decide +kernel
theorem dX8_lives_6 : decode cX8_lives 6 = .ok (.istore_n 1, 1) := by decide +kernel
theorem dX8_lives_7 : decode cX8_lives 7 = .ok (.aload_n 0, 1) := by decide +kernel
theorem dX8_lives_8 : decode cX8_lives 8 = .ok (.getfield 105, 3) := by decide +kernel
theorem dX8_lives_11 : decode cX8_lives 11 = .ok (.tableswitch 81 5 7 #[25, 59, 79], 25) := by decide +kernel
theorem dX8_lives_36 : decode cX8_lives 36 = .ok (.iload_n 1, 1) := by decide +kernel
theorem dX8_lives_37 : decode cX8_lives 37 = .ok (.iload_n 1, 1) := by decide +kernel
theorem dX8_lives_38 : decode cX8_lives 38 = .ok (.bipush 20, 2) := by decide +kernel
theorem dX8_lives_40 : decode cX8_lives 40 = .ok (.bipush 10, 2) := by decide +kernel
theorem dX8_lives_42 : decode cX8_lives 42 = .ok (.aload_n 0, 1) := by decide +kernel
theorem dX8_lives_43 : decode cX8_lives 43 = .ok (.getfield 139, 3) := by decide +kernel
theorem dX8_lives_46 : decode cX8_lives 46 = .ok (.imul, 1) := by decide +kernel
theorem dX8_lives_47 : decode cX8_lives 47 = .ok (.iadd, 1) := by decide +kernel
theorem dX8_lives_48 : decode cX8_lives 48 = .ok (.aload_n 0, 1) := by decide +kernel
theorem dX8_lives_49 : decode cX8_lives 49 = .ok (.getfield 142, 3) := by decide +kernel
theorem dX8_lives_52 : decode cX8_lives 52 = .ok (.ifCond .eq 7, 3) := by decide +kernel
theorem dX8_lives_55 : decode cX8_lives 55 = .ok (.iconst 0, 1) := by decide +kernel
theorem dX8_lives_56 : decode cX8_lives 56 = .ok (.goto 5, 3) := by decide +kernel
theorem dX8_lives_59 : decode cX8_lives 59 = .ok (.bipush 30, 2) := by decide +kernel
theorem dX8_lives_61 : decode cX8_lives 61 = .ok (.iadd, 1) := by decide +kernel
theorem dX8_lives_62 : decode cX8_lives 62 = .ok (.imul, 1) := by decide +kernel
theorem dX8_lives_63 : decode cX8_lives 63 = .ok (.bipush 100, 2) := by decide +kernel
theorem dX8_lives_65 : decode cX8_lives 65 = .ok (.idiv, 1) := by decide +kernel
theorem dX8_lives_66 : decode cX8_lives 66 = .ok (.invokestatic 145, 3) := by decide +kernel
theorem dX8_lives_69 : decode cX8_lives 69 = .ok (.ireturn, 1) := by decide +kernel
theorem dX8_lives_70 : decode cX8_lives 70 = .ok (.iload_n 1, 1) := by decide +kernel
theorem dX8_lives_71 : decode cX8_lives 71 = .ok (.aload_n 0, 1) := by decide +kernel
theorem dX8_lives_72 : decode cX8_lives 72 = .ok (.getfield 142, 3) := by decide +kernel
theorem dX8_lives_75 : decode cX8_lives 75 = .ok (.ifCond .eq 8, 3) := by decide +kernel
theorem dX8_lives_78 : decode cX8_lives 78 = .ok (.bipush 10, 2) := by decide +kernel
theorem dX8_lives_80 : decode cX8_lives 80 = .ok (.goto 5, 3) := by decide +kernel
theorem dX8_lives_83 : decode cX8_lives 83 = .ok (.bipush 40, 2) := by decide +kernel
theorem dX8_lives_85 : decode cX8_lives 85 = .ok (.imul, 1) := by decide +kernel
theorem dX8_lives_86 : decode cX8_lives 86 = .ok (.bipush 100, 2) := by decide +kernel
theorem dX8_lives_88 : decode cX8_lives 88 = .ok (.idiv, 1) := by decide +kernel
theorem dX8_lives_89 : decode cX8_lives 89 = .ok (.ireturn, 1) := by decide +kernel
theorem dX8_lives_90 : decode cX8_lives 90 = .ok (.iconst 0, 1) := by decide +kernel
theorem dX8_lives_91 : decode cX8_lives 91 = .ok (.ireturn, 1) := by decide +kernel
theorem dX8_lives_92 : decode cX8_lives 92 = .ok (.iload_n 1, 1) := by decide +kernel
theorem dX8_lives_93 : decode cX8_lives 93 = .ok (.ireturn, 1) := by decide +kernel
theorem dX8_now_0 : decode cX8_now 0 = .ok (.iload_n 1, 1) := by decide +kernel
theorem dX8_now_1 : decode cX8_now 1 = .ok (.ifCond .lt 9, 3) := by decide +kernel
theorem dX8_now_4 : decode cX8_now 4 = .ok (.iload_n 1, 1) := by decide +kernel
theorem dX8_now_5 : decode cX8_now 5 = .ok (.bipush 13, 2) := by decide +kernel
theorem dX8_now_7 : decode cX8_now 7 = .ok (.if_icmp .le 10, 3) := by decide +kernel
theorem dX8_now_10 : decode cX8_now 10 = .ok (.aload_n 0, 1) := by decide +kernel
theorem dX8_now_11 : decode cX8_now 11 = .ok (.bipush (-2), 2) := by decide +kernel
theorem dX8_now_13 : decode cX8_now 13 = .ok (.invokevirtual 59, 3) := by decide +kernel
theorem dX8_now_16 : decode cX8_now 16 = .ok (.ireturn, 1) := by decide +kernel
theorem dX8_now_17 : decode cX8_now 17 = .ok (.aload_n 0, 1) := by decide +kernel
theorem dX8_now_18 : decode cX8_now 18 = .ok (.getfield 73, 3) := by decide +kernel
theorem dX8_now_21 : decode cX8_now 21 = .ok (.ifCond .ne 10, 3) := by decide +kernel
theorem dX8_now_24 : decode cX8_now 24 = .ok (.aload_n 0, 1) := by decide +kernel
theorem dX8_now_25 : decode cX8_now 25 = .ok (.bipush (-3), 2) := by decide +kernel
theorem dX8_now_27 : decode cX8_now 27 = .ok (.invokevirtual 59, 3) := by decide +kernel
theorem dX8_now_30 : decode cX8_now 30 = .ok (.ireturn, 1) := by decide +kernel
theorem dX8_now_31 : decode cX8_now 31 = .ok (.iload_n 1, 1) := by decide +kernel
theorem dX8_now_32 : decode cX8_now 32 = .ok (.tableswitch 143 0 12 #[68, 73, 78, 83, 88, 93, 98, 103, 108, 113, 118, 127, 136], 68) := by decide +kernel
theorem dX8_now_100 : decode cX8_now 100 = .ok (.aload_n 0, 1) := by decide +kernel
theorem dX8_now_101 : decode cX8_now 101 = .ok (.getfield 102, 3) := by decide +kernel
theorem dX8_now_104 : decode cX8_now 104 = .ok (.ireturn, 1) := by decide +kernel
theorem dX8_now_105 : decode cX8_now 105 = .ok (.aload_n 0, 1) := by decide +kernel
theorem dX8_now_106 : decode cX8_now 106 = .ok (.getfield 129, 3) := by decide +kernel
theorem dX8_now_109 : decode cX8_now 109 = .ok (.ireturn, 1) := by decide +kernel
theorem dX8_now_110 : decode cX8_now 110 = .ok (.aload_n 0, 1) := by decide +kernel
theorem dX8_now_111 : decode cX8_now 111 = .ok (.getfield 123, 3) := by decide +kernel
theorem dX8_now_114 : decode cX8_now 114 = .ok (.ireturn, 1) := by decide +kernel
theorem dX8_now_115 : decode cX8_now 115 = .ok (.aload_n 0, 1) := by decide +kernel
theorem dX8_now_116 : decode cX8_now 116 = .ok (.getfield 108, 3) := by decide +kernel
theorem dX8_now_119 : decode cX8_now 119 = .ok (.ireturn, 1) := by decide +kernel
theorem dX8_now_120 : decode cX8_now 120 = .ok (.aload_n 0, 1) := by decide +kernel
theorem dX8_now_121 : decode cX8_now 121 = .ok (.getfield 111, 3) := by decide +kernel
theorem dX8_now_124 : decode cX8_now 124 = .ok (.ireturn, 1) := by decide +kernel
theorem dX8_now_125 : decode cX8_now 125 = .ok (.aload_n 0, 1) := by decide +kernel
theorem dX8_now_126 : decode cX8_now 126 = .ok (.getfield 114, 3) := by decide +kernel
theorem dX8_now_129 : decode cX8_now 129 = .ok (.ireturn, 1) := by decide +kernel
theorem dX8_now_130 : decode cX8_now 130 = .ok (.aload_n 0, 1) := by decide +kernel
theorem dX8_now_131 : decode cX8_now 131 = .ok (.getfield 117, 3) := by decide +kernel
theorem dX8_now_134 : decode cX8_now 134 = .ok (.ireturn, 1) := by decide +kernel
theorem dX8_now_135 : decode cX8_now 135 = .ok (.aload_n 0, 1) := by decide +kernel
theorem dX8_now_136 : decode cX8_now 136 = .ok (.getfield 120, 3) := by decide +kernel
theorem dX8_now_139 : decode cX8_now 139 = .ok (.ireturn, 1) := by decide +kernel
theorem dX8_now_140 : decode cX8_now 140 = .ok (.aload_n 0, 1) := by decide +kernel
theorem dX8_now_141 : decode cX8_now 141 = .ok (.getfield 77, 3) := by decide +kernel
theorem dX8_now_144 : decode cX8_now 144 = .ok (.ireturn, 1) := by decide +kernel
theorem dX8_now_145 : decode cX8_now 145 = .ok (.aload_n 0, 1) := by decide +kernel
theorem dX8_now_146 : decode cX8_now 146 = .ok (.getfield 105, 3) := by decide +kernel
theorem dX8_now_149 : decode cX8_now 149 = .ok (.ireturn, 1) := by decide +kernel
theorem dX8_now_150 : decode cX8_now 150 = .ok (.aload_n 0, 1) := by decide +kernel
theorem dX8_now_151 : decode cX8_now 151 = .ok (.aload_n 0, 1) := by decide +kernel
theorem dX8_now_152 : decode cX8_now 152 = .ok (.getfield 77, 3) := by decide +kernel
theorem dX8_now_155 : decode cX8_now 155 = .ok (.invokevirtual 126, 3) := by decide +kernel
theorem dX8_now_158 : decode cX8_now 158 = .ok (.ireturn, 1) := by decide +kernel
theorem dX8_now_159 : decode cX8_now 159 = .ok (.aload_n 0, 1) := by decide +kernel
theorem dX8_now_160 : decode cX8_now 160 = .ok (.aload_n 0, 1) := by decide +kernel
theorem dX8_now_161 : decode cX8_now 161 = .ok (.getfield 77, 3) := by decide +kernel
theorem dX8_now_164 : decode cX8_now 164 = .ok (.invokevirtual 151, 3) := by decide +kernel
theorem dX8_now_167 : decode cX8_now 167 = .ok (.ireturn, 1) := by decide +kernel
theorem dX8_now_168 : decode cX8_now 168 = .ok (.aload_n 0, 1) := by decide +kernel
theorem dX8_now_169 : decode cX8_now 169 = .ok (.getfield 16, 3) := by decide +kernel
theorem dX8_now_172 : decode cX8_now 172 = .ok (.iconst 5, 1) := by decide +kernel
theorem dX8_now_173 : decode cX8_now 173 = .ok (.iaload, 1) := by decide +kernel
theorem dX8_now_174 : decode cX8_now 174 = .ok (.ireturn, 1) := by decide +kernel
theorem dX8_now_175 : decode cX8_now 175 = .ok (.aload_n 0, 1) := by decide +kernel
theorem dX8_now_176 : decode cX8_now 176 = .ok (.invokevirtual 154, 3) := by decide +kernel
theorem dX8_now_179 : decode cX8_now 179 = .ok (.ireturn, 1) := by decide +kernel
theorem dX8_beside_0 : decode cX8_beside 0 = .ok (.iload_n 1, 1) := by decide +kernel
theorem dX8_beside_1 : decode cX8_beside 1 = .ok (.aload_n 0, 1) := by decide +kernel
theorem dX8_beside_2 : decode cX8_beside 2 = .ok (.getfield 56, 3) := by decide +kernel
theorem dX8_beside_5 : decode cX8_beside 5 = .ok (.idiv, 1) := by decide +kernel
theorem dX8_beside_6 : decode cX8_beside 6 = .ok (.iload_n 2, 1) := by decide +kernel
theorem dX8_beside_7 : decode cX8_beside 7 = .ok (.bipush 7, 2) := by decide +kernel
theorem dX8_beside_9 : decode cX8_beside 9 = .ok (.if_icmp .eq 8, 3) := by decide +kernel
theorem dX8_beside_12 : decode cX8_beside 12 = .ok (.iload_n 2, 1) := by decide +kernel
theorem dX8_beside_13 : decode cX8_beside 13 = .ok (.iconst 2, 1) := by decide +kernel
theorem dX8_beside_14 : decode cX8_beside 14 = .ok (.if_icmp .ge 7, 3) := by decide +kernel
theorem dX8_beside_17 : decode cX8_beside 17 = .ok (.iconst (-1), 1) := by decide +kernel
theorem dX8_beside_18 : decode cX8_beside 18 = .ok (.goto 19, 3) := by decide +kernel
theorem dX8_beside_21 : decode cX8_beside 21 = .ok (.iload_n 2, 1) := by decide +kernel
theorem dX8_beside_22 : decode cX8_beside 22 = .ok (.iconst 2, 1) := by decide +kernel
theorem dX8_beside_23 : decode cX8_beside 23 = .ok (.if_icmp .le 13, 3) := by decide +kernel
theorem dX8_beside_26 : decode cX8_beside 26 = .ok (.iload_n 2, 1) := by decide +kernel
theorem dX8_beside_27 : decode cX8_beside 27 = .ok (.bipush 6, 2) := by decide +kernel
theorem dX8_beside_29 : decode cX8_beside 29 = .ok (.if_icmp .ge 7, 3) := by decide +kernel
theorem dX8_beside_32 : decode cX8_beside 32 = .ok (.iconst 1, 1) := by decide +kernel
theorem dX8_beside_33 : decode cX8_beside 33 = .ok (.goto 4, 3) := by decide +kernel
theorem dX8_beside_36 : decode cX8_beside 36 = .ok (.iconst 0, 1) := by decide +kernel
theorem dX8_beside_37 : decode cX8_beside 37 = .ok (.iadd, 1) := by decide +kernel
theorem dX8_beside_38 : decode cX8_beside 38 = .ok (.istore_n 3, 1) := by decide +kernel
theorem dX8_beside_39 : decode cX8_beside 39 = .ok (.iload_n 1, 1) := by decide +kernel
theorem dX8_beside_40 : decode cX8_beside 40 = .ok (.aload_n 0, 1) := by decide +kernel
theorem dX8_beside_41 : decode cX8_beside 41 = .ok (.getfield 56, 3) := by decide +kernel
theorem dX8_beside_44 : decode cX8_beside 44 = .ok (.irem, 1) := by decide +kernel
theorem dX8_beside_45 : decode cX8_beside 45 = .ok (.iload_n 2, 1) := by decide +kernel
theorem dX8_beside_46 : decode cX8_beside 46 = .ok (.ifCond .le 12, 3) := by decide +kernel
theorem dX8_beside_49 : decode cX8_beside 49 = .ok (.iload_n 2, 1) := by decide +kernel
theorem dX8_beside_50 : decode cX8_beside 50 = .ok (.iconst 4, 1) := by decide +kernel
theorem dX8_beside_51 : decode cX8_beside 51 = .ok (.if_icmp .ge 7, 3) := by decide +kernel
theorem dX8_beside_54 : decode cX8_beside 54 = .ok (.iconst 1, 1) := by decide +kernel
theorem dX8_beside_55 : decode cX8_beside 55 = .ok (.goto 13, 3) := by decide +kernel
theorem dX8_beside_58 : decode cX8_beside 58 = .ok (.iload_n 2, 1) := by decide +kernel
theorem dX8_beside_59 : decode cX8_beside 59 = .ok (.iconst 4, 1) := by decide +kernel
theorem dX8_beside_60 : decode cX8_beside 60 = .ok (.if_icmp .le 7, 3) := by decide +kernel
theorem dX8_beside_63 : decode cX8_beside 63 = .ok (.iconst (-1), 1) := by decide +kernel
theorem dX8_beside_64 : decode cX8_beside 64 = .ok (.goto 4, 3) := by decide +kernel
theorem dX8_beside_67 : decode cX8_beside 67 = .ok (.iconst 0, 1) := by decide +kernel
theorem dX8_beside_68 : decode cX8_beside 68 = .ok (.iadd, 1) := by decide +kernel
theorem dX8_beside_69 : decode cX8_beside 69 = .ok (.istore 4, 2) := by decide +kernel
theorem dX8_beside_71 : decode cX8_beside 71 = .ok (.iload_n 3, 1) := by decide +kernel
theorem dX8_beside_72 : decode cX8_beside 72 = .ok (.ifCond .lt 25, 3) := by decide +kernel
theorem dX8_beside_75 : decode cX8_beside 75 = .ok (.iload_n 3, 1) := by decide +kernel
theorem dX8_beside_76 : decode cX8_beside 76 = .ok (.aload_n 0, 1) := by decide +kernel
theorem dX8_beside_77 : decode cX8_beside 77 = .ok (.getfield 53, 3) := by decide +kernel
theorem dX8_beside_80 : decode cX8_beside 80 = .ok (.if_icmp .ge 17, 3) := by decide +kernel
theorem dX8_beside_83 : decode cX8_beside 83 = .ok (.iload 4, 2) := by decide +kernel
theorem dX8_beside_85 : decode cX8_beside 85 = .ok (.ifCond .lt 12, 3) := by decide +kernel
theorem dX8_beside_88 : decode cX8_beside 88 = .ok (.iload 4, 2) := by decide +kernel
theorem dX8_beside_90 : decode cX8_beside 90 = .ok (.aload_n 0, 1) := by decide +kernel
theorem dX8_beside_91 : decode cX8_beside 91 = .ok (.getfield 56, 3) := by decide +kernel
theorem dX8_beside_94 : decode cX8_beside 94 = .ok (.if_icmp .lt 8, 3) := by decide +kernel
theorem dX8_beside_97 : decode cX8_beside 97 = .ok (.bipush (-9), 2) := by decide +kernel
theorem dX8_beside_99 : decode cX8_beside 99 = .ok (.goto 12, 3) := by decide +kernel
theorem dX8_beside_102 : decode cX8_beside 102 = .ok (.iload_n 3, 1) := by decide +kernel
theorem dX8_beside_103 : decode cX8_beside 103 = .ok (.aload_n 0, 1) := by decide +kernel
theorem dX8_beside_104 : decode cX8_beside 104 = .ok (.getfield 56, 3) := by decide +kernel
theorem dX8_beside_107 : decode cX8_beside 107 = .ok (.imul, 1) := by decide +kernel
theorem dX8_beside_108 : decode cX8_beside 108 = .ok (.iload 4, 2) := by decide +kernel
theorem dX8_beside_110 : decode cX8_beside 110 = .ok (.iadd, 1) := by decide +kernel
theorem dX8_beside_111 : decode cX8_beside 111 = .ok (.ireturn, 1) := by decide +kernel
theorem dX8_end_0 : decode cX8_end 0 = .ok (.aload_n 0, 1) := by decide +kernel
theorem dX8_end_1 : decode cX8_end 1 = .ok (.iload_n 1, 1) := by decide +kernel
theorem dX8_end_2 : decode cX8_end 2 = .ok (.putfield 105, 3) := by decide +kernel
theorem dX8_end_5 : decode cX8_end 5 = .ok (.aload_n 0, 1) := by decide +kernel
theorem dX8_end_6 : decode cX8_end 6 = .ok (.aload_n 0, 1) := by decide +kernel
theorem dX8_end_7 : decode cX8_end 7 = .ok (.aload_n 0, 1) := by decide +kernel
theorem dX8_end_8 : decode cX8_end 8 = .ok (.getfield 77, 3) := by decide +kernel
theorem dX8_end_11 : decode cX8_end 11 = .ok (.invokevirtual 151, 3) := by decide +kernel
theorem dX8_end_14 : decode cX8_end 14 = .ok (.putfield 139, 3) := by decide +kernel
theorem dX8_end_17 : decode cX8_end 17 = .ok (.aload_n 0, 1) := by decide +kernel
theorem dX8_end_18 : decode cX8_end 18 = .ok (.aload_n 0, 1) := by decide +kernel
theorem dX8_end_19 : decode cX8_end 19 = .ok (.getfield 77, 3) := by decide +kernel
theorem dX8_end_22 : decode cX8_end 22 = .ok (.aload_n 0, 1) := by decide +kernel
theorem dX8_end_23 : decode cX8_end 23 = .ok (.getfield 16, 3) := by decide +kernel
theorem dX8_end_26 : decode cX8_end 26 = .ok (.bipush 6, 2) := by decide +kernel
theorem dX8_end_28 : decode cX8_end 28 = .ok (.iaload, 1) := by decide +kernel
theorem dX8_end_29 : decode cX8_end 29 = .ok (.if_icmp .lt 7, 3) := by decide +kernel
theorem dX8_end_32 : decode cX8_end 32 = .ok (.iconst 1, 1) := by decide +kernel
theorem dX8_end_33 : decode cX8_end 33 = .ok (.goto 4, 3) := by decide +kernel
theorem dX8_end_36 : decode cX8_end 36 = .ok (.iconst 0, 1) := by decide +kernel
theorem dX8_end_37 : decode cX8_end 37 = .ok (.putfield 142, 3) := by decide +kernel
theorem dX8_end_40 : decode cX8_end 40 = .ok (.return_, 1) := by decide +kernel
theorem dX8_into_0 : decode cX8_into 0 = .ok (.aload_n 0, 1) := by decide +kernel
theorem dX8_into_1 : decode cX8_into 1 = .ok (.aload_n 0, 1) := by decide +kernel
theorem dX8_into_2 : decode cX8_into 2 = .ok (.aload_n 0, 1) := by decide +kernel
theorem dX8_into_3 : decode cX8_into 3 = .ok (.getfield 102, 3) := by decide +kernel
theorem dX8_into_6 : decode cX8_into 6 = .ok (.iload_n 1, 1) := by decide +kernel
theorem dX8_into_7 : decode cX8_into 7 = .ok (.invokevirtual 157, 3) := by decide +kernel
theorem dX8_into_10 : decode cX8_into 10 = .ok (.putfield 102, 3) := by decide +kernel
theorem dX8_into_13 : decode cX8_into 13 = .ok (.aload_n 0, 1) := by decide +kernel
theorem dX8_into_14 : decode cX8_into 14 = .ok (.getfield 102, 3) := by decide +kernel
theorem dX8_into_17 : decode cX8_into 17 = .ok (.ifCond .ge 12, 3) := by decide +kernel
theorem dX8_into_20 : decode cX8_into 20 = .ok (.aload_n 0, 1) := by decide +kernel
theorem dX8_into_21 : decode cX8_into 21 = .ok (.bipush 8, 2) := by decide +kernel
theorem dX8_into_23 : decode cX8_into 23 = .ok (.invokevirtual 160, 3) := by decide +kernel
theorem dX8_into_26 : decode cX8_into 26 = .ok (.goto 79, 3) := by decide +kernel
theorem dX8_into_29 : decode cX8_into 29 = .ok (.aload_n 0, 1) := by decide +kernel
theorem dX8_into_30 : decode cX8_into 30 = .ok (.getfield 7, 3) := by decide +kernel
theorem dX8_into_33 : decode cX8_into 33 = .ok (.aload_n 0, 1) := by decide +kernel
theorem dX8_into_34 : decode cX8_into 34 = .ok (.getfield 102, 3) := by decide +kernel
theorem dX8_into_37 : decode cX8_into 37 = .ok (.iaload, 1) := by decide +kernel
theorem dX8_into_38 : decode cX8_into 38 = .ok (.ifCond .ne 12, 3) := by decide +kernel
theorem dX8_into_41 : decode cX8_into 41 = .ok (.aload_n 0, 1) := by decide +kernel
theorem dX8_into_42 : decode cX8_into 42 = .ok (.bipush 6, 2) := by decide +kernel
theorem dX8_into_44 : decode cX8_into 44 = .ok (.invokevirtual 160, 3) := by decide +kernel
theorem dX8_into_47 : decode cX8_into 47 = .ok (.goto 58, 3) := by decide +kernel
theorem dX8_into_50 : decode cX8_into 50 = .ok (.aload_n 0, 1) := by decide +kernel
theorem dX8_into_51 : decode cX8_into 51 = .ok (.getfield 7, 3) := by decide +kernel
theorem dX8_into_54 : decode cX8_into 54 = .ok (.aload_n 0, 1) := by decide +kernel
theorem dX8_into_55 : decode cX8_into 55 = .ok (.getfield 102, 3) := by decide +kernel
theorem dX8_into_58 : decode cX8_into 58 = .ok (.iaload, 1) := by decide +kernel
theorem dX8_into_59 : decode cX8_into 59 = .ok (.bipush 30, 2) := by decide +kernel
theorem dX8_into_61 : decode cX8_into 61 = .ok (.if_icmp .ne 11, 3) := by decide +kernel
theorem dX8_into_64 : decode cX8_into 64 = .ok (.aload_n 0, 1) := by decide +kernel
theorem dX8_into_65 : decode cX8_into 65 = .ok (.iconst 5, 1) := by decide +kernel
theorem dX8_into_66 : decode cX8_into 66 = .ok (.invokevirtual 160, 3) := by decide +kernel
theorem dX8_into_69 : decode cX8_into 69 = .ok (.goto 36, 3) := by decide +kernel
theorem dX8_into_72 : decode cX8_into 72 = .ok (.aload_n 0, 1) := by decide +kernel
theorem dX8_into_73 : decode cX8_into 73 = .ok (.getfield 7, 3) := by decide +kernel
theorem dX8_into_76 : decode cX8_into 76 = .ok (.aload_n 0, 1) := by decide +kernel
theorem dX8_into_77 : decode cX8_into 77 = .ok (.getfield 102, 3) := by decide +kernel
theorem dX8_into_80 : decode cX8_into 80 = .ok (.iaload, 1) := by decide +kernel
theorem dX8_into_81 : decode cX8_into 81 = .ok (.aload_n 0, 1) := by decide +kernel
theorem dX8_into_82 : decode cX8_into 82 = .ok (.aload_n 0, 1) := by decide +kernel
theorem dX8_into_83 : decode cX8_into 83 = .ok (.getfield 77, 3) := by decide +kernel
theorem dX8_into_86 : decode cX8_into 86 = .ok (.invokevirtual 151, 3) := by decide +kernel
theorem dX8_into_89 : decode cX8_into 89 = .ok (.iadd, 1) := by decide +kernel
theorem dX8_into_90 : decode cX8_into 90 = .ok (.aload_n 0, 1) := by decide +kernel
theorem dX8_into_91 : decode cX8_into 91 = .ok (.getfield 16, 3) := by decide +kernel
theorem dX8_into_94 : decode cX8_into 94 = .ok (.iconst 1, 1) := by decide +kernel
theorem dX8_into_95 : decode cX8_into 95 = .ok (.iaload, 1) := by decide +kernel
theorem dX8_into_96 : decode cX8_into 96 = .ok (.if_icmp .ge 9, 3) := by decide +kernel
theorem dX8_into_99 : decode cX8_into 99 = .ok (.aload_n 0, 1) := by decide +kernel
theorem dX8_into_100 : decode cX8_into 100 = .ok (.bipush 6, 2) := by decide +kernel
theorem dX8_into_102 : decode cX8_into 102 = .ok (.invokevirtual 160, 3) := by decide +kernel
theorem dX8_into_105 : decode cX8_into 105 = .ok (.return_, 1) := by decide +kernel
theorem dX8_step_0 : decode cX8_step 0 = .ok (.aload_n 0, 1) := by decide +kernel
theorem dX8_step_1 : decode cX8_step 1 = .ok (.invokevirtual 163, 3) := by decide +kernel
theorem dX8_step_4 : decode cX8_step 4 = .ok (.ifCond .ne 329, 3) := by decide +kernel
theorem dX8_step_7 : decode cX8_step 7 = .ok (.aload_n 0, 1) := by decide +kernel
theorem dX8_step_8 : decode cX8_step 8 = .ok (.aload_n 0, 1) := by decide +kernel
theorem dX8_step_9 : decode cX8_step 9 = .ok (.getfield 77, 3) := by decide +kernel
theorem dX8_step_12 : decode cX8_step 12 = .ok (.invokevirtual 126, 3) := by decide +kernel
theorem dX8_step_15 : decode cX8_step 15 = .ok (.istore_n 1, 1) := by decide +kernel
theorem dX8_step_16 : decode cX8_step 16 = .ok (.iload_n 1, 1) := by decide +kernel
theorem dX8_step_17 : decode cX8_step 17 = .ok (.iconst 4, 1) := by decide +kernel
theorem dX8_step_18 : decode cX8_step 18 = .ok (.iadd, 1) := by decide +kernel
theorem dX8_step_19 : decode cX8_step 19 = .ok (.bipush 8, 2) := by decide +kernel
theorem dX8_step_21 : decode cX8_step 21 = .ok (.irem, 1) := by decide +kernel
theorem dX8_step_22 : decode cX8_step 22 = .ok (.istore_n 2, 1) := by decide +kernel
theorem dX8_step_23 : decode cX8_step 23 = .ok (.iconst 0, 1) := by decide +kernel
theorem dX8_step_24 : decode cX8_step 24 = .ok (.istore_n 3, 1) := by decide +kernel
theorem dX8_step_25 : decode cX8_step 25 = .ok (.aload_n 0, 1) := by decide +kernel
theorem dX8_step_26 : decode cX8_step 26 = .ok (.getfield 105, 3) := by decide +kernel
theorem dX8_step_29 : decode cX8_step 29 = .ok (.iconst 4, 1) := by decide +kernel
theorem dX8_step_30 : decode cX8_step 30 = .ok (.if_icmp .ne 54, 3) := by decide +kernel
theorem dX8_step_33 : decode cX8_step 33 = .ok (.iconst 2, 1) := by decide +kernel
theorem dX8_step_34 : decode cX8_step 34 = .ok (.aload_n 0, 1) := by decide +kernel
theorem dX8_step_35 : decode cX8_step 35 = .ok (.getfield 16, 3) := by decide +kernel
theorem dX8_step_38 : decode cX8_step 38 = .ok (.iconst 0, 1) := by decide +kernel
theorem dX8_step_39 : decode cX8_step 39 = .ok (.iaload, 1) := by decide +kernel
theorem dX8_step_40 : decode cX8_step 40 = .ok (.imul, 1) := by decide +kernel
theorem dX8_step_41 : decode cX8_step 41 = .ok (.aload_n 0, 1) := by decide +kernel
theorem dX8_step_42 : decode cX8_step 42 = .ok (.getfield 108, 3) := by decide +kernel
theorem dX8_step_45 : decode cX8_step 45 = .ok (.iadd, 1) := by decide +kernel
theorem dX8_step_46 : decode cX8_step 46 = .ok (.iconst 2, 1) := by decide +kernel
theorem dX8_step_47 : decode cX8_step 47 = .ok (.bipush 9, 2) := by decide +kernel
theorem dX8_step_49 : decode cX8_step 49 = .ok (.aload_n 0, 1) := by decide +kernel
theorem dX8_step_50 : decode cX8_step 50 = .ok (.getfield 7, 3) := by decide +kernel
theorem dX8_step_53 : decode cX8_step 53 = .ok (.aload_n 0, 1) := by decide +kernel
theorem dX8_step_54 : decode cX8_step 54 = .ok (.getfield 102, 3) := by decide +kernel
theorem dX8_step_57 : decode cX8_step 57 = .ok (.iaload, 1) := by decide +kernel
theorem dX8_step_58 : decode cX8_step 58 = .ok (.aload_n 0, 1) := by decide +kernel
theorem dX8_step_59 : decode cX8_step 59 = .ok (.aload_n 0, 1) := by decide +kernel
theorem dX8_step_60 : decode cX8_step 60 = .ok (.getfield 77, 3) := by decide +kernel
theorem dX8_step_63 : decode cX8_step 63 = .ok (.invokevirtual 151, 3) := by decide +kernel
theorem dX8_step_66 : decode cX8_step 66 = .ok (.iadd, 1) := by decide +kernel
theorem dX8_step_67 : decode cX8_step 67 = .ok (.invokestatic 145, 3) := by decide +kernel
theorem dX8_step_70 : decode cX8_step 70 = .ok (.imul, 1) := by decide +kernel
theorem dX8_step_71 : decode cX8_step 71 = .ok (.iconst 3, 1) := by decide +kernel
theorem dX8_step_72 : decode cX8_step 72 = .ok (.iadd, 1) := by decide +kernel
theorem dX8_step_73 : decode cX8_step 73 = .ok (.if_icmp .le 167, 3) := by decide +kernel
theorem dX8_step_76 : decode cX8_step 76 = .ok (.aload_n 0, 1) := by decide +kernel
theorem dX8_step_77 : decode cX8_step 77 = .ok (.iload_n 2, 1) := by decide +kernel
theorem dX8_step_78 : decode cX8_step 78 = .ok (.invokevirtual 167, 3) := by decide +kernel
theorem dX8_step_81 : decode cX8_step 81 = .ok (.goto 159, 3) := by decide +kernel
theorem dX8_step_84 : decode cX8_step 84 = .ok (.aload_n 0, 1) := by decide +kernel
theorem dX8_step_85 : decode cX8_step 85 = .ok (.getfield 129, 3) := by decide +kernel
theorem dX8_step_88 : decode cX8_step 88 = .ok (.iload_n 1, 1) := by decide +kernel
theorem dX8_step_89 : decode cX8_step 89 = .ok (.invokestatic 170, 3) := by decide +kernel
theorem dX8_step_92 : decode cX8_step 92 = .ok (.istore 4, 2) := by decide +kernel
theorem dX8_step_94 : decode cX8_step 94 = .ok (.iload 4, 2) := by decide +kernel
theorem dX8_step_96 : decode cX8_step 96 = .ok (.aload_n 0, 1) := by decide +kernel
theorem dX8_step_97 : decode cX8_step 97 = .ok (.getfield 16, 3) := by decide +kernel
theorem dX8_step_100 : decode cX8_step 100 = .ok (.iconst 4, 1) := by decide +kernel
theorem dX8_step_101 : decode cX8_step 101 = .ok (.iaload, 1) := by decide +kernel
theorem dX8_step_102 : decode cX8_step 102 = .ok (.if_icmp .lt 20, 3) := by decide +kernel
theorem dX8_step_105 : decode cX8_step 105 = .ok (.aload_n 0, 1) := by decide +kernel
theorem dX8_step_106 : decode cX8_step 106 = .ok (.getfield 123, 3) := by decide +kernel
theorem dX8_step_109 : decode cX8_step 109 = .ok (.aload_n 0, 1) := by decide +kernel
theorem dX8_step_110 : decode cX8_step 110 = .ok (.getfield 108, 3) := by decide +kernel
theorem dX8_step_113 : decode cX8_step 113 = .ok (.invokestatic 145, 3) := by decide +kernel
theorem dX8_step_116 : decode cX8_step 116 = .ok (.iload 4, 2) := by decide +kernel
theorem dX8_step_118 : decode cX8_step 118 = .ok (.iconst 1, 1) := by decide +kernel
theorem dX8_step_119 : decode cX8_step 119 = .ok (.iadd, 1) := by decide +kernel
theorem dX8_step_120 : decode cX8_step 120 = .ok (.imul, 1) := by decide +kernel
theorem dX8_step_121 : decode cX8_step 121 = .ok (.istore_n 3, 1) := by decide +kernel
theorem dX8_step_122 : decode cX8_step 122 = .ok (.aload_n 0, 1) := by decide +kernel
theorem dX8_step_123 : decode cX8_step 123 = .ok (.dup, 1) := by decide +kernel
theorem dX8_step_124 : decode cX8_step 124 = .ok (.getfield 117, 3) := by decide +kernel
theorem dX8_step_127 : decode cX8_step 127 = .ok (.iload_n 3, 1) := by decide +kernel
theorem dX8_step_128 : decode cX8_step 128 = .ok (.iadd, 1) := by decide +kernel
theorem dX8_step_129 : decode cX8_step 129 = .ok (.putfield 117, 3) := by decide +kernel
theorem dX8_step_132 : decode cX8_step 132 = .ok (.aload_n 0, 1) := by decide +kernel
theorem dX8_step_133 : decode cX8_step 133 = .ok (.dup, 1) := by decide +kernel
theorem dX8_step_134 : decode cX8_step 134 = .ok (.getfield 120, 3) := by decide +kernel
theorem dX8_step_137 : decode cX8_step 137 = .ok (.aload_n 0, 1) := by decide +kernel
theorem dX8_step_138 : decode cX8_step 138 = .ok (.getfield 16, 3) := by decide +kernel
theorem dX8_step_141 : decode cX8_step 141 = .ok (.iconst 0, 1) := by decide +kernel
theorem dX8_step_142 : decode cX8_step 142 = .ok (.iaload, 1) := by decide +kernel
theorem dX8_step_143 : decode cX8_step 143 = .ok (.bipush 9, 2) := by decide +kernel
theorem dX8_step_145 : decode cX8_step 145 = .ok (.aload_n 0, 1) := by decide +kernel
theorem dX8_step_146 : decode cX8_step 146 = .ok (.getfield 16, 3) := by decide +kernel
theorem dX8_step_149 : decode cX8_step 149 = .ok (.iconst 5, 1) := by decide +kernel
theorem dX8_step_150 : decode cX8_step 150 = .ok (.iaload, 1) := by decide +kernel
theorem dX8_step_151 : decode cX8_step 151 = .ok (.isub, 1) := by decide +kernel
theorem dX8_step_152 : decode cX8_step 152 = .ok (.iconst 3, 1) := by decide +kernel
theorem dX8_step_153 : decode cX8_step 153 = .ok (.idiv, 1) := by decide +kernel
theorem dX8_step_154 : decode cX8_step 154 = .ok (.iadd, 1) := by decide +kernel
theorem dX8_step_155 : decode cX8_step 155 = .ok (.aload_n 0, 1) := by decide +kernel
theorem dX8_step_156 : decode cX8_step 156 = .ok (.getfield 114, 3) := by decide +kernel
theorem dX8_step_159 : decode cX8_step 159 = .ok (.bipush 25, 2) := by decide +kernel
theorem dX8_step_161 : decode cX8_step 161 = .ok (.idiv, 1) := by decide +kernel
theorem dX8_step_162 : decode cX8_step 162 = .ok (.iadd, 1) := by decide +kernel
theorem dX8_step_163 : decode cX8_step 163 = .ok (.iadd, 1) := by decide +kernel
theorem dX8_step_164 : decode cX8_step 164 = .ok (.putfield 120, 3) := by decide +kernel
theorem dX8_step_167 : decode cX8_step 167 = .ok (.aload_n 0, 1) := by decide +kernel
theorem dX8_step_168 : decode cX8_step 168 = .ok (.getfield 117, 3) := by decide +kernel
theorem dX8_step_171 : decode cX8_step 171 = .ok (.bipush 10, 2) := by decide +kernel
theorem dX8_step_173 : decode cX8_step 173 = .ok (.if_icmp .lt 32, 3) := by decide +kernel
theorem dX8_step_176 : decode cX8_step 176 = .ok (.aload_n 0, 1) := by decide +kernel
theorem dX8_step_177 : decode cX8_step 177 = .ok (.invokevirtual 163, 3) := by decide +kernel
theorem dX8_step_180 : decode cX8_step 180 = .ok (.ifCond .ne 25, 3) := by decide +kernel
theorem dX8_step_183 : decode cX8_step 183 = .ok (.aload_n 0, 1) := by decide +kernel
theorem dX8_step_184 : decode cX8_step 184 = .ok (.dup, 1) := by decide +kernel
theorem dX8_step_185 : decode cX8_step 185 = .ok (.getfield 117, 3) := by decide +kernel
theorem dX8_step_188 : decode cX8_step 188 = .ok (.bipush 10, 2) := by decide +kernel
theorem dX8_step_190 : decode cX8_step 190 = .ok (.isub, 1) := by decide +kernel
theorem dX8_step_191 : decode cX8_step 191 = .ok (.putfield 117, 3) := by decide +kernel
theorem dX8_step_194 : decode cX8_step 194 = .ok (.aload_n 0, 1) := by decide +kernel
theorem dX8_step_195 : decode cX8_step 195 = .ok (.aload_n 0, 1) := by decide +kernel
theorem dX8_step_196 : decode cX8_step 196 = .ok (.getfield 129, 3) := by decide +kernel
theorem dX8_step_199 : decode cX8_step 199 = .ok (.invokevirtual 167, 3) := by decide +kernel
theorem dX8_step_202 : decode cX8_step 202 = .ok (.goto (-35), 3) := by decide +kernel
theorem dX8_step_205 : decode cX8_step 205 = .ok (.aload_n 0, 1) := by decide +kernel
theorem dX8_step_206 : decode cX8_step 206 = .ok (.getfield 120, 3) := by decide +kernel
theorem dX8_step_209 : decode cX8_step 209 = .ok (.bipush 10, 2) := by decide +kernel
theorem dX8_step_211 : decode cX8_step 211 = .ok (.if_icmp .lt 29, 3) := by decide +kernel
theorem dX8_step_214 : decode cX8_step 214 = .ok (.aload_n 0, 1) := by decide +kernel
theorem dX8_step_215 : decode cX8_step 215 = .ok (.invokevirtual 163, 3) := by decide +kernel
theorem dX8_step_218 : decode cX8_step 218 = .ok (.ifCond .ne 22, 3) := by decide +kernel
theorem dX8_step_221 : decode cX8_step 221 = .ok (.aload_n 0, 1) := by decide +kernel
theorem dX8_step_222 : decode cX8_step 222 = .ok (.dup, 1) := by decide +kernel
theorem dX8_step_223 : decode cX8_step 223 = .ok (.getfield 120, 3) := by decide +kernel
theorem dX8_step_226 : decode cX8_step 226 = .ok (.bipush 10, 2) := by decide +kernel
theorem dX8_step_228 : decode cX8_step 228 = .ok (.isub, 1) := by decide +kernel
theorem dX8_step_229 : decode cX8_step 229 = .ok (.putfield 120, 3) := by decide +kernel
theorem dX8_step_232 : decode cX8_step 232 = .ok (.aload_n 0, 1) := by decide +kernel
theorem dX8_step_233 : decode cX8_step 233 = .ok (.iload_n 2, 1) := by decide +kernel
theorem dX8_step_234 : decode cX8_step 234 = .ok (.invokevirtual 167, 3) := by decide +kernel
theorem dX8_step_237 : decode cX8_step 237 = .ok (.goto (-32), 3) := by decide +kernel
theorem dX8_step_240 : decode cX8_step 240 = .ok (.aload_n 0, 1) := by decide +kernel
theorem dX8_step_241 : decode cX8_step 241 = .ok (.invokevirtual 163, 3) := by decide +kernel
theorem dX8_step_244 : decode cX8_step 244 = .ok (.ifCond .ne 89, 3) := by decide +kernel
theorem dX8_step_247 : decode cX8_step 247 = .ok (.aload_n 0, 1) := by decide +kernel
theorem dX8_step_248 : decode cX8_step 248 = .ok (.iconst 0, 1) := by decide +kernel
theorem dX8_step_249 : decode cX8_step 249 = .ok (.aload_n 0, 1) := by decide +kernel
theorem dX8_step_250 : decode cX8_step 250 = .ok (.getfield 114, 3) := by decide +kernel
theorem dX8_step_253 : decode cX8_step 253 = .ok (.aload_n 0, 1) := by decide +kernel
theorem dX8_step_254 : decode cX8_step 254 = .ok (.getfield 16, 3) := by decide +kernel
theorem dX8_step_257 : decode cX8_step 257 = .ok (.iconst 2, 1) := by decide +kernel
theorem dX8_step_258 : decode cX8_step 258 = .ok (.iaload, 1) := by decide +kernel
theorem dX8_step_259 : decode cX8_step 259 = .ok (.iadd, 1) := by decide +kernel
theorem dX8_step_260 : decode cX8_step 260 = .ok (.aload_n 0, 1) := by decide +kernel
theorem dX8_step_261 : decode cX8_step 261 = .ok (.getfield 16, 3) := by decide +kernel
theorem dX8_step_264 : decode cX8_step 264 = .ok (.iconst 3, 1) := by decide +kernel
theorem dX8_step_265 : decode cX8_step 265 = .ok (.iaload, 1) := by decide +kernel
theorem dX8_step_266 : decode cX8_step 266 = .ok (.bipush 10, 2) := by decide +kernel
theorem dX8_step_268 : decode cX8_step 268 = .ok (.idiv, 1) := by decide +kernel
theorem dX8_step_269 : decode cX8_step 269 = .ok (.isub, 1) := by decide +kernel
theorem dX8_step_270 : decode cX8_step 270 = .ok (.invokestatic 173, 3) := by decide +kernel
theorem dX8_step_273 : decode cX8_step 273 = .ok (.putfield 114, 3) := by decide +kernel
theorem dX8_step_276 : decode cX8_step 276 = .ok (.aload_n 0, 1) := by decide +kernel
theorem dX8_step_277 : decode cX8_step 277 = .ok (.getfield 114, 3) := by decide +kernel
theorem dX8_step_280 : decode cX8_step 280 = .ok (.bipush 100, 2) := by decide +kernel
theorem dX8_step_282 : decode cX8_step 282 = .ok (.if_icmp .lt 18, 3) := by decide +kernel
theorem dX8_step_285 : decode cX8_step 285 = .ok (.aload_n 0, 1) := by decide +kernel
theorem dX8_step_286 : decode cX8_step 286 = .ok (.bipush 100, 2) := by decide +kernel
theorem dX8_step_288 : decode cX8_step 288 = .ok (.putfield 114, 3) := by decide +kernel
theorem dX8_step_291 : decode cX8_step 291 = .ok (.aload_n 0, 1) := by decide +kernel
theorem dX8_step_292 : decode cX8_step 292 = .ok (.bipush 7, 2) := by decide +kernel
theorem dX8_step_294 : decode cX8_step 294 = .ok (.invokevirtual 160, 3) := by decide +kernel
theorem dX8_step_297 : decode cX8_step 297 = .ok (.goto 36, 3) := by decide +kernel
theorem dX8_step_300 : decode cX8_step 300 = .ok (.aload_n 0, 1) := by decide +kernel
theorem dX8_step_301 : decode cX8_step 301 = .ok (.getfield 105, 3) := by decide +kernel
theorem dX8_step_304 : decode cX8_step 304 = .ok (.iconst 4, 1) := by decide +kernel
theorem dX8_step_305 : decode cX8_step 305 = .ok (.if_icmp .eq 28, 3) := by decide +kernel
theorem dX8_step_308 : decode cX8_step 308 = .ok (.aload_n 0, 1) := by decide +kernel
theorem dX8_step_309 : decode cX8_step 309 = .ok (.iload_n 3, 1) := by decide +kernel
theorem dX8_step_310 : decode cX8_step 310 = .ok (.ifCond .le 19, 3) := by decide +kernel
theorem dX8_step_313 : decode cX8_step 313 = .ok (.aload_n 0, 1) := by decide +kernel
theorem dX8_step_314 : decode cX8_step 314 = .ok (.getfield 129, 3) := by decide +kernel
theorem dX8_step_317 : decode cX8_step 317 = .ok (.iload_n 1, 1) := by decide +kernel
theorem dX8_step_318 : decode cX8_step 318 = .ok (.invokestatic 170, 3) := by decide +kernel
theorem dX8_step_321 : decode cX8_step 321 = .ok (.iconst 2, 1) := by decide +kernel
theorem dX8_step_322 : decode cX8_step 322 = .ok (.if_icmp .ge 7, 3) := by decide +kernel
theorem dX8_step_325 : decode cX8_step 325 = .ok (.iconst 0, 1) := by decide +kernel
theorem dX8_step_326 : decode cX8_step 326 = .ok (.goto 4, 3) := by decide +kernel
theorem dX8_step_329 : decode cX8_step 329 = .ok (.iconst 1, 1) := by decide +kernel
theorem dX8_step_330 : decode cX8_step 330 = .ok (.putfield 105, 3) := by decide +kernel
theorem dX8_step_333 : decode cX8_step 333 = .ok (.aload_n 0, 1) := by decide +kernel
theorem dX8_step_334 : decode cX8_step 334 = .ok (.dup, 1) := by decide +kernel
theorem dX8_step_335 : decode cX8_step 335 = .ok (.getfield 77, 3) := by decide +kernel
theorem dX8_step_338 : decode cX8_step 338 = .ok (.iconst 1, 1) := by decide +kernel
theorem dX8_step_339 : decode cX8_step 339 = .ok (.iadd, 1) := by decide +kernel
theorem dX8_step_340 : decode cX8_step 340 = .ok (.putfield 77, 3) := by decide +kernel
theorem dX8_step_343 : decode cX8_step 343 = .ok (.return_, 1) := by decide +kernel
theorem dX8_run_0 : decode cX8_run 0 = .ok (.iload_n 1, 1) := by decide +kernel
theorem dX8_run_1 : decode cX8_run 1 = .ok (.iconst 1, 1) := by decide +kernel
theorem dX8_run_2 : decode cX8_run 2 = .ok (.if_icmp .ge 10, 3) := by decide +kernel
theorem dX8_run_5 : decode cX8_run 5 = .ok (.aload_n 0, 1) := by decide +kernel
theorem dX8_run_6 : decode cX8_run 6 = .ok (.bipush (-4), 2) := by decide +kernel
theorem dX8_run_8 : decode cX8_run 8 = .ok (.invokevirtual 59, 3) := by decide +kernel
theorem dX8_run_11 : decode cX8_run 11 = .ok (.ireturn, 1) := by decide +kernel
theorem dX8_run_12 : decode cX8_run 12 = .ok (.iload_n 1, 1) := by decide +kernel
theorem dX8_run_13 : decode cX8_run 13 = .ok (.bipush 99, 2) := by decide +kernel
theorem dX8_run_15 : decode cX8_run 15 = .ok (.if_icmp .le 10, 3) := by decide +kernel
theorem dX8_run_18 : decode cX8_run 18 = .ok (.aload_n 0, 1) := by decide +kernel
theorem dX8_run_19 : decode cX8_run 19 = .ok (.bipush (-6), 2) := by decide +kernel
theorem dX8_run_21 : decode cX8_run 21 = .ok (.invokevirtual 59, 3) := by decide +kernel
theorem dX8_run_24 : decode cX8_run 24 = .ok (.ireturn, 1) := by decide +kernel
theorem dX8_run_25 : decode cX8_run 25 = .ok (.aload_n 0, 1) := by decide +kernel
theorem dX8_run_26 : decode cX8_run 26 = .ok (.getfield 73, 3) := by decide +kernel
theorem dX8_run_29 : decode cX8_run 29 = .ok (.ifCond .ne 10, 3) := by decide +kernel
theorem dX8_run_32 : decode cX8_run 32 = .ok (.aload_n 0, 1) := by decide +kernel
theorem dX8_run_33 : decode cX8_run 33 = .ok (.bipush (-3), 2) := by decide +kernel
theorem dX8_run_35 : decode cX8_run 35 = .ok (.invokevirtual 59, 3) := by decide +kernel
theorem dX8_run_38 : decode cX8_run 38 = .ok (.ireturn, 1) := by decide +kernel
theorem dX8_run_39 : decode cX8_run 39 = .ok (.iconst 0, 1) := by decide +kernel
theorem dX8_run_40 : decode cX8_run 40 = .ok (.istore_n 2, 1) := by decide +kernel
theorem dX8_run_41 : decode cX8_run 41 = .ok (.iload_n 2, 1) := by decide +kernel
theorem dX8_run_42 : decode cX8_run 42 = .ok (.iload_n 1, 1) := by decide +kernel
theorem dX8_run_43 : decode cX8_run 43 = .ok (.if_icmp .ge 13, 3) := by decide +kernel
theorem dX8_run_46 : decode cX8_run 46 = .ok (.aload_n 0, 1) := by decide +kernel
theorem dX8_run_47 : decode cX8_run 47 = .ok (.invokevirtual 176, 3) := by decide +kernel
theorem dX8_run_50 : decode cX8_run 50 = .ok (.iinc 2 1, 3) := by decide +kernel
theorem dX8_run_53 : decode cX8_run 53 = .ok (.goto (-12), 3) := by decide +kernel
theorem dX8_run_56 : decode cX8_run 56 = .ok (.aload_n 0, 1) := by decide +kernel
theorem dX8_run_57 : decode cX8_run 57 = .ok (.getfield 105, 3) := by decide +kernel
theorem dX8_run_60 : decode cX8_run 60 = .ok (.ireturn, 1) := by decide +kernel
theorem dX8_mayTurn_0 : decode cX8_mayTurn 0 = .ok (.aload_n 0, 1) := by decide +kernel
theorem dX8_mayTurn_1 : decode cX8_mayTurn 1 = .ok (.getfield 73, 3) := by decide +kernel
theorem dX8_mayTurn_4 : decode cX8_mayTurn 4 = .ok (.ifCond .eq 43, 3) := by decide +kernel
theorem dX8_mayTurn_7 : decode cX8_mayTurn 7 = .ok (.aload_n 0, 1) := by decide +kernel
theorem dX8_mayTurn_8 : decode cX8_mayTurn 8 = .ok (.invokevirtual 163, 3) := by decide +kernel
theorem dX8_mayTurn_11 : decode cX8_mayTurn 11 = .ok (.ifCond .ne 36, 3) := by decide +kernel
theorem dX8_mayTurn_14 : decode cX8_mayTurn 14 = .ok (.aload_n 0, 1) := by decide +kernel
theorem dX8_mayTurn_15 : decode cX8_mayTurn 15 = .ok (.getfield 105, 3) := by decide +kernel
theorem dX8_mayTurn_18 : decode cX8_mayTurn 18 = .ok (.iconst 4, 1) := by decide +kernel
theorem dX8_mayTurn_19 : decode cX8_mayTurn 19 = .ok (.if_icmp .eq 28, 3) := by decide +kernel
theorem dX8_mayTurn_22 : decode cX8_mayTurn 22 = .ok (.iload_n 1, 1) := by decide +kernel
theorem dX8_mayTurn_23 : decode cX8_mayTurn 23 = .ok (.aload_n 0, 1) := by decide +kernel
theorem dX8_mayTurn_24 : decode cX8_mayTurn 24 = .ok (.aload_n 0, 1) := by decide +kernel
theorem dX8_mayTurn_25 : decode cX8_mayTurn 25 = .ok (.getfield 77, 3) := by decide +kernel
theorem dX8_mayTurn_28 : decode cX8_mayTurn 28 = .ok (.invokevirtual 126, 3) := by decide +kernel
theorem dX8_mayTurn_31 : decode cX8_mayTurn 31 = .ok (.invokestatic 170, 3) := by decide +kernel
theorem dX8_mayTurn_34 : decode cX8_mayTurn 34 = .ok (.aload_n 0, 1) := by decide +kernel
theorem dX8_mayTurn_35 : decode cX8_mayTurn 35 = .ok (.getfield 16, 3) := by decide +kernel
theorem dX8_mayTurn_38 : decode cX8_mayTurn 38 = .ok (.iconst 4, 1) := by decide +kernel
theorem dX8_mayTurn_39 : decode cX8_mayTurn 39 = .ok (.iaload, 1) := by decide +kernel
theorem dX8_mayTurn_40 : decode cX8_mayTurn 40 = .ok (.if_icmp .lt 7, 3) := by decide +kernel
theorem dX8_mayTurn_43 : decode cX8_mayTurn 43 = .ok (.iconst 1, 1) := by decide +kernel
theorem dX8_mayTurn_44 : decode cX8_mayTurn 44 = .ok (.goto 4, 3) := by decide +kernel
theorem dX8_mayTurn_47 : decode cX8_mayTurn 47 = .ok (.iconst 0, 1) := by decide +kernel
theorem dX8_mayTurn_48 : decode cX8_mayTurn 48 = .ok (.ireturn, 1) := by decide +kernel
theorem dX8_through_0 : decode cX8_through 0 = .ok (.iload_n 1, 1) := by decide +kernel
theorem dX8_through_1 : decode cX8_through 1 = .ok (.aload_n 0, 1) := by decide +kernel
theorem dX8_through_2 : decode cX8_through 2 = .ok (.getfield 129, 3) := by decide +kernel
theorem dX8_through_5 : decode cX8_through 5 = .ok (.isub, 1) := by decide +kernel
theorem dX8_through_6 : decode cX8_through 6 = .ok (.bipush 8, 2) := by decide +kernel
theorem dX8_through_8 : decode cX8_through 8 = .ok (.iadd, 1) := by decide +kernel
theorem dX8_through_9 : decode cX8_through 9 = .ok (.bipush 8, 2) := by decide +kernel
theorem dX8_through_11 : decode cX8_through 11 = .ok (.irem, 1) := by decide +kernel
theorem dX8_through_12 : decode cX8_through 12 = .ok (.istore_n 2, 1) := by decide +kernel
theorem dX8_through_13 : decode cX8_through 13 = .ok (.aload_n 0, 1) := by decide +kernel
theorem dX8_through_14 : decode cX8_through 14 = .ok (.aload_n 0, 1) := by decide +kernel
theorem dX8_through_15 : decode cX8_through 15 = .ok (.getfield 77, 3) := by decide +kernel
theorem dX8_through_18 : decode cX8_through 18 = .ok (.invokevirtual 126, 3) := by decide +kernel
theorem dX8_through_21 : decode cX8_through 21 = .ok (.aload_n 0, 1) := by decide +kernel
theorem dX8_through_22 : decode cX8_through 22 = .ok (.getfield 129, 3) := by decide +kernel
theorem dX8_through_25 : decode cX8_through 25 = .ok (.isub, 1) := by decide +kernel
theorem dX8_through_26 : decode cX8_through 26 = .ok (.bipush 8, 2) := by decide +kernel
theorem dX8_through_28 : decode cX8_through 28 = .ok (.iadd, 1) := by decide +kernel
theorem dX8_through_29 : decode cX8_through 29 = .ok (.bipush 8, 2) := by decide +kernel
theorem dX8_through_31 : decode cX8_through 31 = .ok (.irem, 1) := by decide +kernel
theorem dX8_through_32 : decode cX8_through 32 = .ok (.istore_n 3, 1) := by decide +kernel
theorem dX8_through_33 : decode cX8_through 33 = .ok (.iload_n 2, 1) := by decide +kernel
theorem dX8_through_34 : decode cX8_through 34 = .ok (.iconst 4, 1) := by decide +kernel
theorem dX8_through_35 : decode cX8_through 35 = .ok (.if_icmp .eq 7, 3) := by decide +kernel
theorem dX8_through_38 : decode cX8_through 38 = .ok (.iload_n 3, 1) := by decide +kernel
theorem dX8_through_39 : decode cX8_through 39 = .ok (.ifCond .ne 5, 3) := by decide +kernel
theorem dX8_through_42 : decode cX8_through 42 = .ok (.iconst 0, 1) := by decide +kernel
theorem dX8_through_43 : decode cX8_through 43 = .ok (.ireturn, 1) := by decide +kernel
theorem dX8_through_44 : decode cX8_through 44 = .ok (.iload_n 2, 1) := by decide +kernel
theorem dX8_through_45 : decode cX8_through 45 = .ok (.iconst 4, 1) := by decide +kernel
theorem dX8_through_46 : decode cX8_through 46 = .ok (.if_icmp .ge 16, 3) := by decide +kernel
theorem dX8_through_49 : decode cX8_through 49 = .ok (.iload_n 3, 1) := by decide +kernel
theorem dX8_through_50 : decode cX8_through 50 = .ok (.iload_n 2, 1) := by decide +kernel
theorem dX8_through_51 : decode cX8_through 51 = .ok (.if_icmp .ge 7, 3) := by decide +kernel
theorem dX8_through_54 : decode cX8_through 54 = .ok (.iconst 1, 1) := by decide +kernel
theorem dX8_through_55 : decode cX8_through 55 = .ok (.goto 17, 3) := by decide +kernel
theorem dX8_through_58 : decode cX8_through 58 = .ok (.iconst 0, 1) := by decide +kernel
theorem dX8_through_59 : decode cX8_through 59 = .ok (.goto 13, 3) := by decide +kernel
theorem dX8_through_62 : decode cX8_through 62 = .ok (.iload_n 3, 1) := by decide +kernel
theorem dX8_through_63 : decode cX8_through 63 = .ok (.iload_n 2, 1) := by decide +kernel
theorem dX8_through_64 : decode cX8_through 64 = .ok (.if_icmp .le 7, 3) := by decide +kernel
theorem dX8_through_67 : decode cX8_through 67 = .ok (.iconst 1, 1) := by decide +kernel
theorem dX8_through_68 : decode cX8_through 68 = .ok (.goto 4, 3) := by decide +kernel
theorem dX8_through_71 : decode cX8_through 71 = .ok (.iconst 0, 1) := by decide +kernel
theorem dX8_through_72 : decode cX8_through 72 = .ok (.ireturn, 1) := by decide +kernel
theorem dX8_head_0 : decode cX8_head 0 = .ok (.iload_n 1, 1) := by decide +kernel
theorem dX8_head_1 : decode cX8_head 1 = .ok (.invokestatic 84, 3) := by decide +kernel
theorem dX8_head_4 : decode cX8_head 4 = .ok (.ifCond .ne 9, 3) := by decide +kernel
theorem dX8_head_7 : decode cX8_head 7 = .ok (.aload_n 0, 1) := by decide +kernel
theorem dX8_head_8 : decode cX8_head 8 = .ok (.iconst (-1), 1) := by decide +kernel
theorem dX8_head_9 : decode cX8_head 9 = .ok (.invokevirtual 59, 3) := by decide +kernel
theorem dX8_head_12 : decode cX8_head 12 = .ok (.ireturn, 1) := by decide +kernel
theorem dX8_head_13 : decode cX8_head 13 = .ok (.aload_n 0, 1) := by decide +kernel
theorem dX8_head_14 : decode cX8_head 14 = .ok (.iload_n 1, 1) := by decide +kernel
theorem dX8_head_15 : decode cX8_head 15 = .ok (.invokevirtual 179, 3) := by decide +kernel
theorem dX8_head_18 : decode cX8_head 18 = .ok (.ifCond .eq 21, 3) := by decide +kernel
theorem dX8_head_21 : decode cX8_head 21 = .ok (.aload_n 0, 1) := by decide +kernel
theorem dX8_head_22 : decode cX8_head 22 = .ok (.getfield 16, 3) := by decide +kernel
theorem dX8_head_25 : decode cX8_head 25 = .ok (.iconst 0, 1) := by decide +kernel
theorem dX8_head_26 : decode cX8_head 26 = .ok (.iaload, 1) := by decide +kernel
theorem dX8_head_27 : decode cX8_head 27 = .ok (.iconst 5, 1) := by decide +kernel
theorem dX8_head_28 : decode cX8_head 28 = .ok (.if_icmp .le 18, 3) := by decide +kernel
theorem dX8_head_31 : decode cX8_head 31 = .ok (.aload_n 0, 1) := by decide +kernel
theorem dX8_head_32 : decode cX8_head 32 = .ok (.iload_n 1, 1) := by decide +kernel
theorem dX8_head_33 : decode cX8_head 33 = .ok (.invokevirtual 182, 3) := by decide +kernel
theorem dX8_head_36 : decode cX8_head 36 = .ok (.ifCond .eq 10, 3) := by decide +kernel
theorem dX8_head_39 : decode cX8_head 39 = .ok (.aload_n 0, 1) := by decide +kernel
theorem dX8_head_40 : decode cX8_head 40 = .ok (.bipush (-3), 2) := by decide +kernel
theorem dX8_head_42 : decode cX8_head 42 = .ok (.invokevirtual 59, 3) := by decide +kernel
theorem dX8_head_45 : decode cX8_head 45 = .ok (.ireturn, 1) := by decide +kernel
theorem dX8_head_46 : decode cX8_head 46 = .ok (.aload_n 0, 1) := by decide +kernel
theorem dX8_head_47 : decode cX8_head 47 = .ok (.iload_n 1, 1) := by decide +kernel
theorem dX8_head_48 : decode cX8_head 48 = .ok (.putfield 129, 3) := by decide +kernel
theorem dX8_head_51 : decode cX8_head 51 = .ok (.aload_n 0, 1) := by decide +kernel
theorem dX8_head_52 : decode cX8_head 52 = .ok (.getfield 129, 3) := by decide +kernel
theorem dX8_head_55 : decode cX8_head 55 = .ok (.aload_n 0, 1) := by decide +kernel
theorem dX8_head_56 : decode cX8_head 56 = .ok (.aload_n 0, 1) := by decide +kernel
theorem dX8_head_57 : decode cX8_head 57 = .ok (.getfield 77, 3) := by decide +kernel
theorem dX8_head_60 : decode cX8_head 60 = .ok (.invokevirtual 126, 3) := by decide +kernel
theorem dX8_head_63 : decode cX8_head 63 = .ok (.invokestatic 170, 3) := by decide +kernel
theorem dX8_head_66 : decode cX8_head 66 = .ok (.ireturn, 1) := by decide +kernel
theorem dX8_wears_0 : decode cX8_wears 0 = .ok (.aload_n 0, 1) := by decide +kernel
theorem dX8_wears_1 : decode cX8_wears 1 = .ok (.iload_n 1, 1) := by decide +kernel
theorem dX8_wears_2 : decode cX8_wears 2 = .ok (.putfield 129, 3) := by decide +kernel
theorem dX8_wears_5 : decode cX8_wears 5 = .ok (.aload_n 0, 1) := by decide +kernel
theorem dX8_wears_6 : decode cX8_wears 6 = .ok (.aload_n 0, 1) := by decide +kernel
theorem dX8_wears_7 : decode cX8_wears 7 = .ok (.aload_n 0, 1) := by decide +kernel
theorem dX8_wears_8 : decode cX8_wears 8 = .ok (.getfield 77, 3) := by decide +kernel
theorem dX8_wears_11 : decode cX8_wears 11 = .ok (.invokevirtual 126, 3) := by decide +kernel
theorem dX8_wears_14 : decode cX8_wears 14 = .ok (.iconst 4, 1) := by decide +kernel
theorem dX8_wears_15 : decode cX8_wears 15 = .ok (.iadd, 1) := by decide +kernel
theorem dX8_wears_16 : decode cX8_wears 16 = .ok (.bipush 8, 2) := by decide +kernel
theorem dX8_wears_18 : decode cX8_wears 18 = .ok (.irem, 1) := by decide +kernel
theorem dX8_wears_19 : decode cX8_wears 19 = .ok (.invokevirtual 167, 3) := by decide +kernel
theorem dX8_wears_22 : decode cX8_wears 22 = .ok (.aload_n 0, 1) := by decide +kernel
theorem dX8_wears_23 : decode cX8_wears 23 = .ok (.invokevirtual 163, 3) := by decide +kernel
theorem dX8_wears_26 : decode cX8_wears 26 = .ok (.ifCond .ne 8, 3) := by decide +kernel
theorem dX8_wears_29 : decode cX8_wears 29 = .ok (.aload_n 0, 1) := by decide +kernel
theorem dX8_wears_30 : decode cX8_wears 30 = .ok (.iconst 2, 1) := by decide +kernel
theorem dX8_wears_31 : decode cX8_wears 31 = .ok (.putfield 105, 3) := by decide +kernel
theorem dX8_wears_34 : decode cX8_wears 34 = .ok (.return_, 1) := by decide +kernel
theorem dX8_wear_0 : decode cX8_wear 0 = .ok (.iload_n 1, 1) := by decide +kernel
theorem dX8_wear_1 : decode cX8_wear 1 = .ok (.invokestatic 84, 3) := by decide +kernel
theorem dX8_wear_4 : decode cX8_wear 4 = .ok (.ifCond .ne 9, 3) := by decide +kernel
theorem dX8_wear_7 : decode cX8_wear 7 = .ok (.aload_n 0, 1) := by decide +kernel
theorem dX8_wear_8 : decode cX8_wear 8 = .ok (.iconst (-1), 1) := by decide +kernel
theorem dX8_wear_9 : decode cX8_wear 9 = .ok (.invokevirtual 59, 3) := by decide +kernel
theorem dX8_wear_12 : decode cX8_wear 12 = .ok (.ireturn, 1) := by decide +kernel
theorem dX8_wear_13 : decode cX8_wear 13 = .ok (.aload_n 0, 1) := by decide +kernel
theorem dX8_wear_14 : decode cX8_wear 14 = .ok (.iload_n 1, 1) := by decide +kernel
theorem dX8_wear_15 : decode cX8_wear 15 = .ok (.invokevirtual 179, 3) := by decide +kernel
theorem dX8_wear_18 : decode cX8_wear 18 = .ok (.ifCond .ne 10, 3) := by decide +kernel
theorem dX8_wear_21 : decode cX8_wear 21 = .ok (.aload_n 0, 1) := by decide +kernel
theorem dX8_wear_22 : decode cX8_wear 22 = .ok (.bipush (-3), 2) := by decide +kernel
theorem dX8_wear_24 : decode cX8_wear 24 = .ok (.invokevirtual 59, 3) := by decide +kernel
theorem dX8_wear_27 : decode cX8_wear 27 = .ok (.ireturn, 1) := by decide +kernel
theorem dX8_wear_28 : decode cX8_wear 28 = .ok (.aload_n 0, 1) := by decide +kernel
theorem dX8_wear_29 : decode cX8_wear 29 = .ok (.iload_n 1, 1) := by decide +kernel
theorem dX8_wear_30 : decode cX8_wear 30 = .ok (.invokevirtual 185, 3) := by decide +kernel
theorem dX8_wear_33 : decode cX8_wear 33 = .ok (.aload_n 0, 1) := by decide +kernel
theorem dX8_wear_34 : decode cX8_wear 34 = .ok (.getfield 105, 3) := by decide +kernel
theorem dX8_wear_37 : decode cX8_wear 37 = .ok (.ireturn, 1) := by decide +kernel
theorem dX8_haul_0 : decode cX8_haul 0 = .ok (.iload_n 1, 1) := by decide +kernel
theorem dX8_haul_1 : decode cX8_haul 1 = .ok (.invokestatic 84, 3) := by decide +kernel
theorem dX8_haul_4 : decode cX8_haul 4 = .ok (.ifCond .ne 9, 3) := by decide +kernel
theorem dX8_haul_7 : decode cX8_haul 7 = .ok (.aload_n 0, 1) := by decide +kernel
theorem dX8_haul_8 : decode cX8_haul 8 = .ok (.iconst (-1), 1) := by decide +kernel
theorem dX8_haul_9 : decode cX8_haul 9 = .ok (.invokevirtual 59, 3) := by decide +kernel
theorem dX8_haul_12 : decode cX8_haul 12 = .ok (.ireturn, 1) := by decide +kernel
theorem dX8_haul_13 : decode cX8_haul 13 = .ok (.aload_n 0, 1) := by decide +kernel
theorem dX8_haul_14 : decode cX8_haul 14 = .ok (.iload_n 1, 1) := by decide +kernel
theorem dX8_haul_15 : decode cX8_haul 15 = .ok (.invokevirtual 179, 3) := by decide +kernel
theorem dX8_haul_18 : decode cX8_haul 18 = .ok (.ifCond .eq 10, 3) := by decide +kernel
theorem dX8_haul_21 : decode cX8_haul 21 = .ok (.aload_n 0, 1) := by decide +kernel
theorem dX8_haul_22 : decode cX8_haul 22 = .ok (.getfield 111, 3) := by decide +kernel
theorem dX8_haul_25 : decode cX8_haul 25 = .ok (.ifCond .ne 10, 3) := by decide +kernel
theorem dX8_haul_28 : decode cX8_haul 28 = .ok (.aload_n 0, 1) := by decide +kernel
theorem dX8_haul_29 : decode cX8_haul 29 = .ok (.bipush (-3), 2) := by decide +kernel
theorem dX8_haul_31 : decode cX8_haul 31 = .ok (.invokevirtual 59, 3) := by decide +kernel
theorem dX8_haul_34 : decode cX8_haul 34 = .ok (.ireturn, 1) := by decide +kernel
theorem dX8_haul_35 : decode cX8_haul 35 = .ok (.aload_n 0, 1) := by decide +kernel
theorem dX8_haul_36 : decode cX8_haul 36 = .ok (.iload_n 1, 1) := by decide +kernel
theorem dX8_haul_37 : decode cX8_haul 37 = .ok (.putfield 129, 3) := by decide +kernel
theorem dX8_haul_40 : decode cX8_haul 40 = .ok (.aload_n 0, 1) := by decide +kernel
theorem dX8_haul_41 : decode cX8_haul 41 = .ok (.iconst 3, 1) := by decide +kernel
theorem dX8_haul_42 : decode cX8_haul 42 = .ok (.putfield 105, 3) := by decide +kernel
theorem dX8_haul_45 : decode cX8_haul 45 = .ok (.aload_n 0, 1) := by decide +kernel
theorem dX8_haul_46 : decode cX8_haul 46 = .ok (.dup, 1) := by decide +kernel
theorem dX8_haul_47 : decode cX8_haul 47 = .ok (.getfield 111, 3) := by decide +kernel
theorem dX8_haul_50 : decode cX8_haul 50 = .ok (.iconst 1, 1) := by decide +kernel
theorem dX8_haul_51 : decode cX8_haul 51 = .ok (.isub, 1) := by decide +kernel
theorem dX8_haul_52 : decode cX8_haul 52 = .ok (.dup_x1, 1) := by decide +kernel
theorem dX8_haul_53 : decode cX8_haul 53 = .ok (.putfield 111, 3) := by decide +kernel
theorem dX8_haul_56 : decode cX8_haul 56 = .ok (.ireturn, 1) := by decide +kernel
theorem dX8_sail_0 : decode cX8_sail 0 = .ok (.iload_n 1, 1) := by decide +kernel
theorem dX8_sail_1 : decode cX8_sail 1 = .ok (.ifCond .ge 10, 3) := by decide +kernel
theorem dX8_sail_4 : decode cX8_sail 4 = .ok (.aload_n 0, 1) := by decide +kernel
theorem dX8_sail_5 : decode cX8_sail 5 = .ok (.bipush (-4), 2) := by decide +kernel
theorem dX8_sail_7 : decode cX8_sail 7 = .ok (.invokevirtual 59, 3) := by decide +kernel
theorem dX8_sail_10 : decode cX8_sail 10 = .ok (.ireturn, 1) := by decide +kernel
theorem dX8_sail_11 : decode cX8_sail 11 = .ok (.iload_n 1, 1) := by decide +kernel
theorem dX8_sail_12 : decode cX8_sail 12 = .ok (.iconst 3, 1) := by decide +kernel
theorem dX8_sail_13 : decode cX8_sail 13 = .ok (.if_icmp .le 10, 3) := by decide +kernel
theorem dX8_sail_16 : decode cX8_sail 16 = .ok (.aload_n 0, 1) := by decide +kernel
theorem dX8_sail_17 : decode cX8_sail 17 = .ok (.bipush (-6), 2) := by decide +kernel
theorem dX8_sail_19 : decode cX8_sail 19 = .ok (.invokevirtual 59, 3) := by decide +kernel
theorem dX8_sail_22 : decode cX8_sail 22 = .ok (.ireturn, 1) := by decide +kernel
theorem dX8_sail_23 : decode cX8_sail 23 = .ok (.aload_n 0, 1) := by decide +kernel
theorem dX8_sail_24 : decode cX8_sail 24 = .ok (.getfield 73, 3) := by decide +kernel
theorem dX8_sail_27 : decode cX8_sail 27 = .ok (.ifCond .eq 10, 3) := by decide +kernel
theorem dX8_sail_30 : decode cX8_sail 30 = .ok (.aload_n 0, 1) := by decide +kernel
theorem dX8_sail_31 : decode cX8_sail 31 = .ok (.invokevirtual 163, 3) := by decide +kernel
theorem dX8_sail_34 : decode cX8_sail 34 = .ok (.ifCond .eq 10, 3) := by decide +kernel
theorem dX8_sail_37 : decode cX8_sail 37 = .ok (.aload_n 0, 1) := by decide +kernel
theorem dX8_sail_38 : decode cX8_sail 38 = .ok (.bipush (-3), 2) := by decide +kernel
theorem dX8_sail_40 : decode cX8_sail 40 = .ok (.invokevirtual 59, 3) := by decide +kernel
theorem dX8_sail_43 : decode cX8_sail 43 = .ok (.ireturn, 1) := by decide +kernel
theorem dX8_sail_44 : decode cX8_sail 44 = .ok (.aload_n 0, 1) := by decide +kernel
theorem dX8_sail_45 : decode cX8_sail 45 = .ok (.getfield 123, 3) := by decide +kernel
theorem dX8_sail_48 : decode cX8_sail 48 = .ok (.istore_n 2, 1) := by decide +kernel
theorem dX8_sail_49 : decode cX8_sail 49 = .ok (.aload_n 0, 1) := by decide +kernel
theorem dX8_sail_50 : decode cX8_sail 50 = .ok (.iload_n 1, 1) := by decide +kernel
theorem dX8_sail_51 : decode cX8_sail 51 = .ok (.putfield 123, 3) := by decide +kernel
theorem dX8_sail_54 : decode cX8_sail 54 = .ok (.iload_n 2, 1) := by decide +kernel
theorem dX8_sail_55 : decode cX8_sail 55 = .ok (.ireturn, 1) := by decide +kernel
theorem dX8_mayAnchor_0 : decode cX8_mayAnchor 0 = .ok (.aload_n 0, 1) := by decide +kernel
theorem dX8_mayAnchor_1 : decode cX8_mayAnchor 1 = .ok (.getfield 73, 3) := by decide +kernel
theorem dX8_mayAnchor_4 : decode cX8_mayAnchor 4 = .ok (.ifCond .eq 29, 3) := by decide +kernel
theorem dX8_mayAnchor_7 : decode cX8_mayAnchor 7 = .ok (.aload_n 0, 1) := by decide +kernel
theorem dX8_mayAnchor_8 : decode cX8_mayAnchor 8 = .ok (.invokevirtual 163, 3) := by decide +kernel
theorem dX8_mayAnchor_11 : decode cX8_mayAnchor 11 = .ok (.ifCond .ne 22, 3) := by decide +kernel
theorem dX8_mayAnchor_14 : decode cX8_mayAnchor 14 = .ok (.aload_n 0, 1) := by decide +kernel
theorem dX8_mayAnchor_15 : decode cX8_mayAnchor 15 = .ok (.getfield 105, 3) := by decide +kernel
theorem dX8_mayAnchor_18 : decode cX8_mayAnchor 18 = .ok (.iconst 4, 1) := by decide +kernel
theorem dX8_mayAnchor_19 : decode cX8_mayAnchor 19 = .ok (.if_icmp .eq 14, 3) := by decide +kernel
theorem dX8_mayAnchor_22 : decode cX8_mayAnchor 22 = .ok (.aload_n 0, 1) := by decide +kernel
theorem dX8_mayAnchor_23 : decode cX8_mayAnchor 23 = .ok (.getfield 111, 3) := by decide +kernel
theorem dX8_mayAnchor_26 : decode cX8_mayAnchor 26 = .ok (.ifCond .le 7, 3) := by decide +kernel
theorem dX8_mayAnchor_29 : decode cX8_mayAnchor 29 = .ok (.iconst 1, 1) := by decide +kernel
theorem dX8_mayAnchor_30 : decode cX8_mayAnchor 30 = .ok (.goto 4, 3) := by decide +kernel
theorem dX8_mayAnchor_33 : decode cX8_mayAnchor 33 = .ok (.iconst 0, 1) := by decide +kernel
theorem dX8_mayAnchor_34 : decode cX8_mayAnchor 34 = .ok (.ireturn, 1) := by decide +kernel
theorem dX8_anchor_0 : decode cX8_anchor 0 = .ok (.aload_n 0, 1) := by decide +kernel
theorem dX8_anchor_1 : decode cX8_anchor 1 = .ok (.invokevirtual 188, 3) := by decide +kernel
theorem dX8_anchor_4 : decode cX8_anchor 4 = .ok (.ifCond .ne 10, 3) := by decide +kernel
theorem dX8_anchor_7 : decode cX8_anchor 7 = .ok (.aload_n 0, 1) := by decide +kernel
theorem dX8_anchor_8 : decode cX8_anchor 8 = .ok (.bipush (-3), 2) := by decide +kernel
theorem dX8_anchor_10 : decode cX8_anchor 10 = .ok (.invokevirtual 59, 3) := by decide +kernel
theorem dX8_anchor_13 : decode cX8_anchor 13 = .ok (.ireturn, 1) := by decide +kernel
theorem dX8_anchor_14 : decode cX8_anchor 14 = .ok (.aload_n 0, 1) := by decide +kernel
theorem dX8_anchor_15 : decode cX8_anchor 15 = .ok (.iconst 4, 1) := by decide +kernel
theorem dX8_anchor_16 : decode cX8_anchor 16 = .ok (.putfield 105, 3) := by decide +kernel
theorem dX8_anchor_19 : decode cX8_anchor 19 = .ok (.aload_n 0, 1) := by decide +kernel
theorem dX8_anchor_20 : decode cX8_anchor 20 = .ok (.getfield 111, 3) := by decide +kernel
theorem dX8_anchor_23 : decode cX8_anchor 23 = .ok (.ireturn, 1) := by decide +kernel
theorem dX8_cut_0 : decode cX8_cut 0 = .ok (.aload_n 0, 1) := by decide +kernel
theorem dX8_cut_1 : decode cX8_cut 1 = .ok (.getfield 73, 3) := by decide +kernel
theorem dX8_cut_4 : decode cX8_cut 4 = .ok (.ifCond .eq 11, 3) := by decide +kernel
theorem dX8_cut_7 : decode cX8_cut 7 = .ok (.aload_n 0, 1) := by decide +kernel
theorem dX8_cut_8 : decode cX8_cut 8 = .ok (.getfield 105, 3) := by decide +kernel
theorem dX8_cut_11 : decode cX8_cut 11 = .ok (.iconst 4, 1) := by decide +kernel
theorem dX8_cut_12 : decode cX8_cut 12 = .ok (.if_icmp .eq 10, 3) := by decide +kernel
theorem dX8_cut_15 : decode cX8_cut 15 = .ok (.aload_n 0, 1) := by decide +kernel
theorem dX8_cut_16 : decode cX8_cut 16 = .ok (.bipush (-3), 2) := by decide +kernel
theorem dX8_cut_18 : decode cX8_cut 18 = .ok (.invokevirtual 59, 3) := by decide +kernel
theorem dX8_cut_21 : decode cX8_cut 21 = .ok (.ireturn, 1) := by decide +kernel
theorem dX8_cut_22 : decode cX8_cut 22 = .ok (.aload_n 0, 1) := by decide +kernel
theorem dX8_cut_23 : decode cX8_cut 23 = .ok (.iconst 1, 1) := by decide +kernel
theorem dX8_cut_24 : decode cX8_cut 24 = .ok (.putfield 105, 3) := by decide +kernel
theorem dX8_cut_27 : decode cX8_cut 27 = .ok (.aload_n 0, 1) := by decide +kernel
theorem dX8_cut_28 : decode cX8_cut 28 = .ok (.dup, 1) := by decide +kernel
theorem dX8_cut_29 : decode cX8_cut 29 = .ok (.getfield 111, 3) := by decide +kernel
theorem dX8_cut_32 : decode cX8_cut 32 = .ok (.iconst 1, 1) := by decide +kernel
theorem dX8_cut_33 : decode cX8_cut 33 = .ok (.isub, 1) := by decide +kernel
theorem dX8_cut_34 : decode cX8_cut 34 = .ok (.dup_x1, 1) := by decide +kernel
theorem dX8_cut_35 : decode cX8_cut 35 = .ok (.putfield 111, 3) := by decide +kernel
theorem dX8_cut_38 : decode cX8_cut 38 = .ok (.ireturn, 1) := by decide +kernel
theorem dX8_axe_0 : decode cX8_axe 0 = .ok (.aload_n 0, 1) := by decide +kernel
theorem dX8_axe_1 : decode cX8_axe 1 = .ok (.getfield 73, 3) := by decide +kernel
theorem dX8_axe_4 : decode cX8_axe 4 = .ok (.ifCond .eq 17, 3) := by decide +kernel
theorem dX8_axe_7 : decode cX8_axe 7 = .ok (.aload_n 0, 1) := by decide +kernel
theorem dX8_axe_8 : decode cX8_axe 8 = .ok (.invokevirtual 163, 3) := by decide +kernel
theorem dX8_axe_11 : decode cX8_axe 11 = .ok (.ifCond .ne 10, 3) := by decide +kernel
theorem dX8_axe_14 : decode cX8_axe 14 = .ok (.aload_n 0, 1) := by decide +kernel
theorem dX8_axe_15 : decode cX8_axe 15 = .ok (.getfield 108, 3) := by decide +kernel
theorem dX8_axe_18 : decode cX8_axe 18 = .ok (.ifCond .ne 10, 3) := by decide +kernel
theorem dX8_axe_21 : decode cX8_axe 21 = .ok (.aload_n 0, 1) := by decide +kernel
theorem dX8_axe_22 : decode cX8_axe 22 = .ok (.bipush (-3), 2) := by decide +kernel
theorem dX8_axe_24 : decode cX8_axe 24 = .ok (.invokevirtual 59, 3) := by decide +kernel
theorem dX8_axe_27 : decode cX8_axe 27 = .ok (.ireturn, 1) := by decide +kernel
theorem dX8_axe_28 : decode cX8_axe 28 = .ok (.aload_n 0, 1) := by decide +kernel
theorem dX8_axe_29 : decode cX8_axe 29 = .ok (.dup, 1) := by decide +kernel
theorem dX8_axe_30 : decode cX8_axe 30 = .ok (.getfield 108, 3) := by decide +kernel
theorem dX8_axe_33 : decode cX8_axe 33 = .ok (.iconst 1, 1) := by decide +kernel
theorem dX8_axe_34 : decode cX8_axe 34 = .ok (.isub, 1) := by decide +kernel
theorem dX8_axe_35 : decode cX8_axe 35 = .ok (.dup_x1, 1) := by decide +kernel
theorem dX8_axe_36 : decode cX8_axe 36 = .ok (.putfield 108, 3) := by decide +kernel
theorem dX8_axe_39 : decode cX8_axe 39 = .ok (.ireturn, 1) := by decide +kernel
theorem dX8_over_0 : decode cX8_over 0 = .ok (.aload_n 0, 1) := by decide +kernel
theorem dX8_over_1 : decode cX8_over 1 = .ok (.getfield 73, 3) := by decide +kernel
theorem dX8_over_4 : decode cX8_over 4 = .ok (.ifCond .eq 19, 3) := by decide +kernel
theorem dX8_over_7 : decode cX8_over 7 = .ok (.aload_n 0, 1) := by decide +kernel
theorem dX8_over_8 : decode cX8_over 8 = .ok (.invokevirtual 163, 3) := by decide +kernel
theorem dX8_over_11 : decode cX8_over 11 = .ok (.ifCond .ne 12, 3) := by decide +kernel
theorem dX8_over_14 : decode cX8_over 14 = .ok (.aload_n 0, 1) := by decide +kernel
theorem dX8_over_15 : decode cX8_over 15 = .ok (.getfield 16, 3) := by decide +kernel
theorem dX8_over_18 : decode cX8_over 18 = .ok (.iconst 5, 1) := by decide +kernel
theorem dX8_over_19 : decode cX8_over 19 = .ok (.iaload, 1) := by decide +kernel
theorem dX8_over_20 : decode cX8_over 20 = .ok (.ifCond .ne 10, 3) := by decide +kernel
theorem dX8_over_23 : decode cX8_over 23 = .ok (.aload_n 0, 1) := by decide +kernel
theorem dX8_over_24 : decode cX8_over 24 = .ok (.bipush (-3), 2) := by decide +kernel
theorem dX8_over_26 : decode cX8_over 26 = .ok (.invokevirtual 59, 3) := by decide +kernel
theorem dX8_over_29 : decode cX8_over 29 = .ok (.ireturn, 1) := by decide +kernel
theorem dX8_over_30 : decode cX8_over 30 = .ok (.aload_n 0, 1) := by decide +kernel
theorem dX8_over_31 : decode cX8_over 31 = .ok (.getfield 16, 3) := by decide +kernel
theorem dX8_over_34 : decode cX8_over 34 = .ok (.iconst 5, 1) := by decide +kernel
theorem dX8_over_35 : decode cX8_over 35 = .ok (.dup2, 1) := by decide +kernel
theorem dX8_over_36 : decode cX8_over 36 = .ok (.iaload, 1) := by decide +kernel
theorem dX8_over_37 : decode cX8_over 37 = .ok (.iconst 1, 1) := by decide +kernel
theorem dX8_over_38 : decode cX8_over 38 = .ok (.isub, 1) := by decide +kernel
theorem dX8_over_39 : decode cX8_over 39 = .ok (.dup_x2, 1) := by decide +kernel
theorem dX8_over_40 : decode cX8_over 40 = .ok (.iastore, 1) := by decide +kernel
theorem dX8_over_41 : decode cX8_over 41 = .ok (.ireturn, 1) := by decide +kernel
theorem dX8_keep_0 : decode cX8_keep 0 = .ok (.aload_n 0, 1) := by decide +kernel
theorem dX8_keep_1 : decode cX8_keep 1 = .ok (.getfield 40, 3) := by decide +kernel
theorem dX8_keep_4 : decode cX8_keep 4 = .ok (.iconst 0, 1) := by decide +kernel
theorem dX8_keep_5 : decode cX8_keep 5 = .ok (.aload_n 0, 1) := by decide +kernel
theorem dX8_keep_6 : decode cX8_keep 6 = .ok (.getfield 102, 3) := by decide +kernel
theorem dX8_keep_9 : decode cX8_keep 9 = .ok (.iastore, 1) := by decide +kernel
theorem dX8_keep_10 : decode cX8_keep 10 = .ok (.aload_n 0, 1) := by decide +kernel
theorem dX8_keep_11 : decode cX8_keep 11 = .ok (.getfield 40, 3) := by decide +kernel
theorem dX8_keep_14 : decode cX8_keep 14 = .ok (.iconst 1, 1) := by decide +kernel
theorem dX8_keep_15 : decode cX8_keep 15 = .ok (.aload_n 0, 1) := by decide +kernel
theorem dX8_keep_16 : decode cX8_keep 16 = .ok (.getfield 129, 3) := by decide +kernel
theorem dX8_keep_19 : decode cX8_keep 19 = .ok (.iastore, 1) := by decide +kernel
theorem dX8_keep_20 : decode cX8_keep 20 = .ok (.aload_n 0, 1) := by decide +kernel
theorem dX8_keep_21 : decode cX8_keep 21 = .ok (.getfield 40, 3) := by decide +kernel
theorem dX8_keep_24 : decode cX8_keep 24 = .ok (.iconst 2, 1) := by decide +kernel
theorem dX8_keep_25 : decode cX8_keep 25 = .ok (.aload_n 0, 1) := by decide +kernel
theorem dX8_keep_26 : decode cX8_keep 26 = .ok (.getfield 123, 3) := by decide +kernel
theorem dX8_keep_29 : decode cX8_keep 29 = .ok (.iastore, 1) := by decide +kernel
theorem dX8_keep_30 : decode cX8_keep 30 = .ok (.aload_n 0, 1) := by decide +kernel
theorem dX8_keep_31 : decode cX8_keep 31 = .ok (.getfield 40, 3) := by decide +kernel
theorem dX8_keep_34 : decode cX8_keep 34 = .ok (.iconst 3, 1) := by decide +kernel
theorem dX8_keep_35 : decode cX8_keep 35 = .ok (.aload_n 0, 1) := by decide +kernel
theorem dX8_keep_36 : decode cX8_keep 36 = .ok (.getfield 108, 3) := by decide +kernel
theorem dX8_keep_39 : decode cX8_keep 39 = .ok (.iastore, 1) := by decide +kernel
theorem dX8_keep_40 : decode cX8_keep 40 = .ok (.aload_n 0, 1) := by decide +kernel
theorem dX8_keep_41 : decode cX8_keep 41 = .ok (.getfield 40, 3) := by decide +kernel
theorem dX8_keep_44 : decode cX8_keep 44 = .ok (.iconst 4, 1) := by decide +kernel
theorem dX8_keep_45 : decode cX8_keep 45 = .ok (.aload_n 0, 1) := by decide +kernel
theorem dX8_keep_46 : decode cX8_keep 46 = .ok (.getfield 111, 3) := by decide +kernel
theorem dX8_keep_49 : decode cX8_keep 49 = .ok (.iastore, 1) := by decide +kernel
theorem dX8_keep_50 : decode cX8_keep 50 = .ok (.aload_n 0, 1) := by decide +kernel
theorem dX8_keep_51 : decode cX8_keep 51 = .ok (.getfield 40, 3) := by decide +kernel
theorem dX8_keep_54 : decode cX8_keep 54 = .ok (.iconst 5, 1) := by decide +kernel
theorem dX8_keep_55 : decode cX8_keep 55 = .ok (.aload_n 0, 1) := by decide +kernel
theorem dX8_keep_56 : decode cX8_keep 56 = .ok (.getfield 114, 3) := by decide +kernel
theorem dX8_keep_59 : decode cX8_keep 59 = .ok (.iastore, 1) := by decide +kernel
theorem dX8_keep_60 : decode cX8_keep 60 = .ok (.aload_n 0, 1) := by decide +kernel
theorem dX8_keep_61 : decode cX8_keep 61 = .ok (.getfield 40, 3) := by decide +kernel
theorem dX8_keep_64 : decode cX8_keep 64 = .ok (.bipush 6, 2) := by decide +kernel
theorem dX8_keep_66 : decode cX8_keep 66 = .ok (.aload_n 0, 1) := by decide +kernel
theorem dX8_keep_67 : decode cX8_keep 67 = .ok (.getfield 117, 3) := by decide +kernel
theorem dX8_keep_70 : decode cX8_keep 70 = .ok (.iastore, 1) := by decide +kernel
theorem dX8_keep_71 : decode cX8_keep 71 = .ok (.aload_n 0, 1) := by decide +kernel
theorem dX8_keep_72 : decode cX8_keep 72 = .ok (.getfield 40, 3) := by decide +kernel
theorem dX8_keep_75 : decode cX8_keep 75 = .ok (.bipush 7, 2) := by decide +kernel
theorem dX8_keep_77 : decode cX8_keep 77 = .ok (.aload_n 0, 1) := by decide +kernel
theorem dX8_keep_78 : decode cX8_keep 78 = .ok (.getfield 120, 3) := by decide +kernel
theorem dX8_keep_81 : decode cX8_keep 81 = .ok (.iastore, 1) := by decide +kernel
theorem dX8_keep_82 : decode cX8_keep 82 = .ok (.aload_n 0, 1) := by decide +kernel
theorem dX8_keep_83 : decode cX8_keep 83 = .ok (.getfield 40, 3) := by decide +kernel
theorem dX8_keep_86 : decode cX8_keep 86 = .ok (.bipush 8, 2) := by decide +kernel
theorem dX8_keep_88 : decode cX8_keep 88 = .ok (.aload_n 0, 1) := by decide +kernel
theorem dX8_keep_89 : decode cX8_keep 89 = .ok (.getfield 77, 3) := by decide +kernel
theorem dX8_keep_92 : decode cX8_keep 92 = .ok (.iastore, 1) := by decide +kernel
theorem dX8_keep_93 : decode cX8_keep 93 = .ok (.aload_n 0, 1) := by decide +kernel
theorem dX8_keep_94 : decode cX8_keep 94 = .ok (.getfield 40, 3) := by decide +kernel
theorem dX8_keep_97 : decode cX8_keep 97 = .ok (.bipush 9, 2) := by decide +kernel
theorem dX8_keep_99 : decode cX8_keep 99 = .ok (.aload_n 0, 1) := by decide +kernel
theorem dX8_keep_100 : decode cX8_keep 100 = .ok (.getfield 105, 3) := by decide +kernel
theorem dX8_keep_103 : decode cX8_keep 103 = .ok (.iastore, 1) := by decide +kernel
theorem dX8_keep_104 : decode cX8_keep 104 = .ok (.aload_n 0, 1) := by decide +kernel
theorem dX8_keep_105 : decode cX8_keep 105 = .ok (.getfield 40, 3) := by decide +kernel
theorem dX8_keep_108 : decode cX8_keep 108 = .ok (.bipush 10, 2) := by decide +kernel
theorem dX8_keep_110 : decode cX8_keep 110 = .ok (.aload_n 0, 1) := by decide +kernel
theorem dX8_keep_111 : decode cX8_keep 111 = .ok (.getfield 139, 3) := by decide +kernel
theorem dX8_keep_114 : decode cX8_keep 114 = .ok (.iastore, 1) := by decide +kernel
theorem dX8_keep_115 : decode cX8_keep 115 = .ok (.aload_n 0, 1) := by decide +kernel
theorem dX8_keep_116 : decode cX8_keep 116 = .ok (.getfield 40, 3) := by decide +kernel
theorem dX8_keep_119 : decode cX8_keep 119 = .ok (.bipush 11, 2) := by decide +kernel
theorem dX8_keep_121 : decode cX8_keep 121 = .ok (.aload_n 0, 1) := by decide +kernel
theorem dX8_keep_122 : decode cX8_keep 122 = .ok (.getfield 142, 3) := by decide +kernel
theorem dX8_keep_125 : decode cX8_keep 125 = .ok (.ifCond .eq 7, 3) := by decide +kernel
theorem dX8_keep_128 : decode cX8_keep 128 = .ok (.iconst 1, 1) := by decide +kernel
theorem dX8_keep_129 : decode cX8_keep 129 = .ok (.goto 4, 3) := by decide +kernel
theorem dX8_keep_132 : decode cX8_keep 132 = .ok (.iconst 0, 1) := by decide +kernel
theorem dX8_keep_133 : decode cX8_keep 133 = .ok (.iastore, 1) := by decide +kernel
theorem dX8_keep_134 : decode cX8_keep 134 = .ok (.aload_n 0, 1) := by decide +kernel
theorem dX8_keep_135 : decode cX8_keep 135 = .ok (.getfield 40, 3) := by decide +kernel
theorem dX8_keep_138 : decode cX8_keep 138 = .ok (.bipush 12, 2) := by decide +kernel
theorem dX8_keep_140 : decode cX8_keep 140 = .ok (.aload_n 0, 1) := by decide +kernel
theorem dX8_keep_141 : decode cX8_keep 141 = .ok (.getfield 16, 3) := by decide +kernel
theorem dX8_keep_144 : decode cX8_keep 144 = .ok (.iconst 5, 1) := by decide +kernel
theorem dX8_keep_145 : decode cX8_keep 145 = .ok (.iaload, 1) := by decide +kernel
theorem dX8_keep_146 : decode cX8_keep 146 = .ok (.iastore, 1) := by decide +kernel
theorem dX8_keep_147 : decode cX8_keep 147 = .ok (.return_, 1) := by decide +kernel
theorem dX8_again_0 : decode cX8_again 0 = .ok (.aload_n 0, 1) := by decide +kernel
theorem dX8_again_1 : decode cX8_again 1 = .ok (.aload_n 0, 1) := by decide +kernel
theorem dX8_again_2 : decode cX8_again 2 = .ok (.getfield 40, 3) := by decide +kernel
theorem dX8_again_5 : decode cX8_again 5 = .ok (.iconst 0, 1) := by decide +kernel
theorem dX8_again_6 : decode cX8_again 6 = .ok (.iaload, 1) := by decide +kernel
theorem dX8_again_7 : decode cX8_again 7 = .ok (.putfield 102, 3) := by decide +kernel
theorem dX8_again_10 : decode cX8_again 10 = .ok (.aload_n 0, 1) := by decide +kernel
theorem dX8_again_11 : decode cX8_again 11 = .ok (.aload_n 0, 1) := by decide +kernel
theorem dX8_again_12 : decode cX8_again 12 = .ok (.getfield 40, 3) := by decide +kernel
theorem dX8_again_15 : decode cX8_again 15 = .ok (.iconst 1, 1) := by decide +kernel
theorem dX8_again_16 : decode cX8_again 16 = .ok (.iaload, 1) := by decide +kernel
theorem dX8_again_17 : decode cX8_again 17 = .ok (.putfield 129, 3) := by decide +kernel
theorem dX8_again_20 : decode cX8_again 20 = .ok (.aload_n 0, 1) := by decide +kernel
theorem dX8_again_21 : decode cX8_again 21 = .ok (.aload_n 0, 1) := by decide +kernel
theorem dX8_again_22 : decode cX8_again 22 = .ok (.getfield 40, 3) := by decide +kernel
theorem dX8_again_25 : decode cX8_again 25 = .ok (.iconst 2, 1) := by decide +kernel
theorem dX8_again_26 : decode cX8_again 26 = .ok (.iaload, 1) := by decide +kernel
theorem dX8_again_27 : decode cX8_again 27 = .ok (.putfield 123, 3) := by decide +kernel
theorem dX8_again_30 : decode cX8_again 30 = .ok (.aload_n 0, 1) := by decide +kernel
theorem dX8_again_31 : decode cX8_again 31 = .ok (.aload_n 0, 1) := by decide +kernel
theorem dX8_again_32 : decode cX8_again 32 = .ok (.getfield 40, 3) := by decide +kernel
theorem dX8_again_35 : decode cX8_again 35 = .ok (.iconst 3, 1) := by decide +kernel
theorem dX8_again_36 : decode cX8_again 36 = .ok (.iaload, 1) := by decide +kernel
theorem dX8_again_37 : decode cX8_again 37 = .ok (.putfield 108, 3) := by decide +kernel
theorem dX8_again_40 : decode cX8_again 40 = .ok (.aload_n 0, 1) := by decide +kernel
theorem dX8_again_41 : decode cX8_again 41 = .ok (.aload_n 0, 1) := by decide +kernel
theorem dX8_again_42 : decode cX8_again 42 = .ok (.getfield 40, 3) := by decide +kernel
theorem dX8_again_45 : decode cX8_again 45 = .ok (.iconst 4, 1) := by decide +kernel
theorem dX8_again_46 : decode cX8_again 46 = .ok (.iaload, 1) := by decide +kernel
theorem dX8_again_47 : decode cX8_again 47 = .ok (.putfield 111, 3) := by decide +kernel
theorem dX8_again_50 : decode cX8_again 50 = .ok (.aload_n 0, 1) := by decide +kernel
theorem dX8_again_51 : decode cX8_again 51 = .ok (.aload_n 0, 1) := by decide +kernel
theorem dX8_again_52 : decode cX8_again 52 = .ok (.getfield 40, 3) := by decide +kernel
theorem dX8_again_55 : decode cX8_again 55 = .ok (.iconst 5, 1) := by decide +kernel
theorem dX8_again_56 : decode cX8_again 56 = .ok (.iaload, 1) := by decide +kernel
theorem dX8_again_57 : decode cX8_again 57 = .ok (.putfield 114, 3) := by decide +kernel
theorem dX8_again_60 : decode cX8_again 60 = .ok (.aload_n 0, 1) := by decide +kernel
theorem dX8_again_61 : decode cX8_again 61 = .ok (.aload_n 0, 1) := by decide +kernel
theorem dX8_again_62 : decode cX8_again 62 = .ok (.getfield 40, 3) := by decide +kernel
theorem dX8_again_65 : decode cX8_again 65 = .ok (.bipush 6, 2) := by decide +kernel
theorem dX8_again_67 : decode cX8_again 67 = .ok (.iaload, 1) := by decide +kernel
theorem dX8_again_68 : decode cX8_again 68 = .ok (.putfield 117, 3) := by decide +kernel
theorem dX8_again_71 : decode cX8_again 71 = .ok (.aload_n 0, 1) := by decide +kernel
theorem dX8_again_72 : decode cX8_again 72 = .ok (.aload_n 0, 1) := by decide +kernel
theorem dX8_again_73 : decode cX8_again 73 = .ok (.getfield 40, 3) := by decide +kernel
theorem dX8_again_76 : decode cX8_again 76 = .ok (.bipush 7, 2) := by decide +kernel
theorem dX8_again_78 : decode cX8_again 78 = .ok (.iaload, 1) := by decide +kernel
theorem dX8_again_79 : decode cX8_again 79 = .ok (.putfield 120, 3) := by decide +kernel
theorem dX8_again_82 : decode cX8_again 82 = .ok (.aload_n 0, 1) := by decide +kernel
theorem dX8_again_83 : decode cX8_again 83 = .ok (.aload_n 0, 1) := by decide +kernel
theorem dX8_again_84 : decode cX8_again 84 = .ok (.getfield 40, 3) := by decide +kernel
theorem dX8_again_87 : decode cX8_again 87 = .ok (.bipush 8, 2) := by decide +kernel
theorem dX8_again_89 : decode cX8_again 89 = .ok (.iaload, 1) := by decide +kernel
theorem dX8_again_90 : decode cX8_again 90 = .ok (.putfield 77, 3) := by decide +kernel
theorem dX8_again_93 : decode cX8_again 93 = .ok (.aload_n 0, 1) := by decide +kernel
theorem dX8_again_94 : decode cX8_again 94 = .ok (.aload_n 0, 1) := by decide +kernel
theorem dX8_again_95 : decode cX8_again 95 = .ok (.getfield 40, 3) := by decide +kernel
theorem dX8_again_98 : decode cX8_again 98 = .ok (.bipush 9, 2) := by decide +kernel
theorem dX8_again_100 : decode cX8_again 100 = .ok (.iaload, 1) := by decide +kernel
theorem dX8_again_101 : decode cX8_again 101 = .ok (.putfield 105, 3) := by decide +kernel
theorem dX8_again_104 : decode cX8_again 104 = .ok (.aload_n 0, 1) := by decide +kernel
theorem dX8_again_105 : decode cX8_again 105 = .ok (.aload_n 0, 1) := by decide +kernel
theorem dX8_again_106 : decode cX8_again 106 = .ok (.getfield 40, 3) := by decide +kernel
theorem dX8_again_109 : decode cX8_again 109 = .ok (.bipush 10, 2) := by decide +kernel
theorem dX8_again_111 : decode cX8_again 111 = .ok (.iaload, 1) := by decide +kernel
theorem dX8_again_112 : decode cX8_again 112 = .ok (.putfield 139, 3) := by decide +kernel
theorem dX8_again_115 : decode cX8_again 115 = .ok (.aload_n 0, 1) := by decide +kernel
theorem dX8_again_116 : decode cX8_again 116 = .ok (.aload_n 0, 1) := by decide +kernel
theorem dX8_again_117 : decode cX8_again 117 = .ok (.getfield 40, 3) := by decide +kernel
theorem dX8_again_120 : decode cX8_again 120 = .ok (.bipush 11, 2) := by decide +kernel
theorem dX8_again_122 : decode cX8_again 122 = .ok (.iaload, 1) := by decide +kernel
theorem dX8_again_123 : decode cX8_again 123 = .ok (.iconst 1, 1) := by decide +kernel
theorem dX8_again_124 : decode cX8_again 124 = .ok (.if_icmp .ne 7, 3) := by decide +kernel
theorem dX8_again_127 : decode cX8_again 127 = .ok (.iconst 1, 1) := by decide +kernel
theorem dX8_again_128 : decode cX8_again 128 = .ok (.goto 4, 3) := by decide +kernel
theorem dX8_again_131 : decode cX8_again 131 = .ok (.iconst 0, 1) := by decide +kernel
theorem dX8_again_132 : decode cX8_again 132 = .ok (.putfield 142, 3) := by decide +kernel
theorem dX8_again_135 : decode cX8_again 135 = .ok (.aload_n 0, 1) := by decide +kernel
theorem dX8_again_136 : decode cX8_again 136 = .ok (.getfield 16, 3) := by decide +kernel
theorem dX8_again_139 : decode cX8_again 139 = .ok (.iconst 5, 1) := by decide +kernel
theorem dX8_again_140 : decode cX8_again 140 = .ok (.aload_n 0, 1) := by decide +kernel
theorem dX8_again_141 : decode cX8_again 141 = .ok (.getfield 40, 3) := by decide +kernel
theorem dX8_again_144 : decode cX8_again 144 = .ok (.bipush 12, 2) := by decide +kernel
theorem dX8_again_146 : decode cX8_again 146 = .ok (.iaload, 1) := by decide +kernel
theorem dX8_again_147 : decode cX8_again 147 = .ok (.iastore, 1) := by decide +kernel
theorem dX8_again_148 : decode cX8_again 148 = .ok (.aload_n 0, 1) := by decide +kernel
theorem dX8_again_149 : decode cX8_again 149 = .ok (.iconst 0, 1) := by decide +kernel
theorem dX8_again_150 : decode cX8_again 150 = .ok (.putfield 96, 3) := by decide +kernel
theorem dX8_again_153 : decode cX8_again 153 = .ok (.aload_n 0, 1) := by decide +kernel
theorem dX8_again_154 : decode cX8_again 154 = .ok (.iconst (-1), 1) := by decide +kernel
theorem dX8_again_155 : decode cX8_again 155 = .ok (.putfield 49, 3) := by decide +kernel
theorem dX8_again_158 : decode cX8_again 158 = .ok (.return_, 1) := by decide +kernel
theorem dX8_moves_0 : decode cX8_moves 0 = .ok (.aload_n 0, 1) := by decide +kernel
theorem dX8_moves_1 : decode cX8_moves 1 = .ok (.iload_n 1, 1) := by decide +kernel
theorem dX8_moves_2 : decode cX8_moves 2 = .ok (.invokevirtual 132, 3) := by decide +kernel
theorem dX8_moves_5 : decode cX8_moves 5 = .ok (.ifCond .ne 6, 3) := by decide +kernel
theorem dX8_moves_8 : decode cX8_moves 8 = .ok (.bipush (-9), 2) := by decide +kernel
theorem dX8_moves_10 : decode cX8_moves 10 = .ok (.ireturn, 1) := by decide +kernel
theorem dX8_moves_11 : decode cX8_moves 11 = .ok (.aload_n 0, 1) := by decide +kernel
theorem dX8_moves_12 : decode cX8_moves 12 = .ok (.aload_n 0, 1) := by decide +kernel
theorem dX8_moves_13 : decode cX8_moves 13 = .ok (.getfield 73, 3) := by decide +kernel
theorem dX8_moves_16 : decode cX8_moves 16 = .ok (.ifCond .eq 10, 3) := by decide +kernel
theorem dX8_moves_19 : decode cX8_moves 19 = .ok (.aload_n 0, 1) := by decide +kernel
theorem dX8_moves_20 : decode cX8_moves 20 = .ok (.getfield 77, 3) := by decide +kernel
theorem dX8_moves_23 : decode cX8_moves 23 = .ok (.goto 4, 3) := by decide +kernel
theorem dX8_moves_26 : decode cX8_moves 26 = .ok (.iconst 0, 1) := by decide +kernel
theorem dX8_moves_27 : decode cX8_moves 27 = .ok (.invokevirtual 126, 3) := by decide +kernel
theorem dX8_moves_30 : decode cX8_moves 30 = .ok (.istore_n 2, 1) := by decide +kernel
theorem dX8_moves_31 : decode cX8_moves 31 = .ok (.iload_n 2, 1) := by decide +kernel
theorem dX8_moves_32 : decode cX8_moves 32 = .ok (.iconst 4, 1) := by decide +kernel
theorem dX8_moves_33 : decode cX8_moves 33 = .ok (.iadd, 1) := by decide +kernel
theorem dX8_moves_34 : decode cX8_moves 34 = .ok (.bipush 8, 2) := by decide +kernel
theorem dX8_moves_36 : decode cX8_moves 36 = .ok (.irem, 1) := by decide +kernel
theorem dX8_moves_37 : decode cX8_moves 37 = .ok (.istore_n 3, 1) := by decide +kernel
theorem dX8_moves_38 : decode cX8_moves 38 = .ok (.iconst 0, 1) := by decide +kernel
theorem dX8_moves_39 : decode cX8_moves 39 = .ok (.istore 4, 2) := by decide +kernel
theorem dX8_moves_41 : decode cX8_moves 41 = .ok (.iload 4, 2) := by decide +kernel
theorem dX8_moves_43 : decode cX8_moves 43 = .ok (.sipush 192, 3) := by decide +kernel
theorem dX8_moves_46 : decode cX8_moves 46 = .ok (.if_icmp .ge 17, 3) := by decide +kernel
theorem dX8_moves_49 : decode cX8_moves 49 = .ok (.aload_n 0, 1) := by decide +kernel
theorem dX8_moves_50 : decode cX8_moves 50 = .ok (.getfield 43, 3) := by decide +kernel
theorem dX8_moves_53 : decode cX8_moves 53 = .ok (.iload 4, 2) := by decide +kernel
theorem dX8_moves_55 : decode cX8_moves 55 = .ok (.iconst (-1), 1) := by decide +kernel
theorem dX8_moves_56 : decode cX8_moves 56 = .ok (.iastore, 1) := by decide +kernel
theorem dX8_moves_57 : decode cX8_moves 57 = .ok (.iinc 4 1, 3) := by decide +kernel
theorem dX8_moves_60 : decode cX8_moves 60 = .ok (.goto (-19), 3) := by decide +kernel
theorem dX8_moves_63 : decode cX8_moves 63 = .ok (.iconst 0, 1) := by decide +kernel
theorem dX8_moves_64 : decode cX8_moves 64 = .ok (.istore 4, 2) := by decide +kernel
theorem dX8_moves_66 : decode cX8_moves 66 = .ok (.iconst 0, 1) := by decide +kernel
theorem dX8_moves_67 : decode cX8_moves 67 = .ok (.istore 5, 2) := by decide +kernel
theorem dX8_moves_69 : decode cX8_moves 69 = .ok (.aload_n 0, 1) := by decide +kernel
theorem dX8_moves_70 : decode cX8_moves 70 = .ok (.getfield 46, 3) := by decide +kernel
theorem dX8_moves_73 : decode cX8_moves 73 = .ok (.iload 5, 2) := by decide +kernel
theorem dX8_moves_75 : decode cX8_moves 75 = .ok (.iinc 5 1, 3) := by decide +kernel
theorem dX8_moves_78 : decode cX8_moves 78 = .ok (.iconst 3, 1) := by decide +kernel
theorem dX8_moves_79 : decode cX8_moves 79 = .ok (.iload_n 1, 1) := by decide +kernel
theorem dX8_moves_80 : decode cX8_moves 80 = .ok (.imul, 1) := by decide +kernel
theorem dX8_moves_81 : decode cX8_moves 81 = .ok (.iastore, 1) := by decide +kernel
theorem dX8_moves_82 : decode cX8_moves 82 = .ok (.aload_n 0, 1) := by decide +kernel
theorem dX8_moves_83 : decode cX8_moves 83 = .ok (.getfield 43, 3) := by decide +kernel
theorem dX8_moves_86 : decode cX8_moves 86 = .ok (.iconst 3, 1) := by decide +kernel
theorem dX8_moves_87 : decode cX8_moves 87 = .ok (.iload_n 1, 1) := by decide +kernel
theorem dX8_moves_88 : decode cX8_moves 88 = .ok (.imul, 1) := by decide +kernel
theorem dX8_moves_89 : decode cX8_moves 89 = .ok (.iconst 0, 1) := by decide +kernel
theorem dX8_moves_90 : decode cX8_moves 90 = .ok (.iastore, 1) := by decide +kernel
theorem dX8_moves_91 : decode cX8_moves 91 = .ok (.iload 4, 2) := by decide +kernel
theorem dX8_moves_93 : decode cX8_moves 93 = .ok (.iload 5, 2) := by decide +kernel
theorem dX8_moves_95 : decode cX8_moves 95 = .ok (.if_icmp .ge 193, 3) := by decide +kernel
theorem dX8_moves_98 : decode cX8_moves 98 = .ok (.aload_n 0, 1) := by decide +kernel
theorem dX8_moves_99 : decode cX8_moves 99 = .ok (.getfield 46, 3) := by decide +kernel
theorem dX8_moves_102 : decode cX8_moves 102 = .ok (.iload 4, 2) := by decide +kernel
theorem dX8_moves_104 : decode cX8_moves 104 = .ok (.iinc 4 1, 3) := by decide +kernel
theorem dX8_moves_107 : decode cX8_moves 107 = .ok (.iaload, 1) := by decide +kernel
theorem dX8_moves_108 : decode cX8_moves 108 = .ok (.istore 6, 2) := by decide +kernel
theorem dX8_moves_110 : decode cX8_moves 110 = .ok (.iload 6, 2) := by decide +kernel
theorem dX8_moves_112 : decode cX8_moves 112 = .ok (.iconst 3, 1) := by decide +kernel
theorem dX8_moves_113 : decode cX8_moves 113 = .ok (.irem, 1) := by decide +kernel
theorem dX8_moves_114 : decode cX8_moves 114 = .ok (.iconst 1, 1) := by decide +kernel
theorem dX8_moves_115 : decode cX8_moves 115 = .ok (.iadd, 1) := by decide +kernel
theorem dX8_moves_116 : decode cX8_moves 116 = .ok (.istore 7, 2) := by decide +kernel
theorem dX8_moves_118 : decode cX8_moves 118 = .ok (.iconst 0, 1) := by decide +kernel
theorem dX8_moves_119 : decode cX8_moves 119 = .ok (.istore 8, 2) := by decide +kernel
theorem dX8_moves_121 : decode cX8_moves 121 = .ok (.iload 8, 2) := by decide +kernel
theorem dX8_moves_123 : decode cX8_moves 123 = .ok (.bipush 8, 2) := by decide +kernel
theorem dX8_moves_125 : decode cX8_moves 125 = .ok (.if_icmp .ge 160, 3) := by decide +kernel
theorem dX8_moves_128 : decode cX8_moves 128 = .ok (.iload 8, 2) := by decide +kernel
theorem dX8_moves_130 : decode cX8_moves 130 = .ok (.iload_n 2, 1) := by decide +kernel
theorem dX8_moves_131 : decode cX8_moves 131 = .ok (.invokestatic 170, 3) := by decide +kernel
theorem dX8_moves_134 : decode cX8_moves 134 = .ok (.aload_n 0, 1) := by decide +kernel
theorem dX8_moves_135 : decode cX8_moves 135 = .ok (.getfield 16, 3) := by decide +kernel
theorem dX8_moves_138 : decode cX8_moves 138 = .ok (.iconst 4, 1) := by decide +kernel
theorem dX8_moves_139 : decode cX8_moves 139 = .ok (.iaload, 1) := by decide +kernel
theorem dX8_moves_140 : decode cX8_moves 140 = .ok (.if_icmp .ge 6, 3) := by decide +kernel
theorem dX8_moves_143 : decode cX8_moves 143 = .ok (.goto 136, 3) := by decide +kernel
theorem dX8_moves_146 : decode cX8_moves 146 = .ok (.aload_n 0, 1) := by decide +kernel
theorem dX8_moves_147 : decode cX8_moves 147 = .ok (.iload 6, 2) := by decide +kernel
theorem dX8_moves_149 : decode cX8_moves 149 = .ok (.iconst 3, 1) := by decide +kernel
theorem dX8_moves_150 : decode cX8_moves 150 = .ok (.idiv, 1) := by decide +kernel
theorem dX8_moves_151 : decode cX8_moves 151 = .ok (.iload 8, 2) := by decide +kernel
theorem dX8_moves_153 : decode cX8_moves 153 = .ok (.invokevirtual 157, 3) := by decide +kernel
theorem dX8_moves_156 : decode cX8_moves 156 = .ok (.istore 9, 2) := by decide +kernel
theorem dX8_moves_158 : decode cX8_moves 158 = .ok (.iload 9, 2) := by decide +kernel
theorem dX8_moves_160 : decode cX8_moves 160 = .ok (.ifCond .lt 15, 3) := by decide +kernel
theorem dX8_moves_163 : decode cX8_moves 163 = .ok (.aload_n 0, 1) := by decide +kernel
theorem dX8_moves_164 : decode cX8_moves 164 = .ok (.iload 9, 2) := by decide +kernel
theorem dX8_moves_166 : decode cX8_moves 166 = .ok (.invokevirtual 132, 3) := by decide +kernel
theorem dX8_moves_169 : decode cX8_moves 169 = .ok (.ifCond .ne 6, 3) := by decide +kernel
theorem dX8_moves_172 : decode cX8_moves 172 = .ok (.goto 107, 3) := by decide +kernel
theorem dX8_moves_175 : decode cX8_moves 175 = .ok (.iload 9, 2) := by decide +kernel
theorem dX8_moves_177 : decode cX8_moves 177 = .ok (.ifCond .lt 35, 3) := by decide +kernel
theorem dX8_moves_180 : decode cX8_moves 180 = .ok (.iload 7, 2) := by decide +kernel
theorem dX8_moves_182 : decode cX8_moves 182 = .ok (.iconst 3, 1) := by decide +kernel
theorem dX8_moves_183 : decode cX8_moves 183 = .ok (.if_icmp .ne 29, 3) := by decide +kernel
theorem dX8_moves_186 : decode cX8_moves 186 = .ok (.aload_n 0, 1) := by decide +kernel
theorem dX8_moves_187 : decode cX8_moves 187 = .ok (.iload 9, 2) := by decide +kernel
theorem dX8_moves_189 : decode cX8_moves 189 = .ok (.iload_n 3, 1) := by decide +kernel
theorem dX8_moves_190 : decode cX8_moves 190 = .ok (.invokevirtual 157, 3) := by decide +kernel
theorem dX8_moves_193 : decode cX8_moves 193 = .ok (.istore 9, 2) := by decide +kernel
theorem dX8_moves_195 : decode cX8_moves 195 = .ok (.iload 9, 2) := by decide +kernel
theorem dX8_moves_197 : decode cX8_moves 197 = .ok (.ifCond .lt 15, 3) := by decide +kernel
theorem dX8_moves_200 : decode cX8_moves 200 = .ok (.aload_n 0, 1) := by decide +kernel
theorem dX8_moves_201 : decode cX8_moves 201 = .ok (.iload 9, 2) := by decide +kernel
theorem dX8_moves_203 : decode cX8_moves 203 = .ok (.invokevirtual 132, 3) := by decide +kernel
theorem dX8_moves_206 : decode cX8_moves 206 = .ok (.ifCond .ne 6, 3) := by decide +kernel
theorem dX8_moves_209 : decode cX8_moves 209 = .ok (.goto 70, 3) := by decide +kernel
theorem dX8_moves_212 : decode cX8_moves 212 = .ok (.iload 9, 2) := by decide +kernel
theorem dX8_moves_214 : decode cX8_moves 214 = .ok (.ifCond .ge 13, 3) := by decide +kernel
theorem dX8_moves_217 : decode cX8_moves 217 = .ok (.aload_n 0, 1) := by decide +kernel
theorem dX8_moves_218 : decode cX8_moves 218 = .ok (.getfield 43, 3) := by decide +kernel
theorem dX8_moves_221 : decode cX8_moves 221 = .ok (.iload 6, 2) := by decide +kernel
theorem dX8_moves_223 : decode cX8_moves 223 = .ok (.iaload, 1) := by decide +kernel
theorem dX8_moves_224 : decode cX8_moves 224 = .ok (.iconst 1, 1) := by decide +kernel
theorem dX8_moves_225 : decode cX8_moves 225 = .ok (.iadd, 1) := by decide +kernel
theorem dX8_moves_226 : decode cX8_moves 226 = .ok (.ireturn, 1) := by decide +kernel
theorem dX8_moves_227 : decode cX8_moves 227 = .ok (.iconst 3, 1) := by decide +kernel
theorem dX8_moves_228 : decode cX8_moves 228 = .ok (.iload 9, 2) := by decide +kernel
theorem dX8_moves_230 : decode cX8_moves 230 = .ok (.imul, 1) := by decide +kernel
theorem dX8_moves_231 : decode cX8_moves 231 = .ok (.iload 7, 2) := by decide +kernel
theorem dX8_moves_233 : decode cX8_moves 233 = .ok (.iconst 3, 1) := by decide +kernel
theorem dX8_moves_234 : decode cX8_moves 234 = .ok (.irem, 1) := by decide +kernel
theorem dX8_moves_235 : decode cX8_moves 235 = .ok (.iadd, 1) := by decide +kernel
theorem dX8_moves_236 : decode cX8_moves 236 = .ok (.istore 10, 2) := by decide +kernel
theorem dX8_moves_238 : decode cX8_moves 238 = .ok (.aload_n 0, 1) := by decide +kernel
theorem dX8_moves_239 : decode cX8_moves 239 = .ok (.getfield 43, 3) := by decide +kernel
theorem dX8_moves_242 : decode cX8_moves 242 = .ok (.iload 10, 2) := by decide +kernel
theorem dX8_moves_244 : decode cX8_moves 244 = .ok (.iaload, 1) := by decide +kernel
theorem dX8_moves_245 : decode cX8_moves 245 = .ok (.ifCond .lt 6, 3) := by decide +kernel
theorem dX8_moves_248 : decode cX8_moves 248 = .ok (.goto 31, 3) := by decide +kernel
theorem dX8_moves_251 : decode cX8_moves 251 = .ok (.aload_n 0, 1) := by decide +kernel
theorem dX8_moves_252 : decode cX8_moves 252 = .ok (.getfield 43, 3) := by decide +kernel
theorem dX8_moves_255 : decode cX8_moves 255 = .ok (.iload 10, 2) := by decide +kernel
theorem dX8_moves_257 : decode cX8_moves 257 = .ok (.aload_n 0, 1) := by decide +kernel
theorem dX8_moves_258 : decode cX8_moves 258 = .ok (.getfield 43, 3) := by decide +kernel
theorem dX8_moves_261 : decode cX8_moves 261 = .ok (.iload 6, 2) := by decide +kernel
theorem dX8_moves_263 : decode cX8_moves 263 = .ok (.iaload, 1) := by decide +kernel
theorem dX8_moves_264 : decode cX8_moves 264 = .ok (.iconst 1, 1) := by decide +kernel
theorem dX8_moves_265 : decode cX8_moves 265 = .ok (.iadd, 1) := by decide +kernel
theorem dX8_moves_266 : decode cX8_moves 266 = .ok (.iastore, 1) := by decide +kernel
theorem dX8_moves_267 : decode cX8_moves 267 = .ok (.aload_n 0, 1) := by decide +kernel
theorem dX8_moves_268 : decode cX8_moves 268 = .ok (.getfield 46, 3) := by decide +kernel
theorem dX8_moves_271 : decode cX8_moves 271 = .ok (.iload 5, 2) := by decide +kernel
theorem dX8_moves_273 : decode cX8_moves 273 = .ok (.iinc 5 1, 3) := by decide +kernel
theorem dX8_moves_276 : decode cX8_moves 276 = .ok (.iload 10, 2) := by decide +kernel
theorem dX8_moves_278 : decode cX8_moves 278 = .ok (.iastore, 1) := by decide +kernel
theorem dX8_moves_279 : decode cX8_moves 279 = .ok (.iinc 8 1, 3) := by decide +kernel
theorem dX8_moves_282 : decode cX8_moves 282 = .ok (.goto (-161), 3) := by decide +kernel
theorem dX8_moves_285 : decode cX8_moves 285 = .ok (.goto (-194), 3) := by decide +kernel
theorem dX8_moves_288 : decode cX8_moves 288 = .ok (.bipush (-9), 2) := by decide +kernel
theorem dX8_moves_290 : decode cX8_moves 290 = .ok (.ireturn, 1) := by decide +kernel
theorem dX8_still_0 : decode cX8_still 0 = .ok (.aload_n 0, 1) := by decide +kernel
theorem dX8_still_1 : decode cX8_still 1 = .ok (.iload_n 1, 1) := by decide +kernel
theorem dX8_still_2 : decode cX8_still 2 = .ok (.invokevirtual 80, 3) := by decide +kernel
theorem dX8_still_5 : decode cX8_still 5 = .ok (.ifCond .eq 11, 3) := by decide +kernel
theorem dX8_still_8 : decode cX8_still 8 = .ok (.aload_n 0, 1) := by decide +kernel
theorem dX8_still_9 : decode cX8_still 9 = .ok (.iload_n 1, 1) := by decide +kernel
theorem dX8_still_10 : decode cX8_still 10 = .ok (.invokevirtual 191, 3) := by decide +kernel
theorem dX8_still_13 : decode cX8_still 13 = .ok (.goto 8, 3) := by decide +kernel
theorem dX8_still_16 : decode cX8_still 16 = .ok (.aload_n 0, 1) := by decide +kernel
theorem dX8_still_17 : decode cX8_still 17 = .ok (.iconst (-1), 1) := by decide +kernel
theorem dX8_still_18 : decode cX8_still 18 = .ok (.invokevirtual 59, 3) := by decide +kernel
theorem dX8_still_21 : decode cX8_still 21 = .ok (.ireturn, 1) := by decide +kernel
theorem dX8_clears_0 : decode cX8_clears 0 = .ok (.iconst 0, 1) := by decide +kernel
theorem dX8_clears_1 : decode cX8_clears 1 = .ok (.istore_n 1, 1) := by decide +kernel
theorem dX8_clears_2 : decode cX8_clears 2 = .ok (.iconst 0, 1) := by decide +kernel
theorem dX8_clears_3 : decode cX8_clears 3 = .ok (.istore_n 2, 1) := by decide +kernel
theorem dX8_clears_4 : decode cX8_clears 4 = .ok (.iload_n 2, 1) := by decide +kernel
theorem dX8_clears_5 : decode cX8_clears 5 = .ok (.aload_n 0, 1) := by decide +kernel
theorem dX8_clears_6 : decode cX8_clears 6 = .ok (.getfield 53, 3) := by decide +kernel
theorem dX8_clears_9 : decode cX8_clears 9 = .ok (.aload_n 0, 1) := by decide +kernel
theorem dX8_clears_10 : decode cX8_clears 10 = .ok (.getfield 56, 3) := by decide +kernel
theorem dX8_clears_13 : decode cX8_clears 13 = .ok (.imul, 1) := by decide +kernel
theorem dX8_clears_14 : decode cX8_clears 14 = .ok (.if_icmp .ge 20, 3) := by decide +kernel
theorem dX8_clears_17 : decode cX8_clears 17 = .ok (.aload_n 0, 1) := by decide +kernel
theorem dX8_clears_18 : decode cX8_clears 18 = .ok (.iload_n 2, 1) := by decide +kernel
theorem dX8_clears_19 : decode cX8_clears 19 = .ok (.invokevirtual 191, 3) := by decide +kernel
theorem dX8_clears_22 : decode cX8_clears 22 = .ok (.ifCond .lt 6, 3) := by decide +kernel
theorem dX8_clears_25 : decode cX8_clears 25 = .ok (.iinc 1 1, 3) := by decide +kernel
theorem dX8_clears_28 : decode cX8_clears 28 = .ok (.iinc 2 1, 3) := by decide +kernel
theorem dX8_clears_31 : decode cX8_clears 31 = .ok (.goto (-27), 3) := by decide +kernel
theorem dX8_clears_34 : decode cX8_clears 34 = .ok (.iload_n 1, 1) := by decide +kernel
theorem dX8_clears_35 : decode cX8_clears 35 = .ok (.ireturn, 1) := by decide +kernel
theorem dX8_line_0 : decode cX8_line 0 = .ok (.aload_n 0, 1) := by decide +kernel
theorem dX8_line_1 : decode cX8_line 1 = .ok (.getfield 73, 3) := by decide +kernel
theorem dX8_line_4 : decode cX8_line 4 = .ok (.ifCond .ne 10, 3) := by decide +kernel
theorem dX8_line_7 : decode cX8_line 7 = .ok (.aload_n 0, 1) := by decide +kernel
theorem dX8_line_8 : decode cX8_line 8 = .ok (.bipush (-3), 2) := by decide +kernel
theorem dX8_line_10 : decode cX8_line 10 = .ok (.invokevirtual 59, 3) := by decide +kernel
theorem dX8_line_13 : decode cX8_line 13 = .ok (.ireturn, 1) := by decide +kernel
theorem dX8_line_14 : decode cX8_line 14 = .ok (.aload_n 0, 1) := by decide +kernel
theorem dX8_line_15 : decode cX8_line 15 = .ok (.invokevirtual 194, 3) := by decide +kernel
theorem dX8_line_18 : decode cX8_line 18 = .ok (.bipush (-9), 2) := by decide +kernel
theorem dX8_line_20 : decode cX8_line 20 = .ok (.istore_n 1, 1) := by decide +kernel
theorem dX8_line_21 : decode cX8_line 21 = .ok (.iconst 1, 1) := by decide +kernel
theorem dX8_line_22 : decode cX8_line 22 = .ok (.istore_n 2, 1) := by decide +kernel
theorem dX8_line_23 : decode cX8_line 23 = .ok (.iload_n 2, 1) := by decide +kernel
theorem dX8_line_24 : decode cX8_line 24 = .ok (.iconst 3, 1) := by decide +kernel
theorem dX8_line_25 : decode cX8_line 25 = .ok (.if_icmp .gt 51, 3) := by decide +kernel
theorem dX8_line_28 : decode cX8_line 28 = .ok (.iload_n 1, 1) := by decide +kernel
theorem dX8_line_29 : decode cX8_line 29 = .ok (.ifCond .ge 47, 3) := by decide +kernel
theorem dX8_line_32 : decode cX8_line 32 = .ok (.aload_n 0, 1) := by decide +kernel
theorem dX8_line_33 : decode cX8_line 33 = .ok (.iload_n 2, 1) := by decide +kernel
theorem dX8_line_34 : decode cX8_line 34 = .ok (.putfield 123, 3) := by decide +kernel
theorem dX8_line_37 : decode cX8_line 37 = .ok (.iconst 0, 1) := by decide +kernel
theorem dX8_line_38 : decode cX8_line 38 = .ok (.istore_n 3, 1) := by decide +kernel
theorem dX8_line_39 : decode cX8_line 39 = .ok (.iload_n 3, 1) := by decide +kernel
theorem dX8_line_40 : decode cX8_line 40 = .ok (.bipush 60, 2) := by decide +kernel
theorem dX8_line_42 : decode cX8_line 42 = .ok (.if_icmp .ge 13, 3) := by decide +kernel
theorem dX8_line_45 : decode cX8_line 45 = .ok (.aload_n 0, 1) := by decide +kernel
theorem dX8_line_46 : decode cX8_line 46 = .ok (.invokevirtual 176, 3) := by decide +kernel
theorem dX8_line_49 : decode cX8_line 49 = .ok (.iinc 3 1, 3) := by decide +kernel
theorem dX8_line_52 : decode cX8_line 52 = .ok (.goto (-13), 3) := by decide +kernel
theorem dX8_line_55 : decode cX8_line 55 = .ok (.aload_n 0, 1) := by decide +kernel
theorem dX8_line_56 : decode cX8_line 56 = .ok (.getfield 105, 3) := by decide +kernel
theorem dX8_line_59 : decode cX8_line 59 = .ok (.bipush 8, 2) := by decide +kernel
theorem dX8_line_61 : decode cX8_line 61 = .ok (.if_icmp .ne 5, 3) := by decide +kernel
theorem dX8_line_64 : decode cX8_line 64 = .ok (.iload_n 2, 1) := by decide +kernel
theorem dX8_line_65 : decode cX8_line 65 = .ok (.istore_n 1, 1) := by decide +kernel
theorem dX8_line_66 : decode cX8_line 66 = .ok (.aload_n 0, 1) := by decide +kernel
theorem dX8_line_67 : decode cX8_line 67 = .ok (.invokevirtual 197, 3) := by decide +kernel
theorem dX8_line_70 : decode cX8_line 70 = .ok (.iinc 2 1, 3) := by decide +kernel
theorem dX8_line_73 : decode cX8_line 73 = .ok (.goto (-50), 3) := by decide +kernel
theorem dX8_line_76 : decode cX8_line 76 = .ok (.iload_n 1, 1) := by decide +kernel
theorem dX8_line_77 : decode cX8_line 77 = .ok (.ireturn, 1) := by decide +kernel
theorem dX8_tensLeft_0 : decode cX8_tensLeft 0 = .ok (.iconst 0, 1) := by decide +kernel
theorem dX8_tensLeft_1 : decode cX8_tensLeft 1 = .ok (.istore_n 1, 1) := by decide +kernel
theorem dX8_tensLeft_2 : decode cX8_tensLeft 2 = .ok (.iload_n 1, 1) := by decide +kernel
theorem dX8_tensLeft_3 : decode cX8_tensLeft 3 = .ok (.bipush 60, 2) := by decide +kernel
theorem dX8_tensLeft_5 : decode cX8_tensLeft 5 = .ok (.if_icmp .ge 20, 3) := by decide +kernel
theorem dX8_tensLeft_8 : decode cX8_tensLeft 8 = .ok (.aload_n 0, 1) := by decide +kernel
theorem dX8_tensLeft_9 : decode cX8_tensLeft 9 = .ok (.invokevirtual 163, 3) := by decide +kernel
theorem dX8_tensLeft_12 : decode cX8_tensLeft 12 = .ok (.ifCond .ne 13, 3) := by decide +kernel
theorem dX8_tensLeft_15 : decode cX8_tensLeft 15 = .ok (.aload_n 0, 1) := by decide +kernel
theorem dX8_tensLeft_16 : decode cX8_tensLeft 16 = .ok (.invokevirtual 176, 3) := by decide +kernel
theorem dX8_tensLeft_19 : decode cX8_tensLeft 19 = .ok (.iinc 1 1, 3) := by decide +kernel
theorem dX8_tensLeft_22 : decode cX8_tensLeft 22 = .ok (.goto (-20), 3) := by decide +kernel
theorem dX8_tensLeft_25 : decode cX8_tensLeft 25 = .ok (.iload_n 1, 1) := by decide +kernel
theorem dX8_tensLeft_26 : decode cX8_tensLeft 26 = .ok (.ireturn, 1) := by decide +kernel
theorem dX8_lighter_0 : decode cX8_lighter 0 = .ok (.aload_n 0, 1) := by decide +kernel
theorem dX8_lighter_1 : decode cX8_lighter 1 = .ok (.getfield 73, 3) := by decide +kernel
theorem dX8_lighter_4 : decode cX8_lighter 4 = .ok (.ifCond .ne 13, 3) := by decide +kernel
theorem dX8_lighter_7 : decode cX8_lighter 7 = .ok (.ldc 200, 2) := by decide +kernel
theorem dX8_lighter_9 : decode cX8_lighter 9 = .ok (.aload_n 0, 1) := by decide +kernel
theorem dX8_lighter_10 : decode cX8_lighter 10 = .ok (.bipush (-3), 2) := by decide +kernel
theorem dX8_lighter_12 : decode cX8_lighter 12 = .ok (.invokevirtual 59, 3) := by decide +kernel
theorem dX8_lighter_15 : decode cX8_lighter 15 = .ok (.isub, 1) := by decide +kernel
theorem dX8_lighter_16 : decode cX8_lighter 16 = .ok (.ireturn, 1) := by decide +kernel
theorem dX8_lighter_17 : decode cX8_lighter 17 = .ok (.aload_n 0, 1) := by decide +kernel
theorem dX8_lighter_18 : decode cX8_lighter 18 = .ok (.invokevirtual 194, 3) := by decide +kernel
theorem dX8_lighter_21 : decode cX8_lighter 21 = .ok (.aload_n 0, 1) := by decide +kernel
theorem dX8_lighter_22 : decode cX8_lighter 22 = .ok (.getfield 16, 3) := by decide +kernel
theorem dX8_lighter_25 : decode cX8_lighter 25 = .ok (.iconst 5, 1) := by decide +kernel
theorem dX8_lighter_26 : decode cX8_lighter 26 = .ok (.iconst 0, 1) := by decide +kernel
theorem dX8_lighter_27 : decode cX8_lighter 27 = .ok (.iastore, 1) := by decide +kernel
theorem dX8_lighter_28 : decode cX8_lighter 28 = .ok (.aload_n 0, 1) := by decide +kernel
theorem dX8_lighter_29 : decode cX8_lighter 29 = .ok (.invokevirtual 201, 3) := by decide +kernel
theorem dX8_lighter_32 : decode cX8_lighter 32 = .ok (.istore_n 1, 1) := by decide +kernel
theorem dX8_lighter_33 : decode cX8_lighter 33 = .ok (.aload_n 0, 1) := by decide +kernel
theorem dX8_lighter_34 : decode cX8_lighter 34 = .ok (.invokevirtual 197, 3) := by decide +kernel
theorem dX8_lighter_37 : decode cX8_lighter 37 = .ok (.aload_n 0, 1) := by decide +kernel
theorem dX8_lighter_38 : decode cX8_lighter 38 = .ok (.invokevirtual 201, 3) := by decide +kernel
theorem dX8_lighter_41 : decode cX8_lighter 41 = .ok (.istore_n 2, 1) := by decide +kernel
theorem dX8_lighter_42 : decode cX8_lighter 42 = .ok (.aload_n 0, 1) := by decide +kernel
theorem dX8_lighter_43 : decode cX8_lighter 43 = .ok (.invokevirtual 197, 3) := by decide +kernel
theorem dX8_lighter_46 : decode cX8_lighter 46 = .ok (.iload_n 1, 1) := by decide +kernel
theorem dX8_lighter_47 : decode cX8_lighter 47 = .ok (.iload_n 2, 1) := by decide +kernel
theorem dX8_lighter_48 : decode cX8_lighter 48 = .ok (.isub, 1) := by decide +kernel
theorem dX8_lighter_49 : decode cX8_lighter 49 = .ok (.ireturn, 1) := by decide +kernel
theorem dX8_holds_0 : decode cX8_holds 0 = .ok (.aload_n 0, 1) := by decide +kernel
theorem dX8_holds_1 : decode cX8_holds 1 = .ok (.iload_n 1, 1) := by decide +kernel
theorem dX8_holds_2 : decode cX8_holds 2 = .ok (.invokevirtual 80, 3) := by decide +kernel
theorem dX8_holds_5 : decode cX8_holds 5 = .ok (.ifCond .ne 9, 3) := by decide +kernel
theorem dX8_holds_8 : decode cX8_holds 8 = .ok (.aload_n 0, 1) := by decide +kernel
theorem dX8_holds_9 : decode cX8_holds 9 = .ok (.iconst (-1), 1) := by decide +kernel
theorem dX8_holds_10 : decode cX8_holds 10 = .ok (.invokevirtual 59, 3) := by decide +kernel
theorem dX8_holds_13 : decode cX8_holds 13 = .ok (.ireturn, 1) := by decide +kernel
theorem dX8_holds_14 : decode cX8_holds 14 = .ok (.iload_n 2, 1) := by decide +kernel
theorem dX8_holds_15 : decode cX8_holds 15 = .ok (.ifCond .lt 7, 3) := by decide +kernel
theorem dX8_holds_18 : decode cX8_holds 18 = .ok (.iload_n 3, 1) := by decide +kernel
theorem dX8_holds_19 : decode cX8_holds 19 = .ok (.ifCond .ge 10, 3) := by decide +kernel
theorem dX8_holds_22 : decode cX8_holds 22 = .ok (.aload_n 0, 1) := by decide +kernel
theorem dX8_holds_23 : decode cX8_holds 23 = .ok (.bipush (-4), 2) := by decide +kernel
theorem dX8_holds_25 : decode cX8_holds 25 = .ok (.invokevirtual 59, 3) := by decide +kernel
theorem dX8_holds_28 : decode cX8_holds 28 = .ok (.ireturn, 1) := by decide +kernel
theorem dX8_holds_29 : decode cX8_holds 29 = .ok (.iload_n 2, 1) := by decide +kernel
theorem dX8_holds_30 : decode cX8_holds 30 = .ok (.iconst 3, 1) := by decide +kernel
theorem dX8_holds_31 : decode cX8_holds 31 = .ok (.if_icmp .gt 8, 3) := by decide +kernel
theorem dX8_holds_34 : decode cX8_holds 34 = .ok (.iload_n 3, 1) := by decide +kernel
theorem dX8_holds_35 : decode cX8_holds 35 = .ok (.iconst 5, 1) := by decide +kernel
theorem dX8_holds_36 : decode cX8_holds 36 = .ok (.if_icmp .le 10, 3) := by decide +kernel
theorem dX8_holds_39 : decode cX8_holds 39 = .ok (.aload_n 0, 1) := by decide +kernel
theorem dX8_holds_40 : decode cX8_holds 40 = .ok (.bipush (-6), 2) := by decide +kernel
theorem dX8_holds_42 : decode cX8_holds 42 = .ok (.invokevirtual 59, 3) := by decide +kernel
theorem dX8_holds_45 : decode cX8_holds 45 = .ok (.ireturn, 1) := by decide +kernel
theorem dX8_holds_46 : decode cX8_holds 46 = .ok (.aload_n 0, 1) := by decide +kernel
theorem dX8_holds_47 : decode cX8_holds 47 = .ok (.iload_n 1, 1) := by decide +kernel
theorem dX8_holds_48 : decode cX8_holds 48 = .ok (.invokevirtual 99, 3) := by decide +kernel
theorem dX8_holds_51 : decode cX8_holds 51 = .ok (.ifCond .ne 10, 3) := by decide +kernel
theorem dX8_holds_54 : decode cX8_holds 54 = .ok (.aload_n 0, 1) := by decide +kernel
theorem dX8_holds_55 : decode cX8_holds 55 = .ok (.bipush (-3), 2) := by decide +kernel
theorem dX8_holds_57 : decode cX8_holds 57 = .ok (.invokevirtual 59, 3) := by decide +kernel
theorem dX8_holds_60 : decode cX8_holds 60 = .ok (.ireturn, 1) := by decide +kernel
theorem dX8_holds_61 : decode cX8_holds 61 = .ok (.iconst 2, 1) := by decide +kernel
theorem dX8_holds_62 : decode cX8_holds 62 = .ok (.bipush 9, 2) := by decide +kernel
theorem dX8_holds_64 : decode cX8_holds 64 = .ok (.aload_n 0, 1) := by decide +kernel
theorem dX8_holds_65 : decode cX8_holds 65 = .ok (.getfield 7, 3) := by decide +kernel
theorem dX8_holds_68 : decode cX8_holds 68 = .ok (.iload_n 1, 1) := by decide +kernel
theorem dX8_holds_69 : decode cX8_holds 69 = .ok (.iaload, 1) := by decide +kernel
theorem dX8_holds_70 : decode cX8_holds 70 = .ok (.iload_n 3, 1) := by decide +kernel
theorem dX8_holds_71 : decode cX8_holds 71 = .ok (.iadd, 1) := by decide +kernel
theorem dX8_holds_72 : decode cX8_holds 72 = .ok (.invokestatic 145, 3) := by decide +kernel
theorem dX8_holds_75 : decode cX8_holds 75 = .ok (.imul, 1) := by decide +kernel
theorem dX8_holds_76 : decode cX8_holds 76 = .ok (.iconst 3, 1) := by decide +kernel
theorem dX8_holds_77 : decode cX8_holds 77 = .ok (.iadd, 1) := by decide +kernel
theorem dX8_holds_78 : decode cX8_holds 78 = .ok (.istore 4, 2) := by decide +kernel
theorem dX8_holds_80 : decode cX8_holds 80 = .ok (.iload 4, 2) := by decide +kernel
theorem dX8_holds_82 : decode cX8_holds 82 = .ok (.iload_n 2, 1) := by decide +kernel
theorem dX8_holds_83 : decode cX8_holds 83 = .ok (.if_icmp .ge 8, 3) := by decide +kernel
theorem dX8_holds_86 : decode cX8_holds 86 = .ok (.bipush (-9), 2) := by decide +kernel
theorem dX8_holds_88 : decode cX8_holds 88 = .ok (.goto 14, 3) := by decide +kernel
theorem dX8_holds_91 : decode cX8_holds 91 = .ok (.bipush 9, 2) := by decide +kernel
theorem dX8_holds_93 : decode cX8_holds 93 = .ok (.iload 4, 2) := by decide +kernel
theorem dX8_holds_95 : decode cX8_holds 95 = .ok (.iload_n 2, 1) := by decide +kernel
theorem dX8_holds_96 : decode cX8_holds 96 = .ok (.isub, 1) := by decide +kernel
theorem dX8_holds_97 : decode cX8_holds 97 = .ok (.iconst 2, 1) := by decide +kernel
theorem dX8_holds_98 : decode cX8_holds 98 = .ok (.idiv, 1) := by decide +kernel
theorem dX8_holds_99 : decode cX8_holds 99 = .ok (.invokestatic 145, 3) := by decide +kernel
theorem dX8_holds_102 : decode cX8_holds 102 = .ok (.ireturn, 1) := by decide +kernel
theorem dX8_beachBest_0 : decode cX8_beachBest 0 = .ok (.iconst 0, 1) := by decide +kernel
theorem dX8_beachBest_1 : decode cX8_beachBest 1 = .ok (.istore_n 1, 1) := by decide +kernel
theorem dX8_beachBest_2 : decode cX8_beachBest 2 = .ok (.iconst 0, 1) := by decide +kernel
theorem dX8_beachBest_3 : decode cX8_beachBest 3 = .ok (.istore_n 2, 1) := by decide +kernel
theorem dX8_beachBest_4 : decode cX8_beachBest 4 = .ok (.iload_n 2, 1) := by decide +kernel
theorem dX8_beachBest_5 : decode cX8_beachBest 5 = .ok (.aload_n 0, 1) := by decide +kernel
theorem dX8_beachBest_6 : decode cX8_beachBest 6 = .ok (.getfield 53, 3) := by decide +kernel
theorem dX8_beachBest_9 : decode cX8_beachBest 9 = .ok (.aload_n 0, 1) := by decide +kernel
theorem dX8_beachBest_10 : decode cX8_beachBest 10 = .ok (.getfield 56, 3) := by decide +kernel
theorem dX8_beachBest_13 : decode cX8_beachBest 13 = .ok (.imul, 1) := by decide +kernel
theorem dX8_beachBest_14 : decode cX8_beachBest 14 = .ok (.if_icmp .ge 22, 3) := by decide +kernel
theorem dX8_beachBest_17 : decode cX8_beachBest 17 = .ok (.aload_n 0, 1) := by decide +kernel
theorem dX8_beachBest_18 : decode cX8_beachBest 18 = .ok (.getfield 7, 3) := by decide +kernel
theorem dX8_beachBest_21 : decode cX8_beachBest 21 = .ok (.iload_n 2, 1) := by decide +kernel
theorem dX8_beachBest_22 : decode cX8_beachBest 22 = .ok (.iaload, 1) := by decide +kernel
theorem dX8_beachBest_23 : decode cX8_beachBest 23 = .ok (.bipush 30, 2) := by decide +kernel
theorem dX8_beachBest_25 : decode cX8_beachBest 25 = .ok (.if_icmp .ne 5, 3) := by decide +kernel
theorem dX8_beachBest_28 : decode cX8_beachBest 28 = .ok (.iconst 1, 1) := by decide +kernel
theorem dX8_beachBest_29 : decode cX8_beachBest 29 = .ok (.istore_n 1, 1) := by decide +kernel
theorem dX8_beachBest_30 : decode cX8_beachBest 30 = .ok (.iinc 2 1, 3) := by decide +kernel
theorem dX8_beachBest_33 : decode cX8_beachBest 33 = .ok (.goto (-29), 3) := by decide +kernel
theorem dX8_beachBest_36 : decode cX8_beachBest 36 = .ok (.iload_n 1, 1) := by decide +kernel
theorem dX8_beachBest_37 : decode cX8_beachBest 37 = .ok (.ifCond .ne 6, 3) := by decide +kernel
theorem dX8_beachBest_40 : decode cX8_beachBest 40 = .ok (.bipush (-9), 2) := by decide +kernel
theorem dX8_beachBest_42 : decode cX8_beachBest 42 = .ok (.ireturn, 1) := by decide +kernel
theorem dX8_beachBest_43 : decode cX8_beachBest 43 = .ok (.bipush (-9), 2) := by decide +kernel
theorem dX8_beachBest_45 : decode cX8_beachBest 45 = .ok (.istore_n 2, 1) := by decide +kernel
theorem dX8_beachBest_46 : decode cX8_beachBest 46 = .ok (.iconst (-1), 1) := by decide +kernel
theorem dX8_beachBest_47 : decode cX8_beachBest 47 = .ok (.istore_n 3, 1) := by decide +kernel
theorem dX8_beachBest_48 : decode cX8_beachBest 48 = .ok (.iconst 0, 1) := by decide +kernel
theorem dX8_beachBest_49 : decode cX8_beachBest 49 = .ok (.istore 4, 2) := by decide +kernel
theorem dX8_beachBest_51 : decode cX8_beachBest 51 = .ok (.iload 4, 2) := by decide +kernel
theorem dX8_beachBest_53 : decode cX8_beachBest 53 = .ok (.bipush 30, 2) := by decide +kernel
theorem dX8_beachBest_55 : decode cX8_beachBest 55 = .ok (.if_icmp .gt 76, 3) := by decide +kernel
theorem dX8_beachBest_58 : decode cX8_beachBest 58 = .ok (.aload_n 0, 1) := by decide +kernel
theorem dX8_beachBest_59 : decode cX8_beachBest 59 = .ok (.getfield 16, 3) := by decide +kernel
theorem dX8_beachBest_62 : decode cX8_beachBest 62 = .ok (.iconst 3, 1) := by decide +kernel
theorem dX8_beachBest_63 : decode cX8_beachBest 63 = .ok (.iaload, 1) := by decide +kernel
theorem dX8_beachBest_64 : decode cX8_beachBest 64 = .ok (.aload_n 0, 1) := by decide +kernel
theorem dX8_beachBest_65 : decode cX8_beachBest 65 = .ok (.getfield 16, 3) := by decide +kernel
theorem dX8_beachBest_68 : decode cX8_beachBest 68 = .ok (.iconst 3, 1) := by decide +kernel
theorem dX8_beachBest_69 : decode cX8_beachBest 69 = .ok (.iaload, 1) := by decide +kernel
theorem dX8_beachBest_70 : decode cX8_beachBest 70 = .ok (.bipush 20, 2) := by decide +kernel
theorem dX8_beachBest_72 : decode cX8_beachBest 72 = .ok (.bipush 10, 2) := by decide +kernel
theorem dX8_beachBest_74 : decode cX8_beachBest 74 = .ok (.aload_n 0, 1) := by decide +kernel
theorem dX8_beachBest_75 : decode cX8_beachBest 75 = .ok (.iload 4, 2) := by decide +kernel
theorem dX8_beachBest_77 : decode cX8_beachBest 77 = .ok (.invokevirtual 151, 3) := by decide +kernel
theorem dX8_beachBest_80 : decode cX8_beachBest 80 = .ok (.imul, 1) := by decide +kernel
theorem dX8_beachBest_81 : decode cX8_beachBest 81 = .ok (.iadd, 1) := by decide +kernel
theorem dX8_beachBest_82 : decode cX8_beachBest 82 = .ok (.iload 4, 2) := by decide +kernel
theorem dX8_beachBest_84 : decode cX8_beachBest 84 = .ok (.aload_n 0, 1) := by decide +kernel
theorem dX8_beachBest_85 : decode cX8_beachBest 85 = .ok (.getfield 16, 3) := by decide +kernel
theorem dX8_beachBest_88 : decode cX8_beachBest 88 = .ok (.bipush 6, 2) := by decide +kernel
theorem dX8_beachBest_90 : decode cX8_beachBest 90 = .ok (.iaload, 1) := by decide +kernel
theorem dX8_beachBest_91 : decode cX8_beachBest 91 = .ok (.if_icmp .ge 8, 3) := by decide +kernel
theorem dX8_beachBest_94 : decode cX8_beachBest 94 = .ok (.bipush 30, 2) := by decide +kernel
theorem dX8_beachBest_96 : decode cX8_beachBest 96 = .ok (.goto 4, 3) := by decide +kernel
theorem dX8_beachBest_99 : decode cX8_beachBest 99 = .ok (.iconst 0, 1) := by decide +kernel
theorem dX8_beachBest_100 : decode cX8_beachBest 100 = .ok (.iadd, 1) := by decide +kernel
theorem dX8_beachBest_101 : decode cX8_beachBest 101 = .ok (.imul, 1) := by decide +kernel
theorem dX8_beachBest_102 : decode cX8_beachBest 102 = .ok (.bipush 100, 2) := by decide +kernel
theorem dX8_beachBest_104 : decode cX8_beachBest 104 = .ok (.idiv, 1) := by decide +kernel
theorem dX8_beachBest_105 : decode cX8_beachBest 105 = .ok (.invokestatic 145, 3) := by decide +kernel
theorem dX8_beachBest_108 : decode cX8_beachBest 108 = .ok (.istore 5, 2) := by decide +kernel
theorem dX8_beachBest_110 : decode cX8_beachBest 110 = .ok (.iload 5, 2) := by decide +kernel
theorem dX8_beachBest_112 : decode cX8_beachBest 112 = .ok (.iload_n 3, 1) := by decide +kernel
theorem dX8_beachBest_113 : decode cX8_beachBest 113 = .ok (.if_icmp .gt 6, 3) := by decide +kernel
theorem dX8_beachBest_116 : decode cX8_beachBest 116 = .ok (.goto 9, 3) := by decide +kernel
theorem dX8_beachBest_119 : decode cX8_beachBest 119 = .ok (.iload 5, 2) := by decide +kernel
theorem dX8_beachBest_121 : decode cX8_beachBest 121 = .ok (.istore_n 3, 1) := by decide +kernel
theorem dX8_beachBest_122 : decode cX8_beachBest 122 = .ok (.iload 4, 2) := by decide +kernel
theorem dX8_beachBest_124 : decode cX8_beachBest 124 = .ok (.istore_n 2, 1) := by decide +kernel
theorem dX8_beachBest_125 : decode cX8_beachBest 125 = .ok (.iinc 4 1, 3) := by decide +kernel
theorem dX8_beachBest_128 : decode cX8_beachBest 128 = .ok (.goto (-77), 3) := by decide +kernel
theorem dX8_beachBest_131 : decode cX8_beachBest 131 = .ok (.iload_n 2, 1) := by decide +kernel
theorem dX8_beachBest_132 : decode cX8_beachBest 132 = .ok (.ireturn, 1) := by decide +kernel
theorem dX8_act_0 : decode cX8_act 0 = .ok (.iload_n 1, 1) := by decide +kernel
theorem dX8_act_1 : decode cX8_act 1 = .ok (.tableswitch 140 1 4 #[31, 63, 97, 112], 31) := by decide +kernel
theorem dX8_act_32 : decode cX8_act 32 = .ok (.aload_n 0, 1) := by decide +kernel
theorem dX8_act_33 : decode cX8_act 33 = .ok (.aload_n 0, 1) := by decide +kernel
theorem dX8_act_34 : decode cX8_act 34 = .ok (.getfield 129, 3) := by decide +kernel
theorem dX8_act_37 : decode cX8_act 37 = .ok (.iconst 2, 1) := by decide +kernel
theorem dX8_act_38 : decode cX8_act 38 = .ok (.iadd, 1) := by decide +kernel
theorem dX8_act_39 : decode cX8_act 39 = .ok (.bipush 8, 2) := by decide +kernel
theorem dX8_act_41 : decode cX8_act 41 = .ok (.irem, 1) := by decide +kernel
theorem dX8_act_42 : decode cX8_act 42 = .ok (.invokevirtual 179, 3) := by decide +kernel
theorem dX8_act_45 : decode cX8_act 45 = .ok (.ifCond .eq 96, 3) := by decide +kernel
theorem dX8_act_48 : decode cX8_act 48 = .ok (.aload_n 0, 1) := by decide +kernel
theorem dX8_act_49 : decode cX8_act 49 = .ok (.aload_n 0, 1) := by decide +kernel
theorem dX8_act_50 : decode cX8_act 50 = .ok (.getfield 129, 3) := by decide +kernel
theorem dX8_act_53 : decode cX8_act 53 = .ok (.iconst 2, 1) := by decide +kernel
theorem dX8_act_54 : decode cX8_act 54 = .ok (.iadd, 1) := by decide +kernel
theorem dX8_act_55 : decode cX8_act 55 = .ok (.bipush 8, 2) := by decide +kernel
theorem dX8_act_57 : decode cX8_act 57 = .ok (.irem, 1) := by decide +kernel
theorem dX8_act_58 : decode cX8_act 58 = .ok (.invokevirtual 185, 3) := by decide +kernel
theorem dX8_act_61 : decode cX8_act 61 = .ok (.goto 80, 3) := by decide +kernel
theorem dX8_act_64 : decode cX8_act 64 = .ok (.aload_n 0, 1) := by decide +kernel
theorem dX8_act_65 : decode cX8_act 65 = .ok (.aload_n 0, 1) := by decide +kernel
theorem dX8_act_66 : decode cX8_act 66 = .ok (.getfield 129, 3) := by decide +kernel
theorem dX8_act_69 : decode cX8_act 69 = .ok (.bipush 6, 2) := by decide +kernel
theorem dX8_act_71 : decode cX8_act 71 = .ok (.iadd, 1) := by decide +kernel
theorem dX8_act_72 : decode cX8_act 72 = .ok (.bipush 8, 2) := by decide +kernel
theorem dX8_act_74 : decode cX8_act 74 = .ok (.irem, 1) := by decide +kernel
theorem dX8_act_75 : decode cX8_act 75 = .ok (.invokevirtual 179, 3) := by decide +kernel
theorem dX8_act_78 : decode cX8_act 78 = .ok (.ifCond .eq 63, 3) := by decide +kernel
theorem dX8_act_81 : decode cX8_act 81 = .ok (.aload_n 0, 1) := by decide +kernel
theorem dX8_act_82 : decode cX8_act 82 = .ok (.aload_n 0, 1) := by decide +kernel
theorem dX8_act_83 : decode cX8_act 83 = .ok (.getfield 129, 3) := by decide +kernel
theorem dX8_act_86 : decode cX8_act 86 = .ok (.bipush 6, 2) := by decide +kernel
theorem dX8_act_88 : decode cX8_act 88 = .ok (.iadd, 1) := by decide +kernel
theorem dX8_act_89 : decode cX8_act 89 = .ok (.bipush 8, 2) := by decide +kernel
theorem dX8_act_91 : decode cX8_act 91 = .ok (.irem, 1) := by decide +kernel
theorem dX8_act_92 : decode cX8_act 92 = .ok (.invokevirtual 185, 3) := by decide +kernel
theorem dX8_act_95 : decode cX8_act 95 = .ok (.goto 46, 3) := by decide +kernel
theorem dX8_act_98 : decode cX8_act 98 = .ok (.aload_n 0, 1) := by decide +kernel
theorem dX8_act_99 : decode cX8_act 99 = .ok (.invokevirtual 188, 3) := by decide +kernel
theorem dX8_act_102 : decode cX8_act 102 = .ok (.ifCond .eq 39, 3) := by decide +kernel
theorem dX8_act_105 : decode cX8_act 105 = .ok (.aload_n 0, 1) := by decide +kernel
theorem dX8_act_106 : decode cX8_act 106 = .ok (.iconst 4, 1) := by decide +kernel
theorem dX8_act_107 : decode cX8_act 107 = .ok (.putfield 105, 3) := by decide +kernel
theorem dX8_act_110 : decode cX8_act 110 = .ok (.goto 31, 3) := by decide +kernel
theorem dX8_act_113 : decode cX8_act 113 = .ok (.aload_n 0, 1) := by decide +kernel
theorem dX8_act_114 : decode cX8_act 114 = .ok (.invokevirtual 163, 3) := by decide +kernel
theorem dX8_act_117 : decode cX8_act 117 = .ok (.ifCond .ne 24, 3) := by decide +kernel
theorem dX8_act_120 : decode cX8_act 120 = .ok (.aload_n 0, 1) := by decide +kernel
theorem dX8_act_121 : decode cX8_act 121 = .ok (.getfield 123, 3) := by decide +kernel
theorem dX8_act_124 : decode cX8_act 124 = .ok (.iconst 3, 1) := by decide +kernel
theorem dX8_act_125 : decode cX8_act 125 = .ok (.if_icmp .ge 16, 3) := by decide +kernel
theorem dX8_act_128 : decode cX8_act 128 = .ok (.aload_n 0, 1) := by decide +kernel
theorem dX8_act_129 : decode cX8_act 129 = .ok (.dup, 1) := by decide +kernel
theorem dX8_act_130 : decode cX8_act 130 = .ok (.getfield 123, 3) := by decide +kernel
theorem dX8_act_133 : decode cX8_act 133 = .ok (.iconst 1, 1) := by decide +kernel
theorem dX8_act_134 : decode cX8_act 134 = .ok (.iadd, 1) := by decide +kernel
theorem dX8_act_135 : decode cX8_act 135 = .ok (.putfield 123, 3) := by decide +kernel
theorem dX8_act_138 : decode cX8_act 138 = .ok (.goto 3, 3) := by decide +kernel
theorem dX8_act_141 : decode cX8_act 141 = .ok (.return_, 1) := by decide +kernel
theorem dX8_plan_0 : decode cX8_plan 0 = .ok (.iload_n 1, 1) := by decide +kernel
theorem dX8_plan_1 : decode cX8_plan 1 = .ok (.ifCond .lt 8, 3) := by decide +kernel
theorem dX8_plan_4 : decode cX8_plan 4 = .ok (.iload_n 2, 1) := by decide +kernel
theorem dX8_plan_5 : decode cX8_plan 5 = .ok (.iconst (-1), 1) := by decide +kernel
theorem dX8_plan_6 : decode cX8_plan 6 = .ok (.if_icmp .ge 10, 3) := by decide +kernel
theorem dX8_plan_9 : decode cX8_plan 9 = .ok (.aload_n 0, 1) := by decide +kernel
theorem dX8_plan_10 : decode cX8_plan 10 = .ok (.bipush (-4), 2) := by decide +kernel
theorem dX8_plan_12 : decode cX8_plan 12 = .ok (.invokevirtual 59, 3) := by decide +kernel
theorem dX8_plan_15 : decode cX8_plan 15 = .ok (.ireturn, 1) := by decide +kernel
theorem dX8_plan_16 : decode cX8_plan 16 = .ok (.iload_n 1, 1) := by decide +kernel
theorem dX8_plan_17 : decode cX8_plan 17 = .ok (.iconst 4, 1) := by decide +kernel
theorem dX8_plan_18 : decode cX8_plan 18 = .ok (.if_icmp .le 10, 3) := by decide +kernel
theorem dX8_plan_21 : decode cX8_plan 21 = .ok (.aload_n 0, 1) := by decide +kernel
theorem dX8_plan_22 : decode cX8_plan 22 = .ok (.bipush (-6), 2) := by decide +kernel
theorem dX8_plan_24 : decode cX8_plan 24 = .ok (.invokevirtual 59, 3) := by decide +kernel
theorem dX8_plan_27 : decode cX8_plan 27 = .ok (.ireturn, 1) := by decide +kernel
theorem dX8_plan_28 : decode cX8_plan 28 = .ok (.aload_n 0, 1) := by decide +kernel
theorem dX8_plan_29 : decode cX8_plan 29 = .ok (.getfield 73, 3) := by decide +kernel
theorem dX8_plan_32 : decode cX8_plan 32 = .ok (.ifCond .ne 10, 3) := by decide +kernel
theorem dX8_plan_35 : decode cX8_plan 35 = .ok (.aload_n 0, 1) := by decide +kernel
theorem dX8_plan_36 : decode cX8_plan 36 = .ok (.bipush (-3), 2) := by decide +kernel
theorem dX8_plan_38 : decode cX8_plan 38 = .ok (.invokevirtual 59, 3) := by decide +kernel
theorem dX8_plan_41 : decode cX8_plan 41 = .ok (.ireturn, 1) := by decide +kernel
theorem dX8_plan_42 : decode cX8_plan 42 = .ok (.iload_n 2, 1) := by decide +kernel
theorem dX8_plan_43 : decode cX8_plan 43 = .ok (.iload_n 1, 1) := by decide +kernel
theorem dX8_plan_44 : decode cX8_plan 44 = .ok (.if_icmp .lt 6, 3) := by decide +kernel
theorem dX8_plan_47 : decode cX8_plan 47 = .ok (.bipush (-9), 2) := by decide +kernel
theorem dX8_plan_49 : decode cX8_plan 49 = .ok (.ireturn, 1) := by decide +kernel
theorem dX8_plan_50 : decode cX8_plan 50 = .ok (.aload_n 0, 1) := by decide +kernel
theorem dX8_plan_51 : decode cX8_plan 51 = .ok (.invokevirtual 194, 3) := by decide +kernel
theorem dX8_plan_54 : decode cX8_plan 54 = .ok (.iconst 1, 1) := by decide +kernel
theorem dX8_plan_55 : decode cX8_plan 55 = .ok (.istore_n 3, 1) := by decide +kernel
theorem dX8_plan_56 : decode cX8_plan 56 = .ok (.iconst 0, 1) := by decide +kernel
theorem dX8_plan_57 : decode cX8_plan 57 = .ok (.istore 4, 2) := by decide +kernel
theorem dX8_plan_59 : decode cX8_plan 59 = .ok (.iload 4, 2) := by decide +kernel
theorem dX8_plan_61 : decode cX8_plan 61 = .ok (.iload_n 1, 1) := by decide +kernel
theorem dX8_plan_62 : decode cX8_plan 62 = .ok (.if_icmp .ge 13, 3) := by decide +kernel
theorem dX8_plan_65 : decode cX8_plan 65 = .ok (.iload_n 3, 1) := by decide +kernel
theorem dX8_plan_66 : decode cX8_plan 66 = .ok (.iconst 5, 1) := by decide +kernel
theorem dX8_plan_67 : decode cX8_plan 67 = .ok (.imul, 1) := by decide +kernel
theorem dX8_plan_68 : decode cX8_plan 68 = .ok (.istore_n 3, 1) := by decide +kernel
theorem dX8_plan_69 : decode cX8_plan 69 = .ok (.iinc 4 1, 3) := by decide +kernel
theorem dX8_plan_72 : decode cX8_plan 72 = .ok (.goto (-13), 3) := by decide +kernel
theorem dX8_plan_75 : decode cX8_plan 75 = .ok (.iconst 0, 1) := by decide +kernel
theorem dX8_plan_76 : decode cX8_plan 76 = .ok (.istore 4, 2) := by decide +kernel
theorem dX8_plan_78 : decode cX8_plan 78 = .ok (.iconst (-1), 1) := by decide +kernel
theorem dX8_plan_79 : decode cX8_plan 79 = .ok (.istore 5, 2) := by decide +kernel
theorem dX8_plan_81 : decode cX8_plan 81 = .ok (.iconst 0, 1) := by decide +kernel
theorem dX8_plan_82 : decode cX8_plan 82 = .ok (.istore 6, 2) := by decide +kernel
theorem dX8_plan_84 : decode cX8_plan 84 = .ok (.iload 6, 2) := by decide +kernel
theorem dX8_plan_86 : decode cX8_plan 86 = .ok (.iload_n 3, 1) := by decide +kernel
theorem dX8_plan_87 : decode cX8_plan 87 = .ok (.if_icmp .ge 78, 3) := by decide +kernel
theorem dX8_plan_90 : decode cX8_plan 90 = .ok (.iload_n 3, 1) := by decide +kernel
theorem dX8_plan_91 : decode cX8_plan 91 = .ok (.istore 7, 2) := by decide +kernel
theorem dX8_plan_93 : decode cX8_plan 93 = .ok (.iconst 0, 1) := by decide +kernel
theorem dX8_plan_94 : decode cX8_plan 94 = .ok (.istore 8, 2) := by decide +kernel
theorem dX8_plan_96 : decode cX8_plan 96 = .ok (.iload 8, 2) := by decide +kernel
theorem dX8_plan_98 : decode cX8_plan 98 = .ok (.bipush 20, 2) := by decide +kernel
theorem dX8_plan_100 : decode cX8_plan 100 = .ok (.if_icmp .ge 36, 3) := by decide +kernel
theorem dX8_plan_103 : decode cX8_plan 103 = .ok (.iload 8, 2) := by decide +kernel
theorem dX8_plan_105 : decode cX8_plan 105 = .ok (.iload_n 1, 1) := by decide +kernel
theorem dX8_plan_106 : decode cX8_plan 106 = .ok (.if_icmp .ge 20, 3) := by decide +kernel
theorem dX8_plan_109 : decode cX8_plan 109 = .ok (.iload 7, 2) := by decide +kernel
theorem dX8_plan_111 : decode cX8_plan 111 = .ok (.iconst 5, 1) := by decide +kernel
theorem dX8_plan_112 : decode cX8_plan 112 = .ok (.idiv, 1) := by decide +kernel
theorem dX8_plan_113 : decode cX8_plan 113 = .ok (.istore 7, 2) := by decide +kernel
theorem dX8_plan_115 : decode cX8_plan 115 = .ok (.aload_n 0, 1) := by decide +kernel
theorem dX8_plan_116 : decode cX8_plan 116 = .ok (.iload 6, 2) := by decide +kernel
theorem dX8_plan_118 : decode cX8_plan 118 = .ok (.iload 7, 2) := by decide +kernel
theorem dX8_plan_120 : decode cX8_plan 120 = .ok (.idiv, 1) := by decide +kernel
theorem dX8_plan_121 : decode cX8_plan 121 = .ok (.iconst 5, 1) := by decide +kernel
theorem dX8_plan_122 : decode cX8_plan 122 = .ok (.irem, 1) := by decide +kernel
theorem dX8_plan_123 : decode cX8_plan 123 = .ok (.invokevirtual 204, 3) := by decide +kernel
theorem dX8_plan_126 : decode cX8_plan 126 = .ok (.aload_n 0, 1) := by decide +kernel
theorem dX8_plan_127 : decode cX8_plan 127 = .ok (.invokevirtual 176, 3) := by decide +kernel
theorem dX8_plan_130 : decode cX8_plan 130 = .ok (.iinc 8 1, 3) := by decide +kernel
theorem dX8_plan_133 : decode cX8_plan 133 = .ok (.goto (-37), 3) := by decide +kernel
theorem dX8_plan_136 : decode cX8_plan 136 = .ok (.aload_n 0, 1) := by decide +kernel
theorem dX8_plan_137 : decode cX8_plan 137 = .ok (.invokevirtual 154, 3) := by decide +kernel
theorem dX8_plan_140 : decode cX8_plan 140 = .ok (.iload 5, 2) := by decide +kernel
theorem dX8_plan_142 : decode cX8_plan 142 = .ok (.if_icmp .le 13, 3) := by decide +kernel
theorem dX8_plan_145 : decode cX8_plan 145 = .ok (.aload_n 0, 1) := by decide +kernel
theorem dX8_plan_146 : decode cX8_plan 146 = .ok (.invokevirtual 154, 3) := by decide +kernel
theorem dX8_plan_149 : decode cX8_plan 149 = .ok (.istore 5, 2) := by decide +kernel
theorem dX8_plan_151 : decode cX8_plan 151 = .ok (.iload 6, 2) := by decide +kernel
theorem dX8_plan_153 : decode cX8_plan 153 = .ok (.istore 4, 2) := by decide +kernel
theorem dX8_plan_155 : decode cX8_plan 155 = .ok (.aload_n 0, 1) := by decide +kernel
theorem dX8_plan_156 : decode cX8_plan 156 = .ok (.invokevirtual 197, 3) := by decide +kernel
theorem dX8_plan_159 : decode cX8_plan 159 = .ok (.iinc 6 1, 3) := by decide +kernel
theorem dX8_plan_162 : decode cX8_plan 162 = .ok (.goto (-78), 3) := by decide +kernel
theorem dX8_plan_165 : decode cX8_plan 165 = .ok (.iload_n 2, 1) := by decide +kernel
theorem dX8_plan_166 : decode cX8_plan 166 = .ok (.ifCond .ge 6, 3) := by decide +kernel
theorem dX8_plan_169 : decode cX8_plan 169 = .ok (.iload 5, 2) := by decide +kernel
theorem dX8_plan_171 : decode cX8_plan 171 = .ok (.ireturn, 1) := by decide +kernel
theorem dX8_plan_172 : decode cX8_plan 172 = .ok (.iload_n 1, 1) := by decide +kernel
theorem dX8_plan_173 : decode cX8_plan 173 = .ok (.iconst 1, 1) := by decide +kernel
theorem dX8_plan_174 : decode cX8_plan 174 = .ok (.isub, 1) := by decide +kernel
theorem dX8_plan_175 : decode cX8_plan 175 = .ok (.istore 6, 2) := by decide +kernel
theorem dX8_plan_177 : decode cX8_plan 177 = .ok (.iload 6, 2) := by decide +kernel
theorem dX8_plan_179 : decode cX8_plan 179 = .ok (.iload_n 2, 1) := by decide +kernel
theorem dX8_plan_180 : decode cX8_plan 180 = .ok (.if_icmp .le 15, 3) := by decide +kernel
theorem dX8_plan_183 : decode cX8_plan 183 = .ok (.iload 4, 2) := by decide +kernel
theorem dX8_plan_185 : decode cX8_plan 185 = .ok (.iconst 5, 1) := by decide +kernel
theorem dX8_plan_186 : decode cX8_plan 186 = .ok (.idiv, 1) := by decide +kernel
theorem dX8_plan_187 : decode cX8_plan 187 = .ok (.istore 4, 2) := by decide +kernel
theorem dX8_plan_189 : decode cX8_plan 189 = .ok (.iinc 6 (-1), 3) := by decide +kernel
theorem dX8_plan_192 : decode cX8_plan 192 = .ok (.goto (-15), 3) := by decide +kernel
theorem dX8_plan_195 : decode cX8_plan 195 = .ok (.iload 4, 2) := by decide +kernel
theorem dX8_plan_197 : decode cX8_plan 197 = .ok (.iconst 5, 1) := by decide +kernel
theorem dX8_plan_198 : decode cX8_plan 198 = .ok (.irem, 1) := by decide +kernel
theorem dX8_plan_199 : decode cX8_plan 199 = .ok (.ireturn, 1) := by decide +kernel
theorem dX8_stood_0 : decode cX8_stood 0 = .ok (.aload_n 0, 1) := by decide +kernel
theorem dX8_stood_1 : decode cX8_stood 1 = .ok (.iload_n 1, 1) := by decide +kernel
theorem dX8_stood_2 : decode cX8_stood 2 = .ok (.invokevirtual 80, 3) := by decide +kernel
theorem dX8_stood_5 : decode cX8_stood 5 = .ok (.ifCond .eq 10, 3) := by decide +kernel
theorem dX8_stood_8 : decode cX8_stood 8 = .ok (.iload_n 2, 1) := by decide +kernel
theorem dX8_stood_9 : decode cX8_stood 9 = .ok (.invokestatic 84, 3) := by decide +kernel
theorem dX8_stood_12 : decode cX8_stood 12 = .ok (.ifCond .ne 9, 3) := by decide +kernel
theorem dX8_stood_15 : decode cX8_stood 15 = .ok (.aload_n 0, 1) := by decide +kernel
theorem dX8_stood_16 : decode cX8_stood 16 = .ok (.iconst (-1), 1) := by decide +kernel
theorem dX8_stood_17 : decode cX8_stood 17 = .ok (.invokevirtual 59, 3) := by decide +kernel
theorem dX8_stood_20 : decode cX8_stood 20 = .ok (.ireturn, 1) := by decide +kernel
theorem dX8_stood_21 : decode cX8_stood 21 = .ok (.aload_n 0, 1) := by decide +kernel
theorem dX8_stood_22 : decode cX8_stood 22 = .ok (.iload_n 1, 1) := by decide +kernel
theorem dX8_stood_23 : decode cX8_stood 23 = .ok (.invokevirtual 132, 3) := by decide +kernel
theorem dX8_stood_26 : decode cX8_stood 26 = .ok (.ifCond .eq 10, 3) := by decide +kernel
theorem dX8_stood_29 : decode cX8_stood 29 = .ok (.aload_n 0, 1) := by decide +kernel
theorem dX8_stood_30 : decode cX8_stood 30 = .ok (.getfield 73, 3) := by decide +kernel
theorem dX8_stood_33 : decode cX8_stood 33 = .ok (.ifCond .ne 10, 3) := by decide +kernel
theorem dX8_stood_36 : decode cX8_stood 36 = .ok (.aload_n 0, 1) := by decide +kernel
theorem dX8_stood_37 : decode cX8_stood 37 = .ok (.bipush (-3), 2) := by decide +kernel
theorem dX8_stood_39 : decode cX8_stood 39 = .ok (.invokevirtual 59, 3) := by decide +kernel
theorem dX8_stood_42 : decode cX8_stood 42 = .ok (.ireturn, 1) := by decide +kernel
theorem dX8_stood_43 : decode cX8_stood 43 = .ok (.aload_n 0, 1) := by decide +kernel
theorem dX8_stood_44 : decode cX8_stood 44 = .ok (.invokevirtual 194, 3) := by decide +kernel
theorem dX8_stood_47 : decode cX8_stood 47 = .ok (.bipush (-9), 2) := by decide +kernel
theorem dX8_stood_49 : decode cX8_stood 49 = .ok (.istore_n 3, 1) := by decide +kernel
theorem dX8_stood_50 : decode cX8_stood 50 = .ok (.bipush 40, 2) := by decide +kernel
theorem dX8_stood_52 : decode cX8_stood 52 = .ok (.istore 4, 2) := by decide +kernel
theorem dX8_stood_54 : decode cX8_stood 54 = .ok (.iload 4, 2) := by decide +kernel
theorem dX8_stood_56 : decode cX8_stood 56 = .ok (.ifCond .lt 77, 3) := by decide +kernel
theorem dX8_stood_59 : decode cX8_stood 59 = .ok (.iload_n 3, 1) := by decide +kernel
theorem dX8_stood_60 : decode cX8_stood 60 = .ok (.ifCond .ge 73, 3) := by decide +kernel
theorem dX8_stood_63 : decode cX8_stood 63 = .ok (.aload_n 0, 1) := by decide +kernel
theorem dX8_stood_64 : decode cX8_stood 64 = .ok (.getfield 123, 3) := by decide +kernel
theorem dX8_stood_67 : decode cX8_stood 67 = .ok (.istore 5, 2) := by decide +kernel
theorem dX8_stood_69 : decode cX8_stood 69 = .ok (.aload_n 0, 1) := by decide +kernel
theorem dX8_stood_70 : decode cX8_stood 70 = .ok (.iload_n 1, 1) := by decide +kernel
theorem dX8_stood_71 : decode cX8_stood 71 = .ok (.invokevirtual 135, 3) := by decide +kernel
theorem dX8_stood_74 : decode cX8_stood 74 = .ok (.aload_n 0, 1) := by decide +kernel
theorem dX8_stood_75 : decode cX8_stood 75 = .ok (.iload 5, 2) := by decide +kernel
theorem dX8_stood_77 : decode cX8_stood 77 = .ok (.putfield 123, 3) := by decide +kernel
theorem dX8_stood_80 : decode cX8_stood 80 = .ok (.aload_n 0, 1) := by decide +kernel
theorem dX8_stood_81 : decode cX8_stood 81 = .ok (.iload_n 2, 1) := by decide +kernel
theorem dX8_stood_82 : decode cX8_stood 82 = .ok (.putfield 129, 3) := by decide +kernel
theorem dX8_stood_85 : decode cX8_stood 85 = .ok (.aload_n 0, 1) := by decide +kernel
theorem dX8_stood_86 : decode cX8_stood 86 = .ok (.iload 4, 2) := by decide +kernel
theorem dX8_stood_88 : decode cX8_stood 88 = .ok (.putfield 77, 3) := by decide +kernel
theorem dX8_stood_91 : decode cX8_stood 91 = .ok (.iconst 0, 1) := by decide +kernel
theorem dX8_stood_92 : decode cX8_stood 92 = .ok (.istore 6, 2) := by decide +kernel
theorem dX8_stood_94 : decode cX8_stood 94 = .ok (.iload 6, 2) := by decide +kernel
theorem dX8_stood_96 : decode cX8_stood 96 = .ok (.bipush 60, 2) := by decide +kernel
theorem dX8_stood_98 : decode cX8_stood 98 = .ok (.if_icmp .ge 13, 3) := by decide +kernel
theorem dX8_stood_101 : decode cX8_stood 101 = .ok (.aload_n 0, 1) := by decide +kernel
theorem dX8_stood_102 : decode cX8_stood 102 = .ok (.invokevirtual 176, 3) := by decide +kernel
theorem dX8_stood_105 : decode cX8_stood 105 = .ok (.iinc 6 1, 3) := by decide +kernel
theorem dX8_stood_108 : decode cX8_stood 108 = .ok (.goto (-14), 3) := by decide +kernel
theorem dX8_stood_111 : decode cX8_stood 111 = .ok (.aload_n 0, 1) := by decide +kernel
theorem dX8_stood_112 : decode cX8_stood 112 = .ok (.getfield 105, 3) := by decide +kernel
theorem dX8_stood_115 : decode cX8_stood 115 = .ok (.bipush 8, 2) := by decide +kernel
theorem dX8_stood_117 : decode cX8_stood 117 = .ok (.if_icmp .ne 6, 3) := by decide +kernel
theorem dX8_stood_120 : decode cX8_stood 120 = .ok (.iload 4, 2) := by decide +kernel
theorem dX8_stood_122 : decode cX8_stood 122 = .ok (.istore_n 3, 1) := by decide +kernel
theorem dX8_stood_123 : decode cX8_stood 123 = .ok (.aload_n 0, 1) := by decide +kernel
theorem dX8_stood_124 : decode cX8_stood 124 = .ok (.invokevirtual 197, 3) := by decide +kernel
theorem dX8_stood_127 : decode cX8_stood 127 = .ok (.iinc 4 (-1), 3) := by decide +kernel
theorem dX8_stood_130 : decode cX8_stood 130 = .ok (.goto (-76), 3) := by decide +kernel
theorem dX8_stood_133 : decode cX8_stood 133 = .ok (.iload_n 3, 1) := by decide +kernel
theorem dX8_stood_134 : decode cX8_stood 134 = .ok (.ireturn, 1) := by decide +kernel
theorem dX8_worth_0 : decode cX8_worth 0 = .ok (.iload_n 2, 1) := by decide +kernel
theorem dX8_worth_1 : decode cX8_worth 1 = .ok (.invokestatic 84, 3) := by decide +kernel
theorem dX8_worth_4 : decode cX8_worth 4 = .ok (.ifCond .ne 12, 3) := by decide +kernel
theorem dX8_worth_7 : decode cX8_worth 7 = .ok (.ldc 200, 2) := by decide +kernel
theorem dX8_worth_9 : decode cX8_worth 9 = .ok (.aload_n 0, 1) := by decide +kernel
theorem dX8_worth_10 : decode cX8_worth 10 = .ok (.iconst (-1), 1) := by decide +kernel
theorem dX8_worth_11 : decode cX8_worth 11 = .ok (.invokevirtual 59, 3) := by decide +kernel
theorem dX8_worth_14 : decode cX8_worth 14 = .ok (.isub, 1) := by decide +kernel
theorem dX8_worth_15 : decode cX8_worth 15 = .ok (.ireturn, 1) := by decide +kernel
theorem dX8_worth_16 : decode cX8_worth 16 = .ok (.iload_n 1, 1) := by decide +kernel
theorem dX8_worth_17 : decode cX8_worth 17 = .ok (.ifCond .ge 13, 3) := by decide +kernel
theorem dX8_worth_20 : decode cX8_worth 20 = .ok (.ldc 200, 2) := by decide +kernel
theorem dX8_worth_22 : decode cX8_worth 22 = .ok (.aload_n 0, 1) := by decide +kernel
theorem dX8_worth_23 : decode cX8_worth 23 = .ok (.bipush (-4), 2) := by decide +kernel
theorem dX8_worth_25 : decode cX8_worth 25 = .ok (.invokevirtual 59, 3) := by decide +kernel
theorem dX8_worth_28 : decode cX8_worth 28 = .ok (.isub, 1) := by decide +kernel
theorem dX8_worth_29 : decode cX8_worth 29 = .ok (.ireturn, 1) := by decide +kernel
theorem dX8_worth_30 : decode cX8_worth 30 = .ok (.iload_n 1, 1) := by decide +kernel
theorem dX8_worth_31 : decode cX8_worth 31 = .ok (.bipush 29, 2) := by decide +kernel
theorem dX8_worth_33 : decode cX8_worth 33 = .ok (.if_icmp .le 13, 3) := by decide +kernel
theorem dX8_worth_36 : decode cX8_worth 36 = .ok (.ldc 200, 2) := by decide +kernel
theorem dX8_worth_38 : decode cX8_worth 38 = .ok (.aload_n 0, 1) := by decide +kernel
theorem dX8_worth_39 : decode cX8_worth 39 = .ok (.bipush (-6), 2) := by decide +kernel
theorem dX8_worth_41 : decode cX8_worth 41 = .ok (.invokevirtual 59, 3) := by decide +kernel
theorem dX8_worth_44 : decode cX8_worth 44 = .ok (.isub, 1) := by decide +kernel
theorem dX8_worth_45 : decode cX8_worth 45 = .ok (.ireturn, 1) := by decide +kernel
theorem dX8_worth_46 : decode cX8_worth 46 = .ok (.aload_n 0, 1) := by decide +kernel
theorem dX8_worth_47 : decode cX8_worth 47 = .ok (.getfield 73, 3) := by decide +kernel
theorem dX8_worth_50 : decode cX8_worth 50 = .ok (.ifCond .ne 13, 3) := by decide +kernel
theorem dX8_worth_53 : decode cX8_worth 53 = .ok (.ldc 200, 2) := by decide +kernel
theorem dX8_worth_55 : decode cX8_worth 55 = .ok (.aload_n 0, 1) := by decide +kernel
theorem dX8_worth_56 : decode cX8_worth 56 = .ok (.bipush (-3), 2) := by decide +kernel
theorem dX8_worth_58 : decode cX8_worth 58 = .ok (.invokevirtual 59, 3) := by decide +kernel
theorem dX8_worth_61 : decode cX8_worth 61 = .ok (.isub, 1) := by decide +kernel
theorem dX8_worth_62 : decode cX8_worth 62 = .ok (.ireturn, 1) := by decide +kernel
theorem dX8_worth_63 : decode cX8_worth 63 = .ok (.aload_n 0, 1) := by decide +kernel
theorem dX8_worth_64 : decode cX8_worth 64 = .ok (.invokevirtual 194, 3) := by decide +kernel
theorem dX8_worth_67 : decode cX8_worth 67 = .ok (.iconst 0, 1) := by decide +kernel
theorem dX8_worth_68 : decode cX8_worth 68 = .ok (.istore_n 3, 1) := by decide +kernel
theorem dX8_worth_69 : decode cX8_worth 69 = .ok (.iload_n 3, 1) := by decide +kernel
theorem dX8_worth_70 : decode cX8_worth 70 = .ok (.bipush 30, 2) := by decide +kernel
theorem dX8_worth_72 : decode cX8_worth 72 = .ok (.if_icmp .ge 13, 3) := by decide +kernel
theorem dX8_worth_75 : decode cX8_worth 75 = .ok (.aload_n 0, 1) := by decide +kernel
theorem dX8_worth_76 : decode cX8_worth 76 = .ok (.invokevirtual 176, 3) := by decide +kernel
theorem dX8_worth_79 : decode cX8_worth 79 = .ok (.iinc 3 1, 3) := by decide +kernel
theorem dX8_worth_82 : decode cX8_worth 82 = .ok (.goto (-13), 3) := by decide +kernel
theorem dX8_worth_85 : decode cX8_worth 85 = .ok (.aload_n 0, 1) := by decide +kernel
theorem dX8_worth_86 : decode cX8_worth 86 = .ok (.invokevirtual 154, 3) := by decide +kernel
theorem dX8_worth_89 : decode cX8_worth 89 = .ok (.istore_n 3, 1) := by decide +kernel
theorem dX8_worth_90 : decode cX8_worth 90 = .ok (.aload_n 0, 1) := by decide +kernel
theorem dX8_worth_91 : decode cX8_worth 91 = .ok (.invokevirtual 197, 3) := by decide +kernel
theorem dX8_worth_94 : decode cX8_worth 94 = .ok (.aload_n 0, 1) := by decide +kernel
theorem dX8_worth_95 : decode cX8_worth 95 = .ok (.aload_n 0, 1) := by decide +kernel
theorem dX8_worth_96 : decode cX8_worth 96 = .ok (.getfield 77, 3) := by decide +kernel
theorem dX8_worth_99 : decode cX8_worth 99 = .ok (.iload_n 1, 1) := by decide +kernel
theorem dX8_worth_100 : decode cX8_worth 100 = .ok (.iadd, 1) := by decide +kernel
theorem dX8_worth_101 : decode cX8_worth 101 = .ok (.putfield 49, 3) := by decide +kernel
theorem dX8_worth_104 : decode cX8_worth 104 = .ok (.aload_n 0, 1) := by decide +kernel
theorem dX8_worth_105 : decode cX8_worth 105 = .ok (.iload_n 2, 1) := by decide +kernel
theorem dX8_worth_106 : decode cX8_worth 106 = .ok (.putfield 93, 3) := by decide +kernel
theorem dX8_worth_109 : decode cX8_worth 109 = .ok (.iconst 0, 1) := by decide +kernel
theorem dX8_worth_110 : decode cX8_worth 110 = .ok (.istore 4, 2) := by decide +kernel
theorem dX8_worth_112 : decode cX8_worth 112 = .ok (.iload 4, 2) := by decide +kernel
theorem dX8_worth_114 : decode cX8_worth 114 = .ok (.bipush 30, 2) := by decide +kernel
theorem dX8_worth_116 : decode cX8_worth 116 = .ok (.if_icmp .ge 13, 3) := by decide +kernel
theorem dX8_worth_119 : decode cX8_worth 119 = .ok (.aload_n 0, 1) := by decide +kernel
theorem dX8_worth_120 : decode cX8_worth 120 = .ok (.invokevirtual 176, 3) := by decide +kernel
theorem dX8_worth_123 : decode cX8_worth 123 = .ok (.iinc 4 1, 3) := by decide +kernel
theorem dX8_worth_126 : decode cX8_worth 126 = .ok (.goto (-14), 3) := by decide +kernel
theorem dX8_worth_129 : decode cX8_worth 129 = .ok (.aload_n 0, 1) := by decide +kernel
theorem dX8_worth_130 : decode cX8_worth 130 = .ok (.invokevirtual 154, 3) := by decide +kernel
theorem dX8_worth_133 : decode cX8_worth 133 = .ok (.istore 4, 2) := by decide +kernel
theorem dX8_worth_135 : decode cX8_worth 135 = .ok (.aload_n 0, 1) := by decide +kernel
theorem dX8_worth_136 : decode cX8_worth 136 = .ok (.invokevirtual 197, 3) := by decide +kernel
theorem dX8_worth_139 : decode cX8_worth 139 = .ok (.iload 4, 2) := by decide +kernel
theorem dX8_worth_141 : decode cX8_worth 141 = .ok (.iload_n 3, 1) := by decide +kernel
theorem dX8_worth_142 : decode cX8_worth 142 = .ok (.isub, 1) := by decide +kernel
theorem dX8_worth_143 : decode cX8_worth 143 = .ok (.ireturn, 1) := by decide +kernel
theorem dX8_light_0 : decode cX8_light 0 = .ok (.bipush (-9), 2) := by decide +kernel
theorem dX8_light_2 : decode cX8_light 2 = .ok (.istore_n 1, 1) := by decide +kernel
theorem dX8_light_3 : decode cX8_light 3 = .ok (.iconst (-1), 1) := by decide +kernel
theorem dX8_light_4 : decode cX8_light 4 = .ok (.istore_n 2, 1) := by decide +kernel
theorem dX8_light_5 : decode cX8_light 5 = .ok (.iconst 0, 1) := by decide +kernel
theorem dX8_light_6 : decode cX8_light 6 = .ok (.istore_n 3, 1) := by decide +kernel
theorem dX8_light_7 : decode cX8_light 7 = .ok (.iload_n 3, 1) := by decide +kernel
theorem dX8_light_8 : decode cX8_light 8 = .ok (.aload_n 0, 1) := by decide +kernel
theorem dX8_light_9 : decode cX8_light 9 = .ok (.getfield 53, 3) := by decide +kernel
theorem dX8_light_12 : decode cX8_light 12 = .ok (.aload_n 0, 1) := by decide +kernel
theorem dX8_light_13 : decode cX8_light 13 = .ok (.getfield 56, 3) := by decide +kernel
theorem dX8_light_16 : decode cX8_light 16 = .ok (.imul, 1) := by decide +kernel
theorem dX8_light_17 : decode cX8_light 17 = .ok (.if_icmp .ge 106, 3) := by decide +kernel
theorem dX8_light_20 : decode cX8_light 20 = .ok (.aload_n 0, 1) := by decide +kernel
theorem dX8_light_21 : decode cX8_light 21 = .ok (.getfield 7, 3) := by decide +kernel
theorem dX8_light_24 : decode cX8_light 24 = .ok (.iload_n 3, 1) := by decide +kernel
theorem dX8_light_25 : decode cX8_light 25 = .ok (.iaload, 1) := by decide +kernel
theorem dX8_light_26 : decode cX8_light 26 = .ok (.ifCond .eq 6, 3) := by decide +kernel
theorem dX8_light_29 : decode cX8_light 29 = .ok (.goto 88, 3) := by decide +kernel
theorem dX8_light_32 : decode cX8_light 32 = .ok (.iconst 0, 1) := by decide +kernel
theorem dX8_light_33 : decode cX8_light 33 = .ok (.istore 4, 2) := by decide +kernel
theorem dX8_light_35 : decode cX8_light 35 = .ok (.iconst 0, 1) := by decide +kernel
theorem dX8_light_36 : decode cX8_light 36 = .ok (.istore 5, 2) := by decide +kernel
theorem dX8_light_38 : decode cX8_light 38 = .ok (.iload 5, 2) := by decide +kernel
theorem dX8_light_40 : decode cX8_light 40 = .ok (.bipush 8, 2) := by decide +kernel
theorem dX8_light_42 : decode cX8_light 42 = .ok (.if_icmp .ge 61, 3) := by decide +kernel
theorem dX8_light_45 : decode cX8_light 45 = .ok (.aload_n 0, 1) := by decide +kernel
theorem dX8_light_46 : decode cX8_light 46 = .ok (.iload_n 3, 1) := by decide +kernel
theorem dX8_light_47 : decode cX8_light 47 = .ok (.iload 5, 2) := by decide +kernel
theorem dX8_light_49 : decode cX8_light 49 = .ok (.invokevirtual 157, 3) := by decide +kernel
theorem dX8_light_52 : decode cX8_light 52 = .ok (.istore 6, 2) := by decide +kernel
theorem dX8_light_54 : decode cX8_light 54 = .ok (.iload 6, 2) := by decide +kernel
theorem dX8_light_56 : decode cX8_light 56 = .ok (.ifCond .lt 41, 3) := by decide +kernel
theorem dX8_light_59 : decode cX8_light 59 = .ok (.aload_n 0, 1) := by decide +kernel
theorem dX8_light_60 : decode cX8_light 60 = .ok (.getfield 7, 3) := by decide +kernel
theorem dX8_light_63 : decode cX8_light 63 = .ok (.iload 6, 2) := by decide +kernel
theorem dX8_light_65 : decode cX8_light 65 = .ok (.iaload, 1) := by decide +kernel
theorem dX8_light_66 : decode cX8_light 66 = .ok (.ifCond .eq 31, 3) := by decide +kernel
theorem dX8_light_69 : decode cX8_light 69 = .ok (.aload_n 0, 1) := by decide +kernel
theorem dX8_light_70 : decode cX8_light 70 = .ok (.getfield 7, 3) := by decide +kernel
theorem dX8_light_73 : decode cX8_light 73 = .ok (.iload 6, 2) := by decide +kernel
theorem dX8_light_75 : decode cX8_light 75 = .ok (.iaload, 1) := by decide +kernel
theorem dX8_light_76 : decode cX8_light 76 = .ok (.bipush 30, 2) := by decide +kernel
theorem dX8_light_78 : decode cX8_light 78 = .ok (.if_icmp .ge 6, 3) := by decide +kernel
theorem dX8_light_81 : decode cX8_light 81 = .ok (.iinc 4 1, 3) := by decide +kernel
theorem dX8_light_84 : decode cX8_light 84 = .ok (.aload_n 0, 1) := by decide +kernel
theorem dX8_light_85 : decode cX8_light 85 = .ok (.iload 6, 2) := by decide +kernel
theorem dX8_light_87 : decode cX8_light 87 = .ok (.iload 5, 2) := by decide +kernel
theorem dX8_light_89 : decode cX8_light 89 = .ok (.invokevirtual 157, 3) := by decide +kernel
theorem dX8_light_92 : decode cX8_light 92 = .ok (.istore 6, 2) := by decide +kernel
theorem dX8_light_94 : decode cX8_light 94 = .ok (.goto (-40), 3) := by decide +kernel
theorem dX8_light_97 : decode cX8_light 97 = .ok (.iinc 5 1, 3) := by decide +kernel
theorem dX8_light_100 : decode cX8_light 100 = .ok (.goto (-62), 3) := by decide +kernel
theorem dX8_light_103 : decode cX8_light 103 = .ok (.iload 4, 2) := by decide +kernel
theorem dX8_light_105 : decode cX8_light 105 = .ok (.iload_n 2, 1) := by decide +kernel
theorem dX8_light_106 : decode cX8_light 106 = .ok (.if_icmp .gt 6, 3) := by decide +kernel
theorem dX8_light_109 : decode cX8_light 109 = .ok (.goto 8, 3) := by decide +kernel
theorem dX8_light_112 : decode cX8_light 112 = .ok (.iload 4, 2) := by decide +kernel
theorem dX8_light_114 : decode cX8_light 114 = .ok (.istore_n 2, 1) := by decide +kernel
theorem dX8_light_115 : decode cX8_light 115 = .ok (.iload_n 3, 1) := by decide +kernel
theorem dX8_light_116 : decode cX8_light 116 = .ok (.istore_n 1, 1) := by decide +kernel
theorem dX8_light_117 : decode cX8_light 117 = .ok (.iinc 3 1, 3) := by decide +kernel
theorem dX8_light_120 : decode cX8_light 120 = .ok (.goto (-113), 3) := by decide +kernel
theorem dX8_light_123 : decode cX8_light 123 = .ok (.iload_n 1, 1) := by decide +kernel
theorem dX8_light_124 : decode cX8_light 124 = .ok (.ireturn, 1) := by decide +kernel
theorem dX8_draw_0 : decode cX8_draw 0 = .ok (.aload_n 0, 1) := by decide +kernel
theorem dX8_draw_1 : decode cX8_draw 1 = .ok (.aload_n 0, 1) := by decide +kernel
theorem dX8_draw_2 : decode cX8_draw 2 = .ok (.getfield 207, 3) := by decide +kernel
theorem dX8_draw_5 : decode cX8_draw 5 = .ok (.ldc 210, 2) := by decide +kernel
theorem dX8_draw_7 : decode cX8_draw 7 = .ok (.imul, 1) := by decide +kernel
theorem dX8_draw_8 : decode cX8_draw 8 = .ok (.ldc 211, 2) := by decide +kernel
theorem dX8_draw_10 : decode cX8_draw 10 = .ok (.iadd, 1) := by decide +kernel
theorem dX8_draw_11 : decode cX8_draw 11 = .ok (.putfield 207, 3) := by decide +kernel
theorem dX8_draw_14 : decode cX8_draw 14 = .ok (.aload_n 0, 1) := by decide +kernel
theorem dX8_draw_15 : decode cX8_draw 15 = .ok (.getfield 207, 3) := by decide +kernel
theorem dX8_draw_18 : decode cX8_draw 18 = .ok (.ldc 212, 2) := by decide +kernel
theorem dX8_draw_20 : decode cX8_draw 20 = .ok (.iand, 1) := by decide +kernel
theorem dX8_draw_21 : decode cX8_draw 21 = .ok (.sipush 256, 3) := by decide +kernel
theorem dX8_draw_24 : decode cX8_draw 24 = .ok (.idiv, 1) := by decide +kernel
theorem dX8_draw_25 : decode cX8_draw 25 = .ok (.iload_n 1, 1) := by decide +kernel
theorem dX8_draw_26 : decode cX8_draw 26 = .ok (.irem, 1) := by decide +kernel
theorem dX8_draw_27 : decode cX8_draw 27 = .ok (.ireturn, 1) := by decide +kernel
theorem dX8_night_0 : decode cX8_night 0 = .ok (.iload_n 1, 1) := by decide +kernel
theorem dX8_night_1 : decode cX8_night 1 = .ok (.iconst 1, 1) := by decide +kernel
theorem dX8_night_2 : decode cX8_night 2 = .ok (.if_icmp .ge 10, 3) := by decide +kernel
theorem dX8_night_5 : decode cX8_night 5 = .ok (.aload_n 0, 1) := by decide +kernel
theorem dX8_night_6 : decode cX8_night 6 = .ok (.bipush (-4), 2) := by decide +kernel
theorem dX8_night_8 : decode cX8_night 8 = .ok (.invokevirtual 59, 3) := by decide +kernel
theorem dX8_night_11 : decode cX8_night 11 = .ok (.ireturn, 1) := by decide +kernel
theorem dX8_night_12 : decode cX8_night 12 = .ok (.iload_n 1, 1) := by decide +kernel
theorem dX8_night_13 : decode cX8_night 13 = .ok (.bipush 99, 2) := by decide +kernel
theorem dX8_night_15 : decode cX8_night 15 = .ok (.if_icmp .le 10, 3) := by decide +kernel
theorem dX8_night_18 : decode cX8_night 18 = .ok (.aload_n 0, 1) := by decide +kernel
theorem dX8_night_19 : decode cX8_night 19 = .ok (.bipush (-6), 2) := by decide +kernel
theorem dX8_night_21 : decode cX8_night 21 = .ok (.invokevirtual 59, 3) := by decide +kernel
theorem dX8_night_24 : decode cX8_night 24 = .ok (.ireturn, 1) := by decide +kernel
theorem dX8_night_25 : decode cX8_night 25 = .ok (.aload_n 0, 1) := by decide +kernel
theorem dX8_night_26 : decode cX8_night 26 = .ok (.getfield 73, 3) := by decide +kernel
theorem dX8_night_29 : decode cX8_night 29 = .ok (.ifCond .ne 10, 3) := by decide +kernel
theorem dX8_night_32 : decode cX8_night 32 = .ok (.aload_n 0, 1) := by decide +kernel
theorem dX8_night_33 : decode cX8_night 33 = .ok (.bipush (-3), 2) := by decide +kernel
theorem dX8_night_35 : decode cX8_night 35 = .ok (.invokevirtual 59, 3) := by decide +kernel
theorem dX8_night_38 : decode cX8_night 38 = .ok (.ireturn, 1) := by decide +kernel
theorem dX8_night_39 : decode cX8_night 39 = .ok (.aload_n 0, 1) := by decide +kernel
theorem dX8_night_40 : decode cX8_night 40 = .ok (.invokevirtual 194, 3) := by decide +kernel
theorem dX8_night_43 : decode cX8_night 43 = .ok (.aload_n 0, 1) := by decide +kernel
theorem dX8_night_44 : decode cX8_night 44 = .ok (.iload_n 2, 1) := by decide +kernel
theorem dX8_night_45 : decode cX8_night 45 = .ok (.putfield 207, 3) := by decide +kernel
theorem dX8_night_48 : decode cX8_night 48 = .ok (.iconst 0, 1) := by decide +kernel
theorem dX8_night_49 : decode cX8_night 49 = .ok (.istore_n 3, 1) := by decide +kernel
theorem dX8_night_50 : decode cX8_night 50 = .ok (.iload_n 3, 1) := by decide +kernel
theorem dX8_night_51 : decode cX8_night 51 = .ok (.iload_n 1, 1) := by decide +kernel
theorem dX8_night_52 : decode cX8_night 52 = .ok (.if_icmp .ge 40, 3) := by decide +kernel
theorem dX8_night_55 : decode cX8_night 55 = .ok (.aload_n 0, 1) := by decide +kernel
theorem dX8_night_56 : decode cX8_night 56 = .ok (.bipush 10, 2) := by decide +kernel
theorem dX8_night_58 : decode cX8_night 58 = .ok (.invokevirtual 213, 3) := by decide +kernel
theorem dX8_night_61 : decode cX8_night 61 = .ok (.ifCond .ne 21, 3) := by decide +kernel
theorem dX8_night_64 : decode cX8_night 64 = .ok (.aload_n 0, 1) := by decide +kernel
theorem dX8_night_65 : decode cX8_night 65 = .ok (.aload_n 0, 1) := by decide +kernel
theorem dX8_night_66 : decode cX8_night 66 = .ok (.getfield 96, 3) := by decide +kernel
theorem dX8_night_69 : decode cX8_night 69 = .ok (.aload_n 0, 1) := by decide +kernel
theorem dX8_night_70 : decode cX8_night 70 = .ok (.bipush 8, 2) := by decide +kernel
theorem dX8_night_72 : decode cX8_night 72 = .ok (.invokevirtual 213, 3) := by decide +kernel
theorem dX8_night_75 : decode cX8_night 75 = .ok (.iadd, 1) := by decide +kernel
theorem dX8_night_76 : decode cX8_night 76 = .ok (.bipush 8, 2) := by decide +kernel
theorem dX8_night_78 : decode cX8_night 78 = .ok (.irem, 1) := by decide +kernel
theorem dX8_night_79 : decode cX8_night 79 = .ok (.putfield 96, 3) := by decide +kernel
theorem dX8_night_82 : decode cX8_night 82 = .ok (.aload_n 0, 1) := by decide +kernel
theorem dX8_night_83 : decode cX8_night 83 = .ok (.invokevirtual 176, 3) := by decide +kernel
theorem dX8_night_86 : decode cX8_night 86 = .ok (.iinc 3 1, 3) := by decide +kernel
theorem dX8_night_89 : decode cX8_night 89 = .ok (.goto (-39), 3) := by decide +kernel
theorem dX8_night_92 : decode cX8_night 92 = .ok (.aload_n 0, 1) := by decide +kernel
theorem dX8_night_93 : decode cX8_night 93 = .ok (.invokevirtual 154, 3) := by decide +kernel
theorem dX8_night_96 : decode cX8_night 96 = .ok (.istore_n 3, 1) := by decide +kernel
theorem dX8_night_97 : decode cX8_night 97 = .ok (.aload_n 0, 1) := by decide +kernel
theorem dX8_night_98 : decode cX8_night 98 = .ok (.invokevirtual 197, 3) := by decide +kernel
theorem dX8_night_101 : decode cX8_night 101 = .ok (.iload_n 3, 1) := by decide +kernel
theorem dX8_night_102 : decode cX8_night 102 = .ok (.ireturn, 1) := by decide +kernel
theorem dX8_log_0 : decode cX8_log 0 = .ok (.iload_n 1, 1) := by decide +kernel
theorem dX8_log_1 : decode cX8_log 1 = .ok (.ifCond .ge 10, 3) := by decide +kernel
theorem dX8_log_4 : decode cX8_log 4 = .ok (.aload_n 0, 1) := by decide +kernel
theorem dX8_log_5 : decode cX8_log 5 = .ok (.bipush (-4), 2) := by decide +kernel
theorem dX8_log_7 : decode cX8_log 7 = .ok (.invokevirtual 59, 3) := by decide +kernel
theorem dX8_log_10 : decode cX8_log 10 = .ok (.ireturn, 1) := by decide +kernel
theorem dX8_log_11 : decode cX8_log 11 = .ok (.iload_n 1, 1) := by decide +kernel
theorem dX8_log_12 : decode cX8_log 12 = .ok (.bipush 99, 2) := by decide +kernel
theorem dX8_log_14 : decode cX8_log 14 = .ok (.if_icmp .gt 12, 3) := by decide +kernel
theorem dX8_log_17 : decode cX8_log 17 = .ok (.aload_n 0, 1) := by decide +kernel
theorem dX8_log_18 : decode cX8_log 18 = .ok (.getfield 216, 3) := by decide +kernel
theorem dX8_log_21 : decode cX8_log 21 = .ok (.bipush 12, 2) := by decide +kernel
theorem dX8_log_23 : decode cX8_log 23 = .ok (.if_icmp .ne 10, 3) := by decide +kernel
theorem dX8_log_26 : decode cX8_log 26 = .ok (.aload_n 0, 1) := by decide +kernel
theorem dX8_log_27 : decode cX8_log 27 = .ok (.bipush (-6), 2) := by decide +kernel
theorem dX8_log_29 : decode cX8_log 29 = .ok (.invokevirtual 59, 3) := by decide +kernel
theorem dX8_log_32 : decode cX8_log 32 = .ok (.ireturn, 1) := by decide +kernel
theorem dX8_log_33 : decode cX8_log 33 = .ok (.aload_n 0, 1) := by decide +kernel
theorem dX8_log_34 : decode cX8_log 34 = .ok (.getfield 31, 3) := by decide +kernel
theorem dX8_log_37 : decode cX8_log 37 = .ok (.aload_n 0, 1) := by decide +kernel
theorem dX8_log_38 : decode cX8_log 38 = .ok (.getfield 216, 3) := by decide +kernel
theorem dX8_log_41 : decode cX8_log 41 = .ok (.iload_n 1, 1) := by decide +kernel
theorem dX8_log_42 : decode cX8_log 42 = .ok (.iastore, 1) := by decide +kernel
theorem dX8_log_43 : decode cX8_log 43 = .ok (.aload_n 0, 1) := by decide +kernel
theorem dX8_log_44 : decode cX8_log 44 = .ok (.dup, 1) := by decide +kernel
theorem dX8_log_45 : decode cX8_log 45 = .ok (.getfield 216, 3) := by decide +kernel
theorem dX8_log_48 : decode cX8_log 48 = .ok (.iconst 1, 1) := by decide +kernel
theorem dX8_log_49 : decode cX8_log 49 = .ok (.iadd, 1) := by decide +kernel
theorem dX8_log_50 : decode cX8_log 50 = .ok (.dup_x1, 1) := by decide +kernel
theorem dX8_log_51 : decode cX8_log 51 = .ok (.putfield 216, 3) := by decide +kernel
theorem dX8_log_54 : decode cX8_log 54 = .ok (.ireturn, 1) := by decide +kernel
theorem dX8_judge_0 : decode cX8_judge 0 = .ok (.aload_n 0, 1) := by decide +kernel
theorem dX8_judge_1 : decode cX8_judge 1 = .ok (.getfield 73, 3) := by decide +kernel
theorem dX8_judge_4 : decode cX8_judge 4 = .ok (.ifCond .ne 10, 3) := by decide +kernel
theorem dX8_judge_7 : decode cX8_judge 7 = .ok (.aload_n 0, 1) := by decide +kernel
theorem dX8_judge_8 : decode cX8_judge 8 = .ok (.bipush (-3), 2) := by decide +kernel
theorem dX8_judge_10 : decode cX8_judge 10 = .ok (.invokevirtual 59, 3) := by decide +kernel
theorem dX8_judge_13 : decode cX8_judge 13 = .ok (.ireturn, 1) := by decide +kernel
theorem dX8_judge_14 : decode cX8_judge 14 = .ok (.aload_n 0, 1) := by decide +kernel
theorem dX8_judge_15 : decode cX8_judge 15 = .ok (.invokevirtual 194, 3) := by decide +kernel
theorem dX8_judge_18 : decode cX8_judge 18 = .ok (.bipush (-9), 2) := by decide +kernel
theorem dX8_judge_20 : decode cX8_judge 20 = .ok (.istore_n 1, 1) := by decide +kernel
theorem dX8_judge_21 : decode cX8_judge 21 = .ok (.iconst 0, 1) := by decide +kernel
theorem dX8_judge_22 : decode cX8_judge 22 = .ok (.istore_n 2, 1) := by decide +kernel
theorem dX8_judge_23 : decode cX8_judge 23 = .ok (.iload_n 2, 1) := by decide +kernel
theorem dX8_judge_24 : decode cX8_judge 24 = .ok (.aload_n 0, 1) := by decide +kernel
theorem dX8_judge_25 : decode cX8_judge 25 = .ok (.getfield 216, 3) := by decide +kernel
theorem dX8_judge_28 : decode cX8_judge 28 = .ok (.if_icmp .ge 44, 3) := by decide +kernel
theorem dX8_judge_31 : decode cX8_judge 31 = .ok (.iload_n 1, 1) := by decide +kernel
theorem dX8_judge_32 : decode cX8_judge 32 = .ok (.ifCond .ge 40, 3) := by decide +kernel
theorem dX8_judge_35 : decode cX8_judge 35 = .ok (.aload_n 0, 1) := by decide +kernel
theorem dX8_judge_36 : decode cX8_judge 36 = .ok (.invokevirtual 176, 3) := by decide +kernel
theorem dX8_judge_39 : decode cX8_judge 39 = .ok (.aload_n 0, 1) := by decide +kernel
theorem dX8_judge_40 : decode cX8_judge 40 = .ok (.getfield 102, 3) := by decide +kernel
theorem dX8_judge_43 : decode cX8_judge 43 = .ok (.ifCond .ge 8, 3) := by decide +kernel
theorem dX8_judge_46 : decode cX8_judge 46 = .ok (.bipush 99, 2) := by decide +kernel
theorem dX8_judge_48 : decode cX8_judge 48 = .ok (.goto 7, 3) := by decide +kernel
theorem dX8_judge_51 : decode cX8_judge 51 = .ok (.aload_n 0, 1) := by decide +kernel
theorem dX8_judge_52 : decode cX8_judge 52 = .ok (.getfield 102, 3) := by decide +kernel
theorem dX8_judge_55 : decode cX8_judge 55 = .ok (.aload_n 0, 1) := by decide +kernel
theorem dX8_judge_56 : decode cX8_judge 56 = .ok (.getfield 31, 3) := by decide +kernel
theorem dX8_judge_59 : decode cX8_judge 59 = .ok (.iload_n 2, 1) := by decide +kernel
theorem dX8_judge_60 : decode cX8_judge 60 = .ok (.iaload, 1) := by decide +kernel
theorem dX8_judge_61 : decode cX8_judge 61 = .ok (.if_icmp .eq 5, 3) := by decide +kernel
theorem dX8_judge_64 : decode cX8_judge 64 = .ok (.iload_n 2, 1) := by decide +kernel
theorem dX8_judge_65 : decode cX8_judge 65 = .ok (.istore_n 1, 1) := by decide +kernel
theorem dX8_judge_66 : decode cX8_judge 66 = .ok (.iinc 2 1, 3) := by decide +kernel
theorem dX8_judge_69 : decode cX8_judge 69 = .ok (.goto (-46), 3) := by decide +kernel
theorem dX8_judge_72 : decode cX8_judge 72 = .ok (.aload_n 0, 1) := by decide +kernel
theorem dX8_judge_73 : decode cX8_judge 73 = .ok (.invokevirtual 197, 3) := by decide +kernel
theorem dX8_judge_76 : decode cX8_judge 76 = .ok (.aload_n 0, 1) := by decide +kernel
theorem dX8_judge_77 : decode cX8_judge 77 = .ok (.iconst 0, 1) := by decide +kernel
theorem dX8_judge_78 : decode cX8_judge 78 = .ok (.putfield 216, 3) := by decide +kernel
theorem dX8_judge_81 : decode cX8_judge 81 = .ok (.iload_n 1, 1) := by decide +kernel
theorem dX8_judge_82 : decode cX8_judge 82 = .ok (.ireturn, 1) := by decide +kernel
theorem dX8_image_0 : decode cX8_image 0 = .ok (.aload_n 0, 1) := by decide +kernel
theorem dX8_image_1 : decode cX8_image 1 = .ok (.iconst 1, 1) := by decide +kernel
theorem dX8_image_2 : decode cX8_image 2 = .ok (.putfield 219, 3) := by decide +kernel
theorem dX8_image_5 : decode cX8_image 5 = .ok (.iconst 0, 1) := by decide +kernel
theorem dX8_image_6 : decode cX8_image 6 = .ok (.istore_n 1, 1) := by decide +kernel
theorem dX8_image_7 : decode cX8_image 7 = .ok (.iload_n 1, 1) := by decide +kernel
theorem dX8_image_8 : decode cX8_image 8 = .ok (.bipush 64, 2) := by decide +kernel
theorem dX8_image_10 : decode cX8_image 10 = .ok (.if_icmp .ge 21, 3) := by decide +kernel
theorem dX8_image_13 : decode cX8_image 13 = .ok (.aload_n 0, 1) := by decide +kernel
theorem dX8_image_14 : decode cX8_image 14 = .ok (.getfield 37, 3) := by decide +kernel
theorem dX8_image_17 : decode cX8_image 17 = .ok (.iload_n 1, 1) := by decide +kernel
theorem dX8_image_18 : decode cX8_image 18 = .ok (.aload_n 0, 1) := by decide +kernel
theorem dX8_image_19 : decode cX8_image 19 = .ok (.getfield 7, 3) := by decide +kernel
theorem dX8_image_22 : decode cX8_image 22 = .ok (.iload_n 1, 1) := by decide +kernel
theorem dX8_image_23 : decode cX8_image 23 = .ok (.iaload, 1) := by decide +kernel
theorem dX8_image_24 : decode cX8_image 24 = .ok (.iastore, 1) := by decide +kernel
theorem dX8_image_25 : decode cX8_image 25 = .ok (.iinc 1 1, 3) := by decide +kernel
theorem dX8_image_28 : decode cX8_image 28 = .ok (.goto (-21), 3) := by decide +kernel
theorem dX8_image_31 : decode cX8_image 31 = .ok (.iconst 0, 1) := by decide +kernel
theorem dX8_image_32 : decode cX8_image 32 = .ok (.istore_n 1, 1) := by decide +kernel
theorem dX8_image_33 : decode cX8_image 33 = .ok (.iload_n 1, 1) := by decide +kernel
theorem dX8_image_34 : decode cX8_image 34 = .ok (.bipush 7, 2) := by decide +kernel
theorem dX8_image_36 : decode cX8_image 36 = .ok (.if_icmp .ge 24, 3) := by decide +kernel
theorem dX8_image_39 : decode cX8_image 39 = .ok (.aload_n 0, 1) := by decide +kernel
theorem dX8_image_40 : decode cX8_image 40 = .ok (.getfield 37, 3) := by decide +kernel
theorem dX8_image_43 : decode cX8_image 43 = .ok (.bipush 64, 2) := by decide +kernel
theorem dX8_image_45 : decode cX8_image 45 = .ok (.iload_n 1, 1) := by decide +kernel
theorem dX8_image_46 : decode cX8_image 46 = .ok (.iadd, 1) := by decide +kernel
theorem dX8_image_47 : decode cX8_image 47 = .ok (.aload_n 0, 1) := by decide +kernel
theorem dX8_image_48 : decode cX8_image 48 = .ok (.getfield 16, 3) := by decide +kernel
theorem dX8_image_51 : decode cX8_image 51 = .ok (.iload_n 1, 1) := by decide +kernel
theorem dX8_image_52 : decode cX8_image 52 = .ok (.iaload, 1) := by decide +kernel
theorem dX8_image_53 : decode cX8_image 53 = .ok (.iastore, 1) := by decide +kernel
theorem dX8_image_54 : decode cX8_image 54 = .ok (.iinc 1 1, 3) := by decide +kernel
theorem dX8_image_57 : decode cX8_image 57 = .ok (.goto (-24), 3) := by decide +kernel
theorem dX8_image_60 : decode cX8_image 60 = .ok (.iconst 0, 1) := by decide +kernel
theorem dX8_image_61 : decode cX8_image 61 = .ok (.istore_n 1, 1) := by decide +kernel
theorem dX8_image_62 : decode cX8_image 62 = .ok (.iload_n 1, 1) := by decide +kernel
theorem dX8_image_63 : decode cX8_image 63 = .ok (.bipush 8, 2) := by decide +kernel
theorem dX8_image_65 : decode cX8_image 65 = .ok (.if_icmp .ge 69, 3) := by decide +kernel
theorem dX8_image_68 : decode cX8_image 68 = .ok (.aload_n 0, 1) := by decide +kernel
theorem dX8_image_69 : decode cX8_image 69 = .ok (.getfield 37, 3) := by decide +kernel
theorem dX8_image_72 : decode cX8_image 72 = .ok (.bipush 71, 2) := by decide +kernel
theorem dX8_image_74 : decode cX8_image 74 = .ok (.iload_n 1, 1) := by decide +kernel
theorem dX8_image_75 : decode cX8_image 75 = .ok (.iadd, 1) := by decide +kernel
theorem dX8_image_76 : decode cX8_image 76 = .ok (.aload_n 0, 1) := by decide +kernel
theorem dX8_image_77 : decode cX8_image 77 = .ok (.getfield 19, 3) := by decide +kernel
theorem dX8_image_80 : decode cX8_image 80 = .ok (.iload_n 1, 1) := by decide +kernel
theorem dX8_image_81 : decode cX8_image 81 = .ok (.iaload, 1) := by decide +kernel
theorem dX8_image_82 : decode cX8_image 82 = .ok (.iastore, 1) := by decide +kernel
theorem dX8_image_83 : decode cX8_image 83 = .ok (.aload_n 0, 1) := by decide +kernel
theorem dX8_image_84 : decode cX8_image 84 = .ok (.getfield 37, 3) := by decide +kernel
theorem dX8_image_87 : decode cX8_image 87 = .ok (.bipush 79, 2) := by decide +kernel
theorem dX8_image_89 : decode cX8_image 89 = .ok (.iload_n 1, 1) := by decide +kernel
theorem dX8_image_90 : decode cX8_image 90 = .ok (.iadd, 1) := by decide +kernel
theorem dX8_image_91 : decode cX8_image 91 = .ok (.aload_n 0, 1) := by decide +kernel
theorem dX8_image_92 : decode cX8_image 92 = .ok (.getfield 22, 3) := by decide +kernel
theorem dX8_image_95 : decode cX8_image 95 = .ok (.iload_n 1, 1) := by decide +kernel
theorem dX8_image_96 : decode cX8_image 96 = .ok (.iaload, 1) := by decide +kernel
theorem dX8_image_97 : decode cX8_image 97 = .ok (.iastore, 1) := by decide +kernel
theorem dX8_image_98 : decode cX8_image 98 = .ok (.aload_n 0, 1) := by decide +kernel
theorem dX8_image_99 : decode cX8_image 99 = .ok (.getfield 37, 3) := by decide +kernel
theorem dX8_image_102 : decode cX8_image 102 = .ok (.bipush 87, 2) := by decide +kernel
theorem dX8_image_104 : decode cX8_image 104 = .ok (.iload_n 1, 1) := by decide +kernel
theorem dX8_image_105 : decode cX8_image 105 = .ok (.iadd, 1) := by decide +kernel
theorem dX8_image_106 : decode cX8_image 106 = .ok (.aload_n 0, 1) := by decide +kernel
theorem dX8_image_107 : decode cX8_image 107 = .ok (.getfield 25, 3) := by decide +kernel
theorem dX8_image_110 : decode cX8_image 110 = .ok (.iload_n 1, 1) := by decide +kernel
theorem dX8_image_111 : decode cX8_image 111 = .ok (.iaload, 1) := by decide +kernel
theorem dX8_image_112 : decode cX8_image 112 = .ok (.iastore, 1) := by decide +kernel
theorem dX8_image_113 : decode cX8_image 113 = .ok (.aload_n 0, 1) := by decide +kernel
theorem dX8_image_114 : decode cX8_image 114 = .ok (.getfield 37, 3) := by decide +kernel
theorem dX8_image_117 : decode cX8_image 117 = .ok (.bipush 95, 2) := by decide +kernel
theorem dX8_image_119 : decode cX8_image 119 = .ok (.iload_n 1, 1) := by decide +kernel
theorem dX8_image_120 : decode cX8_image 120 = .ok (.iadd, 1) := by decide +kernel
theorem dX8_image_121 : decode cX8_image 121 = .ok (.aload_n 0, 1) := by decide +kernel
theorem dX8_image_122 : decode cX8_image 122 = .ok (.getfield 28, 3) := by decide +kernel
theorem dX8_image_125 : decode cX8_image 125 = .ok (.iload_n 1, 1) := by decide +kernel
theorem dX8_image_126 : decode cX8_image 126 = .ok (.iaload, 1) := by decide +kernel
theorem dX8_image_127 : decode cX8_image 127 = .ok (.iastore, 1) := by decide +kernel
theorem dX8_image_128 : decode cX8_image 128 = .ok (.iinc 1 1, 3) := by decide +kernel
theorem dX8_image_131 : decode cX8_image 131 = .ok (.goto (-69), 3) := by decide +kernel
theorem dX8_image_134 : decode cX8_image 134 = .ok (.aload_n 0, 1) := by decide +kernel
theorem dX8_image_135 : decode cX8_image 135 = .ok (.getfield 37, 3) := by decide +kernel
theorem dX8_image_138 : decode cX8_image 138 = .ok (.bipush 103, 2) := by decide +kernel
theorem dX8_image_140 : decode cX8_image 140 = .ok (.aload_n 0, 1) := by decide +kernel
theorem dX8_image_141 : decode cX8_image 141 = .ok (.getfield 53, 3) := by decide +kernel
theorem dX8_image_144 : decode cX8_image 144 = .ok (.iastore, 1) := by decide +kernel
theorem dX8_image_145 : decode cX8_image 145 = .ok (.aload_n 0, 1) := by decide +kernel
theorem dX8_image_146 : decode cX8_image 146 = .ok (.getfield 37, 3) := by decide +kernel
theorem dX8_image_149 : decode cX8_image 149 = .ok (.bipush 104, 2) := by decide +kernel
theorem dX8_image_151 : decode cX8_image 151 = .ok (.aload_n 0, 1) := by decide +kernel
theorem dX8_image_152 : decode cX8_image 152 = .ok (.getfield 56, 3) := by decide +kernel
theorem dX8_image_155 : decode cX8_image 155 = .ok (.iastore, 1) := by decide +kernel
theorem dX8_image_156 : decode cX8_image 156 = .ok (.aload_n 0, 1) := by decide +kernel
theorem dX8_image_157 : decode cX8_image 157 = .ok (.getfield 37, 3) := by decide +kernel
theorem dX8_image_160 : decode cX8_image 160 = .ok (.bipush 105, 2) := by decide +kernel
theorem dX8_image_162 : decode cX8_image 162 = .ok (.aload_n 0, 1) := by decide +kernel
theorem dX8_image_163 : decode cX8_image 163 = .ok (.getfield 87, 3) := by decide +kernel
theorem dX8_image_166 : decode cX8_image 166 = .ok (.iastore, 1) := by decide +kernel
theorem dX8_image_167 : decode cX8_image 167 = .ok (.aload_n 0, 1) := by decide +kernel
theorem dX8_image_168 : decode cX8_image 168 = .ok (.getfield 37, 3) := by decide +kernel
theorem dX8_image_171 : decode cX8_image 171 = .ok (.bipush 106, 2) := by decide +kernel
theorem dX8_image_173 : decode cX8_image 173 = .ok (.aload_n 0, 1) := by decide +kernel
theorem dX8_image_174 : decode cX8_image 174 = .ok (.getfield 90, 3) := by decide +kernel
theorem dX8_image_177 : decode cX8_image 177 = .ok (.iastore, 1) := by decide +kernel
theorem dX8_image_178 : decode cX8_image 178 = .ok (.aload_n 0, 1) := by decide +kernel
theorem dX8_image_179 : decode cX8_image 179 = .ok (.getfield 37, 3) := by decide +kernel
theorem dX8_image_182 : decode cX8_image 182 = .ok (.bipush 107, 2) := by decide +kernel
theorem dX8_image_184 : decode cX8_image 184 = .ok (.aload_n 0, 1) := by decide +kernel
theorem dX8_image_185 : decode cX8_image 185 = .ok (.getfield 73, 3) := by decide +kernel
theorem dX8_image_188 : decode cX8_image 188 = .ok (.ifCond .eq 7, 3) := by decide +kernel
theorem dX8_image_191 : decode cX8_image 191 = .ok (.iconst 1, 1) := by decide +kernel
theorem dX8_image_192 : decode cX8_image 192 = .ok (.goto 4, 3) := by decide +kernel
theorem dX8_image_195 : decode cX8_image 195 = .ok (.iconst 0, 1) := by decide +kernel
theorem dX8_image_196 : decode cX8_image 196 = .ok (.iastore, 1) := by decide +kernel
theorem dX8_image_197 : decode cX8_image 197 = .ok (.aload_n 0, 1) := by decide +kernel
theorem dX8_image_198 : decode cX8_image 198 = .ok (.invokevirtual 194, 3) := by decide +kernel
theorem dX8_image_201 : decode cX8_image 201 = .ok (.iconst 0, 1) := by decide +kernel
theorem dX8_image_202 : decode cX8_image 202 = .ok (.istore_n 1, 1) := by decide +kernel
theorem dX8_image_203 : decode cX8_image 203 = .ok (.iload_n 1, 1) := by decide +kernel
theorem dX8_image_204 : decode cX8_image 204 = .ok (.bipush 12, 2) := by decide +kernel
theorem dX8_image_206 : decode cX8_image 206 = .ok (.if_icmp .ge 24, 3) := by decide +kernel
theorem dX8_image_209 : decode cX8_image 209 = .ok (.aload_n 0, 1) := by decide +kernel
theorem dX8_image_210 : decode cX8_image 210 = .ok (.getfield 37, 3) := by decide +kernel
theorem dX8_image_213 : decode cX8_image 213 = .ok (.bipush 108, 2) := by decide +kernel
theorem dX8_image_215 : decode cX8_image 215 = .ok (.iload_n 1, 1) := by decide +kernel
theorem dX8_image_216 : decode cX8_image 216 = .ok (.iadd, 1) := by decide +kernel
theorem dX8_image_217 : decode cX8_image 217 = .ok (.aload_n 0, 1) := by decide +kernel
theorem dX8_image_218 : decode cX8_image 218 = .ok (.getfield 40, 3) := by decide +kernel
theorem dX8_image_221 : decode cX8_image 221 = .ok (.iload_n 1, 1) := by decide +kernel
theorem dX8_image_222 : decode cX8_image 222 = .ok (.iaload, 1) := by decide +kernel
theorem dX8_image_223 : decode cX8_image 223 = .ok (.iastore, 1) := by decide +kernel
theorem dX8_image_224 : decode cX8_image 224 = .ok (.iinc 1 1, 3) := by decide +kernel
theorem dX8_image_227 : decode cX8_image 227 = .ok (.goto (-24), 3) := by decide +kernel
theorem dX8_image_230 : decode cX8_image 230 = .ok (.aload_n 0, 1) := by decide +kernel
theorem dX8_image_231 : decode cX8_image 231 = .ok (.getfield 53, 3) := by decide +kernel
theorem dX8_image_234 : decode cX8_image 234 = .ok (.aload_n 0, 1) := by decide +kernel
theorem dX8_image_235 : decode cX8_image 235 = .ok (.getfield 56, 3) := by decide +kernel
theorem dX8_image_238 : decode cX8_image 238 = .ok (.imul, 1) := by decide +kernel
theorem dX8_image_239 : decode cX8_image 239 = .ok (.ireturn, 1) := by decide +kernel
theorem dX8_on_0 : decode cX8_on 0 = .ok (.aload_n 0, 1) := by decide +kernel
theorem dX8_on_1 : decode cX8_on 1 = .ok (.getfield 219, 3) := by decide +kernel
theorem dX8_on_4 : decode cX8_on 4 = .ok (.ifCond .ne 10, 3) := by decide +kernel
theorem dX8_on_7 : decode cX8_on 7 = .ok (.aload_n 0, 1) := by decide +kernel
theorem dX8_on_8 : decode cX8_on 8 = .ok (.bipush (-3), 2) := by decide +kernel
theorem dX8_on_10 : decode cX8_on 10 = .ok (.invokevirtual 59, 3) := by decide +kernel
theorem dX8_on_13 : decode cX8_on 13 = .ok (.ireturn, 1) := by decide +kernel
theorem dX8_on_14 : decode cX8_on 14 = .ok (.iconst 0, 1) := by decide +kernel
theorem dX8_on_15 : decode cX8_on 15 = .ok (.istore_n 1, 1) := by decide +kernel
theorem dX8_on_16 : decode cX8_on 16 = .ok (.iload_n 1, 1) := by decide +kernel
theorem dX8_on_17 : decode cX8_on 17 = .ok (.bipush 64, 2) := by decide +kernel
theorem dX8_on_19 : decode cX8_on 19 = .ok (.if_icmp .ge 21, 3) := by decide +kernel
theorem dX8_on_22 : decode cX8_on 22 = .ok (.aload_n 0, 1) := by decide +kernel
theorem dX8_on_23 : decode cX8_on 23 = .ok (.getfield 7, 3) := by decide +kernel
theorem dX8_on_26 : decode cX8_on 26 = .ok (.iload_n 1, 1) := by decide +kernel
theorem dX8_on_27 : decode cX8_on 27 = .ok (.aload_n 0, 1) := by decide +kernel
theorem dX8_on_28 : decode cX8_on 28 = .ok (.getfield 37, 3) := by decide +kernel
theorem dX8_on_31 : decode cX8_on 31 = .ok (.iload_n 1, 1) := by decide +kernel
theorem dX8_on_32 : decode cX8_on 32 = .ok (.iaload, 1) := by decide +kernel
theorem dX8_on_33 : decode cX8_on 33 = .ok (.iastore, 1) := by decide +kernel
theorem dX8_on_34 : decode cX8_on 34 = .ok (.iinc 1 1, 3) := by decide +kernel
theorem dX8_on_37 : decode cX8_on 37 = .ok (.goto (-21), 3) := by decide +kernel
theorem dX8_on_40 : decode cX8_on 40 = .ok (.iconst 0, 1) := by decide +kernel
theorem dX8_on_41 : decode cX8_on 41 = .ok (.istore_n 1, 1) := by decide +kernel
theorem dX8_on_42 : decode cX8_on 42 = .ok (.iload_n 1, 1) := by decide +kernel
theorem dX8_on_43 : decode cX8_on 43 = .ok (.bipush 7, 2) := by decide +kernel
theorem dX8_on_45 : decode cX8_on 45 = .ok (.if_icmp .ge 24, 3) := by decide +kernel
theorem dX8_on_48 : decode cX8_on 48 = .ok (.aload_n 0, 1) := by decide +kernel
theorem dX8_on_49 : decode cX8_on 49 = .ok (.getfield 16, 3) := by decide +kernel
theorem dX8_on_52 : decode cX8_on 52 = .ok (.iload_n 1, 1) := by decide +kernel
theorem dX8_on_53 : decode cX8_on 53 = .ok (.aload_n 0, 1) := by decide +kernel
theorem dX8_on_54 : decode cX8_on 54 = .ok (.getfield 37, 3) := by decide +kernel
theorem dX8_on_57 : decode cX8_on 57 = .ok (.bipush 64, 2) := by decide +kernel
theorem dX8_on_59 : decode cX8_on 59 = .ok (.iload_n 1, 1) := by decide +kernel
theorem dX8_on_60 : decode cX8_on 60 = .ok (.iadd, 1) := by decide +kernel
theorem dX8_on_61 : decode cX8_on 61 = .ok (.iaload, 1) := by decide +kernel
theorem dX8_on_62 : decode cX8_on 62 = .ok (.iastore, 1) := by decide +kernel
theorem dX8_on_63 : decode cX8_on 63 = .ok (.iinc 1 1, 3) := by decide +kernel
theorem dX8_on_66 : decode cX8_on 66 = .ok (.goto (-24), 3) := by decide +kernel
theorem dX8_on_69 : decode cX8_on 69 = .ok (.iconst 0, 1) := by decide +kernel
theorem dX8_on_70 : decode cX8_on 70 = .ok (.istore_n 1, 1) := by decide +kernel
theorem dX8_on_71 : decode cX8_on 71 = .ok (.iload_n 1, 1) := by decide +kernel
theorem dX8_on_72 : decode cX8_on 72 = .ok (.bipush 8, 2) := by decide +kernel
theorem dX8_on_74 : decode cX8_on 74 = .ok (.if_icmp .ge 69, 3) := by decide +kernel
theorem dX8_on_77 : decode cX8_on 77 = .ok (.aload_n 0, 1) := by decide +kernel
theorem dX8_on_78 : decode cX8_on 78 = .ok (.getfield 19, 3) := by decide +kernel
theorem dX8_on_81 : decode cX8_on 81 = .ok (.iload_n 1, 1) := by decide +kernel
theorem dX8_on_82 : decode cX8_on 82 = .ok (.aload_n 0, 1) := by decide +kernel
theorem dX8_on_83 : decode cX8_on 83 = .ok (.getfield 37, 3) := by decide +kernel
theorem dX8_on_86 : decode cX8_on 86 = .ok (.bipush 71, 2) := by decide +kernel
theorem dX8_on_88 : decode cX8_on 88 = .ok (.iload_n 1, 1) := by decide +kernel
theorem dX8_on_89 : decode cX8_on 89 = .ok (.iadd, 1) := by decide +kernel
theorem dX8_on_90 : decode cX8_on 90 = .ok (.iaload, 1) := by decide +kernel
theorem dX8_on_91 : decode cX8_on 91 = .ok (.iastore, 1) := by decide +kernel
theorem dX8_on_92 : decode cX8_on 92 = .ok (.aload_n 0, 1) := by decide +kernel
theorem dX8_on_93 : decode cX8_on 93 = .ok (.getfield 22, 3) := by decide +kernel
theorem dX8_on_96 : decode cX8_on 96 = .ok (.iload_n 1, 1) := by decide +kernel
theorem dX8_on_97 : decode cX8_on 97 = .ok (.aload_n 0, 1) := by decide +kernel
theorem dX8_on_98 : decode cX8_on 98 = .ok (.getfield 37, 3) := by decide +kernel
theorem dX8_on_101 : decode cX8_on 101 = .ok (.bipush 79, 2) := by decide +kernel
theorem dX8_on_103 : decode cX8_on 103 = .ok (.iload_n 1, 1) := by decide +kernel
theorem dX8_on_104 : decode cX8_on 104 = .ok (.iadd, 1) := by decide +kernel
theorem dX8_on_105 : decode cX8_on 105 = .ok (.iaload, 1) := by decide +kernel
theorem dX8_on_106 : decode cX8_on 106 = .ok (.iastore, 1) := by decide +kernel
theorem dX8_on_107 : decode cX8_on 107 = .ok (.aload_n 0, 1) := by decide +kernel
theorem dX8_on_108 : decode cX8_on 108 = .ok (.getfield 25, 3) := by decide +kernel
theorem dX8_on_111 : decode cX8_on 111 = .ok (.iload_n 1, 1) := by decide +kernel
theorem dX8_on_112 : decode cX8_on 112 = .ok (.aload_n 0, 1) := by decide +kernel
theorem dX8_on_113 : decode cX8_on 113 = .ok (.getfield 37, 3) := by decide +kernel
theorem dX8_on_116 : decode cX8_on 116 = .ok (.bipush 87, 2) := by decide +kernel
theorem dX8_on_118 : decode cX8_on 118 = .ok (.iload_n 1, 1) := by decide +kernel
theorem dX8_on_119 : decode cX8_on 119 = .ok (.iadd, 1) := by decide +kernel
theorem dX8_on_120 : decode cX8_on 120 = .ok (.iaload, 1) := by decide +kernel
theorem dX8_on_121 : decode cX8_on 121 = .ok (.iastore, 1) := by decide +kernel
theorem dX8_on_122 : decode cX8_on 122 = .ok (.aload_n 0, 1) := by decide +kernel
theorem dX8_on_123 : decode cX8_on 123 = .ok (.getfield 28, 3) := by decide +kernel
theorem dX8_on_126 : decode cX8_on 126 = .ok (.iload_n 1, 1) := by decide +kernel
theorem dX8_on_127 : decode cX8_on 127 = .ok (.aload_n 0, 1) := by decide +kernel
theorem dX8_on_128 : decode cX8_on 128 = .ok (.getfield 37, 3) := by decide +kernel
theorem dX8_on_131 : decode cX8_on 131 = .ok (.bipush 95, 2) := by decide +kernel
theorem dX8_on_133 : decode cX8_on 133 = .ok (.iload_n 1, 1) := by decide +kernel
theorem dX8_on_134 : decode cX8_on 134 = .ok (.iadd, 1) := by decide +kernel
theorem dX8_on_135 : decode cX8_on 135 = .ok (.iaload, 1) := by decide +kernel
theorem dX8_on_136 : decode cX8_on 136 = .ok (.iastore, 1) := by decide +kernel
theorem dX8_on_137 : decode cX8_on 137 = .ok (.iinc 1 1, 3) := by decide +kernel
theorem dX8_on_140 : decode cX8_on 140 = .ok (.goto (-69), 3) := by decide +kernel
theorem dX8_on_143 : decode cX8_on 143 = .ok (.aload_n 0, 1) := by decide +kernel
theorem dX8_on_144 : decode cX8_on 144 = .ok (.aload_n 0, 1) := by decide +kernel
theorem dX8_on_145 : decode cX8_on 145 = .ok (.getfield 37, 3) := by decide +kernel
theorem dX8_on_148 : decode cX8_on 148 = .ok (.bipush 103, 2) := by decide +kernel
theorem dX8_on_150 : decode cX8_on 150 = .ok (.iaload, 1) := by decide +kernel
theorem dX8_on_151 : decode cX8_on 151 = .ok (.putfield 53, 3) := by decide +kernel
theorem dX8_on_154 : decode cX8_on 154 = .ok (.aload_n 0, 1) := by decide +kernel
theorem dX8_on_155 : decode cX8_on 155 = .ok (.aload_n 0, 1) := by decide +kernel
theorem dX8_on_156 : decode cX8_on 156 = .ok (.getfield 37, 3) := by decide +kernel
theorem dX8_on_159 : decode cX8_on 159 = .ok (.bipush 104, 2) := by decide +kernel
theorem dX8_on_161 : decode cX8_on 161 = .ok (.iaload, 1) := by decide +kernel
theorem dX8_on_162 : decode cX8_on 162 = .ok (.putfield 56, 3) := by decide +kernel
theorem dX8_on_165 : decode cX8_on 165 = .ok (.aload_n 0, 1) := by decide +kernel
theorem dX8_on_166 : decode cX8_on 166 = .ok (.aload_n 0, 1) := by decide +kernel
theorem dX8_on_167 : decode cX8_on 167 = .ok (.getfield 37, 3) := by decide +kernel
theorem dX8_on_170 : decode cX8_on 170 = .ok (.bipush 105, 2) := by decide +kernel
theorem dX8_on_172 : decode cX8_on 172 = .ok (.iaload, 1) := by decide +kernel
theorem dX8_on_173 : decode cX8_on 173 = .ok (.putfield 87, 3) := by decide +kernel
theorem dX8_on_176 : decode cX8_on 176 = .ok (.aload_n 0, 1) := by decide +kernel
theorem dX8_on_177 : decode cX8_on 177 = .ok (.aload_n 0, 1) := by decide +kernel
theorem dX8_on_178 : decode cX8_on 178 = .ok (.getfield 37, 3) := by decide +kernel
theorem dX8_on_181 : decode cX8_on 181 = .ok (.bipush 106, 2) := by decide +kernel
theorem dX8_on_183 : decode cX8_on 183 = .ok (.iaload, 1) := by decide +kernel
theorem dX8_on_184 : decode cX8_on 184 = .ok (.putfield 90, 3) := by decide +kernel
theorem dX8_on_187 : decode cX8_on 187 = .ok (.aload_n 0, 1) := by decide +kernel
theorem dX8_on_188 : decode cX8_on 188 = .ok (.aload_n 0, 1) := by decide +kernel
theorem dX8_on_189 : decode cX8_on 189 = .ok (.getfield 37, 3) := by decide +kernel
theorem dX8_on_192 : decode cX8_on 192 = .ok (.bipush 107, 2) := by decide +kernel
theorem dX8_on_194 : decode cX8_on 194 = .ok (.iaload, 1) := by decide +kernel
theorem dX8_on_195 : decode cX8_on 195 = .ok (.iconst 1, 1) := by decide +kernel
theorem dX8_on_196 : decode cX8_on 196 = .ok (.if_icmp .ne 7, 3) := by decide +kernel
theorem dX8_on_199 : decode cX8_on 199 = .ok (.iconst 1, 1) := by decide +kernel
theorem dX8_on_200 : decode cX8_on 200 = .ok (.goto 4, 3) := by decide +kernel
theorem dX8_on_203 : decode cX8_on 203 = .ok (.iconst 0, 1) := by decide +kernel
theorem dX8_on_204 : decode cX8_on 204 = .ok (.putfield 73, 3) := by decide +kernel
theorem dX8_on_207 : decode cX8_on 207 = .ok (.iconst 0, 1) := by decide +kernel
theorem dX8_on_208 : decode cX8_on 208 = .ok (.istore_n 1, 1) := by decide +kernel
theorem dX8_on_209 : decode cX8_on 209 = .ok (.iload_n 1, 1) := by decide +kernel
theorem dX8_on_210 : decode cX8_on 210 = .ok (.bipush 12, 2) := by decide +kernel
theorem dX8_on_212 : decode cX8_on 212 = .ok (.if_icmp .ge 24, 3) := by decide +kernel
theorem dX8_on_215 : decode cX8_on 215 = .ok (.aload_n 0, 1) := by decide +kernel
theorem dX8_on_216 : decode cX8_on 216 = .ok (.getfield 40, 3) := by decide +kernel
theorem dX8_on_219 : decode cX8_on 219 = .ok (.iload_n 1, 1) := by decide +kernel
theorem dX8_on_220 : decode cX8_on 220 = .ok (.aload_n 0, 1) := by decide +kernel
theorem dX8_on_221 : decode cX8_on 221 = .ok (.getfield 37, 3) := by decide +kernel
theorem dX8_on_224 : decode cX8_on 224 = .ok (.bipush 108, 2) := by decide +kernel
theorem dX8_on_226 : decode cX8_on 226 = .ok (.iload_n 1, 1) := by decide +kernel
theorem dX8_on_227 : decode cX8_on 227 = .ok (.iadd, 1) := by decide +kernel
theorem dX8_on_228 : decode cX8_on 228 = .ok (.iaload, 1) := by decide +kernel
theorem dX8_on_229 : decode cX8_on 229 = .ok (.iastore, 1) := by decide +kernel
theorem dX8_on_230 : decode cX8_on 230 = .ok (.iinc 1 1, 3) := by decide +kernel
theorem dX8_on_233 : decode cX8_on 233 = .ok (.goto (-24), 3) := by decide +kernel
theorem dX8_on_236 : decode cX8_on 236 = .ok (.aload_n 0, 1) := by decide +kernel
theorem dX8_on_237 : decode cX8_on 237 = .ok (.getfield 40, 3) := by decide +kernel
theorem dX8_on_240 : decode cX8_on 240 = .ok (.bipush 12, 2) := by decide +kernel
theorem dX8_on_242 : decode cX8_on 242 = .ok (.aload_n 0, 1) := by decide +kernel
theorem dX8_on_243 : decode cX8_on 243 = .ok (.getfield 16, 3) := by decide +kernel
theorem dX8_on_246 : decode cX8_on 246 = .ok (.iconst 5, 1) := by decide +kernel
theorem dX8_on_247 : decode cX8_on 247 = .ok (.iaload, 1) := by decide +kernel
theorem dX8_on_248 : decode cX8_on 248 = .ok (.iastore, 1) := by decide +kernel
theorem dX8_on_249 : decode cX8_on 249 = .ok (.aload_n 0, 1) := by decide +kernel
theorem dX8_on_250 : decode cX8_on 250 = .ok (.invokevirtual 197, 3) := by decide +kernel
theorem dX8_on_253 : decode cX8_on 253 = .ok (.aload_n 0, 1) := by decide +kernel
theorem dX8_on_254 : decode cX8_on 254 = .ok (.getfield 53, 3) := by decide +kernel
theorem dX8_on_257 : decode cX8_on 257 = .ok (.aload_n 0, 1) := by decide +kernel
theorem dX8_on_258 : decode cX8_on 258 = .ok (.getfield 56, 3) := by decide +kernel
theorem dX8_on_261 : decode cX8_on 261 = .ok (.imul, 1) := by decide +kernel
theorem dX8_on_262 : decode cX8_on 262 = .ok (.ireturn, 1) := by decide +kernel
theorem dX8_count_0 : decode cX8_count 0 = .ok (.iload_n 1, 1) := by decide +kernel
theorem dX8_count_1 : decode cX8_count 1 = .ok (.tableswitch 86 0 6 #[43, 48, 53, 58, 63, 68, 73], 43) := by decide +kernel
theorem dX8_count_44 : decode cX8_count 44 = .ok (.aload_n 0, 1) := by decide +kernel
theorem dX8_count_45 : decode cX8_count 45 = .ok (.getfield 53, 3) := by decide +kernel
theorem dX8_count_48 : decode cX8_count 48 = .ok (.ireturn, 1) := by decide +kernel
theorem dX8_count_49 : decode cX8_count 49 = .ok (.aload_n 0, 1) := by decide +kernel
theorem dX8_count_50 : decode cX8_count 50 = .ok (.getfield 56, 3) := by decide +kernel
theorem dX8_count_53 : decode cX8_count 53 = .ok (.ireturn, 1) := by decide +kernel
theorem dX8_count_54 : decode cX8_count 54 = .ok (.aload_n 0, 1) := by decide +kernel
theorem dX8_count_55 : decode cX8_count 55 = .ok (.getfield 87, 3) := by decide +kernel
theorem dX8_count_58 : decode cX8_count 58 = .ok (.ireturn, 1) := by decide +kernel
theorem dX8_count_59 : decode cX8_count 59 = .ok (.aload_n 0, 1) := by decide +kernel
theorem dX8_count_60 : decode cX8_count 60 = .ok (.getfield 90, 3) := by decide +kernel
theorem dX8_count_63 : decode cX8_count 63 = .ok (.ireturn, 1) := by decide +kernel
theorem dX8_count_64 : decode cX8_count 64 = .ok (.aload_n 0, 1) := by decide +kernel
theorem dX8_count_65 : decode cX8_count 65 = .ok (.getfield 216, 3) := by decide +kernel
theorem dX8_count_68 : decode cX8_count 68 = .ok (.ireturn, 1) := by decide +kernel
theorem dX8_count_69 : decode cX8_count 69 = .ok (.aload_n 0, 1) := by decide +kernel
theorem dX8_count_70 : decode cX8_count 70 = .ok (.getfield 63, 3) := by decide +kernel
theorem dX8_count_73 : decode cX8_count 73 = .ok (.ireturn, 1) := by decide +kernel
theorem dX8_count_74 : decode cX8_count 74 = .ok (.aload_n 0, 1) := by decide +kernel
theorem dX8_count_75 : decode cX8_count 75 = .ok (.getfield 73, 3) := by decide +kernel
theorem dX8_count_78 : decode cX8_count 78 = .ok (.ifCond .eq 7, 3) := by decide +kernel
theorem dX8_count_81 : decode cX8_count 81 = .ok (.iconst 1, 1) := by decide +kernel
theorem dX8_count_82 : decode cX8_count 82 = .ok (.goto 4, 3) := by decide +kernel
theorem dX8_count_85 : decode cX8_count 85 = .ok (.iconst 0, 1) := by decide +kernel
theorem dX8_count_86 : decode cX8_count 86 = .ok (.ireturn, 1) := by decide +kernel
theorem dX8_count_87 : decode cX8_count 87 = .ok (.iload_n 1, 1) := by decide +kernel
theorem dX8_count_88 : decode cX8_count 88 = .ok (.bipush 10, 2) := by decide +kernel
theorem dX8_count_90 : decode cX8_count 90 = .ok (.if_icmp .le 21, 3) := by decide +kernel
theorem dX8_count_93 : decode cX8_count 93 = .ok (.iload_n 1, 1) := by decide +kernel
theorem dX8_count_94 : decode cX8_count 94 = .ok (.bipush 17, 2) := by decide +kernel
theorem dX8_count_96 : decode cX8_count 96 = .ok (.if_icmp .ge 15, 3) := by decide +kernel
theorem dX8_count_99 : decode cX8_count 99 = .ok (.aload_n 0, 1) := by decide +kernel
theorem dX8_count_100 : decode cX8_count 100 = .ok (.getfield 34, 3) := by decide +kernel
theorem dX8_count_103 : decode cX8_count 103 = .ok (.iload_n 1, 1) := by decide +kernel
theorem dX8_count_104 : decode cX8_count 104 = .ok (.bipush 10, 2) := by decide +kernel
theorem dX8_count_106 : decode cX8_count 106 = .ok (.isub, 1) := by decide +kernel
theorem dX8_count_107 : decode cX8_count 107 = .ok (.iaload, 1) := by decide +kernel
theorem dX8_count_108 : decode cX8_count 108 = .ok (.goto 5, 3) := by decide +kernel
theorem dX8_count_111 : decode cX8_count 111 = .ok (.bipush (-9), 2) := by decide +kernel
theorem dX8_count_113 : decode cX8_count 113 = .ok (.ireturn, 1) := by decide +kernel
theorem dJ9_max_7cf53_0 : decode cJ9_max_7cf53 0 = .ok (.iload_n 0, 1) := by decide +kernel
theorem dJ9_max_7cf53_1 : decode cJ9_max_7cf53 1 = .ok (.iload_n 1, 1) := by decide +kernel
theorem dJ9_max_7cf53_2 : decode cJ9_max_7cf53 2 = .ok (.if_icmp .lt 7, 3) := by decide +kernel
theorem dJ9_max_7cf53_5 : decode cJ9_max_7cf53 5 = .ok (.iload_n 0, 1) := by decide +kernel
theorem dJ9_max_7cf53_6 : decode cJ9_max_7cf53 6 = .ok (.goto 4, 3) := by decide +kernel
theorem dJ9_max_7cf53_9 : decode cJ9_max_7cf53 9 = .ok (.iload_n 1, 1) := by decide +kernel
theorem dJ9_max_7cf53_10 : decode cJ9_max_7cf53 10 = .ok (.ireturn, 1) := by decide +kernel
theorem dJ9_min_7cf53_0 : decode cJ9_min_7cf53 0 = .ok (.iload_n 0, 1) := by decide +kernel
theorem dJ9_min_7cf53_1 : decode cJ9_min_7cf53 1 = .ok (.iload_n 1, 1) := by decide +kernel
theorem dJ9_min_7cf53_2 : decode cJ9_min_7cf53 2 = .ok (.if_icmp .gt 7, 3) := by decide +kernel
theorem dJ9_min_7cf53_5 : decode cJ9_min_7cf53 5 = .ok (.iload_n 0, 1) := by decide +kernel
theorem dJ9_min_7cf53_6 : decode cJ9_min_7cf53 6 = .ok (.goto 4, 3) := by decide +kernel
theorem dJ9_min_7cf53_9 : decode cJ9_min_7cf53 9 = .ok (.iload_n 1, 1) := by decide +kernel
theorem dJ9_min_7cf53_10 : decode cJ9_min_7cf53 10 = .ok (.ireturn, 1) := by decide +kernel
theorem dL_law_0 : decode cL_law 0 = .ok (.new 7, 3) := by decide +kernel
theorem dL_law_3 : decode cL_law 3 = .ok (.dup, 1) := by decide +kernel
theorem dL_law_4 : decode cL_law 4 = .ok (.invokespecial 9, 3) := by decide +kernel
theorem dL_law_7 : decode cL_law 7 = .ok (.astore_n 1, 1) := by decide +kernel
theorem dL_law_8 : decode cL_law 8 = .ok (.new 10, 3) := by decide +kernel
theorem dL_law_11 : decode cL_law 11 = .ok (.dup, 1) := by decide +kernel
theorem dL_law_12 : decode cL_law 12 = .ok (.invokespecial 12, 3) := by decide +kernel
theorem dL_law_15 : decode cL_law 15 = .ok (.astore_n 2, 1) := by decide +kernel
theorem dL_law_16 : decode cL_law 16 = .ok (.iconst 0, 1) := by decide +kernel
theorem dL_law_17 : decode cL_law 17 = .ok (.istore_n 3, 1) := by decide +kernel
theorem dL_law_18 : decode cL_law 18 = .ok (.iload_n 3, 1) := by decide +kernel
theorem dL_law_19 : decode cL_law 19 = .ok (.aload_n 0, 1) := by decide +kernel
theorem dL_law_20 : decode cL_law 20 = .ok (.arraylength, 1) := by decide +kernel
theorem dL_law_21 : decode cL_law 21 = .ok (.iconst 4, 1) := by decide +kernel
theorem dL_law_22 : decode cL_law 22 = .ok (.isub, 1) := by decide +kernel
theorem dL_law_23 : decode cL_law 23 = .ok (.if_icmp .gt 882, 3) := by decide +kernel
theorem dL_law_26 : decode cL_law 26 = .ok (.aload_n 0, 1) := by decide +kernel
theorem dL_law_27 : decode cL_law 27 = .ok (.iload_n 3, 1) := by decide +kernel
theorem dL_law_28 : decode cL_law 28 = .ok (.iaload, 1) := by decide +kernel
theorem dL_law_29 : decode cL_law 29 = .ok (.bipush 63, 2) := by decide +kernel
theorem dL_law_31 : decode cL_law 31 = .ok (.iand, 1) := by decide +kernel
theorem dL_law_32 : decode cL_law 32 = .ok (.tableswitch 867 0 32 #[148, 171, 184, 207, 240, 273, 306, 329, 352, 375, 398, 421, 444, 467, 480, 493, 506, 519, 542, 555, 568, 581, 624, 637, 670, 703, 736, 749, 782, 805, 818, 831, 844], 148) := by decide +kernel
theorem dL_law_180 : decode cL_law 180 = .ok (.aload_n 1, 1) := by decide +kernel
theorem dL_law_181 : decode cL_law 181 = .ok (.aload_n 0, 1) := by decide +kernel
theorem dL_law_182 : decode cL_law 182 = .ok (.iload_n 3, 1) := by decide +kernel
theorem dL_law_183 : decode cL_law 183 = .ok (.iconst 1, 1) := by decide +kernel
theorem dL_law_184 : decode cL_law 184 = .ok (.iadd, 1) := by decide +kernel
theorem dL_law_185 : decode cL_law 185 = .ok (.iaload, 1) := by decide +kernel
theorem dL_law_186 : decode cL_law 186 = .ok (.invokevirtual 13, 3) := by decide +kernel
theorem dL_law_189 : decode cL_law 189 = .ok (.aload_n 2, 1) := by decide +kernel
theorem dL_law_190 : decode cL_law 190 = .ok (.aload_n 0, 1) := by decide +kernel
theorem dL_law_191 : decode cL_law 191 = .ok (.iload_n 3, 1) := by decide +kernel
theorem dL_law_192 : decode cL_law 192 = .ok (.iconst 1, 1) := by decide +kernel
theorem dL_law_193 : decode cL_law 193 = .ok (.iadd, 1) := by decide +kernel
theorem dL_law_194 : decode cL_law 194 = .ok (.iaload, 1) := by decide +kernel
theorem dL_law_195 : decode cL_law 195 = .ok (.invokevirtual 17, 3) := by decide +kernel
theorem dL_law_198 : decode cL_law 198 = .ok (.if_icmp .eq 701, 3) := by decide +kernel
theorem dL_law_201 : decode cL_law 201 = .ok (.iconst 0, 1) := by decide +kernel
theorem dL_law_202 : decode cL_law 202 = .ok (.ireturn, 1) := by decide +kernel
theorem dL_law_203 : decode cL_law 203 = .ok (.aload_n 1, 1) := by decide +kernel
theorem dL_law_204 : decode cL_law 204 = .ok (.invokevirtual 18, 3) := by decide +kernel
theorem dL_law_207 : decode cL_law 207 = .ok (.aload_n 2, 1) := by decide +kernel
theorem dL_law_208 : decode cL_law 208 = .ok (.invokevirtual 22, 3) := by decide +kernel
theorem dL_law_211 : decode cL_law 211 = .ok (.if_icmp .eq 688, 3) := by decide +kernel
theorem dL_law_214 : decode cL_law 214 = .ok (.iconst 0, 1) := by decide +kernel
theorem dL_law_215 : decode cL_law 215 = .ok (.ireturn, 1) := by decide +kernel
theorem dL_law_216 : decode cL_law 216 = .ok (.aload_n 1, 1) := by decide +kernel
theorem dL_law_217 : decode cL_law 217 = .ok (.aload_n 0, 1) := by decide +kernel
theorem dL_law_218 : decode cL_law 218 = .ok (.iload_n 3, 1) := by decide +kernel
theorem dL_law_219 : decode cL_law 219 = .ok (.iconst 1, 1) := by decide +kernel
theorem dL_law_220 : decode cL_law 220 = .ok (.iadd, 1) := by decide +kernel
theorem dL_law_221 : decode cL_law 221 = .ok (.iaload, 1) := by decide +kernel
theorem dL_law_222 : decode cL_law 222 = .ok (.invokevirtual 23, 3) := by decide +kernel
theorem dL_law_225 : decode cL_law 225 = .ok (.aload_n 2, 1) := by decide +kernel
theorem dL_law_226 : decode cL_law 226 = .ok (.aload_n 0, 1) := by decide +kernel
theorem dL_law_227 : decode cL_law 227 = .ok (.iload_n 3, 1) := by decide +kernel
theorem dL_law_228 : decode cL_law 228 = .ok (.iconst 1, 1) := by decide +kernel
theorem dL_law_229 : decode cL_law 229 = .ok (.iadd, 1) := by decide +kernel
theorem dL_law_230 : decode cL_law 230 = .ok (.iaload, 1) := by decide +kernel
theorem dL_law_231 : decode cL_law 231 = .ok (.invokevirtual 26, 3) := by decide +kernel
theorem dL_law_234 : decode cL_law 234 = .ok (.if_icmp .eq 665, 3) := by decide +kernel
theorem dL_law_237 : decode cL_law 237 = .ok (.iconst 0, 1) := by decide +kernel
theorem dL_law_238 : decode cL_law 238 = .ok (.ireturn, 1) := by decide +kernel
theorem dL_law_239 : decode cL_law 239 = .ok (.aload_n 1, 1) := by decide +kernel
theorem dL_law_240 : decode cL_law 240 = .ok (.aload_n 0, 1) := by decide +kernel
theorem dL_law_241 : decode cL_law 241 = .ok (.iload_n 3, 1) := by decide +kernel
theorem dL_law_242 : decode cL_law 242 = .ok (.iconst 1, 1) := by decide +kernel
theorem dL_law_243 : decode cL_law 243 = .ok (.iadd, 1) := by decide +kernel
theorem dL_law_244 : decode cL_law 244 = .ok (.iaload, 1) := by decide +kernel
theorem dL_law_245 : decode cL_law 245 = .ok (.aload_n 0, 1) := by decide +kernel
theorem dL_law_246 : decode cL_law 246 = .ok (.iload_n 3, 1) := by decide +kernel
theorem dL_law_247 : decode cL_law 247 = .ok (.iconst 2, 1) := by decide +kernel
theorem dL_law_248 : decode cL_law 248 = .ok (.iadd, 1) := by decide +kernel
theorem dL_law_249 : decode cL_law 249 = .ok (.iaload, 1) := by decide +kernel
theorem dL_law_250 : decode cL_law 250 = .ok (.invokevirtual 27, 3) := by decide +kernel
theorem dL_law_253 : decode cL_law 253 = .ok (.aload_n 2, 1) := by decide +kernel
theorem dL_law_254 : decode cL_law 254 = .ok (.aload_n 0, 1) := by decide +kernel
theorem dL_law_255 : decode cL_law 255 = .ok (.iload_n 3, 1) := by decide +kernel
theorem dL_law_256 : decode cL_law 256 = .ok (.iconst 1, 1) := by decide +kernel
theorem dL_law_257 : decode cL_law 257 = .ok (.iadd, 1) := by decide +kernel
theorem dL_law_258 : decode cL_law 258 = .ok (.iaload, 1) := by decide +kernel
theorem dL_law_259 : decode cL_law 259 = .ok (.aload_n 0, 1) := by decide +kernel
theorem dL_law_260 : decode cL_law 260 = .ok (.iload_n 3, 1) := by decide +kernel
theorem dL_law_261 : decode cL_law 261 = .ok (.iconst 2, 1) := by decide +kernel
theorem dL_law_262 : decode cL_law 262 = .ok (.iadd, 1) := by decide +kernel
theorem dL_law_263 : decode cL_law 263 = .ok (.iaload, 1) := by decide +kernel
theorem dL_law_264 : decode cL_law 264 = .ok (.invokevirtual 31, 3) := by decide +kernel
theorem dL_law_267 : decode cL_law 267 = .ok (.if_icmp .eq 632, 3) := by decide +kernel
theorem dL_law_270 : decode cL_law 270 = .ok (.iconst 0, 1) := by decide +kernel
theorem dL_law_271 : decode cL_law 271 = .ok (.ireturn, 1) := by decide +kernel
theorem dL_law_272 : decode cL_law 272 = .ok (.aload_n 1, 1) := by decide +kernel
theorem dL_law_273 : decode cL_law 273 = .ok (.aload_n 0, 1) := by decide +kernel
theorem dL_law_274 : decode cL_law 274 = .ok (.iload_n 3, 1) := by decide +kernel
theorem dL_law_275 : decode cL_law 275 = .ok (.iconst 1, 1) := by decide +kernel
theorem dL_law_276 : decode cL_law 276 = .ok (.iadd, 1) := by decide +kernel
theorem dL_law_277 : decode cL_law 277 = .ok (.iaload, 1) := by decide +kernel
theorem dL_law_278 : decode cL_law 278 = .ok (.aload_n 0, 1) := by decide +kernel
theorem dL_law_279 : decode cL_law 279 = .ok (.iload_n 3, 1) := by decide +kernel
theorem dL_law_280 : decode cL_law 280 = .ok (.iconst 2, 1) := by decide +kernel
theorem dL_law_281 : decode cL_law 281 = .ok (.iadd, 1) := by decide +kernel
theorem dL_law_282 : decode cL_law 282 = .ok (.iaload, 1) := by decide +kernel
theorem dL_law_283 : decode cL_law 283 = .ok (.invokevirtual 32, 3) := by decide +kernel
theorem dL_law_286 : decode cL_law 286 = .ok (.aload_n 2, 1) := by decide +kernel
theorem dL_law_287 : decode cL_law 287 = .ok (.aload_n 0, 1) := by decide +kernel
theorem dL_law_288 : decode cL_law 288 = .ok (.iload_n 3, 1) := by decide +kernel
theorem dL_law_289 : decode cL_law 289 = .ok (.iconst 1, 1) := by decide +kernel
theorem dL_law_290 : decode cL_law 290 = .ok (.iadd, 1) := by decide +kernel
theorem dL_law_291 : decode cL_law 291 = .ok (.iaload, 1) := by decide +kernel
theorem dL_law_292 : decode cL_law 292 = .ok (.aload_n 0, 1) := by decide +kernel
theorem dL_law_293 : decode cL_law 293 = .ok (.iload_n 3, 1) := by decide +kernel
theorem dL_law_294 : decode cL_law 294 = .ok (.iconst 2, 1) := by decide +kernel
theorem dL_law_295 : decode cL_law 295 = .ok (.iadd, 1) := by decide +kernel
theorem dL_law_296 : decode cL_law 296 = .ok (.iaload, 1) := by decide +kernel
theorem dL_law_297 : decode cL_law 297 = .ok (.invokevirtual 35, 3) := by decide +kernel
theorem dL_law_300 : decode cL_law 300 = .ok (.if_icmp .eq 599, 3) := by decide +kernel
theorem dL_law_303 : decode cL_law 303 = .ok (.iconst 0, 1) := by decide +kernel
theorem dL_law_304 : decode cL_law 304 = .ok (.ireturn, 1) := by decide +kernel
theorem dL_law_305 : decode cL_law 305 = .ok (.aload_n 1, 1) := by decide +kernel
theorem dL_law_306 : decode cL_law 306 = .ok (.aload_n 0, 1) := by decide +kernel
theorem dL_law_307 : decode cL_law 307 = .ok (.iload_n 3, 1) := by decide +kernel
theorem dL_law_308 : decode cL_law 308 = .ok (.iconst 1, 1) := by decide +kernel
theorem dL_law_309 : decode cL_law 309 = .ok (.iadd, 1) := by decide +kernel
theorem dL_law_310 : decode cL_law 310 = .ok (.iaload, 1) := by decide +kernel
theorem dL_law_311 : decode cL_law 311 = .ok (.aload_n 0, 1) := by decide +kernel
theorem dL_law_312 : decode cL_law 312 = .ok (.iload_n 3, 1) := by decide +kernel
theorem dL_law_313 : decode cL_law 313 = .ok (.iconst 2, 1) := by decide +kernel
theorem dL_law_314 : decode cL_law 314 = .ok (.iadd, 1) := by decide +kernel
theorem dL_law_315 : decode cL_law 315 = .ok (.iaload, 1) := by decide +kernel
theorem dL_law_316 : decode cL_law 316 = .ok (.invokevirtual 36, 3) := by decide +kernel
theorem dL_law_319 : decode cL_law 319 = .ok (.aload_n 2, 1) := by decide +kernel
theorem dL_law_320 : decode cL_law 320 = .ok (.aload_n 0, 1) := by decide +kernel
theorem dL_law_321 : decode cL_law 321 = .ok (.iload_n 3, 1) := by decide +kernel
theorem dL_law_322 : decode cL_law 322 = .ok (.iconst 1, 1) := by decide +kernel
theorem dL_law_323 : decode cL_law 323 = .ok (.iadd, 1) := by decide +kernel
theorem dL_law_324 : decode cL_law 324 = .ok (.iaload, 1) := by decide +kernel
theorem dL_law_325 : decode cL_law 325 = .ok (.aload_n 0, 1) := by decide +kernel
theorem dL_law_326 : decode cL_law 326 = .ok (.iload_n 3, 1) := by decide +kernel
theorem dL_law_327 : decode cL_law 327 = .ok (.iconst 2, 1) := by decide +kernel
theorem dL_law_328 : decode cL_law 328 = .ok (.iadd, 1) := by decide +kernel
theorem dL_law_329 : decode cL_law 329 = .ok (.iaload, 1) := by decide +kernel
theorem dL_law_330 : decode cL_law 330 = .ok (.invokevirtual 39, 3) := by decide +kernel
theorem dL_law_333 : decode cL_law 333 = .ok (.if_icmp .eq 566, 3) := by decide +kernel
theorem dL_law_336 : decode cL_law 336 = .ok (.iconst 0, 1) := by decide +kernel
theorem dL_law_337 : decode cL_law 337 = .ok (.ireturn, 1) := by decide +kernel
theorem dL_law_338 : decode cL_law 338 = .ok (.aload_n 1, 1) := by decide +kernel
theorem dL_law_339 : decode cL_law 339 = .ok (.aload_n 0, 1) := by decide +kernel
theorem dL_law_340 : decode cL_law 340 = .ok (.iload_n 3, 1) := by decide +kernel
theorem dL_law_341 : decode cL_law 341 = .ok (.iconst 1, 1) := by decide +kernel
theorem dL_law_342 : decode cL_law 342 = .ok (.iadd, 1) := by decide +kernel
theorem dL_law_343 : decode cL_law 343 = .ok (.iaload, 1) := by decide +kernel
theorem dL_law_344 : decode cL_law 344 = .ok (.invokevirtual 40, 3) := by decide +kernel
theorem dL_law_347 : decode cL_law 347 = .ok (.aload_n 2, 1) := by decide +kernel
theorem dL_law_348 : decode cL_law 348 = .ok (.aload_n 0, 1) := by decide +kernel
theorem dL_law_349 : decode cL_law 349 = .ok (.iload_n 3, 1) := by decide +kernel
theorem dL_law_350 : decode cL_law 350 = .ok (.iconst 1, 1) := by decide +kernel
theorem dL_law_351 : decode cL_law 351 = .ok (.iadd, 1) := by decide +kernel
theorem dL_law_352 : decode cL_law 352 = .ok (.iaload, 1) := by decide +kernel
theorem dL_law_353 : decode cL_law 353 = .ok (.invokevirtual 43, 3) := by decide +kernel
theorem dL_law_356 : decode cL_law 356 = .ok (.if_icmp .eq 543, 3) := by decide +kernel
theorem dL_law_359 : decode cL_law 359 = .ok (.iconst 0, 1) := by decide +kernel
theorem dL_law_360 : decode cL_law 360 = .ok (.ireturn, 1) := by decide +kernel
theorem dL_law_361 : decode cL_law 361 = .ok (.aload_n 1, 1) := by decide +kernel
theorem dL_law_362 : decode cL_law 362 = .ok (.aload_n 0, 1) := by decide +kernel
theorem dL_law_363 : decode cL_law 363 = .ok (.iload_n 3, 1) := by decide +kernel
theorem dL_law_364 : decode cL_law 364 = .ok (.iconst 1, 1) := by decide +kernel
theorem dL_law_365 : decode cL_law 365 = .ok (.iadd, 1) := by decide +kernel
theorem dL_law_366 : decode cL_law 366 = .ok (.iaload, 1) := by decide +kernel
theorem dL_law_367 : decode cL_law 367 = .ok (.invokevirtual 44, 3) := by decide +kernel
theorem dL_law_370 : decode cL_law 370 = .ok (.aload_n 2, 1) := by decide +kernel
theorem dL_law_371 : decode cL_law 371 = .ok (.aload_n 0, 1) := by decide +kernel
theorem dL_law_372 : decode cL_law 372 = .ok (.iload_n 3, 1) := by decide +kernel
theorem dL_law_373 : decode cL_law 373 = .ok (.iconst 1, 1) := by decide +kernel
theorem dL_law_374 : decode cL_law 374 = .ok (.iadd, 1) := by decide +kernel
theorem dL_law_375 : decode cL_law 375 = .ok (.iaload, 1) := by decide +kernel
theorem dL_law_376 : decode cL_law 376 = .ok (.invokevirtual 47, 3) := by decide +kernel
theorem dL_law_379 : decode cL_law 379 = .ok (.if_icmp .eq 520, 3) := by decide +kernel
theorem dL_law_382 : decode cL_law 382 = .ok (.iconst 0, 1) := by decide +kernel
theorem dL_law_383 : decode cL_law 383 = .ok (.ireturn, 1) := by decide +kernel
theorem dL_law_384 : decode cL_law 384 = .ok (.aload_n 1, 1) := by decide +kernel
theorem dL_law_385 : decode cL_law 385 = .ok (.aload_n 0, 1) := by decide +kernel
theorem dL_law_386 : decode cL_law 386 = .ok (.iload_n 3, 1) := by decide +kernel
theorem dL_law_387 : decode cL_law 387 = .ok (.iconst 1, 1) := by decide +kernel
theorem dL_law_388 : decode cL_law 388 = .ok (.iadd, 1) := by decide +kernel
theorem dL_law_389 : decode cL_law 389 = .ok (.iaload, 1) := by decide +kernel
theorem dL_law_390 : decode cL_law 390 = .ok (.invokevirtual 48, 3) := by decide +kernel
theorem dL_law_393 : decode cL_law 393 = .ok (.aload_n 2, 1) := by decide +kernel
theorem dL_law_394 : decode cL_law 394 = .ok (.aload_n 0, 1) := by decide +kernel
theorem dL_law_395 : decode cL_law 395 = .ok (.iload_n 3, 1) := by decide +kernel
theorem dL_law_396 : decode cL_law 396 = .ok (.iconst 1, 1) := by decide +kernel
theorem dL_law_397 : decode cL_law 397 = .ok (.iadd, 1) := by decide +kernel
theorem dL_law_398 : decode cL_law 398 = .ok (.iaload, 1) := by decide +kernel
theorem dL_law_399 : decode cL_law 399 = .ok (.invokevirtual 51, 3) := by decide +kernel
theorem dL_law_402 : decode cL_law 402 = .ok (.if_icmp .eq 497, 3) := by decide +kernel
theorem dL_law_405 : decode cL_law 405 = .ok (.iconst 0, 1) := by decide +kernel
theorem dL_law_406 : decode cL_law 406 = .ok (.ireturn, 1) := by decide +kernel
theorem dL_law_407 : decode cL_law 407 = .ok (.aload_n 1, 1) := by decide +kernel
theorem dL_law_408 : decode cL_law 408 = .ok (.aload_n 0, 1) := by decide +kernel
theorem dL_law_409 : decode cL_law 409 = .ok (.iload_n 3, 1) := by decide +kernel
theorem dL_law_410 : decode cL_law 410 = .ok (.iconst 1, 1) := by decide +kernel
theorem dL_law_411 : decode cL_law 411 = .ok (.iadd, 1) := by decide +kernel
theorem dL_law_412 : decode cL_law 412 = .ok (.iaload, 1) := by decide +kernel
theorem dL_law_413 : decode cL_law 413 = .ok (.invokevirtual 52, 3) := by decide +kernel
theorem dL_law_416 : decode cL_law 416 = .ok (.aload_n 2, 1) := by decide +kernel
theorem dL_law_417 : decode cL_law 417 = .ok (.aload_n 0, 1) := by decide +kernel
theorem dL_law_418 : decode cL_law 418 = .ok (.iload_n 3, 1) := by decide +kernel
theorem dL_law_419 : decode cL_law 419 = .ok (.iconst 1, 1) := by decide +kernel
theorem dL_law_420 : decode cL_law 420 = .ok (.iadd, 1) := by decide +kernel
theorem dL_law_421 : decode cL_law 421 = .ok (.iaload, 1) := by decide +kernel
theorem dL_law_422 : decode cL_law 422 = .ok (.invokevirtual 55, 3) := by decide +kernel
theorem dL_law_425 : decode cL_law 425 = .ok (.if_icmp .eq 474, 3) := by decide +kernel
theorem dL_law_428 : decode cL_law 428 = .ok (.iconst 0, 1) := by decide +kernel
theorem dL_law_429 : decode cL_law 429 = .ok (.ireturn, 1) := by decide +kernel
theorem dL_law_430 : decode cL_law 430 = .ok (.aload_n 1, 1) := by decide +kernel
theorem dL_law_431 : decode cL_law 431 = .ok (.aload_n 0, 1) := by decide +kernel
theorem dL_law_432 : decode cL_law 432 = .ok (.iload_n 3, 1) := by decide +kernel
theorem dL_law_433 : decode cL_law 433 = .ok (.iconst 1, 1) := by decide +kernel
theorem dL_law_434 : decode cL_law 434 = .ok (.iadd, 1) := by decide +kernel
theorem dL_law_435 : decode cL_law 435 = .ok (.iaload, 1) := by decide +kernel
theorem dL_law_436 : decode cL_law 436 = .ok (.invokevirtual 56, 3) := by decide +kernel
theorem dL_law_439 : decode cL_law 439 = .ok (.aload_n 2, 1) := by decide +kernel
theorem dL_law_440 : decode cL_law 440 = .ok (.aload_n 0, 1) := by decide +kernel
theorem dL_law_441 : decode cL_law 441 = .ok (.iload_n 3, 1) := by decide +kernel
theorem dL_law_442 : decode cL_law 442 = .ok (.iconst 1, 1) := by decide +kernel
theorem dL_law_443 : decode cL_law 443 = .ok (.iadd, 1) := by decide +kernel
theorem dL_law_444 : decode cL_law 444 = .ok (.iaload, 1) := by decide +kernel
theorem dL_law_445 : decode cL_law 445 = .ok (.invokevirtual 59, 3) := by decide +kernel
theorem dL_law_448 : decode cL_law 448 = .ok (.if_icmp .eq 451, 3) := by decide +kernel
theorem dL_law_451 : decode cL_law 451 = .ok (.iconst 0, 1) := by decide +kernel
theorem dL_law_452 : decode cL_law 452 = .ok (.ireturn, 1) := by decide +kernel
theorem dL_law_453 : decode cL_law 453 = .ok (.aload_n 1, 1) := by decide +kernel
theorem dL_law_454 : decode cL_law 454 = .ok (.aload_n 0, 1) := by decide +kernel
theorem dL_law_455 : decode cL_law 455 = .ok (.iload_n 3, 1) := by decide +kernel
theorem dL_law_456 : decode cL_law 456 = .ok (.iconst 1, 1) := by decide +kernel
theorem dL_law_457 : decode cL_law 457 = .ok (.iadd, 1) := by decide +kernel
theorem dL_law_458 : decode cL_law 458 = .ok (.iaload, 1) := by decide +kernel
theorem dL_law_459 : decode cL_law 459 = .ok (.invokevirtual 60, 3) := by decide +kernel
theorem dL_law_462 : decode cL_law 462 = .ok (.aload_n 2, 1) := by decide +kernel
theorem dL_law_463 : decode cL_law 463 = .ok (.aload_n 0, 1) := by decide +kernel
theorem dL_law_464 : decode cL_law 464 = .ok (.iload_n 3, 1) := by decide +kernel
theorem dL_law_465 : decode cL_law 465 = .ok (.iconst 1, 1) := by decide +kernel
theorem dL_law_466 : decode cL_law 466 = .ok (.iadd, 1) := by decide +kernel
theorem dL_law_467 : decode cL_law 467 = .ok (.iaload, 1) := by decide +kernel
theorem dL_law_468 : decode cL_law 468 = .ok (.invokevirtual 63, 3) := by decide +kernel
theorem dL_law_471 : decode cL_law 471 = .ok (.if_icmp .eq 428, 3) := by decide +kernel
theorem dL_law_474 : decode cL_law 474 = .ok (.iconst 0, 1) := by decide +kernel
theorem dL_law_475 : decode cL_law 475 = .ok (.ireturn, 1) := by decide +kernel
theorem dL_law_476 : decode cL_law 476 = .ok (.aload_n 1, 1) := by decide +kernel
theorem dL_law_477 : decode cL_law 477 = .ok (.aload_n 0, 1) := by decide +kernel
theorem dL_law_478 : decode cL_law 478 = .ok (.iload_n 3, 1) := by decide +kernel
theorem dL_law_479 : decode cL_law 479 = .ok (.iconst 1, 1) := by decide +kernel
theorem dL_law_480 : decode cL_law 480 = .ok (.iadd, 1) := by decide +kernel
theorem dL_law_481 : decode cL_law 481 = .ok (.iaload, 1) := by decide +kernel
theorem dL_law_482 : decode cL_law 482 = .ok (.invokevirtual 64, 3) := by decide +kernel
theorem dL_law_485 : decode cL_law 485 = .ok (.aload_n 2, 1) := by decide +kernel
theorem dL_law_486 : decode cL_law 486 = .ok (.aload_n 0, 1) := by decide +kernel
theorem dL_law_487 : decode cL_law 487 = .ok (.iload_n 3, 1) := by decide +kernel
theorem dL_law_488 : decode cL_law 488 = .ok (.iconst 1, 1) := by decide +kernel
theorem dL_law_489 : decode cL_law 489 = .ok (.iadd, 1) := by decide +kernel
theorem dL_law_490 : decode cL_law 490 = .ok (.iaload, 1) := by decide +kernel
theorem dL_law_491 : decode cL_law 491 = .ok (.invokevirtual 67, 3) := by decide +kernel
theorem dL_law_494 : decode cL_law 494 = .ok (.if_icmp .eq 405, 3) := by decide +kernel
theorem dL_law_497 : decode cL_law 497 = .ok (.iconst 0, 1) := by decide +kernel
theorem dL_law_498 : decode cL_law 498 = .ok (.ireturn, 1) := by decide +kernel
theorem dL_law_499 : decode cL_law 499 = .ok (.aload_n 1, 1) := by decide +kernel
theorem dL_law_500 : decode cL_law 500 = .ok (.invokevirtual 68, 3) := by decide +kernel
theorem dL_law_503 : decode cL_law 503 = .ok (.aload_n 2, 1) := by decide +kernel
theorem dL_law_504 : decode cL_law 504 = .ok (.invokevirtual 71, 3) := by decide +kernel
theorem dL_law_507 : decode cL_law 507 = .ok (.if_icmp .eq 392, 3) := by decide +kernel
theorem dL_law_510 : decode cL_law 510 = .ok (.iconst 0, 1) := by decide +kernel
theorem dL_law_511 : decode cL_law 511 = .ok (.ireturn, 1) := by decide +kernel
theorem dL_law_512 : decode cL_law 512 = .ok (.aload_n 1, 1) := by decide +kernel
theorem dL_law_513 : decode cL_law 513 = .ok (.invokevirtual 72, 3) := by decide +kernel
theorem dL_law_516 : decode cL_law 516 = .ok (.aload_n 2, 1) := by decide +kernel
theorem dL_law_517 : decode cL_law 517 = .ok (.invokevirtual 75, 3) := by decide +kernel
theorem dL_law_520 : decode cL_law 520 = .ok (.if_icmp .eq 379, 3) := by decide +kernel
theorem dL_law_523 : decode cL_law 523 = .ok (.iconst 0, 1) := by decide +kernel
theorem dL_law_524 : decode cL_law 524 = .ok (.ireturn, 1) := by decide +kernel
theorem dL_law_525 : decode cL_law 525 = .ok (.aload_n 1, 1) := by decide +kernel
theorem dL_law_526 : decode cL_law 526 = .ok (.invokevirtual 76, 3) := by decide +kernel
theorem dL_law_529 : decode cL_law 529 = .ok (.aload_n 2, 1) := by decide +kernel
theorem dL_law_530 : decode cL_law 530 = .ok (.invokevirtual 79, 3) := by decide +kernel
theorem dL_law_533 : decode cL_law 533 = .ok (.if_icmp .eq 366, 3) := by decide +kernel
theorem dL_law_536 : decode cL_law 536 = .ok (.iconst 0, 1) := by decide +kernel
theorem dL_law_537 : decode cL_law 537 = .ok (.ireturn, 1) := by decide +kernel
theorem dL_law_538 : decode cL_law 538 = .ok (.aload_n 1, 1) := by decide +kernel
theorem dL_law_539 : decode cL_law 539 = .ok (.invokevirtual 80, 3) := by decide +kernel
theorem dL_law_542 : decode cL_law 542 = .ok (.aload_n 2, 1) := by decide +kernel
theorem dL_law_543 : decode cL_law 543 = .ok (.invokevirtual 83, 3) := by decide +kernel
theorem dL_law_546 : decode cL_law 546 = .ok (.if_icmp .eq 353, 3) := by decide +kernel
theorem dL_law_549 : decode cL_law 549 = .ok (.iconst 0, 1) := by decide +kernel
theorem dL_law_550 : decode cL_law 550 = .ok (.ireturn, 1) := by decide +kernel
theorem dL_law_551 : decode cL_law 551 = .ok (.aload_n 1, 1) := by decide +kernel
theorem dL_law_552 : decode cL_law 552 = .ok (.aload_n 0, 1) := by decide +kernel
theorem dL_law_553 : decode cL_law 553 = .ok (.iload_n 3, 1) := by decide +kernel
theorem dL_law_554 : decode cL_law 554 = .ok (.iconst 1, 1) := by decide +kernel
theorem dL_law_555 : decode cL_law 555 = .ok (.iadd, 1) := by decide +kernel
theorem dL_law_556 : decode cL_law 556 = .ok (.iaload, 1) := by decide +kernel
theorem dL_law_557 : decode cL_law 557 = .ok (.invokevirtual 84, 3) := by decide +kernel
theorem dL_law_560 : decode cL_law 560 = .ok (.aload_n 2, 1) := by decide +kernel
theorem dL_law_561 : decode cL_law 561 = .ok (.aload_n 0, 1) := by decide +kernel
theorem dL_law_562 : decode cL_law 562 = .ok (.iload_n 3, 1) := by decide +kernel
theorem dL_law_563 : decode cL_law 563 = .ok (.iconst 1, 1) := by decide +kernel
theorem dL_law_564 : decode cL_law 564 = .ok (.iadd, 1) := by decide +kernel
theorem dL_law_565 : decode cL_law 565 = .ok (.iaload, 1) := by decide +kernel
theorem dL_law_566 : decode cL_law 566 = .ok (.invokevirtual 87, 3) := by decide +kernel
theorem dL_law_569 : decode cL_law 569 = .ok (.if_icmp .eq 330, 3) := by decide +kernel
theorem dL_law_572 : decode cL_law 572 = .ok (.iconst 0, 1) := by decide +kernel
theorem dL_law_573 : decode cL_law 573 = .ok (.ireturn, 1) := by decide +kernel
theorem dL_law_574 : decode cL_law 574 = .ok (.aload_n 1, 1) := by decide +kernel
theorem dL_law_575 : decode cL_law 575 = .ok (.invokevirtual 88, 3) := by decide +kernel
theorem dL_law_578 : decode cL_law 578 = .ok (.aload_n 2, 1) := by decide +kernel
theorem dL_law_579 : decode cL_law 579 = .ok (.invokevirtual 91, 3) := by decide +kernel
theorem dL_law_582 : decode cL_law 582 = .ok (.if_icmp .eq 317, 3) := by decide +kernel
theorem dL_law_585 : decode cL_law 585 = .ok (.iconst 0, 1) := by decide +kernel
theorem dL_law_586 : decode cL_law 586 = .ok (.ireturn, 1) := by decide +kernel
theorem dL_law_587 : decode cL_law 587 = .ok (.aload_n 1, 1) := by decide +kernel
theorem dL_law_588 : decode cL_law 588 = .ok (.invokevirtual 92, 3) := by decide +kernel
theorem dL_law_591 : decode cL_law 591 = .ok (.aload_n 2, 1) := by decide +kernel
theorem dL_law_592 : decode cL_law 592 = .ok (.invokevirtual 95, 3) := by decide +kernel
theorem dL_law_595 : decode cL_law 595 = .ok (.if_icmp .eq 304, 3) := by decide +kernel
theorem dL_law_598 : decode cL_law 598 = .ok (.iconst 0, 1) := by decide +kernel
theorem dL_law_599 : decode cL_law 599 = .ok (.ireturn, 1) := by decide +kernel
theorem dL_law_600 : decode cL_law 600 = .ok (.aload_n 1, 1) := by decide +kernel
theorem dL_law_601 : decode cL_law 601 = .ok (.invokevirtual 96, 3) := by decide +kernel
theorem dL_law_604 : decode cL_law 604 = .ok (.aload_n 2, 1) := by decide +kernel
theorem dL_law_605 : decode cL_law 605 = .ok (.invokevirtual 99, 3) := by decide +kernel
theorem dL_law_608 : decode cL_law 608 = .ok (.if_icmp .eq 291, 3) := by decide +kernel
theorem dL_law_611 : decode cL_law 611 = .ok (.iconst 0, 1) := by decide +kernel
theorem dL_law_612 : decode cL_law 612 = .ok (.ireturn, 1) := by decide +kernel
theorem dL_law_613 : decode cL_law 613 = .ok (.aload_n 1, 1) := by decide +kernel
theorem dL_law_614 : decode cL_law 614 = .ok (.aload_n 0, 1) := by decide +kernel
theorem dL_law_615 : decode cL_law 615 = .ok (.iload_n 3, 1) := by decide +kernel
theorem dL_law_616 : decode cL_law 616 = .ok (.iconst 1, 1) := by decide +kernel
theorem dL_law_617 : decode cL_law 617 = .ok (.iadd, 1) := by decide +kernel
theorem dL_law_618 : decode cL_law 618 = .ok (.iaload, 1) := by decide +kernel
theorem dL_law_619 : decode cL_law 619 = .ok (.aload_n 0, 1) := by decide +kernel
theorem dL_law_620 : decode cL_law 620 = .ok (.iload_n 3, 1) := by decide +kernel
theorem dL_law_621 : decode cL_law 621 = .ok (.iconst 2, 1) := by decide +kernel
theorem dL_law_622 : decode cL_law 622 = .ok (.iadd, 1) := by decide +kernel
theorem dL_law_623 : decode cL_law 623 = .ok (.iaload, 1) := by decide +kernel
theorem dL_law_624 : decode cL_law 624 = .ok (.aload_n 0, 1) := by decide +kernel
theorem dL_law_625 : decode cL_law 625 = .ok (.iload_n 3, 1) := by decide +kernel
theorem dL_law_626 : decode cL_law 626 = .ok (.iconst 3, 1) := by decide +kernel
theorem dL_law_627 : decode cL_law 627 = .ok (.iadd, 1) := by decide +kernel
theorem dL_law_628 : decode cL_law 628 = .ok (.iaload, 1) := by decide +kernel
theorem dL_law_629 : decode cL_law 629 = .ok (.invokevirtual 100, 3) := by decide +kernel
theorem dL_law_632 : decode cL_law 632 = .ok (.aload_n 2, 1) := by decide +kernel
theorem dL_law_633 : decode cL_law 633 = .ok (.aload_n 0, 1) := by decide +kernel
theorem dL_law_634 : decode cL_law 634 = .ok (.iload_n 3, 1) := by decide +kernel
theorem dL_law_635 : decode cL_law 635 = .ok (.iconst 1, 1) := by decide +kernel
theorem dL_law_636 : decode cL_law 636 = .ok (.iadd, 1) := by decide +kernel
theorem dL_law_637 : decode cL_law 637 = .ok (.iaload, 1) := by decide +kernel
theorem dL_law_638 : decode cL_law 638 = .ok (.aload_n 0, 1) := by decide +kernel
theorem dL_law_639 : decode cL_law 639 = .ok (.iload_n 3, 1) := by decide +kernel
theorem dL_law_640 : decode cL_law 640 = .ok (.iconst 2, 1) := by decide +kernel
theorem dL_law_641 : decode cL_law 641 = .ok (.iadd, 1) := by decide +kernel
theorem dL_law_642 : decode cL_law 642 = .ok (.iaload, 1) := by decide +kernel
theorem dL_law_643 : decode cL_law 643 = .ok (.aload_n 0, 1) := by decide +kernel
theorem dL_law_644 : decode cL_law 644 = .ok (.iload_n 3, 1) := by decide +kernel
theorem dL_law_645 : decode cL_law 645 = .ok (.iconst 3, 1) := by decide +kernel
theorem dL_law_646 : decode cL_law 646 = .ok (.iadd, 1) := by decide +kernel
theorem dL_law_647 : decode cL_law 647 = .ok (.iaload, 1) := by decide +kernel
theorem dL_law_648 : decode cL_law 648 = .ok (.invokevirtual 104, 3) := by decide +kernel
theorem dL_law_651 : decode cL_law 651 = .ok (.if_icmp .eq 248, 3) := by decide +kernel
theorem dL_law_654 : decode cL_law 654 = .ok (.iconst 0, 1) := by decide +kernel
theorem dL_law_655 : decode cL_law 655 = .ok (.ireturn, 1) := by decide +kernel
theorem dL_law_656 : decode cL_law 656 = .ok (.aload_n 1, 1) := by decide +kernel
theorem dL_law_657 : decode cL_law 657 = .ok (.invokevirtual 105, 3) := by decide +kernel
theorem dL_law_660 : decode cL_law 660 = .ok (.aload_n 2, 1) := by decide +kernel
theorem dL_law_661 : decode cL_law 661 = .ok (.invokevirtual 108, 3) := by decide +kernel
theorem dL_law_664 : decode cL_law 664 = .ok (.if_icmp .eq 235, 3) := by decide +kernel
theorem dL_law_667 : decode cL_law 667 = .ok (.iconst 0, 1) := by decide +kernel
theorem dL_law_668 : decode cL_law 668 = .ok (.ireturn, 1) := by decide +kernel
theorem dL_law_669 : decode cL_law 669 = .ok (.aload_n 1, 1) := by decide +kernel
theorem dL_law_670 : decode cL_law 670 = .ok (.aload_n 0, 1) := by decide +kernel
theorem dL_law_671 : decode cL_law 671 = .ok (.iload_n 3, 1) := by decide +kernel
theorem dL_law_672 : decode cL_law 672 = .ok (.iconst 1, 1) := by decide +kernel
theorem dL_law_673 : decode cL_law 673 = .ok (.iadd, 1) := by decide +kernel
theorem dL_law_674 : decode cL_law 674 = .ok (.iaload, 1) := by decide +kernel
theorem dL_law_675 : decode cL_law 675 = .ok (.aload_n 0, 1) := by decide +kernel
theorem dL_law_676 : decode cL_law 676 = .ok (.iload_n 3, 1) := by decide +kernel
theorem dL_law_677 : decode cL_law 677 = .ok (.iconst 2, 1) := by decide +kernel
theorem dL_law_678 : decode cL_law 678 = .ok (.iadd, 1) := by decide +kernel
theorem dL_law_679 : decode cL_law 679 = .ok (.iaload, 1) := by decide +kernel
theorem dL_law_680 : decode cL_law 680 = .ok (.invokevirtual 109, 3) := by decide +kernel
theorem dL_law_683 : decode cL_law 683 = .ok (.aload_n 2, 1) := by decide +kernel
theorem dL_law_684 : decode cL_law 684 = .ok (.aload_n 0, 1) := by decide +kernel
theorem dL_law_685 : decode cL_law 685 = .ok (.iload_n 3, 1) := by decide +kernel
theorem dL_law_686 : decode cL_law 686 = .ok (.iconst 1, 1) := by decide +kernel
theorem dL_law_687 : decode cL_law 687 = .ok (.iadd, 1) := by decide +kernel
theorem dL_law_688 : decode cL_law 688 = .ok (.iaload, 1) := by decide +kernel
theorem dL_law_689 : decode cL_law 689 = .ok (.aload_n 0, 1) := by decide +kernel
theorem dL_law_690 : decode cL_law 690 = .ok (.iload_n 3, 1) := by decide +kernel
theorem dL_law_691 : decode cL_law 691 = .ok (.iconst 2, 1) := by decide +kernel
theorem dL_law_692 : decode cL_law 692 = .ok (.iadd, 1) := by decide +kernel
theorem dL_law_693 : decode cL_law 693 = .ok (.iaload, 1) := by decide +kernel
theorem dL_law_694 : decode cL_law 694 = .ok (.invokevirtual 112, 3) := by decide +kernel
theorem dL_law_697 : decode cL_law 697 = .ok (.if_icmp .eq 202, 3) := by decide +kernel
theorem dL_law_700 : decode cL_law 700 = .ok (.iconst 0, 1) := by decide +kernel
theorem dL_law_701 : decode cL_law 701 = .ok (.ireturn, 1) := by decide +kernel
theorem dL_law_702 : decode cL_law 702 = .ok (.aload_n 1, 1) := by decide +kernel
theorem dL_law_703 : decode cL_law 703 = .ok (.aload_n 0, 1) := by decide +kernel
theorem dL_law_704 : decode cL_law 704 = .ok (.iload_n 3, 1) := by decide +kernel
theorem dL_law_705 : decode cL_law 705 = .ok (.iconst 1, 1) := by decide +kernel
theorem dL_law_706 : decode cL_law 706 = .ok (.iadd, 1) := by decide +kernel
theorem dL_law_707 : decode cL_law 707 = .ok (.iaload, 1) := by decide +kernel
theorem dL_law_708 : decode cL_law 708 = .ok (.aload_n 0, 1) := by decide +kernel
theorem dL_law_709 : decode cL_law 709 = .ok (.iload_n 3, 1) := by decide +kernel
theorem dL_law_710 : decode cL_law 710 = .ok (.iconst 2, 1) := by decide +kernel
theorem dL_law_711 : decode cL_law 711 = .ok (.iadd, 1) := by decide +kernel
theorem dL_law_712 : decode cL_law 712 = .ok (.iaload, 1) := by decide +kernel
theorem dL_law_713 : decode cL_law 713 = .ok (.invokevirtual 113, 3) := by decide +kernel
theorem dL_law_716 : decode cL_law 716 = .ok (.aload_n 2, 1) := by decide +kernel
theorem dL_law_717 : decode cL_law 717 = .ok (.aload_n 0, 1) := by decide +kernel
theorem dL_law_718 : decode cL_law 718 = .ok (.iload_n 3, 1) := by decide +kernel
theorem dL_law_719 : decode cL_law 719 = .ok (.iconst 1, 1) := by decide +kernel
theorem dL_law_720 : decode cL_law 720 = .ok (.iadd, 1) := by decide +kernel
theorem dL_law_721 : decode cL_law 721 = .ok (.iaload, 1) := by decide +kernel
theorem dL_law_722 : decode cL_law 722 = .ok (.aload_n 0, 1) := by decide +kernel
theorem dL_law_723 : decode cL_law 723 = .ok (.iload_n 3, 1) := by decide +kernel
theorem dL_law_724 : decode cL_law 724 = .ok (.iconst 2, 1) := by decide +kernel
theorem dL_law_725 : decode cL_law 725 = .ok (.iadd, 1) := by decide +kernel
theorem dL_law_726 : decode cL_law 726 = .ok (.iaload, 1) := by decide +kernel
theorem dL_law_727 : decode cL_law 727 = .ok (.invokevirtual 116, 3) := by decide +kernel
theorem dL_law_730 : decode cL_law 730 = .ok (.if_icmp .eq 169, 3) := by decide +kernel
theorem dL_law_733 : decode cL_law 733 = .ok (.iconst 0, 1) := by decide +kernel
theorem dL_law_734 : decode cL_law 734 = .ok (.ireturn, 1) := by decide +kernel
theorem dL_law_735 : decode cL_law 735 = .ok (.aload_n 1, 1) := by decide +kernel
theorem dL_law_736 : decode cL_law 736 = .ok (.aload_n 0, 1) := by decide +kernel
theorem dL_law_737 : decode cL_law 737 = .ok (.iload_n 3, 1) := by decide +kernel
theorem dL_law_738 : decode cL_law 738 = .ok (.iconst 1, 1) := by decide +kernel
theorem dL_law_739 : decode cL_law 739 = .ok (.iadd, 1) := by decide +kernel
theorem dL_law_740 : decode cL_law 740 = .ok (.iaload, 1) := by decide +kernel
theorem dL_law_741 : decode cL_law 741 = .ok (.aload_n 0, 1) := by decide +kernel
theorem dL_law_742 : decode cL_law 742 = .ok (.iload_n 3, 1) := by decide +kernel
theorem dL_law_743 : decode cL_law 743 = .ok (.iconst 2, 1) := by decide +kernel
theorem dL_law_744 : decode cL_law 744 = .ok (.iadd, 1) := by decide +kernel
theorem dL_law_745 : decode cL_law 745 = .ok (.iaload, 1) := by decide +kernel
theorem dL_law_746 : decode cL_law 746 = .ok (.invokevirtual 117, 3) := by decide +kernel
theorem dL_law_749 : decode cL_law 749 = .ok (.aload_n 2, 1) := by decide +kernel
theorem dL_law_750 : decode cL_law 750 = .ok (.aload_n 0, 1) := by decide +kernel
theorem dL_law_751 : decode cL_law 751 = .ok (.iload_n 3, 1) := by decide +kernel
theorem dL_law_752 : decode cL_law 752 = .ok (.iconst 1, 1) := by decide +kernel
theorem dL_law_753 : decode cL_law 753 = .ok (.iadd, 1) := by decide +kernel
theorem dL_law_754 : decode cL_law 754 = .ok (.iaload, 1) := by decide +kernel
theorem dL_law_755 : decode cL_law 755 = .ok (.aload_n 0, 1) := by decide +kernel
theorem dL_law_756 : decode cL_law 756 = .ok (.iload_n 3, 1) := by decide +kernel
theorem dL_law_757 : decode cL_law 757 = .ok (.iconst 2, 1) := by decide +kernel
theorem dL_law_758 : decode cL_law 758 = .ok (.iadd, 1) := by decide +kernel
theorem dL_law_759 : decode cL_law 759 = .ok (.iaload, 1) := by decide +kernel
theorem dL_law_760 : decode cL_law 760 = .ok (.invokevirtual 120, 3) := by decide +kernel
theorem dL_law_763 : decode cL_law 763 = .ok (.if_icmp .eq 136, 3) := by decide +kernel
theorem dL_law_766 : decode cL_law 766 = .ok (.iconst 0, 1) := by decide +kernel
theorem dL_law_767 : decode cL_law 767 = .ok (.ireturn, 1) := by decide +kernel
theorem dL_law_768 : decode cL_law 768 = .ok (.aload_n 1, 1) := by decide +kernel
theorem dL_law_769 : decode cL_law 769 = .ok (.invokevirtual 121, 3) := by decide +kernel
theorem dL_law_772 : decode cL_law 772 = .ok (.aload_n 2, 1) := by decide +kernel
theorem dL_law_773 : decode cL_law 773 = .ok (.invokevirtual 124, 3) := by decide +kernel
theorem dL_law_776 : decode cL_law 776 = .ok (.if_icmp .eq 123, 3) := by decide +kernel
theorem dL_law_779 : decode cL_law 779 = .ok (.iconst 0, 1) := by decide +kernel
theorem dL_law_780 : decode cL_law 780 = .ok (.ireturn, 1) := by decide +kernel
theorem dL_law_781 : decode cL_law 781 = .ok (.aload_n 1, 1) := by decide +kernel
theorem dL_law_782 : decode cL_law 782 = .ok (.aload_n 0, 1) := by decide +kernel
theorem dL_law_783 : decode cL_law 783 = .ok (.iload_n 3, 1) := by decide +kernel
theorem dL_law_784 : decode cL_law 784 = .ok (.iconst 1, 1) := by decide +kernel
theorem dL_law_785 : decode cL_law 785 = .ok (.iadd, 1) := by decide +kernel
theorem dL_law_786 : decode cL_law 786 = .ok (.iaload, 1) := by decide +kernel
theorem dL_law_787 : decode cL_law 787 = .ok (.aload_n 0, 1) := by decide +kernel
theorem dL_law_788 : decode cL_law 788 = .ok (.iload_n 3, 1) := by decide +kernel
theorem dL_law_789 : decode cL_law 789 = .ok (.iconst 2, 1) := by decide +kernel
theorem dL_law_790 : decode cL_law 790 = .ok (.iadd, 1) := by decide +kernel
theorem dL_law_791 : decode cL_law 791 = .ok (.iaload, 1) := by decide +kernel
theorem dL_law_792 : decode cL_law 792 = .ok (.invokevirtual 125, 3) := by decide +kernel
theorem dL_law_795 : decode cL_law 795 = .ok (.aload_n 2, 1) := by decide +kernel
theorem dL_law_796 : decode cL_law 796 = .ok (.aload_n 0, 1) := by decide +kernel
theorem dL_law_797 : decode cL_law 797 = .ok (.iload_n 3, 1) := by decide +kernel
theorem dL_law_798 : decode cL_law 798 = .ok (.iconst 1, 1) := by decide +kernel
theorem dL_law_799 : decode cL_law 799 = .ok (.iadd, 1) := by decide +kernel
theorem dL_law_800 : decode cL_law 800 = .ok (.iaload, 1) := by decide +kernel
theorem dL_law_801 : decode cL_law 801 = .ok (.aload_n 0, 1) := by decide +kernel
theorem dL_law_802 : decode cL_law 802 = .ok (.iload_n 3, 1) := by decide +kernel
theorem dL_law_803 : decode cL_law 803 = .ok (.iconst 2, 1) := by decide +kernel
theorem dL_law_804 : decode cL_law 804 = .ok (.iadd, 1) := by decide +kernel
theorem dL_law_805 : decode cL_law 805 = .ok (.iaload, 1) := by decide +kernel
theorem dL_law_806 : decode cL_law 806 = .ok (.invokevirtual 128, 3) := by decide +kernel
theorem dL_law_809 : decode cL_law 809 = .ok (.if_icmp .eq 90, 3) := by decide +kernel
theorem dL_law_812 : decode cL_law 812 = .ok (.iconst 0, 1) := by decide +kernel
theorem dL_law_813 : decode cL_law 813 = .ok (.ireturn, 1) := by decide +kernel
theorem dL_law_814 : decode cL_law 814 = .ok (.aload_n 1, 1) := by decide +kernel
theorem dL_law_815 : decode cL_law 815 = .ok (.aload_n 0, 1) := by decide +kernel
theorem dL_law_816 : decode cL_law 816 = .ok (.iload_n 3, 1) := by decide +kernel
theorem dL_law_817 : decode cL_law 817 = .ok (.iconst 1, 1) := by decide +kernel
theorem dL_law_818 : decode cL_law 818 = .ok (.iadd, 1) := by decide +kernel
theorem dL_law_819 : decode cL_law 819 = .ok (.iaload, 1) := by decide +kernel
theorem dL_law_820 : decode cL_law 820 = .ok (.invokevirtual 129, 3) := by decide +kernel
theorem dL_law_823 : decode cL_law 823 = .ok (.aload_n 2, 1) := by decide +kernel
theorem dL_law_824 : decode cL_law 824 = .ok (.aload_n 0, 1) := by decide +kernel
theorem dL_law_825 : decode cL_law 825 = .ok (.iload_n 3, 1) := by decide +kernel
theorem dL_law_826 : decode cL_law 826 = .ok (.iconst 1, 1) := by decide +kernel
theorem dL_law_827 : decode cL_law 827 = .ok (.iadd, 1) := by decide +kernel
theorem dL_law_828 : decode cL_law 828 = .ok (.iaload, 1) := by decide +kernel
theorem dL_law_829 : decode cL_law 829 = .ok (.invokevirtual 132, 3) := by decide +kernel
theorem dL_law_832 : decode cL_law 832 = .ok (.if_icmp .eq 67, 3) := by decide +kernel
theorem dL_law_835 : decode cL_law 835 = .ok (.iconst 0, 1) := by decide +kernel
theorem dL_law_836 : decode cL_law 836 = .ok (.ireturn, 1) := by decide +kernel
theorem dL_law_837 : decode cL_law 837 = .ok (.aload_n 1, 1) := by decide +kernel
theorem dL_law_838 : decode cL_law 838 = .ok (.invokevirtual 133, 3) := by decide +kernel
theorem dL_law_841 : decode cL_law 841 = .ok (.aload_n 2, 1) := by decide +kernel
theorem dL_law_842 : decode cL_law 842 = .ok (.invokevirtual 136, 3) := by decide +kernel
theorem dL_law_845 : decode cL_law 845 = .ok (.if_icmp .eq 54, 3) := by decide +kernel
theorem dL_law_848 : decode cL_law 848 = .ok (.iconst 0, 1) := by decide +kernel
theorem dL_law_849 : decode cL_law 849 = .ok (.ireturn, 1) := by decide +kernel
theorem dL_law_850 : decode cL_law 850 = .ok (.aload_n 1, 1) := by decide +kernel
theorem dL_law_851 : decode cL_law 851 = .ok (.invokevirtual 137, 3) := by decide +kernel
theorem dL_law_854 : decode cL_law 854 = .ok (.aload_n 2, 1) := by decide +kernel
theorem dL_law_855 : decode cL_law 855 = .ok (.invokevirtual 140, 3) := by decide +kernel
theorem dL_law_858 : decode cL_law 858 = .ok (.if_icmp .eq 41, 3) := by decide +kernel
theorem dL_law_861 : decode cL_law 861 = .ok (.iconst 0, 1) := by decide +kernel
theorem dL_law_862 : decode cL_law 862 = .ok (.ireturn, 1) := by decide +kernel
theorem dL_law_863 : decode cL_law 863 = .ok (.aload_n 1, 1) := by decide +kernel
theorem dL_law_864 : decode cL_law 864 = .ok (.invokevirtual 141, 3) := by decide +kernel
theorem dL_law_867 : decode cL_law 867 = .ok (.aload_n 2, 1) := by decide +kernel
theorem dL_law_868 : decode cL_law 868 = .ok (.invokevirtual 144, 3) := by decide +kernel
theorem dL_law_871 : decode cL_law 871 = .ok (.if_icmp .eq 28, 3) := by decide +kernel
theorem dL_law_874 : decode cL_law 874 = .ok (.iconst 0, 1) := by decide +kernel
theorem dL_law_875 : decode cL_law 875 = .ok (.ireturn, 1) := by decide +kernel
theorem dL_law_876 : decode cL_law 876 = .ok (.aload_n 1, 1) := by decide +kernel
theorem dL_law_877 : decode cL_law 877 = .ok (.aload_n 0, 1) := by decide +kernel
theorem dL_law_878 : decode cL_law 878 = .ok (.iload_n 3, 1) := by decide +kernel
theorem dL_law_879 : decode cL_law 879 = .ok (.iconst 1, 1) := by decide +kernel
theorem dL_law_880 : decode cL_law 880 = .ok (.iadd, 1) := by decide +kernel
theorem dL_law_881 : decode cL_law 881 = .ok (.iaload, 1) := by decide +kernel
theorem dL_law_882 : decode cL_law 882 = .ok (.invokevirtual 145, 3) := by decide +kernel
theorem dL_law_885 : decode cL_law 885 = .ok (.aload_n 2, 1) := by decide +kernel
theorem dL_law_886 : decode cL_law 886 = .ok (.aload_n 0, 1) := by decide +kernel
theorem dL_law_887 : decode cL_law 887 = .ok (.iload_n 3, 1) := by decide +kernel
theorem dL_law_888 : decode cL_law 888 = .ok (.iconst 1, 1) := by decide +kernel
theorem dL_law_889 : decode cL_law 889 = .ok (.iadd, 1) := by decide +kernel
theorem dL_law_890 : decode cL_law 890 = .ok (.iaload, 1) := by decide +kernel
theorem dL_law_891 : decode cL_law 891 = .ok (.invokevirtual 148, 3) := by decide +kernel
theorem dL_law_894 : decode cL_law 894 = .ok (.if_icmp .eq 5, 3) := by decide +kernel
theorem dL_law_897 : decode cL_law 897 = .ok (.iconst 0, 1) := by decide +kernel
theorem dL_law_898 : decode cL_law 898 = .ok (.ireturn, 1) := by decide +kernel
theorem dL_law_899 : decode cL_law 899 = .ok (.iinc 3 4, 3) := by decide +kernel
theorem dL_law_902 : decode cL_law 902 = .ok (.goto (-884), 3) := by decide +kernel
theorem dL_law_905 : decode cL_law 905 = .ok (.iconst 1, 1) := by decide +kernel
theorem dL_law_906 : decode cL_law 906 = .ok (.ireturn, 1) := by decide +kernel
