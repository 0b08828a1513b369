theorem dX0_init_0 : decode cX0_init 0 = .ok (.aload_n 0, 1) := by decide +kernel
theorem dX0_init_1 : decode cX0_init 1 = .ok (.invokespecial 3, 3) := by decide +kernel
theorem dX0_init_4 : decode cX0_init 4 = .ok (.aload_n 0, 1) := by decide +kernel
theorem dX0_init_5 : decode cX0_init 5 = .ok (.bipush 6, 2) := by decide +kernel
theorem dX0_init_7 : decode cX0_init 7 = .ok (.anewarray 9, 3) := by decide +kernel
theorem dX0_init_10 : decode cX0_init 10 = .ok (.putfield 11, 3) := by decide +kernel
theorem dX0_init_13 : decode cX0_init 13 = .ok (.aload_n 0, 1) := by decide +kernel
theorem dX0_init_14 : decode cX0_init 14 = .ok (.iconst 5, 1) := by decide +kernel
theorem dX0_init_15 : decode cX0_init 15 = .ok (.newarray .int, 2) := by decide +kernel
theorem dX0_init_17 : decode cX0_init 17 = .ok (.putfield 17, 3) := by decide +kernel
theorem dX0_init_20 : decode cX0_init 20 = .ok (.aload_n 0, 1) := by decide +kernel
theorem dX0_init_21 : decode cX0_init 21 = .ok (.iconst 5, 1) := by decide +kernel
theorem dX0_init_22 : decode cX0_init 22 = .ok (.newarray .int, 2) := by decide +kernel
theorem dX0_init_24 : decode cX0_init 24 = .ok (.putfield 21, 3) := by decide +kernel
theorem dX0_init_27 : decode cX0_init 27 = .ok (.aload_n 0, 1) := by decide +kernel
theorem dX0_init_28 : decode cX0_init 28 = .ok (.sipush 252, 3) := by decide +kernel
theorem dX0_init_31 : decode cX0_init 31 = .ok (.newarray .int, 2) := by decide +kernel
theorem dX0_init_33 : decode cX0_init 33 = .ok (.putfield 24, 3) := by decide +kernel
theorem dX0_init_36 : decode cX0_init 36 = .ok (.aload_n 0, 1) := by decide +kernel
theorem dX0_init_37 : decode cX0_init 37 = .ok (.aload_n 2, 1) := by decide +kernel
theorem dX0_init_38 : decode cX0_init 38 = .ok (.putfield 27, 3) := by decide +kernel
theorem dX0_init_41 : decode cX0_init 41 = .ok (.aload_n 0, 1) := by decide +kernel
theorem dX0_init_42 : decode cX0_init 42 = .ok (.aload_n 3, 1) := by decide +kernel
theorem dX0_init_43 : decode cX0_init 43 = .ok (.putfield 31, 3) := by decide +kernel
theorem dX0_init_46 : decode cX0_init 46 = .ok (.aload_n 0, 1) := by decide +kernel
theorem dX0_init_47 : decode cX0_init 47 = .ok (.aload 4, 2) := by decide +kernel
theorem dX0_init_49 : decode cX0_init 49 = .ok (.putfield 35, 3) := by decide +kernel
theorem dX0_init_52 : decode cX0_init 52 = .ok (.iconst 0, 1) := by decide +kernel
theorem dX0_init_53 : decode cX0_init 53 = .ok (.istore 5, 2) := by decide +kernel
theorem dX0_init_55 : decode cX0_init 55 = .ok (.iload 5, 2) := by decide +kernel
theorem dX0_init_57 : decode cX0_init 57 = .ok (.iconst 5, 1) := by decide +kernel
theorem dX0_init_58 : decode cX0_init 58 = .ok (.if_icmp .gt 25, 3) := by decide +kernel
theorem dX0_init_61 : decode cX0_init 61 = .ok (.aload_n 0, 1) := by decide +kernel
theorem dX0_init_62 : decode cX0_init 62 = .ok (.getfield 11, 3) := by decide +kernel
theorem dX0_init_65 : decode cX0_init 65 = .ok (.iload 5, 2) := by decide +kernel
theorem dX0_init_67 : decode cX0_init 67 = .ok (.new 9, 3) := by decide +kernel
theorem dX0_init_70 : decode cX0_init 70 = .ok (.dup, 1) := by decide +kernel
theorem dX0_init_71 : decode cX0_init 71 = .ok (.aload_n 1, 1) := by decide +kernel
theorem dX0_init_72 : decode cX0_init 72 = .ok (.aload_n 2, 1) := by decide +kernel
theorem dX0_init_73 : decode cX0_init 73 = .ok (.invokespecial 39, 3) := by decide +kernel
theorem dX0_init_76 : decode cX0_init 76 = .ok (.aastore, 1) := by decide +kernel
theorem dX0_init_77 : decode cX0_init 77 = .ok (.iinc 5 1, 3) := by decide +kernel
theorem dX0_init_80 : decode cX0_init 80 = .ok (.goto (-25), 3) := by decide +kernel
theorem dX0_init_83 : decode cX0_init 83 = .ok (.return_, 1) := by decide +kernel
theorem dX0_stepAt_0 : decode cX0_stepAt 0 = .ok (.aload_n 0, 1) := by decide +kernel
theorem dX0_stepAt_1 : decode cX0_stepAt 1 = .ok (.getfield 42, 3) := by decide +kernel
theorem dX0_stepAt_4 : decode cX0_stepAt 4 = .ok (.ifCond .eq 24, 3) := by decide +kernel
theorem dX0_stepAt_7 : decode cX0_stepAt 7 = .ok (.iload_n 1, 1) := by decide +kernel
theorem dX0_stepAt_8 : decode cX0_stepAt 8 = .ok (.ifCond .lt 20, 3) := by decide +kernel
theorem dX0_stepAt_11 : decode cX0_stepAt 11 = .ok (.iload_n 1, 1) := by decide +kernel
theorem dX0_stepAt_12 : decode cX0_stepAt 12 = .ok (.aload_n 0, 1) := by decide +kernel
theorem dX0_stepAt_13 : decode cX0_stepAt 13 = .ok (.getfield 46, 3) := by decide +kernel
theorem dX0_stepAt_16 : decode cX0_stepAt 16 = .ok (.if_icmp .ge 12, 3) := by decide +kernel
theorem dX0_stepAt_19 : decode cX0_stepAt 19 = .ok (.aload_n 0, 1) := by decide +kernel
theorem dX0_stepAt_20 : decode cX0_stepAt 20 = .ok (.getfield 21, 3) := by decide +kernel
theorem dX0_stepAt_23 : decode cX0_stepAt 23 = .ok (.iload_n 1, 1) := by decide +kernel
theorem dX0_stepAt_24 : decode cX0_stepAt 24 = .ok (.iaload, 1) := by decide +kernel
theorem dX0_stepAt_25 : decode cX0_stepAt 25 = .ok (.goto 4, 3) := by decide +kernel
theorem dX0_stepAt_28 : decode cX0_stepAt 28 = .ok (.iconst (-1), 1) := by decide +kernel
theorem dX0_stepAt_29 : decode cX0_stepAt 29 = .ok (.ireturn, 1) := by decide +kernel
theorem dX0_search_0 : decode cX0_search 0 = .ok (.aload_n 0, 1) := by decide +kernel
theorem dX0_search_1 : decode cX0_search 1 = .ok (.iload_n 2, 1) := by decide +kernel
theorem dX0_search_2 : decode cX0_search 2 = .ok (.putfield 46, 3) := by decide +kernel
theorem dX0_search_5 : decode cX0_search 5 = .ok (.aload_n 0, 1) := by decide +kernel
theorem dX0_search_6 : decode cX0_search 6 = .ok (.aload_n 0, 1) := by decide +kernel
theorem dX0_search_7 : decode cX0_search 7 = .ok (.getfield 31, 3) := by decide +kernel
theorem dX0_search_10 : decode cX0_search 10 = .ok (.iload_n 2, 1) := by decide +kernel
theorem dX0_search_11 : decode cX0_search 11 = .ok (.invokevirtual 50, 3) := by decide +kernel
theorem dX0_search_14 : decode cX0_search 14 = .ok (.putfield 56, 3) := by decide +kernel
theorem dX0_search_17 : decode cX0_search 17 = .ok (.aload_n 0, 1) := by decide +kernel
theorem dX0_search_18 : decode cX0_search 18 = .ok (.iload_n 3, 1) := by decide +kernel
theorem dX0_search_19 : decode cX0_search 19 = .ok (.putfield 58, 3) := by decide +kernel
theorem dX0_search_22 : decode cX0_search 22 = .ok (.aload_n 0, 1) := by decide +kernel
theorem dX0_search_23 : decode cX0_search 23 = .ok (.iconst 0, 1) := by decide +kernel
theorem dX0_search_24 : decode cX0_search 24 = .ok (.putfield 42, 3) := by decide +kernel
theorem dX0_search_27 : decode cX0_search 27 = .ok (.aload_n 0, 1) := by decide +kernel
theorem dX0_search_28 : decode cX0_search 28 = .ok (.getfield 11, 3) := by decide +kernel
theorem dX0_search_31 : decode cX0_search 31 = .ok (.iconst 0, 1) := by decide +kernel
theorem dX0_search_32 : decode cX0_search 32 = .ok (.aaload, 1) := by decide +kernel
theorem dX0_search_33 : decode cX0_search 33 = .ok (.aload_n 1, 1) := by decide +kernel
theorem dX0_search_34 : decode cX0_search 34 = .ok (.invokevirtual 61, 3) := by decide +kernel
theorem dX0_search_37 : decode cX0_search 37 = .ok (.aload_n 0, 1) := by decide +kernel
theorem dX0_search_38 : decode cX0_search 38 = .ok (.getfield 35, 3) := by decide +kernel
theorem dX0_search_41 : decode cX0_search 41 = .ok (.invokevirtual 65, 3) := by decide +kernel
theorem dX0_search_44 : decode cX0_search 44 = .ok (.aload_n 0, 1) := by decide +kernel
theorem dX0_search_45 : decode cX0_search 45 = .ok (.invokevirtual 70, 3) := by decide +kernel
theorem dX0_search_48 : decode cX0_search 48 = .ok (.aload_n 0, 1) := by decide +kernel
theorem dX0_search_49 : decode cX0_search 49 = .ok (.aload_n 0, 1) := by decide +kernel
theorem dX0_search_50 : decode cX0_search 50 = .ok (.iconst 0, 1) := by decide +kernel
theorem dX0_search_51 : decode cX0_search 51 = .ok (.invokevirtual 73, 3) := by decide +kernel
theorem dX0_search_54 : decode cX0_search 54 = .ok (.putfield 76, 3) := by decide +kernel
theorem dX0_search_57 : decode cX0_search 57 = .ok (.return_, 1) := by decide +kernel
theorem dX0_countFree_0 : decode cX0_countFree 0 = .ok (.aload_n 0, 1) := by decide +kernel
theorem dX0_countFree_1 : decode cX0_countFree 1 = .ok (.getfield 11, 3) := by decide +kernel
theorem dX0_countFree_4 : decode cX0_countFree 4 = .ok (.iconst 1, 1) := by decide +kernel
theorem dX0_countFree_5 : decode cX0_countFree 5 = .ok (.aaload, 1) := by decide +kernel
theorem dX0_countFree_6 : decode cX0_countFree 6 = .ok (.astore_n 1, 1) := by decide +kernel
theorem dX0_countFree_7 : decode cX0_countFree 7 = .ok (.iconst 0, 1) := by decide +kernel
theorem dX0_countFree_8 : decode cX0_countFree 8 = .ok (.istore_n 2, 1) := by decide +kernel
theorem dX0_countFree_9 : decode cX0_countFree 9 = .ok (.iload_n 2, 1) := by decide +kernel
theorem dX0_countFree_10 : decode cX0_countFree 10 = .ok (.aload_n 0, 1) := by decide +kernel
theorem dX0_countFree_11 : decode cX0_countFree 11 = .ok (.getfield 27, 3) := by decide +kernel
theorem dX0_countFree_14 : decode cX0_countFree 14 = .ok (.getfield 79, 3) := by decide +kernel
theorem dX0_countFree_17 : decode cX0_countFree 17 = .ok (.if_icmp .ge 16, 3) := by decide +kernel
theorem dX0_countFree_20 : decode cX0_countFree 20 = .ok (.aload_n 0, 1) := by decide +kernel
theorem dX0_countFree_21 : decode cX0_countFree 21 = .ok (.getfield 24, 3) := by decide +kernel
theorem dX0_countFree_24 : decode cX0_countFree 24 = .ok (.iload_n 2, 1) := by decide +kernel
theorem dX0_countFree_25 : decode cX0_countFree 25 = .ok (.iconst 1, 1) := by decide +kernel
theorem dX0_countFree_26 : decode cX0_countFree 26 = .ok (.iastore, 1) := by decide +kernel
theorem dX0_countFree_27 : decode cX0_countFree 27 = .ok (.iinc 2 1, 3) := by decide +kernel
theorem dX0_countFree_30 : decode cX0_countFree 30 = .ok (.goto (-21), 3) := by decide +kernel
theorem dX0_countFree_33 : decode cX0_countFree 33 = .ok (.iconst 1, 1) := by decide +kernel
theorem dX0_countFree_34 : decode cX0_countFree 34 = .ok (.istore_n 2, 1) := by decide +kernel
theorem dX0_countFree_35 : decode cX0_countFree 35 = .ok (.iload_n 2, 1) := by decide +kernel
theorem dX0_countFree_36 : decode cX0_countFree 36 = .ok (.aload_n 0, 1) := by decide +kernel
theorem dX0_countFree_37 : decode cX0_countFree 37 = .ok (.getfield 46, 3) := by decide +kernel
theorem dX0_countFree_40 : decode cX0_countFree 40 = .ok (.aload_n 0, 1) := by decide +kernel
theorem dX0_countFree_41 : decode cX0_countFree 41 = .ok (.getfield 56, 3) := by decide +kernel
theorem dX0_countFree_44 : decode cX0_countFree 44 = .ok (.isub, 1) := by decide +kernel
theorem dX0_countFree_45 : decode cX0_countFree 45 = .ok (.if_icmp .gt 52, 3) := by decide +kernel
theorem dX0_countFree_48 : decode cX0_countFree 48 = .ok (.iconst 0, 1) := by decide +kernel
theorem dX0_countFree_49 : decode cX0_countFree 49 = .ok (.istore_n 3, 1) := by decide +kernel
theorem dX0_countFree_50 : decode cX0_countFree 50 = .ok (.iload_n 3, 1) := by decide +kernel
theorem dX0_countFree_51 : decode cX0_countFree 51 = .ok (.aload_n 0, 1) := by decide +kernel
theorem dX0_countFree_52 : decode cX0_countFree 52 = .ok (.getfield 27, 3) := by decide +kernel
theorem dX0_countFree_55 : decode cX0_countFree 55 = .ok (.getfield 79, 3) := by decide +kernel
theorem dX0_countFree_58 : decode cX0_countFree 58 = .ok (.if_icmp .ge 33, 3) := by decide +kernel
theorem dX0_countFree_61 : decode cX0_countFree 61 = .ok (.aload_n 1, 1) := by decide +kernel
theorem dX0_countFree_62 : decode cX0_countFree 62 = .ok (.iload_n 3, 1) := by decide +kernel
theorem dX0_countFree_63 : decode cX0_countFree 63 = .ok (.putfield 82, 3) := by decide +kernel
theorem dX0_countFree_66 : decode cX0_countFree 66 = .ok (.aload_n 0, 1) := by decide +kernel
theorem dX0_countFree_67 : decode cX0_countFree 67 = .ok (.getfield 24, 3) := by decide +kernel
theorem dX0_countFree_70 : decode cX0_countFree 70 = .ok (.iload_n 2, 1) := by decide +kernel
theorem dX0_countFree_71 : decode cX0_countFree 71 = .ok (.bipush 42, 2) := by decide +kernel
theorem dX0_countFree_73 : decode cX0_countFree 73 = .ok (.imul, 1) := by decide +kernel
theorem dX0_countFree_74 : decode cX0_countFree 74 = .ok (.iload_n 3, 1) := by decide +kernel
theorem dX0_countFree_75 : decode cX0_countFree 75 = .ok (.iadd, 1) := by decide +kernel
theorem dX0_countFree_76 : decode cX0_countFree 76 = .ok (.aload_n 0, 1) := by decide +kernel
theorem dX0_countFree_77 : decode cX0_countFree 77 = .ok (.aload_n 1, 1) := by decide +kernel
theorem dX0_countFree_78 : decode cX0_countFree 78 = .ok (.iload_n 2, 1) := by decide +kernel
theorem dX0_countFree_79 : decode cX0_countFree 79 = .ok (.iconst 1, 1) := by decide +kernel
theorem dX0_countFree_80 : decode cX0_countFree 80 = .ok (.isub, 1) := by decide +kernel
theorem dX0_countFree_81 : decode cX0_countFree 81 = .ok (.invokevirtual 85, 3) := by decide +kernel
theorem dX0_countFree_84 : decode cX0_countFree 84 = .ok (.iastore, 1) := by decide +kernel
theorem dX0_countFree_85 : decode cX0_countFree 85 = .ok (.iinc 3 1, 3) := by decide +kernel
theorem dX0_countFree_88 : decode cX0_countFree 88 = .ok (.goto (-38), 3) := by decide +kernel
theorem dX0_countFree_91 : decode cX0_countFree 91 = .ok (.iinc 2 1, 3) := by decide +kernel
theorem dX0_countFree_94 : decode cX0_countFree 94 = .ok (.goto (-59), 3) := by decide +kernel
theorem dX0_countFree_97 : decode cX0_countFree 97 = .ok (.return_, 1) := by decide +kernel
theorem dX0_countFreeFrom_0 : decode cX0_countFreeFrom 0 = .ok (.aload_n 0, 1) := by decide +kernel
theorem dX0_countFreeFrom_1 : decode cX0_countFreeFrom 1 = .ok (.aload_n 1, 1) := by decide +kernel
theorem dX0_countFreeFrom_2 : decode cX0_countFreeFrom 2 = .ok (.getfield 82, 3) := by decide +kernel
theorem dX0_countFreeFrom_5 : decode cX0_countFreeFrom 5 = .ok (.iload_n 2, 1) := by decide +kernel
theorem dX0_countFreeFrom_6 : decode cX0_countFreeFrom 6 = .ok (.invokevirtual 89, 3) := by decide +kernel
theorem dX0_countFreeFrom_9 : decode cX0_countFreeFrom 9 = .ok (.istore_n 3, 1) := by decide +kernel
theorem dX0_countFreeFrom_10 : decode cX0_countFreeFrom 10 = .ok (.iconst 1, 1) := by decide +kernel
theorem dX0_countFreeFrom_11 : decode cX0_countFreeFrom 11 = .ok (.istore 4, 2) := by decide +kernel
theorem dX0_countFreeFrom_13 : decode cX0_countFreeFrom 13 = .ok (.iload 4, 2) := by decide +kernel
theorem dX0_countFreeFrom_15 : decode cX0_countFreeFrom 15 = .ok (.iconst 4, 1) := by decide +kernel
theorem dX0_countFreeFrom_16 : decode cX0_countFreeFrom 16 = .ok (.if_icmp .gt 39, 3) := by decide +kernel
theorem dX0_countFreeFrom_19 : decode cX0_countFreeFrom 19 = .ok (.aload_n 1, 1) := by decide +kernel
theorem dX0_countFreeFrom_20 : decode cX0_countFreeFrom 20 = .ok (.iload 4, 2) := by decide +kernel
theorem dX0_countFreeFrom_22 : decode cX0_countFreeFrom 22 = .ok (.invokevirtual 93, 3) := by decide +kernel
theorem dX0_countFreeFrom_25 : decode cX0_countFreeFrom 25 = .ok (.ifCond .eq 24, 3) := by decide +kernel
theorem dX0_countFreeFrom_28 : decode cX0_countFreeFrom 28 = .ok (.iload_n 3, 1) := by decide +kernel
theorem dX0_countFreeFrom_29 : decode cX0_countFreeFrom 29 = .ok (.aload_n 0, 1) := by decide +kernel
theorem dX0_countFreeFrom_30 : decode cX0_countFreeFrom 30 = .ok (.aload_n 0, 1) := by decide +kernel
theorem dX0_countFreeFrom_31 : decode cX0_countFreeFrom 31 = .ok (.getfield 27, 3) := by decide +kernel
theorem dX0_countFreeFrom_34 : decode cX0_countFreeFrom 34 = .ok (.aload_n 1, 1) := by decide +kernel
theorem dX0_countFreeFrom_35 : decode cX0_countFreeFrom 35 = .ok (.getfield 82, 3) := by decide +kernel
theorem dX0_countFreeFrom_38 : decode cX0_countFreeFrom 38 = .ok (.iload 4, 2) := by decide +kernel
theorem dX0_countFreeFrom_40 : decode cX0_countFreeFrom 40 = .ok (.invokevirtual 97, 3) := by decide +kernel
theorem dX0_countFreeFrom_43 : decode cX0_countFreeFrom 43 = .ok (.iload_n 2, 1) := by decide +kernel
theorem dX0_countFreeFrom_44 : decode cX0_countFreeFrom 44 = .ok (.invokevirtual 89, 3) := by decide +kernel
theorem dX0_countFreeFrom_47 : decode cX0_countFreeFrom 47 = .ok (.iadd, 1) := by decide +kernel
theorem dX0_countFreeFrom_48 : decode cX0_countFreeFrom 48 = .ok (.istore_n 3, 1) := by decide +kernel
theorem dX0_countFreeFrom_49 : decode cX0_countFreeFrom 49 = .ok (.iinc 4 1, 3) := by decide +kernel
theorem dX0_countFreeFrom_52 : decode cX0_countFreeFrom 52 = .ok (.goto (-39), 3) := by decide +kernel
theorem dX0_countFreeFrom_55 : decode cX0_countFreeFrom 55 = .ok (.iload_n 3, 1) := by decide +kernel
theorem dX0_countFreeFrom_56 : decode cX0_countFreeFrom 56 = .ok (.ireturn, 1) := by decide +kernel
theorem dX0_freeFrom_0 : decode cX0_freeFrom 0 = .ok (.iload_n 1, 1) := by decide +kernel
theorem dX0_freeFrom_1 : decode cX0_freeFrom 1 = .ok (.invokestatic 100, 3) := by decide +kernel
theorem dX0_freeFrom_4 : decode cX0_freeFrom 4 = .ok (.ifCond .eq 26, 3) := by decide +kernel
theorem dX0_freeFrom_7 : decode cX0_freeFrom 7 = .ok (.iload_n 2, 1) := by decide +kernel
theorem dX0_freeFrom_8 : decode cX0_freeFrom 8 = .ok (.ifCond .lt 22, 3) := by decide +kernel
theorem dX0_freeFrom_11 : decode cX0_freeFrom 11 = .ok (.iload_n 2, 1) := by decide +kernel
theorem dX0_freeFrom_12 : decode cX0_freeFrom 12 = .ok (.iconst 5, 1) := by decide +kernel
theorem dX0_freeFrom_13 : decode cX0_freeFrom 13 = .ok (.if_icmp .gt 17, 3) := by decide +kernel
theorem dX0_freeFrom_16 : decode cX0_freeFrom 16 = .ok (.aload_n 0, 1) := by decide +kernel
theorem dX0_freeFrom_17 : decode cX0_freeFrom 17 = .ok (.getfield 24, 3) := by decide +kernel
theorem dX0_freeFrom_20 : decode cX0_freeFrom 20 = .ok (.iload_n 2, 1) := by decide +kernel
theorem dX0_freeFrom_21 : decode cX0_freeFrom 21 = .ok (.bipush 42, 2) := by decide +kernel
theorem dX0_freeFrom_23 : decode cX0_freeFrom 23 = .ok (.imul, 1) := by decide +kernel
theorem dX0_freeFrom_24 : decode cX0_freeFrom 24 = .ok (.iload_n 1, 1) := by decide +kernel
theorem dX0_freeFrom_25 : decode cX0_freeFrom 25 = .ok (.iadd, 1) := by decide +kernel
theorem dX0_freeFrom_26 : decode cX0_freeFrom 26 = .ok (.iaload, 1) := by decide +kernel
theorem dX0_freeFrom_27 : decode cX0_freeFrom 27 = .ok (.goto 4, 3) := by decide +kernel
theorem dX0_freeFrom_30 : decode cX0_freeFrom 30 = .ok (.iconst 0, 1) := by decide +kernel
theorem dX0_freeFrom_31 : decode cX0_freeFrom 31 = .ok (.ireturn, 1) := by decide +kernel
theorem dX0_fit_0 : decode cX0_fit 0 = .ok (.iload_n 1, 1) := by decide +kernel
theorem dX0_fit_1 : decode cX0_fit 1 = .ok (.ifCond .lt 8, 3) := by decide +kernel
theorem dX0_fit_4 : decode cX0_fit 4 = .ok (.iload_n 1, 1) := by decide +kernel
theorem dX0_fit_5 : decode cX0_fit 5 = .ok (.iconst 5, 1) := by decide +kernel
theorem dX0_fit_6 : decode cX0_fit 6 = .ok (.if_icmp .le 5, 3) := by decide +kernel
theorem dX0_fit_9 : decode cX0_fit 9 = .ok (.iconst 0, 1) := by decide +kernel
theorem dX0_fit_10 : decode cX0_fit 10 = .ok (.ireturn, 1) := by decide +kernel
theorem dX0_fit_11 : decode cX0_fit 11 = .ok (.aload_n 0, 1) := by decide +kernel
theorem dX0_fit_12 : decode cX0_fit 12 = .ok (.getfield 11, 3) := by decide +kernel
theorem dX0_fit_15 : decode cX0_fit 15 = .ok (.iload_n 1, 1) := by decide +kernel
theorem dX0_fit_16 : decode cX0_fit 16 = .ok (.aaload, 1) := by decide +kernel
theorem dX0_fit_17 : decode cX0_fit 17 = .ok (.astore_n 2, 1) := by decide +kernel
theorem dX0_fit_18 : decode cX0_fit 18 = .ok (.iload_n 1, 1) := by decide +kernel
theorem dX0_fit_19 : decode cX0_fit 19 = .ok (.aload_n 0, 1) := by decide +kernel
theorem dX0_fit_20 : decode cX0_fit 20 = .ok (.getfield 56, 3) := by decide +kernel
theorem dX0_fit_23 : decode cX0_fit 23 = .ok (.if_icmp .ge 8, 3) := by decide +kernel
theorem dX0_fit_26 : decode cX0_fit 26 = .ok (.iload_n 1, 1) := by decide +kernel
theorem dX0_fit_27 : decode cX0_fit 27 = .ok (.iconst 5, 1) := by decide +kernel
theorem dX0_fit_28 : decode cX0_fit 28 = .ok (.if_icmp .lt 25, 3) := by decide +kernel
theorem dX0_fit_31 : decode cX0_fit 31 = .ok (.aload_n 0, 1) := by decide +kernel
theorem dX0_fit_32 : decode cX0_fit 32 = .ok (.invokevirtual 103, 3) := by decide +kernel
theorem dX0_fit_35 : decode cX0_fit 35 = .ok (.aload_n 0, 1) := by decide +kernel
theorem dX0_fit_36 : decode cX0_fit 36 = .ok (.aload_n 2, 1) := by decide +kernel
theorem dX0_fit_37 : decode cX0_fit 37 = .ok (.getfield 82, 3) := by decide +kernel
theorem dX0_fit_40 : decode cX0_fit 40 = .ok (.aload_n 0, 1) := by decide +kernel
theorem dX0_fit_41 : decode cX0_fit 41 = .ok (.getfield 46, 3) := by decide +kernel
theorem dX0_fit_44 : decode cX0_fit 44 = .ok (.aload_n 0, 1) := by decide +kernel
theorem dX0_fit_45 : decode cX0_fit 45 = .ok (.getfield 56, 3) := by decide +kernel
theorem dX0_fit_48 : decode cX0_fit 48 = .ok (.isub, 1) := by decide +kernel
theorem dX0_fit_49 : decode cX0_fit 49 = .ok (.invokevirtual 89, 3) := by decide +kernel
theorem dX0_fit_52 : decode cX0_fit 52 = .ok (.ireturn, 1) := by decide +kernel
theorem dX0_fit_53 : decode cX0_fit 53 = .ok (.iload_n 1, 1) := by decide +kernel
theorem dX0_fit_54 : decode cX0_fit 54 = .ok (.i2l, 1) := by decide +kernel
theorem dX0_fit_55 : decode cX0_fit 55 = .ok (.bipush 42, 2) := by decide +kernel
theorem dX0_fit_57 : decode cX0_fit 57 = .ok (.lshl, 1) := by decide +kernel
theorem dX0_fit_58 : decode cX0_fit 58 = .ok (.aload_n 2, 1) := by decide +kernel
theorem dX0_fit_59 : decode cX0_fit 59 = .ok (.invokevirtual 106, 3) := by decide +kernel
theorem dX0_fit_62 : decode cX0_fit 62 = .ok (.lor, 1) := by decide +kernel
theorem dX0_fit_63 : decode cX0_fit 63 = .ok (.lstore_n 3, 1) := by decide +kernel
theorem dX0_fit_64 : decode cX0_fit 64 = .ok (.aload_n 2, 1) := by decide +kernel
theorem dX0_fit_65 : decode cX0_fit 65 = .ok (.invokevirtual 110, 3) := by decide +kernel
theorem dX0_fit_68 : decode cX0_fit 68 = .ok (.lstore 5, 2) := by decide +kernel
theorem dX0_fit_70 : decode cX0_fit 70 = .ok (.aload_n 0, 1) := by decide +kernel
theorem dX0_fit_71 : decode cX0_fit 71 = .ok (.getfield 35, 3) := by decide +kernel
theorem dX0_fit_74 : decode cX0_fit 74 = .ok (.lload_n 3, 1) := by decide +kernel
theorem dX0_fit_75 : decode cX0_fit 75 = .ok (.lload 5, 2) := by decide +kernel
theorem dX0_fit_77 : decode cX0_fit 77 = .ok (.invokevirtual 113, 3) := by decide +kernel
theorem dX0_fit_80 : decode cX0_fit 80 = .ok (.istore 7, 2) := by decide +kernel
theorem dX0_fit_82 : decode cX0_fit 82 = .ok (.iload 7, 2) := by decide +kernel
theorem dX0_fit_84 : decode cX0_fit 84 = .ok (.iconst (-1), 1) := by decide +kernel
theorem dX0_fit_85 : decode cX0_fit 85 = .ok (.if_icmp .eq 6, 3) := by decide +kernel
theorem dX0_fit_88 : decode cX0_fit 88 = .ok (.iload 7, 2) := by decide +kernel
theorem dX0_fit_90 : decode cX0_fit 90 = .ok (.ireturn, 1) := by decide +kernel
theorem dX0_fit_91 : decode cX0_fit 91 = .ok (.aload_n 0, 1) := by decide +kernel
theorem dX0_fit_92 : decode cX0_fit 92 = .ok (.iload_n 1, 1) := by decide +kernel
theorem dX0_fit_93 : decode cX0_fit 93 = .ok (.invokevirtual 117, 3) := by decide +kernel
theorem dX0_fit_96 : decode cX0_fit 96 = .ok (.istore 8, 2) := by decide +kernel
theorem dX0_fit_98 : decode cX0_fit 98 = .ok (.aload_n 0, 1) := by decide +kernel
theorem dX0_fit_99 : decode cX0_fit 99 = .ok (.getfield 35, 3) := by decide +kernel
theorem dX0_fit_102 : decode cX0_fit 102 = .ok (.lload_n 3, 1) := by decide +kernel
theorem dX0_fit_103 : decode cX0_fit 103 = .ok (.lload 5, 2) := by decide +kernel
theorem dX0_fit_105 : decode cX0_fit 105 = .ok (.iload 8, 2) := by decide +kernel
theorem dX0_fit_107 : decode cX0_fit 107 = .ok (.invokevirtual 120, 3) := by decide +kernel
theorem dX0_fit_110 : decode cX0_fit 110 = .ok (.iload 8, 2) := by decide +kernel
theorem dX0_fit_112 : decode cX0_fit 112 = .ok (.ireturn, 1) := by decide +kernel
theorem dX0_fitSteps_0 : decode cX0_fitSteps 0 = .ok (.iconst 0, 1) := by decide +kernel
theorem dX0_fitSteps_1 : decode cX0_fitSteps 1 = .ok (.istore_n 2, 1) := by decide +kernel
theorem dX0_fitSteps_2 : decode cX0_fitSteps 2 = .ok (.iconst 0, 1) := by decide +kernel
theorem dX0_fitSteps_3 : decode cX0_fitSteps 3 = .ok (.istore_n 3, 1) := by decide +kernel
theorem dX0_fitSteps_4 : decode cX0_fitSteps 4 = .ok (.iload_n 3, 1) := by decide +kernel
theorem dX0_fitSteps_5 : decode cX0_fitSteps 5 = .ok (.iconst 4, 1) := by decide +kernel
theorem dX0_fitSteps_6 : decode cX0_fitSteps 6 = .ok (.if_icmp .gt 97, 3) := by decide +kernel
theorem dX0_fitSteps_9 : decode cX0_fitSteps 9 = .ok (.aload_n 0, 1) := by decide +kernel
theorem dX0_fitSteps_10 : decode cX0_fitSteps 10 = .ok (.getfield 11, 3) := by decide +kernel
theorem dX0_fitSteps_13 : decode cX0_fitSteps 13 = .ok (.iload_n 1, 1) := by decide +kernel
theorem dX0_fitSteps_14 : decode cX0_fitSteps 14 = .ok (.aaload, 1) := by decide +kernel
theorem dX0_fitSteps_15 : decode cX0_fitSteps 15 = .ok (.iload_n 3, 1) := by decide +kernel
theorem dX0_fitSteps_16 : decode cX0_fitSteps 16 = .ok (.invokevirtual 93, 3) := by decide +kernel
theorem dX0_fitSteps_19 : decode cX0_fitSteps 19 = .ok (.ifCond .eq 78, 3) := by decide +kernel
theorem dX0_fitSteps_22 : decode cX0_fitSteps 22 = .ok (.aload_n 0, 1) := by decide +kernel
theorem dX0_fitSteps_23 : decode cX0_fitSteps 23 = .ok (.getfield 11, 3) := by decide +kernel
theorem dX0_fitSteps_26 : decode cX0_fitSteps 26 = .ok (.iload_n 1, 1) := by decide +kernel
theorem dX0_fitSteps_27 : decode cX0_fitSteps 27 = .ok (.iconst 1, 1) := by decide +kernel
theorem dX0_fitSteps_28 : decode cX0_fitSteps 28 = .ok (.iadd, 1) := by decide +kernel
theorem dX0_fitSteps_29 : decode cX0_fitSteps 29 = .ok (.aaload, 1) := by decide +kernel
theorem dX0_fitSteps_30 : decode cX0_fitSteps 30 = .ok (.aload_n 0, 1) := by decide +kernel
theorem dX0_fitSteps_31 : decode cX0_fitSteps 31 = .ok (.getfield 11, 3) := by decide +kernel
theorem dX0_fitSteps_34 : decode cX0_fitSteps 34 = .ok (.iload_n 1, 1) := by decide +kernel
theorem dX0_fitSteps_35 : decode cX0_fitSteps 35 = .ok (.aaload, 1) := by decide +kernel
theorem dX0_fitSteps_36 : decode cX0_fitSteps 36 = .ok (.invokevirtual 61, 3) := by decide +kernel
theorem dX0_fitSteps_39 : decode cX0_fitSteps 39 = .ok (.aload_n 0, 1) := by decide +kernel
theorem dX0_fitSteps_40 : decode cX0_fitSteps 40 = .ok (.getfield 11, 3) := by decide +kernel
theorem dX0_fitSteps_43 : decode cX0_fitSteps 43 = .ok (.iload_n 1, 1) := by decide +kernel
theorem dX0_fitSteps_44 : decode cX0_fitSteps 44 = .ok (.iconst 1, 1) := by decide +kernel
theorem dX0_fitSteps_45 : decode cX0_fitSteps 45 = .ok (.iadd, 1) := by decide +kernel
theorem dX0_fitSteps_46 : decode cX0_fitSteps 46 = .ok (.aaload, 1) := by decide +kernel
theorem dX0_fitSteps_47 : decode cX0_fitSteps 47 = .ok (.iload_n 3, 1) := by decide +kernel
theorem dX0_fitSteps_48 : decode cX0_fitSteps 48 = .ok (.aload_n 0, 1) := by decide +kernel
theorem dX0_fitSteps_49 : decode cX0_fitSteps 49 = .ok (.getfield 58, 3) := by decide +kernel
theorem dX0_fitSteps_52 : decode cX0_fitSteps 52 = .ok (.invokevirtual 124, 3) := by decide +kernel
theorem dX0_fitSteps_55 : decode cX0_fitSteps 55 = .ok (.aload_n 0, 1) := by decide +kernel
theorem dX0_fitSteps_56 : decode cX0_fitSteps 56 = .ok (.getfield 17, 3) := by decide +kernel
theorem dX0_fitSteps_59 : decode cX0_fitSteps 59 = .ok (.iload_n 1, 1) := by decide +kernel
theorem dX0_fitSteps_60 : decode cX0_fitSteps 60 = .ok (.iload_n 3, 1) := by decide +kernel
theorem dX0_fitSteps_61 : decode cX0_fitSteps 61 = .ok (.iastore, 1) := by decide +kernel
theorem dX0_fitSteps_62 : decode cX0_fitSteps 62 = .ok (.iload_n 2, 1) := by decide +kernel
theorem dX0_fitSteps_63 : decode cX0_fitSteps 63 = .ok (.aload_n 0, 1) := by decide +kernel
theorem dX0_fitSteps_64 : decode cX0_fitSteps 64 = .ok (.getfield 31, 3) := by decide +kernel
theorem dX0_fitSteps_67 : decode cX0_fitSteps 67 = .ok (.aload_n 0, 1) := by decide +kernel
theorem dX0_fitSteps_68 : decode cX0_fitSteps 68 = .ok (.getfield 11, 3) := by decide +kernel
theorem dX0_fitSteps_71 : decode cX0_fitSteps 71 = .ok (.iload_n 1, 1) := by decide +kernel
theorem dX0_fitSteps_72 : decode cX0_fitSteps 72 = .ok (.iconst 1, 1) := by decide +kernel
theorem dX0_fitSteps_73 : decode cX0_fitSteps 73 = .ok (.iadd, 1) := by decide +kernel
theorem dX0_fitSteps_74 : decode cX0_fitSteps 74 = .ok (.aaload, 1) := by decide +kernel
theorem dX0_fitSteps_75 : decode cX0_fitSteps 75 = .ok (.iload_n 1, 1) := by decide +kernel
theorem dX0_fitSteps_76 : decode cX0_fitSteps 76 = .ok (.iconst 1, 1) := by decide +kernel
theorem dX0_fitSteps_77 : decode cX0_fitSteps 77 = .ok (.iadd, 1) := by decide +kernel
theorem dX0_fitSteps_78 : decode cX0_fitSteps 78 = .ok (.invokevirtual 128, 3) := by decide +kernel
theorem dX0_fitSteps_81 : decode cX0_fitSteps 81 = .ok (.ifCond .eq 13, 3) := by decide +kernel
theorem dX0_fitSteps_84 : decode cX0_fitSteps 84 = .ok (.aload_n 0, 1) := by decide +kernel
theorem dX0_fitSteps_85 : decode cX0_fitSteps 85 = .ok (.iload_n 1, 1) := by decide +kernel
theorem dX0_fitSteps_86 : decode cX0_fitSteps 86 = .ok (.iconst 1, 1) := by decide +kernel
theorem dX0_fitSteps_87 : decode cX0_fitSteps 87 = .ok (.iadd, 1) := by decide +kernel
theorem dX0_fitSteps_88 : decode cX0_fitSteps 88 = .ok (.invokevirtual 73, 3) := by decide +kernel
theorem dX0_fitSteps_91 : decode cX0_fitSteps 91 = .ok (.goto 4, 3) := by decide +kernel
theorem dX0_fitSteps_94 : decode cX0_fitSteps 94 = .ok (.iconst 0, 1) := by decide +kernel
theorem dX0_fitSteps_95 : decode cX0_fitSteps 95 = .ok (.iadd, 1) := by decide +kernel
theorem dX0_fitSteps_96 : decode cX0_fitSteps 96 = .ok (.istore_n 2, 1) := by decide +kernel
theorem dX0_fitSteps_97 : decode cX0_fitSteps 97 = .ok (.iinc 3 1, 3) := by decide +kernel
theorem dX0_fitSteps_100 : decode cX0_fitSteps 100 = .ok (.goto (-96), 3) := by decide +kernel
theorem dX0_fitSteps_103 : decode cX0_fitSteps 103 = .ok (.iload_n 2, 1) := by decide +kernel
theorem dX0_fitSteps_104 : decode cX0_fitSteps 104 = .ok (.ireturn, 1) := by decide +kernel
theorem dX0_keepFirst_0 : decode cX0_keepFirst 0 = .ok (.iconst 0, 1) := by decide +kernel
theorem dX0_keepFirst_1 : decode cX0_keepFirst 1 = .ok (.istore_n 1, 1) := by decide +kernel
theorem dX0_keepFirst_2 : decode cX0_keepFirst 2 = .ok (.iload_n 1, 1) := by decide +kernel
theorem dX0_keepFirst_3 : decode cX0_keepFirst 3 = .ok (.iconst 5, 1) := by decide +kernel
theorem dX0_keepFirst_4 : decode cX0_keepFirst 4 = .ok (.if_icmp .ge 40, 3) := by decide +kernel
theorem dX0_keepFirst_7 : decode cX0_keepFirst 7 = .ok (.aload_n 0, 1) := by decide +kernel
theorem dX0_keepFirst_8 : decode cX0_keepFirst 8 = .ok (.getfield 42, 3) := by decide +kernel
theorem dX0_keepFirst_11 : decode cX0_keepFirst 11 = .ok (.ifCond .ne 33, 3) := by decide +kernel
theorem dX0_keepFirst_14 : decode cX0_keepFirst 14 = .ok (.aload_n 0, 1) := by decide +kernel
theorem dX0_keepFirst_15 : decode cX0_keepFirst 15 = .ok (.getfield 21, 3) := by decide +kernel
theorem dX0_keepFirst_18 : decode cX0_keepFirst 18 = .ok (.iload_n 1, 1) := by decide +kernel
theorem dX0_keepFirst_19 : decode cX0_keepFirst 19 = .ok (.iload_n 1, 1) := by decide +kernel
theorem dX0_keepFirst_20 : decode cX0_keepFirst 20 = .ok (.aload_n 0, 1) := by decide +kernel
theorem dX0_keepFirst_21 : decode cX0_keepFirst 21 = .ok (.getfield 56, 3) := by decide +kernel
theorem dX0_keepFirst_24 : decode cX0_keepFirst 24 = .ok (.if_icmp .ge 12, 3) := by decide +kernel
theorem dX0_keepFirst_27 : decode cX0_keepFirst 27 = .ok (.aload_n 0, 1) := by decide +kernel
theorem dX0_keepFirst_28 : decode cX0_keepFirst 28 = .ok (.getfield 17, 3) := by decide +kernel
theorem dX0_keepFirst_31 : decode cX0_keepFirst 31 = .ok (.iload_n 1, 1) := by decide +kernel
theorem dX0_keepFirst_32 : decode cX0_keepFirst 32 = .ok (.iaload, 1) := by decide +kernel
theorem dX0_keepFirst_33 : decode cX0_keepFirst 33 = .ok (.goto 4, 3) := by decide +kernel
theorem dX0_keepFirst_36 : decode cX0_keepFirst 36 = .ok (.iconst 0, 1) := by decide +kernel
theorem dX0_keepFirst_37 : decode cX0_keepFirst 37 = .ok (.iastore, 1) := by decide +kernel
theorem dX0_keepFirst_38 : decode cX0_keepFirst 38 = .ok (.iinc 1 1, 3) := by decide +kernel
theorem dX0_keepFirst_41 : decode cX0_keepFirst 41 = .ok (.goto (-39), 3) := by decide +kernel
theorem dX0_keepFirst_44 : decode cX0_keepFirst 44 = .ok (.aload_n 0, 1) := by decide +kernel
theorem dX0_keepFirst_45 : decode cX0_keepFirst 45 = .ok (.iconst 1, 1) := by decide +kernel
theorem dX0_keepFirst_46 : decode cX0_keepFirst 46 = .ok (.putfield 42, 3) := by decide +kernel
theorem dX0_keepFirst_49 : decode cX0_keepFirst 49 = .ok (.return_, 1) := by decide +kernel
theorem dX1_init_0 : decode cX1_init 0 = .ok (.aload_n 0, 1) := by decide +kernel
theorem dX1_init_1 : decode cX1_init 1 = .ok (.invokespecial 3, 3) := by decide +kernel
theorem dX1_init_4 : decode cX1_init 4 = .ok (.aload_n 0, 1) := by decide +kernel
theorem dX1_init_5 : decode cX1_init 5 = .ok (.bipush 42, 2) := by decide +kernel
theorem dX1_init_7 : decode cX1_init 7 = .ok (.newarray .int, 2) := by decide +kernel
theorem dX1_init_9 : decode cX1_init 9 = .ok (.putfield 9, 3) := by decide +kernel
theorem dX1_init_12 : decode cX1_init 12 = .ok (.aload_n 0, 1) := by decide +kernel
theorem dX1_init_13 : decode cX1_init 13 = .ok (.bipush 42, 2) := by decide +kernel
theorem dX1_init_15 : decode cX1_init 15 = .ok (.newarray .int, 2) := by decide +kernel
theorem dX1_init_17 : decode cX1_init 17 = .ok (.putfield 15, 3) := by decide +kernel
theorem dX1_init_20 : decode cX1_init 20 = .ok (.aload_n 0, 1) := by decide +kernel
theorem dX1_init_21 : decode cX1_init 21 = .ok (.sipush 168, 3) := by decide +kernel
theorem dX1_init_24 : decode cX1_init 24 = .ok (.newarray .int, 2) := by decide +kernel
theorem dX1_init_26 : decode cX1_init 26 = .ok (.putfield 18, 3) := by decide +kernel
theorem dX1_init_29 : decode cX1_init 29 = .ok (.aload_n 0, 1) := by decide +kernel
theorem dX1_init_30 : decode cX1_init 30 = .ok (.sipush 1764, 3) := by decide +kernel
theorem dX1_init_33 : decode cX1_init 33 = .ok (.newarray .int, 2) := by decide +kernel
theorem dX1_init_35 : decode cX1_init 35 = .ok (.putfield 21, 3) := by decide +kernel
theorem dX1_init_38 : decode cX1_init 38 = .ok (.aload_n 0, 1) := by decide +kernel
theorem dX1_init_39 : decode cX1_init 39 = .ok (.bipush 42, 2) := by decide +kernel
theorem dX1_init_41 : decode cX1_init 41 = .ok (.newarray .boolean, 2) := by decide +kernel
theorem dX1_init_43 : decode cX1_init 43 = .ok (.putfield 24, 3) := by decide +kernel
theorem dX1_init_46 : decode cX1_init 46 = .ok (.aload_n 0, 1) := by decide +kernel
theorem dX1_init_47 : decode cX1_init 47 = .ok (.bipush 42, 2) := by decide +kernel
theorem dX1_init_49 : decode cX1_init 49 = .ok (.newarray .int, 2) := by decide +kernel
theorem dX1_init_51 : decode cX1_init 51 = .ok (.putfield 28, 3) := by decide +kernel
theorem dX1_init_54 : decode cX1_init 54 = .ok (.return_, 1) := by decide +kernel
theorem dX1_isCell_0 : decode cX1_isCell 0 = .ok (.iload_n 0, 1) := by decide +kernel
theorem dX1_isCell_1 : decode cX1_isCell 1 = .ok (.ifCond .lt 13, 3) := by decide +kernel
theorem dX1_isCell_4 : decode cX1_isCell 4 = .ok (.iload_n 0, 1) := by decide +kernel
theorem dX1_isCell_5 : decode cX1_isCell 5 = .ok (.bipush 42, 2) := by decide +kernel
theorem dX1_isCell_7 : decode cX1_isCell 7 = .ok (.if_icmp .ge 7, 3) := by decide +kernel
theorem dX1_isCell_10 : decode cX1_isCell 10 = .ok (.iconst 1, 1) := by decide +kernel
theorem dX1_isCell_11 : decode cX1_isCell 11 = .ok (.goto 4, 3) := by decide +kernel
theorem dX1_isCell_14 : decode cX1_isCell 14 = .ok (.iconst 0, 1) := by decide +kernel
theorem dX1_isCell_15 : decode cX1_isCell 15 = .ok (.ireturn, 1) := by decide +kernel
theorem dX1_lay_0 : decode cX1_lay 0 = .ok (.aload_n 0, 1) := by decide +kernel
theorem dX1_lay_1 : decode cX1_lay 1 = .ok (.aload_n 1, 1) := by decide +kernel
theorem dX1_lay_2 : decode cX1_lay 2 = .ok (.getfield 31, 3) := by decide +kernel
theorem dX1_lay_5 : decode cX1_lay 5 = .ok (.putfield 37, 3) := by decide +kernel
theorem dX1_lay_8 : decode cX1_lay 8 = .ok (.aload_n 0, 1) := by decide +kernel
theorem dX1_lay_9 : decode cX1_lay 9 = .ok (.aload_n 1, 1) := by decide +kernel
theorem dX1_lay_10 : decode cX1_lay 10 = .ok (.getfield 38, 3) := by decide +kernel
theorem dX1_lay_13 : decode cX1_lay 13 = .ok (.putfield 41, 3) := by decide +kernel
theorem dX1_lay_16 : decode cX1_lay 16 = .ok (.aload_n 0, 1) := by decide +kernel
theorem dX1_lay_17 : decode cX1_lay 17 = .ok (.aload_n 0, 1) := by decide +kernel
theorem dX1_lay_18 : decode cX1_lay 18 = .ok (.getfield 37, 3) := by decide +kernel
theorem dX1_lay_21 : decode cX1_lay 21 = .ok (.aload_n 0, 1) := by decide +kernel
theorem dX1_lay_22 : decode cX1_lay 22 = .ok (.getfield 41, 3) := by decide +kernel
theorem dX1_lay_25 : decode cX1_lay 25 = .ok (.imul, 1) := by decide +kernel
theorem dX1_lay_26 : decode cX1_lay 26 = .ok (.bipush 42, 2) := by decide +kernel
theorem dX1_lay_28 : decode cX1_lay 28 = .ok (.invokestatic 42, 3) := by decide +kernel
theorem dX1_lay_31 : decode cX1_lay 31 = .ok (.putfield 48, 3) := by decide +kernel
theorem dX1_lay_34 : decode cX1_lay 34 = .ok (.iconst 0, 1) := by decide +kernel
theorem dX1_lay_35 : decode cX1_lay 35 = .ok (.istore_n 2, 1) := by decide +kernel
theorem dX1_lay_36 : decode cX1_lay 36 = .ok (.iload_n 2, 1) := by decide +kernel
theorem dX1_lay_37 : decode cX1_lay 37 = .ok (.aload_n 0, 1) := by decide +kernel
theorem dX1_lay_38 : decode cX1_lay 38 = .ok (.getfield 41, 3) := by decide +kernel
theorem dX1_lay_41 : decode cX1_lay 41 = .ok (.if_icmp .ge 31, 3) := by decide +kernel
theorem dX1_lay_44 : decode cX1_lay 44 = .ok (.iconst 0, 1) := by decide +kernel
theorem dX1_lay_45 : decode cX1_lay 45 = .ok (.istore_n 3, 1) := by decide +kernel
theorem dX1_lay_46 : decode cX1_lay 46 = .ok (.iload_n 3, 1) := by decide +kernel
theorem dX1_lay_47 : decode cX1_lay 47 = .ok (.aload_n 0, 1) := by decide +kernel
theorem dX1_lay_48 : decode cX1_lay 48 = .ok (.getfield 37, 3) := by decide +kernel
theorem dX1_lay_51 : decode cX1_lay 51 = .ok (.if_icmp .ge 15, 3) := by decide +kernel
theorem dX1_lay_54 : decode cX1_lay 54 = .ok (.aload_n 0, 1) := by decide +kernel
theorem dX1_lay_55 : decode cX1_lay 55 = .ok (.iload_n 3, 1) := by decide +kernel
theorem dX1_lay_56 : decode cX1_lay 56 = .ok (.iload_n 2, 1) := by decide +kernel
theorem dX1_lay_57 : decode cX1_lay 57 = .ok (.invokevirtual 51, 3) := by decide +kernel
theorem dX1_lay_60 : decode cX1_lay 60 = .ok (.iinc 3 1, 3) := by decide +kernel
theorem dX1_lay_63 : decode cX1_lay 63 = .ok (.goto (-17), 3) := by decide +kernel
theorem dX1_lay_66 : decode cX1_lay 66 = .ok (.iinc 2 1, 3) := by decide +kernel
theorem dX1_lay_69 : decode cX1_lay 69 = .ok (.goto (-33), 3) := by decide +kernel
theorem dX1_lay_72 : decode cX1_lay 72 = .ok (.aload_n 0, 1) := by decide +kernel
theorem dX1_lay_73 : decode cX1_lay 73 = .ok (.aload_n 1, 1) := by decide +kernel
theorem dX1_lay_74 : decode cX1_lay 74 = .ok (.getfield 55, 3) := by decide +kernel
theorem dX1_lay_77 : decode cX1_lay 77 = .ok (.invokevirtual 58, 3) := by decide +kernel
theorem dX1_lay_80 : decode cX1_lay 80 = .ok (.return_, 1) := by decide +kernel
theorem dX1_layCell_0 : decode cX1_layCell 0 = .ok (.iload_n 2, 1) := by decide +kernel
theorem dX1_layCell_1 : decode cX1_layCell 1 = .ok (.aload_n 0, 1) := by decide +kernel
theorem dX1_layCell_2 : decode cX1_layCell 2 = .ok (.getfield 37, 3) := by decide +kernel
theorem dX1_layCell_5 : decode cX1_layCell 5 = .ok (.imul, 1) := by decide +kernel
theorem dX1_layCell_6 : decode cX1_layCell 6 = .ok (.iload_n 1, 1) := by decide +kernel
theorem dX1_layCell_7 : decode cX1_layCell 7 = .ok (.iadd, 1) := by decide +kernel
theorem dX1_layCell_8 : decode cX1_layCell 8 = .ok (.istore_n 3, 1) := by decide +kernel
theorem dX1_layCell_9 : decode cX1_layCell 9 = .ok (.iload_n 3, 1) := by decide +kernel
theorem dX1_layCell_10 : decode cX1_layCell 10 = .ok (.bipush 42, 2) := by decide +kernel
theorem dX1_layCell_12 : decode cX1_layCell 12 = .ok (.if_icmp .lt 4, 3) := by decide +kernel
theorem dX1_layCell_15 : decode cX1_layCell 15 = .ok (.return_, 1) := by decide +kernel
theorem dX1_layCell_16 : decode cX1_layCell 16 = .ok (.aload_n 0, 1) := by decide +kernel
theorem dX1_layCell_17 : decode cX1_layCell 17 = .ok (.getfield 15, 3) := by decide +kernel
theorem dX1_layCell_20 : decode cX1_layCell 20 = .ok (.iload_n 3, 1) := by decide +kernel
theorem dX1_layCell_21 : decode cX1_layCell 21 = .ok (.bipush 10, 2) := by decide +kernel
theorem dX1_layCell_23 : decode cX1_layCell 23 = .ok (.iload_n 1, 1) := by decide +kernel
theorem dX1_layCell_24 : decode cX1_layCell 24 = .ok (.imul, 1) := by decide +kernel
theorem dX1_layCell_25 : decode cX1_layCell 25 = .ok (.iload_n 2, 1) := by decide +kernel
theorem dX1_layCell_26 : decode cX1_layCell 26 = .ok (.iadd, 1) := by decide +kernel
theorem dX1_layCell_27 : decode cX1_layCell 27 = .ok (.iastore, 1) := by decide +kernel
theorem dX1_layCell_28 : decode cX1_layCell 28 = .ok (.aload_n 0, 1) := by decide +kernel
theorem dX1_layCell_29 : decode cX1_layCell 29 = .ok (.getfield 18, 3) := by decide +kernel
theorem dX1_layCell_32 : decode cX1_layCell 32 = .ok (.iload_n 3, 1) := by decide +kernel
theorem dX1_layCell_33 : decode cX1_layCell 33 = .ok (.iconst 4, 1) := by decide +kernel
theorem dX1_layCell_34 : decode cX1_layCell 34 = .ok (.imul, 1) := by decide +kernel
theorem dX1_layCell_35 : decode cX1_layCell 35 = .ok (.iload_n 2, 1) := by decide +kernel
theorem dX1_layCell_36 : decode cX1_layCell 36 = .ok (.ifCond .le 12, 3) := by decide +kernel
theorem dX1_layCell_39 : decode cX1_layCell 39 = .ok (.iload_n 3, 1) := by decide +kernel
theorem dX1_layCell_40 : decode cX1_layCell 40 = .ok (.aload_n 0, 1) := by decide +kernel
theorem dX1_layCell_41 : decode cX1_layCell 41 = .ok (.getfield 37, 3) := by decide +kernel
theorem dX1_layCell_44 : decode cX1_layCell 44 = .ok (.isub, 1) := by decide +kernel
theorem dX1_layCell_45 : decode cX1_layCell 45 = .ok (.goto 4, 3) := by decide +kernel
theorem dX1_layCell_48 : decode cX1_layCell 48 = .ok (.iconst (-1), 1) := by decide +kernel
theorem dX1_layCell_49 : decode cX1_layCell 49 = .ok (.iastore, 1) := by decide +kernel
theorem dX1_layCell_50 : decode cX1_layCell 50 = .ok (.aload_n 0, 1) := by decide +kernel
theorem dX1_layCell_51 : decode cX1_layCell 51 = .ok (.getfield 18, 3) := by decide +kernel
theorem dX1_layCell_54 : decode cX1_layCell 54 = .ok (.iload_n 3, 1) := by decide +kernel
theorem dX1_layCell_55 : decode cX1_layCell 55 = .ok (.iconst 4, 1) := by decide +kernel
theorem dX1_layCell_56 : decode cX1_layCell 56 = .ok (.imul, 1) := by decide +kernel
theorem dX1_layCell_57 : decode cX1_layCell 57 = .ok (.iconst 1, 1) := by decide +kernel
theorem dX1_layCell_58 : decode cX1_layCell 58 = .ok (.iadd, 1) := by decide +kernel
theorem dX1_layCell_59 : decode cX1_layCell 59 = .ok (.iload_n 1, 1) := by decide +kernel
theorem dX1_layCell_60 : decode cX1_layCell 60 = .ok (.aload_n 0, 1) := by decide +kernel
theorem dX1_layCell_61 : decode cX1_layCell 61 = .ok (.getfield 37, 3) := by decide +kernel
theorem dX1_layCell_64 : decode cX1_layCell 64 = .ok (.iconst 1, 1) := by decide +kernel
theorem dX1_layCell_65 : decode cX1_layCell 65 = .ok (.isub, 1) := by decide +kernel
theorem dX1_layCell_66 : decode cX1_layCell 66 = .ok (.if_icmp .ge 9, 3) := by decide +kernel
theorem dX1_layCell_69 : decode cX1_layCell 69 = .ok (.iload_n 3, 1) := by decide +kernel
theorem dX1_layCell_70 : decode cX1_layCell 70 = .ok (.iconst 1, 1) := by decide +kernel
theorem dX1_layCell_71 : decode cX1_layCell 71 = .ok (.iadd, 1) := by decide +kernel
theorem dX1_layCell_72 : decode cX1_layCell 72 = .ok (.goto 4, 3) := by decide +kernel
theorem dX1_layCell_75 : decode cX1_layCell 75 = .ok (.iconst (-1), 1) := by decide +kernel
theorem dX1_layCell_76 : decode cX1_layCell 76 = .ok (.iastore, 1) := by decide +kernel
theorem dX1_layCell_77 : decode cX1_layCell 77 = .ok (.aload_n 0, 1) := by decide +kernel
theorem dX1_layCell_78 : decode cX1_layCell 78 = .ok (.getfield 18, 3) := by decide +kernel
theorem dX1_layCell_81 : decode cX1_layCell 81 = .ok (.iload_n 3, 1) := by decide +kernel
theorem dX1_layCell_82 : decode cX1_layCell 82 = .ok (.iconst 4, 1) := by decide +kernel
theorem dX1_layCell_83 : decode cX1_layCell 83 = .ok (.imul, 1) := by decide +kernel
theorem dX1_layCell_84 : decode cX1_layCell 84 = .ok (.iconst 2, 1) := by decide +kernel
theorem dX1_layCell_85 : decode cX1_layCell 85 = .ok (.iadd, 1) := by decide +kernel
theorem dX1_layCell_86 : decode cX1_layCell 86 = .ok (.iload_n 2, 1) := by decide +kernel
theorem dX1_layCell_87 : decode cX1_layCell 87 = .ok (.aload_n 0, 1) := by decide +kernel
theorem dX1_layCell_88 : decode cX1_layCell 88 = .ok (.getfield 41, 3) := by decide +kernel
theorem dX1_layCell_91 : decode cX1_layCell 91 = .ok (.iconst 1, 1) := by decide +kernel
theorem dX1_layCell_92 : decode cX1_layCell 92 = .ok (.isub, 1) := by decide +kernel
theorem dX1_layCell_93 : decode cX1_layCell 93 = .ok (.if_icmp .ge 12, 3) := by decide +kernel
theorem dX1_layCell_96 : decode cX1_layCell 96 = .ok (.iload_n 3, 1) := by decide +kernel
theorem dX1_layCell_97 : decode cX1_layCell 97 = .ok (.aload_n 0, 1) := by decide +kernel
theorem dX1_layCell_98 : decode cX1_layCell 98 = .ok (.getfield 37, 3) := by decide +kernel
theorem dX1_layCell_101 : decode cX1_layCell 101 = .ok (.iadd, 1) := by decide +kernel
theorem dX1_layCell_102 : decode cX1_layCell 102 = .ok (.goto 4, 3) := by decide +kernel
theorem dX1_layCell_105 : decode cX1_layCell 105 = .ok (.iconst (-1), 1) := by decide +kernel
theorem dX1_layCell_106 : decode cX1_layCell 106 = .ok (.iastore, 1) := by decide +kernel
theorem dX1_layCell_107 : decode cX1_layCell 107 = .ok (.aload_n 0, 1) := by decide +kernel
theorem dX1_layCell_108 : decode cX1_layCell 108 = .ok (.getfield 18, 3) := by decide +kernel
theorem dX1_layCell_111 : decode cX1_layCell 111 = .ok (.iload_n 3, 1) := by decide +kernel
theorem dX1_layCell_112 : decode cX1_layCell 112 = .ok (.iconst 4, 1) := by decide +kernel
theorem dX1_layCell_113 : decode cX1_layCell 113 = .ok (.imul, 1) := by decide +kernel
theorem dX1_layCell_114 : decode cX1_layCell 114 = .ok (.iconst 3, 1) := by decide +kernel
theorem dX1_layCell_115 : decode cX1_layCell 115 = .ok (.iadd, 1) := by decide +kernel
theorem dX1_layCell_116 : decode cX1_layCell 116 = .ok (.iload_n 1, 1) := by decide +kernel
theorem dX1_layCell_117 : decode cX1_layCell 117 = .ok (.ifCond .le 9, 3) := by decide +kernel
theorem dX1_layCell_120 : decode cX1_layCell 120 = .ok (.iload_n 3, 1) := by decide +kernel
theorem dX1_layCell_121 : decode cX1_layCell 121 = .ok (.iconst 1, 1) := by decide +kernel
theorem dX1_layCell_122 : decode cX1_layCell 122 = .ok (.isub, 1) := by decide +kernel
theorem dX1_layCell_123 : decode cX1_layCell 123 = .ok (.goto 4, 3) := by decide +kernel
theorem dX1_layCell_126 : decode cX1_layCell 126 = .ok (.iconst (-1), 1) := by decide +kernel
theorem dX1_layCell_127 : decode cX1_layCell 127 = .ok (.iastore, 1) := by decide +kernel
theorem dX1_layCell_128 : decode cX1_layCell 128 = .ok (.return_, 1) := by decide +kernel
theorem dX1_takeWhats_0 : decode cX1_takeWhats 0 = .ok (.iconst 0, 1) := by decide +kernel
theorem dX1_takeWhats_1 : decode cX1_takeWhats 1 = .ok (.istore_n 2, 1) := by decide +kernel
theorem dX1_takeWhats_2 : decode cX1_takeWhats 2 = .ok (.iload_n 2, 1) := by decide +kernel
theorem dX1_takeWhats_3 : decode cX1_takeWhats 3 = .ok (.bipush 42, 2) := by decide +kernel
theorem dX1_takeWhats_5 : decode cX1_takeWhats 5 = .ok (.if_icmp .ge 24, 3) := by decide +kernel
theorem dX1_takeWhats_8 : decode cX1_takeWhats 8 = .ok (.iload_n 2, 1) := by decide +kernel
theorem dX1_takeWhats_9 : decode cX1_takeWhats 9 = .ok (.aload_n 1, 1) := by decide +kernel
theorem dX1_takeWhats_10 : decode cX1_takeWhats 10 = .ok (.arraylength, 1) := by decide +kernel
theorem dX1_takeWhats_11 : decode cX1_takeWhats 11 = .ok (.if_icmp .ge 18, 3) := by decide +kernel
theorem dX1_takeWhats_14 : decode cX1_takeWhats 14 = .ok (.aload_n 0, 1) := by decide +kernel
theorem dX1_takeWhats_15 : decode cX1_takeWhats 15 = .ok (.getfield 9, 3) := by decide +kernel
theorem dX1_takeWhats_18 : decode cX1_takeWhats 18 = .ok (.iload_n 2, 1) := by decide +kernel
theorem dX1_takeWhats_19 : decode cX1_takeWhats 19 = .ok (.aload_n 1, 1) := by decide +kernel
theorem dX1_takeWhats_20 : decode cX1_takeWhats 20 = .ok (.iload_n 2, 1) := by decide +kernel
theorem dX1_takeWhats_21 : decode cX1_takeWhats 21 = .ok (.iaload, 1) := by decide +kernel
theorem dX1_takeWhats_22 : decode cX1_takeWhats 22 = .ok (.iastore, 1) := by decide +kernel
theorem dX1_takeWhats_23 : decode cX1_takeWhats 23 = .ok (.iinc 2 1, 3) := by decide +kernel
theorem dX1_takeWhats_26 : decode cX1_takeWhats 26 = .ok (.goto (-24), 3) := by decide +kernel
theorem dX1_takeWhats_29 : decode cX1_takeWhats 29 = .ok (.aload_n 0, 1) := by decide +kernel
theorem dX1_takeWhats_30 : decode cX1_takeWhats 30 = .ok (.invokevirtual 62, 3) := by decide +kernel
theorem dX1_takeWhats_33 : decode cX1_takeWhats 33 = .ok (.return_, 1) := by decide +kernel
theorem dX1_giveWhats_0 : decode cX1_giveWhats 0 = .ok (.iconst 0, 1) := by decide +kernel
theorem dX1_giveWhats_1 : decode cX1_giveWhats 1 = .ok (.istore_n 2, 1) := by decide +kernel
theorem dX1_giveWhats_2 : decode cX1_giveWhats 2 = .ok (.iload_n 2, 1) := by decide +kernel
theorem dX1_giveWhats_3 : decode cX1_giveWhats 3 = .ok (.bipush 42, 2) := by decide +kernel
theorem dX1_giveWhats_5 : decode cX1_giveWhats 5 = .ok (.if_icmp .ge 24, 3) := by decide +kernel
theorem dX1_giveWhats_8 : decode cX1_giveWhats 8 = .ok (.iload_n 2, 1) := by decide +kernel
theorem dX1_giveWhats_9 : decode cX1_giveWhats 9 = .ok (.aload_n 1, 1) := by decide +kernel
theorem dX1_giveWhats_10 : decode cX1_giveWhats 10 = .ok (.arraylength, 1) := by decide +kernel
theorem dX1_giveWhats_11 : decode cX1_giveWhats 11 = .ok (.if_icmp .ge 18, 3) := by decide +kernel
theorem dX1_giveWhats_14 : decode cX1_giveWhats 14 = .ok (.aload_n 1, 1) := by decide +kernel
theorem dX1_giveWhats_15 : decode cX1_giveWhats 15 = .ok (.iload_n 2, 1) := by decide +kernel
theorem dX1_giveWhats_16 : decode cX1_giveWhats 16 = .ok (.aload_n 0, 1) := by decide +kernel
theorem dX1_giveWhats_17 : decode cX1_giveWhats 17 = .ok (.getfield 9, 3) := by decide +kernel
theorem dX1_giveWhats_20 : decode cX1_giveWhats 20 = .ok (.iload_n 2, 1) := by decide +kernel
theorem dX1_giveWhats_21 : decode cX1_giveWhats 21 = .ok (.iaload, 1) := by decide +kernel
theorem dX1_giveWhats_22 : decode cX1_giveWhats 22 = .ok (.iastore, 1) := by decide +kernel
theorem dX1_giveWhats_23 : decode cX1_giveWhats 23 = .ok (.iinc 2 1, 3) := by decide +kernel
theorem dX1_giveWhats_26 : decode cX1_giveWhats 26 = .ok (.goto (-24), 3) := by decide +kernel
theorem dX1_giveWhats_29 : decode cX1_giveWhats 29 = .ok (.return_, 1) := by decide +kernel
theorem dX1_copy_0 : decode cX1_copy 0 = .ok (.aload_n 0, 1) := by decide +kernel
theorem dX1_copy_1 : decode cX1_copy 1 = .ok (.aload_n 1, 1) := by decide +kernel
theorem dX1_copy_2 : decode cX1_copy 2 = .ok (.getfield 9, 3) := by decide +kernel
theorem dX1_copy_5 : decode cX1_copy 5 = .ok (.invokevirtual 58, 3) := by decide +kernel
theorem dX1_copy_8 : decode cX1_copy 8 = .ok (.return_, 1) := by decide +kernel
theorem dX1_put_0 : decode cX1_put 0 = .ok (.iload_n 1, 1) := by decide +kernel
theorem dX1_put_1 : decode cX1_put 1 = .ok (.invokestatic 65, 3) := by decide +kernel
theorem dX1_put_4 : decode cX1_put 4 = .ok (.ifCond .eq 14, 3) := by decide +kernel
theorem dX1_put_7 : decode cX1_put 7 = .ok (.aload_n 0, 1) := by decide +kernel
theorem dX1_put_8 : decode cX1_put 8 = .ok (.getfield 9, 3) := by decide +kernel
theorem dX1_put_11 : decode cX1_put 11 = .ok (.iload_n 1, 1) := by decide +kernel
theorem dX1_put_12 : decode cX1_put 12 = .ok (.iload_n 2, 1) := by decide +kernel
theorem dX1_put_13 : decode cX1_put 13 = .ok (.iastore, 1) := by decide +kernel
theorem dX1_put_14 : decode cX1_put 14 = .ok (.aload_n 0, 1) := by decide +kernel
theorem dX1_put_15 : decode cX1_put 15 = .ok (.invokevirtual 62, 3) := by decide +kernel
theorem dX1_put_18 : decode cX1_put 18 = .ok (.return_, 1) := by decide +kernel
theorem dX1_forgetWays_0 : decode cX1_forgetWays 0 = .ok (.iconst 0, 1) := by decide +kernel
theorem dX1_forgetWays_1 : decode cX1_forgetWays 1 = .ok (.istore_n 1, 1) := by decide +kernel
theorem dX1_forgetWays_2 : decode cX1_forgetWays 2 = .ok (.iload_n 1, 1) := by decide +kernel
theorem dX1_forgetWays_3 : decode cX1_forgetWays 3 = .ok (.bipush 42, 2) := by decide +kernel
theorem dX1_forgetWays_5 : decode cX1_forgetWays 5 = .ok (.if_icmp .ge 16, 3) := by decide +kernel
theorem dX1_forgetWays_8 : decode cX1_forgetWays 8 = .ok (.aload_n 0, 1) := by decide +kernel
theorem dX1_forgetWays_9 : decode cX1_forgetWays 9 = .ok (.getfield 24, 3) := by decide +kernel
theorem dX1_forgetWays_12 : decode cX1_forgetWays 12 = .ok (.iload_n 1, 1) := by decide +kernel
theorem dX1_forgetWays_13 : decode cX1_forgetWays 13 = .ok (.iconst 0, 1) := by decide +kernel
theorem dX1_forgetWays_14 : decode cX1_forgetWays 14 = .ok (.bastore, 1) := by decide +kernel
theorem dX1_forgetWays_15 : decode cX1_forgetWays 15 = .ok (.iinc 1 1, 3) := by decide +kernel
theorem dX1_forgetWays_18 : decode cX1_forgetWays 18 = .ok (.goto (-16), 3) := by decide +kernel
theorem dX1_forgetWays_21 : decode cX1_forgetWays 21 = .ok (.return_, 1) := by decide +kernel
theorem dX1_cellAt_0 : decode cX1_cellAt 0 = .ok (.iload_n 1, 1) := by decide +kernel
theorem dX1_cellAt_1 : decode cX1_cellAt 1 = .ok (.ifCond .lt 34, 3) := by decide +kernel
theorem dX1_cellAt_4 : decode cX1_cellAt 4 = .ok (.iload_n 1, 1) := by decide +kernel
theorem dX1_cellAt_5 : decode cX1_cellAt 5 = .ok (.aload_n 0, 1) := by decide +kernel
theorem dX1_cellAt_6 : decode cX1_cellAt 6 = .ok (.getfield 37, 3) := by decide +kernel
theorem dX1_cellAt_9 : decode cX1_cellAt 9 = .ok (.if_icmp .ge 26, 3) := by decide +kernel
theorem dX1_cellAt_12 : decode cX1_cellAt 12 = .ok (.iload_n 2, 1) := by decide +kernel
theorem dX1_cellAt_13 : decode cX1_cellAt 13 = .ok (.ifCond .lt 22, 3) := by decide +kernel
theorem dX1_cellAt_16 : decode cX1_cellAt 16 = .ok (.iload_n 2, 1) := by decide +kernel
theorem dX1_cellAt_17 : decode cX1_cellAt 17 = .ok (.aload_n 0, 1) := by decide +kernel
theorem dX1_cellAt_18 : decode cX1_cellAt 18 = .ok (.getfield 41, 3) := by decide +kernel
theorem dX1_cellAt_21 : decode cX1_cellAt 21 = .ok (.if_icmp .ge 14, 3) := by decide +kernel
theorem dX1_cellAt_24 : decode cX1_cellAt 24 = .ok (.iload_n 2, 1) := by decide +kernel
theorem dX1_cellAt_25 : decode cX1_cellAt 25 = .ok (.aload_n 0, 1) := by decide +kernel
theorem dX1_cellAt_26 : decode cX1_cellAt 26 = .ok (.getfield 37, 3) := by decide +kernel
theorem dX1_cellAt_29 : decode cX1_cellAt 29 = .ok (.imul, 1) := by decide +kernel
theorem dX1_cellAt_30 : decode cX1_cellAt 30 = .ok (.iload_n 1, 1) := by decide +kernel
theorem dX1_cellAt_31 : decode cX1_cellAt 31 = .ok (.iadd, 1) := by decide +kernel
theorem dX1_cellAt_32 : decode cX1_cellAt 32 = .ok (.goto 4, 3) := by decide +kernel
theorem dX1_cellAt_35 : decode cX1_cellAt 35 = .ok (.iconst (-1), 1) := by decide +kernel
theorem dX1_cellAt_36 : decode cX1_cellAt 36 = .ok (.ireturn, 1) := by decide +kernel
theorem dX1_what_0 : decode cX1_what 0 = .ok (.iload_n 1, 1) := by decide +kernel
theorem dX1_what_1 : decode cX1_what 1 = .ok (.ifCond .lt 18, 3) := by decide +kernel
theorem dX1_what_4 : decode cX1_what 4 = .ok (.iload_n 1, 1) := by decide +kernel
theorem dX1_what_5 : decode cX1_what 5 = .ok (.bipush 42, 2) := by decide +kernel
theorem dX1_what_7 : decode cX1_what 7 = .ok (.if_icmp .ge 12, 3) := by decide +kernel
theorem dX1_what_10 : decode cX1_what 10 = .ok (.aload_n 0, 1) := by decide +kernel
theorem dX1_what_11 : decode cX1_what 11 = .ok (.getfield 9, 3) := by decide +kernel
theorem dX1_what_14 : decode cX1_what 14 = .ok (.iload_n 1, 1) := by decide +kernel
theorem dX1_what_15 : decode cX1_what 15 = .ok (.iaload, 1) := by decide +kernel
theorem dX1_what_16 : decode cX1_what 16 = .ok (.goto 4, 3) := by decide +kernel
theorem dX1_what_19 : decode cX1_what 19 = .ok (.iconst 1, 1) := by decide +kernel
theorem dX1_what_20 : decode cX1_what 20 = .ok (.ireturn, 1) := by decide +kernel
theorem dX1_code_0 : decode cX1_code 0 = .ok (.iload_n 1, 1) := by decide +kernel
theorem dX1_code_1 : decode cX1_code 1 = .ok (.invokestatic 65, 3) := by decide +kernel
theorem dX1_code_4 : decode cX1_code 4 = .ok (.ifCond .eq 12, 3) := by decide +kernel
theorem dX1_code_7 : decode cX1_code 7 = .ok (.aload_n 0, 1) := by decide +kernel
theorem dX1_code_8 : decode cX1_code 8 = .ok (.getfield 15, 3) := by decide +kernel
theorem dX1_code_11 : decode cX1_code 11 = .ok (.iload_n 1, 1) := by decide +kernel
theorem dX1_code_12 : decode cX1_code 12 = .ok (.iaload, 1) := by decide +kernel
theorem dX1_code_13 : decode cX1_code 13 = .ok (.goto 4, 3) := by decide +kernel
theorem dX1_code_16 : decode cX1_code 16 = .ok (.iconst (-1), 1) := by decide +kernel
theorem dX1_code_17 : decode cX1_code 17 = .ok (.ireturn, 1) := by decide +kernel
theorem dX1_beside_0 : decode cX1_beside 0 = .ok (.iload_n 1, 1) := by decide +kernel
theorem dX1_beside_1 : decode cX1_beside 1 = .ok (.ifCond .lt 23, 3) := by decide +kernel
theorem dX1_beside_4 : decode cX1_beside 4 = .ok (.iload_n 1, 1) := by decide +kernel
theorem dX1_beside_5 : decode cX1_beside 5 = .ok (.bipush 42, 2) := by decide +kernel
theorem dX1_beside_7 : decode cX1_beside 7 = .ok (.if_icmp .ge 17, 3) := by decide +kernel
theorem dX1_beside_10 : decode cX1_beside 10 = .ok (.iload_n 2, 1) := by decide +kernel
theorem dX1_beside_11 : decode cX1_beside 11 = .ok (.iconst 1, 1) := by decide +kernel
theorem dX1_beside_12 : decode cX1_beside 12 = .ok (.if_icmp .lt 12, 3) := by decide +kernel
theorem dX1_beside_15 : decode cX1_beside 15 = .ok (.iload_n 2, 1) := by decide +kernel
theorem dX1_beside_16 : decode cX1_beside 16 = .ok (.iconst 4, 1) := by decide +kernel
theorem dX1_beside_17 : decode cX1_beside 17 = .ok (.if_icmp .gt 7, 3) := by decide +kernel
theorem dX1_beside_20 : decode cX1_beside 20 = .ok (.iconst 1, 1) := by decide +kernel
theorem dX1_beside_21 : decode cX1_beside 21 = .ok (.goto 4, 3) := by decide +kernel
theorem dX1_beside_24 : decode cX1_beside 24 = .ok (.iconst 0, 1) := by decide +kernel
theorem dX1_beside_25 : decode cX1_beside 25 = .ok (.istore_n 3, 1) := by decide +kernel
theorem dX1_beside_26 : decode cX1_beside 26 = .ok (.iload_n 3, 1) := by decide +kernel
theorem dX1_beside_27 : decode cX1_beside 27 = .ok (.ifCond .eq 18, 3) := by decide +kernel
theorem dX1_beside_30 : decode cX1_beside 30 = .ok (.aload_n 0, 1) := by decide +kernel
theorem dX1_beside_31 : decode cX1_beside 31 = .ok (.getfield 18, 3) := by decide +kernel
theorem dX1_beside_34 : decode cX1_beside 34 = .ok (.iload_n 1, 1) := by decide +kernel
theorem dX1_beside_35 : decode cX1_beside 35 = .ok (.iconst 4, 1) := by decide +kernel
theorem dX1_beside_36 : decode cX1_beside 36 = .ok (.imul, 1) := by decide +kernel
theorem dX1_beside_37 : decode cX1_beside 37 = .ok (.iload_n 2, 1) := by decide +kernel
theorem dX1_beside_38 : decode cX1_beside 38 = .ok (.iadd, 1) := by decide +kernel
theorem dX1_beside_39 : decode cX1_beside 39 = .ok (.iconst 1, 1) := by decide +kernel
theorem dX1_beside_40 : decode cX1_beside 40 = .ok (.isub, 1) := by decide +kernel
theorem dX1_beside_41 : decode cX1_beside 41 = .ok (.iaload, 1) := by decide +kernel
theorem dX1_beside_42 : decode cX1_beside 42 = .ok (.goto 4, 3) := by decide +kernel
theorem dX1_beside_45 : decode cX1_beside 45 = .ok (.iconst (-1), 1) := by decide +kernel
theorem dX1_beside_46 : decode cX1_beside 46 = .ok (.ireturn, 1) := by decide +kernel
theorem dX1_steps_0 : decode cX1_steps 0 = .ok (.iload_n 1, 1) := by decide +kernel
theorem dX1_steps_1 : decode cX1_steps 1 = .ok (.ifCond .lt 19, 3) := by decide +kernel
theorem dX1_steps_4 : decode cX1_steps 4 = .ok (.iload_n 1, 1) := by decide +kernel
theorem dX1_steps_5 : decode cX1_steps 5 = .ok (.bipush 42, 2) := by decide +kernel
theorem dX1_steps_7 : decode cX1_steps 7 = .ok (.if_icmp .ge 13, 3) := by decide +kernel
theorem dX1_steps_10 : decode cX1_steps 10 = .ok (.iload_n 2, 1) := by decide +kernel
theorem dX1_steps_11 : decode cX1_steps 11 = .ok (.ifCond .lt 9, 3) := by decide +kernel
theorem dX1_steps_14 : decode cX1_steps 14 = .ok (.iload_n 2, 1) := by decide +kernel
theorem dX1_steps_15 : decode cX1_steps 15 = .ok (.bipush 42, 2) := by decide +kernel
theorem dX1_steps_17 : decode cX1_steps 17 = .ok (.if_icmp .lt 5, 3) := by decide +kernel
theorem dX1_steps_20 : decode cX1_steps 20 = .ok (.iconst (-1), 1) := by decide +kernel
theorem dX1_steps_21 : decode cX1_steps 21 = .ok (.ireturn, 1) := by decide +kernel
theorem dX1_steps_22 : decode cX1_steps 22 = .ok (.aload_n 0, 1) := by decide +kernel
theorem dX1_steps_23 : decode cX1_steps 23 = .ok (.getfield 24, 3) := by decide +kernel
theorem dX1_steps_26 : decode cX1_steps 26 = .ok (.iload_n 2, 1) := by decide +kernel
theorem dX1_steps_27 : decode cX1_steps 27 = .ok (.baload, 1) := by decide +kernel
theorem dX1_steps_28 : decode cX1_steps 28 = .ok (.ifCond .ne 8, 3) := by decide +kernel
theorem dX1_steps_31 : decode cX1_steps 31 = .ok (.aload_n 0, 1) := by decide +kernel
theorem dX1_steps_32 : decode cX1_steps 32 = .ok (.iload_n 2, 1) := by decide +kernel
theorem dX1_steps_33 : decode cX1_steps 33 = .ok (.invokevirtual 69, 3) := by decide +kernel
theorem dX1_steps_36 : decode cX1_steps 36 = .ok (.aload_n 0, 1) := by decide +kernel
theorem dX1_steps_37 : decode cX1_steps 37 = .ok (.getfield 21, 3) := by decide +kernel
theorem dX1_steps_40 : decode cX1_steps 40 = .ok (.iload_n 2, 1) := by decide +kernel
theorem dX1_steps_41 : decode cX1_steps 41 = .ok (.bipush 42, 2) := by decide +kernel
theorem dX1_steps_43 : decode cX1_steps 43 = .ok (.imul, 1) := by decide +kernel
theorem dX1_steps_44 : decode cX1_steps 44 = .ok (.iload_n 1, 1) := by decide +kernel
theorem dX1_steps_45 : decode cX1_steps 45 = .ok (.iadd, 1) := by decide +kernel
theorem dX1_steps_46 : decode cX1_steps 46 = .ok (.iaload, 1) := by decide +kernel
theorem dX1_steps_47 : decode cX1_steps 47 = .ok (.ireturn, 1) := by decide +kernel
theorem dX1_onward_0 : decode cX1_onward 0 = .ok (.iload_n 1, 1) := by decide +kernel
theorem dX1_onward_1 : decode cX1_onward 1 = .ok (.ifCond .lt 19, 3) := by decide +kernel
theorem dX1_onward_4 : decode cX1_onward 4 = .ok (.iload_n 1, 1) := by decide +kernel
theorem dX1_onward_5 : decode cX1_onward 5 = .ok (.bipush 42, 2) := by decide +kernel
theorem dX1_onward_7 : decode cX1_onward 7 = .ok (.if_icmp .ge 13, 3) := by decide +kernel
theorem dX1_onward_10 : decode cX1_onward 10 = .ok (.iload_n 2, 1) := by decide +kernel
theorem dX1_onward_11 : decode cX1_onward 11 = .ok (.ifCond .lt 9, 3) := by decide +kernel
theorem dX1_onward_14 : decode cX1_onward 14 = .ok (.iload_n 2, 1) := by decide +kernel
theorem dX1_onward_15 : decode cX1_onward 15 = .ok (.bipush 42, 2) := by decide +kernel
theorem dX1_onward_17 : decode cX1_onward 17 = .ok (.if_icmp .lt 5, 3) := by decide +kernel
theorem dX1_onward_20 : decode cX1_onward 20 = .ok (.iconst (-1), 1) := by decide +kernel
theorem dX1_onward_21 : decode cX1_onward 21 = .ok (.ireturn, 1) := by decide +kernel
theorem dX1_onward_22 : decode cX1_onward 22 = .ok (.aload_n 0, 1) := by decide +kernel
theorem dX1_onward_23 : decode cX1_onward 23 = .ok (.getfield 24, 3) := by decide +kernel
theorem dX1_onward_26 : decode cX1_onward 26 = .ok (.iload_n 2, 1) := by decide +kernel
theorem dX1_onward_27 : decode cX1_onward 27 = .ok (.baload, 1) := by decide +kernel
theorem dX1_onward_28 : decode cX1_onward 28 = .ok (.ifCond .ne 8, 3) := by decide +kernel
theorem dX1_onward_31 : decode cX1_onward 31 = .ok (.aload_n 0, 1) := by decide +kernel
theorem dX1_onward_32 : decode cX1_onward 32 = .ok (.iload_n 2, 1) := by decide +kernel
theorem dX1_onward_33 : decode cX1_onward 33 = .ok (.invokevirtual 69, 3) := by decide +kernel
theorem dX1_onward_36 : decode cX1_onward 36 = .ok (.iload_n 2, 1) := by decide +kernel
theorem dX1_onward_37 : decode cX1_onward 37 = .ok (.bipush 42, 2) := by decide +kernel
theorem dX1_onward_39 : decode cX1_onward 39 = .ok (.imul, 1) := by decide +kernel
theorem dX1_onward_40 : decode cX1_onward 40 = .ok (.istore_n 3, 1) := by decide +kernel
theorem dX1_onward_41 : decode cX1_onward 41 = .ok (.aload_n 0, 1) := by decide +kernel
theorem dX1_onward_42 : decode cX1_onward 42 = .ok (.getfield 21, 3) := by decide +kernel
theorem dX1_onward_45 : decode cX1_onward 45 = .ok (.iload_n 3, 1) := by decide +kernel
theorem dX1_onward_46 : decode cX1_onward 46 = .ok (.iload_n 1, 1) := by decide +kernel
theorem dX1_onward_47 : decode cX1_onward 47 = .ok (.iadd, 1) := by decide +kernel
theorem dX1_onward_48 : decode cX1_onward 48 = .ok (.iaload, 1) := by decide +kernel
theorem dX1_onward_49 : decode cX1_onward 49 = .ok (.istore 4, 2) := by decide +kernel
theorem dX1_onward_51 : decode cX1_onward 51 = .ok (.iconst 0, 1) := by decide +kernel
theorem dX1_onward_52 : decode cX1_onward 52 = .ok (.istore 5, 2) := by decide +kernel
theorem dX1_onward_54 : decode cX1_onward 54 = .ok (.iload 5, 2) := by decide +kernel
theorem dX1_onward_56 : decode cX1_onward 56 = .ok (.iconst 4, 1) := by decide +kernel
theorem dX1_onward_57 : decode cX1_onward 57 = .ok (.if_icmp .ge 58, 3) := by decide +kernel
theorem dX1_onward_60 : decode cX1_onward 60 = .ok (.iload 4, 2) := by decide +kernel
theorem dX1_onward_62 : decode cX1_onward 62 = .ok (.ifCond .le 53, 3) := by decide +kernel
theorem dX1_onward_65 : decode cX1_onward 65 = .ok (.aload_n 0, 1) := by decide +kernel
theorem dX1_onward_66 : decode cX1_onward 66 = .ok (.getfield 18, 3) := by decide +kernel
theorem dX1_onward_69 : decode cX1_onward 69 = .ok (.iload_n 1, 1) := by decide +kernel
theorem dX1_onward_70 : decode cX1_onward 70 = .ok (.iconst 4, 1) := by decide +kernel
theorem dX1_onward_71 : decode cX1_onward 71 = .ok (.imul, 1) := by decide +kernel
theorem dX1_onward_72 : decode cX1_onward 72 = .ok (.iload 5, 2) := by decide +kernel
theorem dX1_onward_74 : decode cX1_onward 74 = .ok (.iadd, 1) := by decide +kernel
theorem dX1_onward_75 : decode cX1_onward 75 = .ok (.iaload, 1) := by decide +kernel
theorem dX1_onward_76 : decode cX1_onward 76 = .ok (.istore 6, 2) := by decide +kernel
theorem dX1_onward_78 : decode cX1_onward 78 = .ok (.iload 6, 2) := by decide +kernel
theorem dX1_onward_80 : decode cX1_onward 80 = .ok (.ifCond .lt 29, 3) := by decide +kernel
theorem dX1_onward_83 : decode cX1_onward 83 = .ok (.iload 6, 2) := by decide +kernel
theorem dX1_onward_85 : decode cX1_onward 85 = .ok (.bipush 42, 2) := by decide +kernel
theorem dX1_onward_87 : decode cX1_onward 87 = .ok (.if_icmp .ge 22, 3) := by decide +kernel
theorem dX1_onward_90 : decode cX1_onward 90 = .ok (.aload_n 0, 1) := by decide +kernel
theorem dX1_onward_91 : decode cX1_onward 91 = .ok (.getfield 21, 3) := by decide +kernel
theorem dX1_onward_94 : decode cX1_onward 94 = .ok (.iload_n 3, 1) := by decide +kernel
theorem dX1_onward_95 : decode cX1_onward 95 = .ok (.iload 6, 2) := by decide +kernel
theorem dX1_onward_97 : decode cX1_onward 97 = .ok (.iadd, 1) := by decide +kernel
theorem dX1_onward_98 : decode cX1_onward 98 = .ok (.iaload, 1) := by decide +kernel
theorem dX1_onward_99 : decode cX1_onward 99 = .ok (.iload 4, 2) := by decide +kernel
theorem dX1_onward_101 : decode cX1_onward 101 = .ok (.iconst 1, 1) := by decide +kernel
theorem dX1_onward_102 : decode cX1_onward 102 = .ok (.isub, 1) := by decide +kernel
theorem dX1_onward_103 : decode cX1_onward 103 = .ok (.if_icmp .ne 6, 3) := by decide +kernel
theorem dX1_onward_106 : decode cX1_onward 106 = .ok (.iload 6, 2) := by decide +kernel
theorem dX1_onward_108 : decode cX1_onward 108 = .ok (.ireturn, 1) := by decide +kernel
theorem dX1_onward_109 : decode cX1_onward 109 = .ok (.iinc 5 1, 3) := by decide +kernel
theorem dX1_onward_112 : decode cX1_onward 112 = .ok (.goto (-58), 3) := by decide +kernel
theorem dX1_onward_115 : decode cX1_onward 115 = .ok (.iconst (-1), 1) := by decide +kernel
theorem dX1_onward_116 : decode cX1_onward 116 = .ok (.ireturn, 1) := by decide +kernel
theorem dX1_findWays_0 : decode cX1_findWays 0 = .ok (.iload_n 1, 1) := by decide +kernel
theorem dX1_findWays_1 : decode cX1_findWays 1 = .ok (.bipush 42, 2) := by decide +kernel
theorem dX1_findWays_3 : decode cX1_findWays 3 = .ok (.imul, 1) := by decide +kernel
theorem dX1_findWays_4 : decode cX1_findWays 4 = .ok (.istore_n 2, 1) := by decide +kernel
theorem dX1_findWays_5 : decode cX1_findWays 5 = .ok (.iconst 0, 1) := by decide +kernel
theorem dX1_findWays_6 : decode cX1_findWays 6 = .ok (.istore_n 3, 1) := by decide +kernel
theorem dX1_findWays_7 : decode cX1_findWays 7 = .ok (.iload_n 3, 1) := by decide +kernel
theorem dX1_findWays_8 : decode cX1_findWays 8 = .ok (.aload_n 0, 1) := by decide +kernel
theorem dX1_findWays_9 : decode cX1_findWays 9 = .ok (.getfield 48, 3) := by decide +kernel
theorem dX1_findWays_12 : decode cX1_findWays 12 = .ok (.if_icmp .ge 18, 3) := by decide +kernel
theorem dX1_findWays_15 : decode cX1_findWays 15 = .ok (.aload_n 0, 1) := by decide +kernel
theorem dX1_findWays_16 : decode cX1_findWays 16 = .ok (.getfield 21, 3) := by decide +kernel
theorem dX1_findWays_19 : decode cX1_findWays 19 = .ok (.iload_n 2, 1) := by decide +kernel
theorem dX1_findWays_20 : decode cX1_findWays 20 = .ok (.iload_n 3, 1) := by decide +kernel
theorem dX1_findWays_21 : decode cX1_findWays 21 = .ok (.iadd, 1) := by decide +kernel
theorem dX1_findWays_22 : decode cX1_findWays 22 = .ok (.iconst (-1), 1) := by decide +kernel
theorem dX1_findWays_23 : decode cX1_findWays 23 = .ok (.iastore, 1) := by decide +kernel
theorem dX1_findWays_24 : decode cX1_findWays 24 = .ok (.iinc 3 1, 3) := by decide +kernel
theorem dX1_findWays_27 : decode cX1_findWays 27 = .ok (.goto (-20), 3) := by decide +kernel
theorem dX1_findWays_30 : decode cX1_findWays 30 = .ok (.aload_n 0, 1) := by decide +kernel
theorem dX1_findWays_31 : decode cX1_findWays 31 = .ok (.getfield 21, 3) := by decide +kernel
theorem dX1_findWays_34 : decode cX1_findWays 34 = .ok (.iload_n 2, 1) := by decide +kernel
theorem dX1_findWays_35 : decode cX1_findWays 35 = .ok (.iload_n 1, 1) := by decide +kernel
theorem dX1_findWays_36 : decode cX1_findWays 36 = .ok (.iadd, 1) := by decide +kernel
theorem dX1_findWays_37 : decode cX1_findWays 37 = .ok (.iconst 0, 1) := by decide +kernel
theorem dX1_findWays_38 : decode cX1_findWays 38 = .ok (.iastore, 1) := by decide +kernel
theorem dX1_findWays_39 : decode cX1_findWays 39 = .ok (.aload_n 0, 1) := by decide +kernel
theorem dX1_findWays_40 : decode cX1_findWays 40 = .ok (.getfield 24, 3) := by decide +kernel
theorem dX1_findWays_43 : decode cX1_findWays 43 = .ok (.iload_n 1, 1) := by decide +kernel
theorem dX1_findWays_44 : decode cX1_findWays 44 = .ok (.iconst 1, 1) := by decide +kernel
theorem dX1_findWays_45 : decode cX1_findWays 45 = .ok (.bastore, 1) := by decide +kernel
theorem dX1_findWays_46 : decode cX1_findWays 46 = .ok (.aload_n 0, 1) := by decide +kernel
theorem dX1_findWays_47 : decode cX1_findWays 47 = .ok (.getfield 28, 3) := by decide +kernel
theorem dX1_findWays_50 : decode cX1_findWays 50 = .ok (.iconst 0, 1) := by decide +kernel
theorem dX1_findWays_51 : decode cX1_findWays 51 = .ok (.iload_n 1, 1) := by decide +kernel
theorem dX1_findWays_52 : decode cX1_findWays 52 = .ok (.iastore, 1) := by decide +kernel
theorem dX1_findWays_53 : decode cX1_findWays 53 = .ok (.aload_n 0, 1) := by decide +kernel
theorem dX1_findWays_54 : decode cX1_findWays 54 = .ok (.getfield 9, 3) := by decide +kernel
theorem dX1_findWays_57 : decode cX1_findWays 57 = .ok (.iload_n 1, 1) := by decide +kernel
theorem dX1_findWays_58 : decode cX1_findWays 58 = .ok (.iaload, 1) := by decide +kernel
theorem dX1_findWays_59 : decode cX1_findWays 59 = .ok (.iconst 1, 1) := by decide +kernel
theorem dX1_findWays_60 : decode cX1_findWays 60 = .ok (.if_icmp .ne 7, 3) := by decide +kernel
theorem dX1_findWays_63 : decode cX1_findWays 63 = .ok (.iconst 0, 1) := by decide +kernel
theorem dX1_findWays_64 : decode cX1_findWays 64 = .ok (.goto 4, 3) := by decide +kernel
theorem dX1_findWays_67 : decode cX1_findWays 67 = .ok (.iconst 1, 1) := by decide +kernel
theorem dX1_findWays_68 : decode cX1_findWays 68 = .ok (.istore_n 3, 1) := by decide +kernel
theorem dX1_findWays_69 : decode cX1_findWays 69 = .ok (.iconst 0, 1) := by decide +kernel
theorem dX1_findWays_70 : decode cX1_findWays 70 = .ok (.istore 4, 2) := by decide +kernel
theorem dX1_findWays_72 : decode cX1_findWays 72 = .ok (.iload 4, 2) := by decide +kernel
theorem dX1_findWays_74 : decode cX1_findWays 74 = .ok (.iload_n 3, 1) := by decide +kernel
theorem dX1_findWays_75 : decode cX1_findWays 75 = .ok (.if_icmp .ge 139, 3) := by decide +kernel
theorem dX1_findWays_78 : decode cX1_findWays 78 = .ok (.iload 4, 2) := by decide +kernel
theorem dX1_findWays_80 : decode cX1_findWays 80 = .ok (.bipush 42, 2) := by decide +kernel
theorem dX1_findWays_82 : decode cX1_findWays 82 = .ok (.if_icmp .ge 132, 3) := by decide +kernel
theorem dX1_findWays_85 : decode cX1_findWays 85 = .ok (.aload_n 0, 1) := by decide +kernel
theorem dX1_findWays_86 : decode cX1_findWays 86 = .ok (.getfield 28, 3) := by decide +kernel
theorem dX1_findWays_89 : decode cX1_findWays 89 = .ok (.iload 4, 2) := by decide +kernel
theorem dX1_findWays_91 : decode cX1_findWays 91 = .ok (.iaload, 1) := by decide +kernel
theorem dX1_findWays_92 : decode cX1_findWays 92 = .ok (.istore 5, 2) := by decide +kernel
theorem dX1_findWays_94 : decode cX1_findWays 94 = .ok (.iconst 0, 1) := by decide +kernel
theorem dX1_findWays_95 : decode cX1_findWays 95 = .ok (.istore 6, 2) := by decide +kernel
theorem dX1_findWays_97 : decode cX1_findWays 97 = .ok (.iload 6, 2) := by decide +kernel
theorem dX1_findWays_99 : decode cX1_findWays 99 = .ok (.iconst 4, 1) := by decide +kernel
theorem dX1_findWays_100 : decode cX1_findWays 100 = .ok (.if_icmp .ge 108, 3) := by decide +kernel
theorem dX1_findWays_103 : decode cX1_findWays 103 = .ok (.aload_n 0, 1) := by decide +kernel
theorem dX1_findWays_104 : decode cX1_findWays 104 = .ok (.getfield 18, 3) := by decide +kernel
theorem dX1_findWays_107 : decode cX1_findWays 107 = .ok (.iload 5, 2) := by decide +kernel
theorem dX1_findWays_109 : decode cX1_findWays 109 = .ok (.iconst 4, 1) := by decide +kernel
theorem dX1_findWays_110 : decode cX1_findWays 110 = .ok (.imul, 1) := by decide +kernel
theorem dX1_findWays_111 : decode cX1_findWays 111 = .ok (.iload 6, 2) := by decide +kernel
theorem dX1_findWays_113 : decode cX1_findWays 113 = .ok (.iadd, 1) := by decide +kernel
theorem dX1_findWays_114 : decode cX1_findWays 114 = .ok (.iaload, 1) := by decide +kernel
theorem dX1_findWays_115 : decode cX1_findWays 115 = .ok (.istore 7, 2) := by decide +kernel
theorem dX1_findWays_117 : decode cX1_findWays 117 = .ok (.iload 7, 2) := by decide +kernel
theorem dX1_findWays_119 : decode cX1_findWays 119 = .ok (.ifCond .lt 25, 3) := by decide +kernel
theorem dX1_findWays_122 : decode cX1_findWays 122 = .ok (.iload 7, 2) := by decide +kernel
theorem dX1_findWays_124 : decode cX1_findWays 124 = .ok (.bipush 42, 2) := by decide +kernel
theorem dX1_findWays_126 : decode cX1_findWays 126 = .ok (.if_icmp .ge 18, 3) := by decide +kernel
theorem dX1_findWays_129 : decode cX1_findWays 129 = .ok (.aload_n 0, 1) := by decide +kernel
theorem dX1_findWays_130 : decode cX1_findWays 130 = .ok (.getfield 9, 3) := by decide +kernel
theorem dX1_findWays_133 : decode cX1_findWays 133 = .ok (.iload 7, 2) := by decide +kernel
theorem dX1_findWays_135 : decode cX1_findWays 135 = .ok (.iaload, 1) := by decide +kernel
theorem dX1_findWays_136 : decode cX1_findWays 136 = .ok (.iconst 1, 1) := by decide +kernel
theorem dX1_findWays_137 : decode cX1_findWays 137 = .ok (.if_icmp .eq 7, 3) := by decide +kernel
theorem dX1_findWays_140 : decode cX1_findWays 140 = .ok (.iconst 1, 1) := by decide +kernel
theorem dX1_findWays_141 : decode cX1_findWays 141 = .ok (.goto 4, 3) := by decide +kernel
theorem dX1_findWays_144 : decode cX1_findWays 144 = .ok (.iconst 0, 1) := by decide +kernel
theorem dX1_findWays_145 : decode cX1_findWays 145 = .ok (.istore 8, 2) := by decide +kernel
theorem dX1_findWays_147 : decode cX1_findWays 147 = .ok (.iload 8, 2) := by decide +kernel
theorem dX1_findWays_149 : decode cX1_findWays 149 = .ok (.ifCond .eq 53, 3) := by decide +kernel
theorem dX1_findWays_152 : decode cX1_findWays 152 = .ok (.aload_n 0, 1) := by decide +kernel
theorem dX1_findWays_153 : decode cX1_findWays 153 = .ok (.getfield 21, 3) := by decide +kernel
theorem dX1_findWays_156 : decode cX1_findWays 156 = .ok (.iload_n 2, 1) := by decide +kernel
theorem dX1_findWays_157 : decode cX1_findWays 157 = .ok (.iload 7, 2) := by decide +kernel
theorem dX1_findWays_159 : decode cX1_findWays 159 = .ok (.iadd, 1) := by decide +kernel
theorem dX1_findWays_160 : decode cX1_findWays 160 = .ok (.iaload, 1) := by decide +kernel
theorem dX1_findWays_161 : decode cX1_findWays 161 = .ok (.iconst (-1), 1) := by decide +kernel
theorem dX1_findWays_162 : decode cX1_findWays 162 = .ok (.if_icmp .ne 40, 3) := by decide +kernel
theorem dX1_findWays_165 : decode cX1_findWays 165 = .ok (.iload_n 3, 1) := by decide +kernel
theorem dX1_findWays_166 : decode cX1_findWays 166 = .ok (.bipush 42, 2) := by decide +kernel
theorem dX1_findWays_168 : decode cX1_findWays 168 = .ok (.if_icmp .ge 34, 3) := by decide +kernel
theorem dX1_findWays_171 : decode cX1_findWays 171 = .ok (.aload_n 0, 1) := by decide +kernel
theorem dX1_findWays_172 : decode cX1_findWays 172 = .ok (.getfield 21, 3) := by decide +kernel
theorem dX1_findWays_175 : decode cX1_findWays 175 = .ok (.iload_n 2, 1) := by decide +kernel
theorem dX1_findWays_176 : decode cX1_findWays 176 = .ok (.iload 7, 2) := by decide +kernel
theorem dX1_findWays_178 : decode cX1_findWays 178 = .ok (.iadd, 1) := by decide +kernel
theorem dX1_findWays_179 : decode cX1_findWays 179 = .ok (.aload_n 0, 1) := by decide +kernel
theorem dX1_findWays_180 : decode cX1_findWays 180 = .ok (.getfield 21, 3) := by decide +kernel
theorem dX1_findWays_183 : decode cX1_findWays 183 = .ok (.iload_n 2, 1) := by decide +kernel
theorem dX1_findWays_184 : decode cX1_findWays 184 = .ok (.iload 5, 2) := by decide +kernel
theorem dX1_findWays_186 : decode cX1_findWays 186 = .ok (.iadd, 1) := by decide +kernel
theorem dX1_findWays_187 : decode cX1_findWays 187 = .ok (.iaload, 1) := by decide +kernel
theorem dX1_findWays_188 : decode cX1_findWays 188 = .ok (.iconst 1, 1) := by decide +kernel
theorem dX1_findWays_189 : decode cX1_findWays 189 = .ok (.iadd, 1) := by decide +kernel
theorem dX1_findWays_190 : decode cX1_findWays 190 = .ok (.iastore, 1) := by decide +kernel
theorem dX1_findWays_191 : decode cX1_findWays 191 = .ok (.aload_n 0, 1) := by decide +kernel
theorem dX1_findWays_192 : decode cX1_findWays 192 = .ok (.getfield 28, 3) := by decide +kernel
theorem dX1_findWays_195 : decode cX1_findWays 195 = .ok (.iload_n 3, 1) := by decide +kernel
theorem dX1_findWays_196 : decode cX1_findWays 196 = .ok (.iload 7, 2) := by decide +kernel
theorem dX1_findWays_198 : decode cX1_findWays 198 = .ok (.iastore, 1) := by decide +kernel
theorem dX1_findWays_199 : decode cX1_findWays 199 = .ok (.iinc 3 1, 3) := by decide +kernel
theorem dX1_findWays_202 : decode cX1_findWays 202 = .ok (.iinc 6 1, 3) := by decide +kernel
theorem dX1_findWays_205 : decode cX1_findWays 205 = .ok (.goto (-108), 3) := by decide +kernel
theorem dX1_findWays_208 : decode cX1_findWays 208 = .ok (.iinc 4 1, 3) := by decide +kernel
theorem dX1_findWays_211 : decode cX1_findWays 211 = .ok (.goto (-139), 3) := by decide +kernel
theorem dX1_findWays_214 : decode cX1_findWays 214 = .ok (.return_, 1) := by decide +kernel
theorem dX2_init_0 : decode cX2_init 0 = .ok (.aload_n 0, 1) := by decide +kernel
theorem dX2_init_1 : decode cX2_init 1 = .ok (.invokespecial 3, 3) := by decide +kernel
theorem dX2_init_4 : decode cX2_init 4 = .ok (.aload_n 0, 1) := by decide +kernel
theorem dX2_init_5 : decode cX2_init 5 = .ok (.bipush 42, 2) := by decide +kernel
theorem dX2_init_7 : decode cX2_init 7 = .ok (.newarray .int, 2) := by decide +kernel
theorem dX2_init_9 : decode cX2_init 9 = .ok (.putfield 9, 3) := by decide +kernel
theorem dX2_init_12 : decode cX2_init 12 = .ok (.aload_n 0, 1) := by decide +kernel
theorem dX2_init_13 : decode cX2_init 13 = .ok (.new 15, 3) := by decide +kernel
theorem dX2_init_16 : decode cX2_init 16 = .ok (.dup, 1) := by decide +kernel
theorem dX2_init_17 : decode cX2_init 17 = .ok (.aload_n 1, 1) := by decide +kernel
theorem dX2_init_18 : decode cX2_init 18 = .ok (.aload_n 2, 1) := by decide +kernel
theorem dX2_init_19 : decode cX2_init 19 = .ok (.invokespecial 17, 3) := by decide +kernel
theorem dX2_init_22 : decode cX2_init 22 = .ok (.putfield 20, 3) := by decide +kernel
theorem dX2_init_25 : decode cX2_init 25 = .ok (.return_, 1) := by decide +kernel
theorem dX2_take_0 : decode cX2_take 0 = .ok (.aload_n 0, 1) := by decide +kernel
theorem dX2_take_1 : decode cX2_take 1 = .ok (.iconst 1, 1) := by decide +kernel
theorem dX2_take_2 : decode cX2_take 2 = .ok (.putfield 24, 3) := by decide +kernel
theorem dX2_take_5 : decode cX2_take 5 = .ok (.aload_n 0, 1) := by decide +kernel
theorem dX2_take_6 : decode cX2_take 6 = .ok (.iload_n 3, 1) := by decide +kernel
theorem dX2_take_7 : decode cX2_take 7 = .ok (.putfield 28, 3) := by decide +kernel
theorem dX2_take_10 : decode cX2_take 10 = .ok (.aload_n 0, 1) := by decide +kernel
theorem dX2_take_11 : decode cX2_take 11 = .ok (.getfield 20, 3) := by decide +kernel
theorem dX2_take_14 : decode cX2_take 14 = .ok (.aload_n 1, 1) := by decide +kernel
theorem dX2_take_15 : decode cX2_take 15 = .ok (.invokevirtual 32, 3) := by decide +kernel
theorem dX2_take_18 : decode cX2_take 18 = .ok (.aload_n 2, 1) := by decide +kernel
theorem dX2_take_19 : decode cX2_take 19 = .ok (.aload_n 0, 1) := by decide +kernel
theorem dX2_take_20 : decode cX2_take 20 = .ok (.getfield 9, 3) := by decide +kernel
theorem dX2_take_23 : decode cX2_take 23 = .ok (.invokevirtual 36, 3) := by decide +kernel
theorem dX2_take_26 : decode cX2_take 26 = .ok (.return_, 1) := by decide +kernel
theorem dX2_give_0 : decode cX2_give 0 = .ok (.aload_n 1, 1) := by decide +kernel
theorem dX2_give_1 : decode cX2_give 1 = .ok (.aload_n 0, 1) := by decide +kernel
theorem dX2_give_2 : decode cX2_give 2 = .ok (.getfield 20, 3) := by decide +kernel
theorem dX2_give_5 : decode cX2_give 5 = .ok (.invokevirtual 32, 3) := by decide +kernel
theorem dX2_give_8 : decode cX2_give 8 = .ok (.aload_n 2, 1) := by decide +kernel
theorem dX2_give_9 : decode cX2_give 9 = .ok (.aload_n 0, 1) := by decide +kernel
theorem dX2_give_10 : decode cX2_give 10 = .ok (.getfield 9, 3) := by decide +kernel
theorem dX2_give_13 : decode cX2_give 13 = .ok (.invokevirtual 42, 3) := by decide +kernel
theorem dX2_give_16 : decode cX2_give 16 = .ok (.return_, 1) := by decide +kernel
theorem dX3_init_0 : decode cX3_init 0 = .ok (.aload_n 0, 1) := by decide +kernel
theorem dX3_init_1 : decode cX3_init 1 = .ok (.invokespecial 3, 3) := by decide +kernel
theorem dX3_init_4 : decode cX3_init 4 = .ok (.aload_n 0, 1) := by decide +kernel
theorem dX3_init_5 : decode cX3_init 5 = .ok (.sipush 1024, 3) := by decide +kernel
theorem dX3_init_8 : decode cX3_init 8 = .ok (.newarray .long, 2) := by decide +kernel
theorem dX3_init_10 : decode cX3_init 10 = .ok (.putfield 11, 3) := by decide +kernel
theorem dX3_init_13 : decode cX3_init 13 = .ok (.aload_n 0, 1) := by decide +kernel
theorem dX3_init_14 : decode cX3_init 14 = .ok (.sipush 1024, 3) := by decide +kernel
theorem dX3_init_17 : decode cX3_init 17 = .ok (.newarray .long, 2) := by decide +kernel
theorem dX3_init_19 : decode cX3_init 19 = .ok (.putfield 15, 3) := by decide +kernel
theorem dX3_init_22 : decode cX3_init 22 = .ok (.aload_n 0, 1) := by decide +kernel
theorem dX3_init_23 : decode cX3_init 23 = .ok (.sipush 1024, 3) := by decide +kernel
theorem dX3_init_26 : decode cX3_init 26 = .ok (.newarray .int, 2) := by decide +kernel
theorem dX3_init_28 : decode cX3_init 28 = .ok (.putfield 18, 3) := by decide +kernel
theorem dX3_init_31 : decode cX3_init 31 = .ok (.return_, 1) := by decide +kernel
theorem dX3_clear_0 : decode cX3_clear 0 = .ok (.iconst 0, 1) := by decide +kernel
theorem dX3_clear_1 : decode cX3_clear 1 = .ok (.istore_n 1, 1) := by decide +kernel
theorem dX3_clear_2 : decode cX3_clear 2 = .ok (.iload_n 1, 1) := by decide +kernel
theorem dX3_clear_3 : decode cX3_clear 3 = .ok (.sipush 1024, 3) := by decide +kernel
theorem dX3_clear_6 : decode cX3_clear 6 = .ok (.if_icmp .ge 16, 3) := by decide +kernel
theorem dX3_clear_9 : decode cX3_clear 9 = .ok (.aload_n 0, 1) := by decide +kernel
theorem dX3_clear_10 : decode cX3_clear 10 = .ok (.getfield 18, 3) := by decide +kernel
theorem dX3_clear_13 : decode cX3_clear 13 = .ok (.iload_n 1, 1) := by decide +kernel
theorem dX3_clear_14 : decode cX3_clear 14 = .ok (.iconst (-1), 1) := by decide +kernel
theorem dX3_clear_15 : decode cX3_clear 15 = .ok (.iastore, 1) := by decide +kernel
theorem dX3_clear_16 : decode cX3_clear 16 = .ok (.iinc 1 1, 3) := by decide +kernel
theorem dX3_clear_19 : decode cX3_clear 19 = .ok (.goto (-17), 3) := by decide +kernel
theorem dX3_clear_22 : decode cX3_clear 22 = .ok (.return_, 1) := by decide +kernel
theorem dX3_slot_0 : decode cX3_slot 0 = .ok (.lload_n 0, 1) := by decide +kernel
theorem dX3_slot_1 : decode cX3_slot 1 = .ok (.ldc2_w 22, 3) := by decide +kernel
theorem dX3_slot_4 : decode cX3_slot 4 = .ok (.lmul, 1) := by decide +kernel
theorem dX3_slot_5 : decode cX3_slot 5 = .ok (.lload_n 2, 1) := by decide +kernel
theorem dX3_slot_6 : decode cX3_slot 6 = .ok (.ladd, 1) := by decide +kernel
theorem dX3_slot_7 : decode cX3_slot 7 = .ok (.ldc2_w 24, 3) := by decide +kernel
theorem dX3_slot_10 : decode cX3_slot 10 = .ok (.lmul, 1) := by decide +kernel
theorem dX3_slot_11 : decode cX3_slot 11 = .ok (.lstore 4, 2) := by decide +kernel
theorem dX3_slot_13 : decode cX3_slot 13 = .ok (.lload 4, 2) := by decide +kernel
theorem dX3_slot_15 : decode cX3_slot 15 = .ok (.bipush 54, 2) := by decide +kernel
theorem dX3_slot_17 : decode cX3_slot 17 = .ok (.lushr, 1) := by decide +kernel
theorem dX3_slot_18 : decode cX3_slot 18 = .ok (.l2i, 1) := by decide +kernel
theorem dX3_slot_19 : decode cX3_slot 19 = .ok (.sipush 1023, 3) := by decide +kernel
theorem dX3_slot_22 : decode cX3_slot 22 = .ok (.iand, 1) := by decide +kernel
theorem dX3_slot_23 : decode cX3_slot 23 = .ok (.ireturn, 1) := by decide +kernel
theorem dX3_value_0 : decode cX3_value 0 = .ok (.lload_n 1, 1) := by decide +kernel
theorem dX3_value_1 : decode cX3_value 1 = .ok (.lload_n 3, 1) := by decide +kernel
theorem dX3_value_2 : decode cX3_value 2 = .ok (.invokestatic 26, 3) := by decide +kernel
theorem dX3_value_5 : decode cX3_value 5 = .ok (.istore 5, 2) := by decide +kernel
theorem dX3_value_7 : decode cX3_value 7 = .ok (.aload_n 0, 1) := by decide +kernel
theorem dX3_value_8 : decode cX3_value 8 = .ok (.getfield 11, 3) := by decide +kernel
theorem dX3_value_11 : decode cX3_value 11 = .ok (.iload 5, 2) := by decide +kernel
theorem dX3_value_13 : decode cX3_value 13 = .ok (.laload, 1) := by decide +kernel
theorem dX3_value_14 : decode cX3_value 14 = .ok (.lload_n 1, 1) := by decide +kernel
theorem dX3_value_15 : decode cX3_value 15 = .ok (.lcmp, 1) := by decide +kernel
theorem dX3_value_16 : decode cX3_value 16 = .ok (.ifCond .ne 25, 3) := by decide +kernel
theorem dX3_value_19 : decode cX3_value 19 = .ok (.aload_n 0, 1) := by decide +kernel
theorem dX3_value_20 : decode cX3_value 20 = .ok (.getfield 15, 3) := by decide +kernel
theorem dX3_value_23 : decode cX3_value 23 = .ok (.iload 5, 2) := by decide +kernel
theorem dX3_value_25 : decode cX3_value 25 = .ok (.laload, 1) := by decide +kernel
theorem dX3_value_26 : decode cX3_value 26 = .ok (.lload_n 3, 1) := by decide +kernel
theorem dX3_value_27 : decode cX3_value 27 = .ok (.lcmp, 1) := by decide +kernel
theorem dX3_value_28 : decode cX3_value 28 = .ok (.ifCond .ne 13, 3) := by decide +kernel
theorem dX3_value_31 : decode cX3_value 31 = .ok (.aload_n 0, 1) := by decide +kernel
theorem dX3_value_32 : decode cX3_value 32 = .ok (.getfield 18, 3) := by decide +kernel
theorem dX3_value_35 : decode cX3_value 35 = .ok (.iload 5, 2) := by decide +kernel
theorem dX3_value_37 : decode cX3_value 37 = .ok (.iaload, 1) := by decide +kernel
theorem dX3_value_38 : decode cX3_value 38 = .ok (.goto 4, 3) := by decide +kernel
theorem dX3_value_41 : decode cX3_value 41 = .ok (.iconst (-1), 1) := by decide +kernel
theorem dX3_value_42 : decode cX3_value 42 = .ok (.ireturn, 1) := by decide +kernel
theorem dX3_put_0 : decode cX3_put 0 = .ok (.lload_n 1, 1) := by decide +kernel
theorem dX3_put_1 : decode cX3_put 1 = .ok (.lload_n 3, 1) := by decide +kernel
theorem dX3_put_2 : decode cX3_put 2 = .ok (.invokestatic 26, 3) := by decide +kernel
theorem dX3_put_5 : decode cX3_put 5 = .ok (.istore 6, 2) := by decide +kernel
theorem dX3_put_7 : decode cX3_put 7 = .ok (.aload_n 0, 1) := by decide +kernel
theorem dX3_put_8 : decode cX3_put 8 = .ok (.getfield 11, 3) := by decide +kernel
theorem dX3_put_11 : decode cX3_put 11 = .ok (.iload 6, 2) := by decide +kernel
theorem dX3_put_13 : decode cX3_put 13 = .ok (.lload_n 1, 1) := by decide +kernel
theorem dX3_put_14 : decode cX3_put 14 = .ok (.lastore, 1) := by decide +kernel
theorem dX3_put_15 : decode cX3_put 15 = .ok (.aload_n 0, 1) := by decide +kernel
theorem dX3_put_16 : decode cX3_put 16 = .ok (.getfield 15, 3) := by decide +kernel
theorem dX3_put_19 : decode cX3_put 19 = .ok (.iload 6, 2) := by decide +kernel
theorem dX3_put_21 : decode cX3_put 21 = .ok (.lload_n 3, 1) := by decide +kernel
theorem dX3_put_22 : decode cX3_put 22 = .ok (.lastore, 1) := by decide +kernel
theorem dX3_put_23 : decode cX3_put 23 = .ok (.aload_n 0, 1) := by decide +kernel
theorem dX3_put_24 : decode cX3_put 24 = .ok (.getfield 18, 3) := by decide +kernel
theorem dX3_put_27 : decode cX3_put 27 = .ok (.iload 6, 2) := by decide +kernel
theorem dX3_put_29 : decode cX3_put 29 = .ok (.iload 5, 2) := by decide +kernel
theorem dX3_put_31 : decode cX3_put 31 = .ok (.iastore, 1) := by decide +kernel
theorem dX3_put_32 : decode cX3_put 32 = .ok (.return_, 1) := by decide +kernel
theorem dX4_init_0 : decode cX4_init 0 = .ok (.aload_n 0, 1) := by decide +kernel
theorem dX4_init_1 : decode cX4_init 1 = .ok (.invokespecial 3, 3) := by decide +kernel
theorem dX4_init_4 : decode cX4_init 4 = .ok (.aload_n 0, 1) := by decide +kernel
theorem dX4_init_5 : decode cX4_init 5 = .ok (.bipush 30, 2) := by decide +kernel
theorem dX4_init_7 : decode cX4_init 7 = .ok (.newarray .int, 2) := by decide +kernel
theorem dX4_init_9 : decode cX4_init 9 = .ok (.putfield 9, 3) := by decide +kernel
theorem dX4_init_12 : decode cX4_init 12 = .ok (.aload_n 0, 1) := by decide +kernel
theorem dX4_init_13 : decode cX4_init 13 = .ok (.bipush 30, 2) := by decide +kernel
theorem dX4_init_15 : decode cX4_init 15 = .ok (.newarray .int, 2) := by decide +kernel
theorem dX4_init_17 : decode cX4_init 17 = .ok (.putfield 15, 3) := by decide +kernel
theorem dX4_init_20 : decode cX4_init 20 = .ok (.return_, 1) := by decide +kernel
theorem dX4_add_0 : decode cX4_add 0 = .ok (.aload_n 0, 1) := by decide +kernel
theorem dX4_add_1 : decode cX4_add 1 = .ok (.getfield 18, 3) := by decide +kernel
theorem dX4_add_4 : decode cX4_add 4 = .ok (.bipush 30, 2) := by decide +kernel
theorem dX4_add_6 : decode cX4_add 6 = .ok (.if_icmp .ge 33, 3) := by decide +kernel
theorem dX4_add_9 : decode cX4_add 9 = .ok (.aload_n 0, 1) := by decide +kernel
theorem dX4_add_10 : decode cX4_add 10 = .ok (.getfield 9, 3) := by decide +kernel
theorem dX4_add_13 : decode cX4_add 13 = .ok (.aload_n 0, 1) := by decide +kernel
theorem dX4_add_14 : decode cX4_add 14 = .ok (.getfield 18, 3) := by decide +kernel
theorem dX4_add_17 : decode cX4_add 17 = .ok (.iload_n 1, 1) := by decide +kernel
theorem dX4_add_18 : decode cX4_add 18 = .ok (.iastore, 1) := by decide +kernel
theorem dX4_add_19 : decode cX4_add 19 = .ok (.aload_n 0, 1) := by decide +kernel
theorem dX4_add_20 : decode cX4_add 20 = .ok (.getfield 15, 3) := by decide +kernel
theorem dX4_add_23 : decode cX4_add 23 = .ok (.aload_n 0, 1) := by decide +kernel
theorem dX4_add_24 : decode cX4_add 24 = .ok (.getfield 18, 3) := by decide +kernel
theorem dX4_add_27 : decode cX4_add 27 = .ok (.iload_n 2, 1) := by decide +kernel
theorem dX4_add_28 : decode cX4_add 28 = .ok (.iastore, 1) := by decide +kernel
theorem dX4_add_29 : decode cX4_add 29 = .ok (.aload_n 0, 1) := by decide +kernel
theorem dX4_add_30 : decode cX4_add 30 = .ok (.dup, 1) := by decide +kernel
theorem dX4_add_31 : decode cX4_add 31 = .ok (.getfield 18, 3) := by decide +kernel
theorem dX4_add_34 : decode cX4_add 34 = .ok (.iconst 1, 1) := by decide +kernel
theorem dX4_add_35 : decode cX4_add 35 = .ok (.iadd, 1) := by decide +kernel
theorem dX4_add_36 : decode cX4_add 36 = .ok (.putfield 18, 3) := by decide +kernel
theorem dX4_add_39 : decode cX4_add 39 = .ok (.return_, 1) := by decide +kernel
theorem dX4_run_0 : decode cX4_run 0 = .ok (.iconst 0, 1) := by decide +kernel
theorem dX4_run_1 : decode cX4_run 1 = .ok (.istore_n 3, 1) := by decide +kernel
theorem dX4_run_2 : decode cX4_run 2 = .ok (.iload_n 3, 1) := by decide +kernel
theorem dX4_run_3 : decode cX4_run 3 = .ok (.aload_n 0, 1) := by decide +kernel
theorem dX4_run_4 : decode cX4_run 4 = .ok (.getfield 18, 3) := by decide +kernel
theorem dX4_run_7 : decode cX4_run 7 = .ok (.if_icmp .ge 43, 3) := by decide +kernel
theorem dX4_run_10 : decode cX4_run 10 = .ok (.iload_n 3, 1) := by decide +kernel
theorem dX4_run_11 : decode cX4_run 11 = .ok (.iload_n 2, 1) := by decide +kernel
theorem dX4_run_12 : decode cX4_run 12 = .ok (.if_icmp .ge 38, 3) := by decide +kernel
theorem dX4_run_15 : decode cX4_run 15 = .ok (.aload_n 1, 1) := by decide +kernel
theorem dX4_run_16 : decode cX4_run 16 = .ok (.aload_n 0, 1) := by decide +kernel
theorem dX4_run_17 : decode cX4_run 17 = .ok (.getfield 9, 3) := by decide +kernel
theorem dX4_run_20 : decode cX4_run 20 = .ok (.iload_n 3, 1) := by decide +kernel
theorem dX4_run_21 : decode cX4_run 21 = .ok (.iaload, 1) := by decide +kernel
theorem dX4_run_22 : decode cX4_run 22 = .ok (.invokevirtual 22, 3) := by decide +kernel
theorem dX4_run_25 : decode cX4_run 25 = .ok (.ifCond .eq 25, 3) := by decide +kernel
theorem dX4_run_28 : decode cX4_run 28 = .ok (.aload_n 1, 1) := by decide +kernel
theorem dX4_run_29 : decode cX4_run 29 = .ok (.aload_n 0, 1) := by decide +kernel
theorem dX4_run_30 : decode cX4_run 30 = .ok (.getfield 9, 3) := by decide +kernel
theorem dX4_run_33 : decode cX4_run 33 = .ok (.iload_n 3, 1) := by decide +kernel
theorem dX4_run_34 : decode cX4_run 34 = .ok (.iaload, 1) := by decide +kernel
theorem dX4_run_35 : decode cX4_run 35 = .ok (.aload_n 0, 1) := by decide +kernel
theorem dX4_run_36 : decode cX4_run 36 = .ok (.getfield 15, 3) := by decide +kernel
theorem dX4_run_39 : decode cX4_run 39 = .ok (.iload_n 3, 1) := by decide +kernel
theorem dX4_run_40 : decode cX4_run 40 = .ok (.iaload, 1) := by decide +kernel
theorem dX4_run_41 : decode cX4_run 41 = .ok (.invokevirtual 28, 3) := by decide +kernel
theorem dX4_run_44 : decode cX4_run 44 = .ok (.iinc 3 1, 3) := by decide +kernel
theorem dX4_run_47 : decode cX4_run 47 = .ok (.goto (-45), 3) := by decide +kernel
theorem dX4_run_50 : decode cX4_run 50 = .ok (.iload_n 3, 1) := by decide +kernel
theorem dX4_run_51 : decode cX4_run 51 = .ok (.ireturn, 1) := by decide +kernel
theorem dX5_init_0 : decode cX5_init 0 = .ok (.aload_n 0, 1) := by decide +kernel
theorem dX5_init_1 : decode cX5_init 1 = .ok (.invokespecial 3, 3) := by decide +kernel
theorem dX5_init_4 : decode cX5_init 4 = .ok (.aload_n 0, 1) := by decide +kernel
theorem dX5_init_5 : decode cX5_init 5 = .ok (.iconst (-1), 1) := by decide +kernel
theorem dX5_init_6 : decode cX5_init 6 = .ok (.putfield 9, 3) := by decide +kernel
theorem dX5_init_9 : decode cX5_init 9 = .ok (.aload_n 0, 1) := by decide +kernel
theorem dX5_init_10 : decode cX5_init 10 = .ok (.sipush 500, 3) := by decide +kernel
theorem dX5_init_13 : decode cX5_init 13 = .ok (.newarray .int, 2) := by decide +kernel
theorem dX5_init_15 : decode cX5_init 15 = .ok (.putfield 15, 3) := by decide +kernel
theorem dX5_init_18 : decode cX5_init 18 = .ok (.return_, 1) := by decide +kernel
theorem dX5_add_0 : decode cX5_add 0 = .ok (.aload_n 0, 1) := by decide +kernel
theorem dX5_add_1 : decode cX5_add 1 = .ok (.getfield 19, 3) := by decide +kernel
theorem dX5_add_4 : decode cX5_add 4 = .ok (.sipush 500, 3) := by decide +kernel
theorem dX5_add_7 : decode cX5_add 7 = .ok (.if_icmp .ge 23, 3) := by decide +kernel
theorem dX5_add_10 : decode cX5_add 10 = .ok (.aload_n 0, 1) := by decide +kernel
theorem dX5_add_11 : decode cX5_add 11 = .ok (.getfield 15, 3) := by decide +kernel
theorem dX5_add_14 : decode cX5_add 14 = .ok (.aload_n 0, 1) := by decide +kernel
theorem dX5_add_15 : decode cX5_add 15 = .ok (.getfield 19, 3) := by decide +kernel
theorem dX5_add_18 : decode cX5_add 18 = .ok (.iload_n 1, 1) := by decide +kernel
theorem dX5_add_19 : decode cX5_add 19 = .ok (.iastore, 1) := by decide +kernel
theorem dX5_add_20 : decode cX5_add 20 = .ok (.aload_n 0, 1) := by decide +kernel
theorem dX5_add_21 : decode cX5_add 21 = .ok (.dup, 1) := by decide +kernel
theorem dX5_add_22 : decode cX5_add 22 = .ok (.getfield 19, 3) := by decide +kernel
theorem dX5_add_25 : decode cX5_add 25 = .ok (.iconst 1, 1) := by decide +kernel
theorem dX5_add_26 : decode cX5_add 26 = .ok (.iadd, 1) := by decide +kernel
theorem dX5_add_27 : decode cX5_add 27 = .ok (.putfield 19, 3) := by decide +kernel
theorem dX5_add_30 : decode cX5_add 30 = .ok (.return_, 1) := by decide +kernel
theorem dX5_read_0 : decode cX5_read 0 = .ok (.aload_n 1, 1) := by decide +kernel
theorem dX5_read_1 : decode cX5_read 1 = .ok (.invokevirtual 22, 3) := by decide +kernel
theorem dX5_read_4 : decode cX5_read 4 = .ok (.aload_n 0, 1) := by decide +kernel
theorem dX5_read_5 : decode cX5_read 5 = .ok (.iconst 0, 1) := by decide +kernel
theorem dX5_read_6 : decode cX5_read 6 = .ok (.putfield 27, 3) := by decide +kernel
theorem dX5_read_9 : decode cX5_read 9 = .ok (.aload_n 0, 1) := by decide +kernel
theorem dX5_read_10 : decode cX5_read 10 = .ok (.iconst 0, 1) := by decide +kernel
theorem dX5_read_11 : decode cX5_read 11 = .ok (.putfield 30, 3) := by decide +kernel
theorem dX5_read_14 : decode cX5_read 14 = .ok (.aload_n 0, 1) := by decide +kernel
theorem dX5_read_15 : decode cX5_read 15 = .ok (.iconst (-1), 1) := by decide +kernel
theorem dX5_read_16 : decode cX5_read 16 = .ok (.putfield 9, 3) := by decide +kernel
theorem dX5_read_19 : decode cX5_read 19 = .ok (.aload_n 0, 1) := by decide +kernel
theorem dX5_read_20 : decode cX5_read 20 = .ok (.invokevirtual 33, 3) := by decide +kernel
theorem dX5_read_23 : decode cX5_read 23 = .ok (.iconst 0, 1) := by decide +kernel
theorem dX5_read_24 : decode cX5_read 24 = .ok (.istore_n 2, 1) := by decide +kernel
theorem dX5_read_25 : decode cX5_read 25 = .ok (.iload_n 2, 1) := by decide +kernel
theorem dX5_read_26 : decode cX5_read 26 = .ok (.sipush 500, 3) := by decide +kernel
theorem dX5_read_29 : decode cX5_read 29 = .ok (.if_icmp .ge 36, 3) := by decide +kernel
theorem dX5_read_32 : decode cX5_read 32 = .ok (.aload_n 0, 1) := by decide +kernel
theorem dX5_read_33 : decode cX5_read 33 = .ok (.getfield 27, 3) := by decide +kernel
theorem dX5_read_36 : decode cX5_read 36 = .ok (.aload_n 0, 1) := by decide +kernel
theorem dX5_read_37 : decode cX5_read 37 = .ok (.getfield 19, 3) := by decide +kernel
theorem dX5_read_40 : decode cX5_read 40 = .ok (.if_icmp .ge 25, 3) := by decide +kernel
theorem dX5_read_43 : decode cX5_read 43 = .ok (.aload_n 0, 1) := by decide +kernel
theorem dX5_read_44 : decode cX5_read 44 = .ok (.getfield 30, 3) := by decide +kernel
theorem dX5_read_47 : decode cX5_read 47 = .ok (.ifCond .ne 18, 3) := by decide +kernel
theorem dX5_read_50 : decode cX5_read 50 = .ok (.aload_n 0, 1) := by decide +kernel
theorem dX5_read_51 : decode cX5_read 51 = .ok (.aload_n 1, 1) := by decide +kernel
theorem dX5_read_52 : decode cX5_read 52 = .ok (.invokevirtual 36, 3) := by decide +kernel
theorem dX5_read_55 : decode cX5_read 55 = .ok (.aload_n 0, 1) := by decide +kernel
theorem dX5_read_56 : decode cX5_read 56 = .ok (.invokevirtual 33, 3) := by decide +kernel
theorem dX5_read_59 : decode cX5_read 59 = .ok (.iinc 2 1, 3) := by decide +kernel
theorem dX5_read_62 : decode cX5_read 62 = .ok (.goto (-37), 3) := by decide +kernel
theorem dX5_read_65 : decode cX5_read 65 = .ok (.aload_n 1, 1) := by decide +kernel
theorem dX5_read_66 : decode cX5_read 66 = .ok (.getfield 40, 3) := by decide +kernel
theorem dX5_read_69 : decode cX5_read 69 = .ok (.ifCond .ne 19, 3) := by decide +kernel
theorem dX5_read_72 : decode cX5_read 72 = .ok (.aload_n 0, 1) := by decide +kernel
theorem dX5_read_73 : decode cX5_read 73 = .ok (.getfield 19, 3) := by decide +kernel
theorem dX5_read_76 : decode cX5_read 76 = .ok (.ifCond .le 12, 3) := by decide +kernel
theorem dX5_read_79 : decode cX5_read 79 = .ok (.aload_n 0, 1) := by decide +kernel
theorem dX5_read_80 : decode cX5_read 80 = .ok (.iconst 1, 1) := by decide +kernel
theorem dX5_read_81 : decode cX5_read 81 = .ok (.aload_n 0, 1) := by decide +kernel
theorem dX5_read_82 : decode cX5_read 82 = .ok (.getfield 19, 3) := by decide +kernel
theorem dX5_read_85 : decode cX5_read 85 = .ok (.invokevirtual 43, 3) := by decide +kernel
theorem dX5_read_88 : decode cX5_read 88 = .ok (.aload_n 1, 1) := by decide +kernel
theorem dX5_read_89 : decode cX5_read 89 = .ok (.invokevirtual 47, 3) := by decide +kernel
theorem dX5_read_92 : decode cX5_read 92 = .ok (.aload_n 0, 1) := by decide +kernel
theorem dX5_read_93 : decode cX5_read 93 = .ok (.getfield 30, 3) := by decide +kernel
theorem dX5_read_96 : decode cX5_read 96 = .ok (.ifCond .ne 7, 3) := by decide +kernel
theorem dX5_read_99 : decode cX5_read 99 = .ok (.iconst 1, 1) := by decide +kernel
theorem dX5_read_100 : decode cX5_read 100 = .ok (.goto 4, 3) := by decide +kernel
theorem dX5_read_103 : decode cX5_read 103 = .ok (.iconst 0, 1) := by decide +kernel
theorem dX5_read_104 : decode cX5_read 104 = .ok (.ireturn, 1) := by decide +kernel
theorem dX5_blame_0 : decode cX5_blame 0 = .ok (.aload_n 0, 1) := by decide +kernel
theorem dX5_blame_1 : decode cX5_blame 1 = .ok (.getfield 30, 3) := by decide +kernel
theorem dX5_blame_4 : decode cX5_blame 4 = .ok (.ifCond .ne 13, 3) := by decide +kernel
theorem dX5_blame_7 : decode cX5_blame 7 = .ok (.aload_n 0, 1) := by decide +kernel
theorem dX5_blame_8 : decode cX5_blame 8 = .ok (.iload_n 1, 1) := by decide +kernel
theorem dX5_blame_9 : decode cX5_blame 9 = .ok (.putfield 30, 3) := by decide +kernel
theorem dX5_blame_12 : decode cX5_blame 12 = .ok (.aload_n 0, 1) := by decide +kernel
theorem dX5_blame_13 : decode cX5_blame 13 = .ok (.iload_n 2, 1) := by decide +kernel
theorem dX5_blame_14 : decode cX5_blame 14 = .ok (.putfield 9, 3) := by decide +kernel
theorem dX5_blame_17 : decode cX5_blame 17 = .ok (.return_, 1) := by decide +kernel
theorem dX5_readSentence_0 : decode cX5_readSentence 0 = .ok (.aload_n 0, 1) := by decide +kernel
theorem dX5_readSentence_1 : decode cX5_readSentence 1 = .ok (.getfield 27, 3) := by decide +kernel
theorem dX5_readSentence_4 : decode cX5_readSentence 4 = .ok (.istore_n 2, 1) := by decide +kernel
theorem dX5_readSentence_5 : decode cX5_readSentence 5 = .ok (.aload_n 0, 1) := by decide +kernel
theorem dX5_readSentence_6 : decode cX5_readSentence 6 = .ok (.invokevirtual 50, 3) := by decide +kernel
theorem dX5_readSentence_9 : decode cX5_readSentence 9 = .ok (.istore_n 3, 1) := by decide +kernel
theorem dX5_readSentence_10 : decode cX5_readSentence 10 = .ok (.iload_n 3, 1) := by decide +kernel
theorem dX5_readSentence_11 : decode cX5_readSentence 11 = .ok (.iconst (-1), 1) := by decide +kernel
theorem dX5_readSentence_12 : decode cX5_readSentence 12 = .ok (.if_icmp .eq 15, 3) := by decide +kernel
theorem dX5_readSentence_15 : decode cX5_readSentence 15 = .ok (.aload_n 1, 1) := by decide +kernel
theorem dX5_readSentence_16 : decode cX5_readSentence 16 = .ok (.getfield 40, 3) := by decide +kernel
theorem dX5_readSentence_19 : decode cX5_readSentence 19 = .ok (.ifCond .ne 17, 3) := by decide +kernel
theorem dX5_readSentence_22 : decode cX5_readSentence 22 = .ok (.iload_n 3, 1) := by decide +kernel
theorem dX5_readSentence_23 : decode cX5_readSentence 23 = .ok (.iconst 4, 1) := by decide +kernel
theorem dX5_readSentence_24 : decode cX5_readSentence 24 = .ok (.if_icmp .eq 12, 3) := by decide +kernel
theorem dX5_readSentence_27 : decode cX5_readSentence 27 = .ok (.aload_n 0, 1) := by decide +kernel
theorem dX5_readSentence_28 : decode cX5_readSentence 28 = .ok (.iconst 1, 1) := by decide +kernel
theorem dX5_readSentence_29 : decode cX5_readSentence 29 = .ok (.iload_n 2, 1) := by decide +kernel
theorem dX5_readSentence_30 : decode cX5_readSentence 30 = .ok (.invokevirtual 43, 3) := by decide +kernel
theorem dX5_readSentence_33 : decode cX5_readSentence 33 = .ok (.goto 105, 3) := by decide +kernel
theorem dX5_readSentence_36 : decode cX5_readSentence 36 = .ok (.aload_n 1, 1) := by decide +kernel
theorem dX5_readSentence_37 : decode cX5_readSentence 37 = .ok (.iload_n 3, 1) := by decide +kernel
theorem dX5_readSentence_38 : decode cX5_readSentence 38 = .ok (.invokestatic 54, 3) := by decide +kernel
theorem dX5_readSentence_41 : decode cX5_readSentence 41 = .ok (.ifCond .eq 12, 3) := by decide +kernel
theorem dX5_readSentence_44 : decode cX5_readSentence 44 = .ok (.aload_n 0, 1) := by decide +kernel
theorem dX5_readSentence_45 : decode cX5_readSentence 45 = .ok (.iconst 3, 1) := by decide +kernel
theorem dX5_readSentence_46 : decode cX5_readSentence 46 = .ok (.iload_n 2, 1) := by decide +kernel
theorem dX5_readSentence_47 : decode cX5_readSentence 47 = .ok (.invokevirtual 43, 3) := by decide +kernel
theorem dX5_readSentence_50 : decode cX5_readSentence 50 = .ok (.goto 88, 3) := by decide +kernel
theorem dX5_readSentence_53 : decode cX5_readSentence 53 = .ok (.iload_n 3, 1) := by decide +kernel
theorem dX5_readSentence_54 : decode cX5_readSentence 54 = .ok (.tableswitch 74 4 8 #[34, 42, 50, 58, 66], 34) := by decide +kernel
theorem dX5_readSentence_88 : decode cX5_readSentence 88 = .ok (.aload_n 0, 1) := by decide +kernel
theorem dX5_readSentence_89 : decode cX5_readSentence 89 = .ok (.aload_n 1, 1) := by decide +kernel
theorem dX5_readSentence_90 : decode cX5_readSentence 90 = .ok (.invokevirtual 58, 3) := by decide +kernel
theorem dX5_readSentence_93 : decode cX5_readSentence 93 = .ok (.goto 41, 3) := by decide +kernel
theorem dX5_readSentence_96 : decode cX5_readSentence 96 = .ok (.aload_n 0, 1) := by decide +kernel
theorem dX5_readSentence_97 : decode cX5_readSentence 97 = .ok (.aload_n 1, 1) := by decide +kernel
theorem dX5_readSentence_98 : decode cX5_readSentence 98 = .ok (.invokevirtual 61, 3) := by decide +kernel
theorem dX5_readSentence_101 : decode cX5_readSentence 101 = .ok (.goto 33, 3) := by decide +kernel
theorem dX5_readSentence_104 : decode cX5_readSentence 104 = .ok (.aload_n 0, 1) := by decide +kernel
theorem dX5_readSentence_105 : decode cX5_readSentence 105 = .ok (.aload_n 1, 1) := by decide +kernel
theorem dX5_readSentence_106 : decode cX5_readSentence 106 = .ok (.invokevirtual 64, 3) := by decide +kernel
theorem dX5_readSentence_109 : decode cX5_readSentence 109 = .ok (.goto 25, 3) := by decide +kernel
theorem dX5_readSentence_112 : decode cX5_readSentence 112 = .ok (.aload_n 0, 1) := by decide +kernel
theorem dX5_readSentence_113 : decode cX5_readSentence 113 = .ok (.aload_n 1, 1) := by decide +kernel
theorem dX5_readSentence_114 : decode cX5_readSentence 114 = .ok (.invokevirtual 67, 3) := by decide +kernel
theorem dX5_readSentence_117 : decode cX5_readSentence 117 = .ok (.goto 17, 3) := by decide +kernel
theorem dX5_readSentence_120 : decode cX5_readSentence 120 = .ok (.aload_n 0, 1) := by decide +kernel
theorem dX5_readSentence_121 : decode cX5_readSentence 121 = .ok (.aload_n 1, 1) := by decide +kernel
theorem dX5_readSentence_122 : decode cX5_readSentence 122 = .ok (.invokevirtual 70, 3) := by decide +kernel
theorem dX5_readSentence_125 : decode cX5_readSentence 125 = .ok (.goto 9, 3) := by decide +kernel
theorem dX5_readSentence_128 : decode cX5_readSentence 128 = .ok (.aload_n 0, 1) := by decide +kernel
theorem dX5_readSentence_129 : decode cX5_readSentence 129 = .ok (.aload_n 1, 1) := by decide +kernel
theorem dX5_readSentence_130 : decode cX5_readSentence 130 = .ok (.iload_n 3, 1) := by decide +kernel
theorem dX5_readSentence_131 : decode cX5_readSentence 131 = .ok (.invokevirtual 73, 3) := by decide +kernel
theorem dX5_readSentence_134 : decode cX5_readSentence 134 = .ok (.aload_n 0, 1) := by decide +kernel
theorem dX5_readSentence_135 : decode cX5_readSentence 135 = .ok (.invokevirtual 77, 3) := by decide +kernel
theorem dX5_readSentence_138 : decode cX5_readSentence 138 = .ok (.return_, 1) := by decide +kernel
theorem dX5_isTooMany_0 : decode cX5_isTooMany 0 = .ok (.iload_n 1, 1) := by decide +kernel
theorem dX5_isTooMany_1 : decode cX5_isTooMany 1 = .ok (.tableswitch 96 4 8 #[35, 48, 63, 77, 91], 35) := by decide +kernel
theorem dX5_isTooMany_36 : decode cX5_isTooMany 36 = .ok (.aload_n 0, 1) := by decide +kernel
theorem dX5_isTooMany_37 : decode cX5_isTooMany 37 = .ok (.getfield 40, 3) := by decide +kernel
theorem dX5_isTooMany_40 : decode cX5_isTooMany 40 = .ok (.ifCond .le 7, 3) := by decide +kernel
theorem dX5_isTooMany_43 : decode cX5_isTooMany 43 = .ok (.iconst 1, 1) := by decide +kernel
theorem dX5_isTooMany_44 : decode cX5_isTooMany 44 = .ok (.goto 4, 3) := by decide +kernel
theorem dX5_isTooMany_47 : decode cX5_isTooMany 47 = .ok (.iconst 0, 1) := by decide +kernel
theorem dX5_isTooMany_48 : decode cX5_isTooMany 48 = .ok (.ireturn, 1) := by decide +kernel
theorem dX5_isTooMany_49 : decode cX5_isTooMany 49 = .ok (.aload_n 0, 1) := by decide +kernel
theorem dX5_isTooMany_50 : decode cX5_isTooMany 50 = .ok (.getfield 80, 3) := by decide +kernel
theorem dX5_isTooMany_53 : decode cX5_isTooMany 53 = .ok (.bipush 6, 2) := by decide +kernel
theorem dX5_isTooMany_55 : decode cX5_isTooMany 55 = .ok (.if_icmp .lt 7, 3) := by decide +kernel
theorem dX5_isTooMany_58 : decode cX5_isTooMany 58 = .ok (.iconst 1, 1) := by decide +kernel
theorem dX5_isTooMany_59 : decode cX5_isTooMany 59 = .ok (.goto 4, 3) := by decide +kernel
theorem dX5_isTooMany_62 : decode cX5_isTooMany 62 = .ok (.iconst 0, 1) := by decide +kernel
theorem dX5_isTooMany_63 : decode cX5_isTooMany 63 = .ok (.ireturn, 1) := by decide +kernel
theorem dX5_isTooMany_64 : decode cX5_isTooMany 64 = .ok (.aload_n 0, 1) := by decide +kernel
theorem dX5_isTooMany_65 : decode cX5_isTooMany 65 = .ok (.getfield 83, 3) := by decide +kernel
theorem dX5_isTooMany_68 : decode cX5_isTooMany 68 = .ok (.iconst 3, 1) := by decide +kernel
theorem dX5_isTooMany_69 : decode cX5_isTooMany 69 = .ok (.if_icmp .lt 7, 3) := by decide +kernel
theorem dX5_isTooMany_72 : decode cX5_isTooMany 72 = .ok (.iconst 1, 1) := by decide +kernel
theorem dX5_isTooMany_73 : decode cX5_isTooMany 73 = .ok (.goto 4, 3) := by decide +kernel
theorem dX5_isTooMany_76 : decode cX5_isTooMany 76 = .ok (.iconst 0, 1) := by decide +kernel
theorem dX5_isTooMany_77 : decode cX5_isTooMany 77 = .ok (.ireturn, 1) := by decide +kernel
theorem dX5_isTooMany_78 : decode cX5_isTooMany 78 = .ok (.aload_n 0, 1) := by decide +kernel
theorem dX5_isTooMany_79 : decode cX5_isTooMany 79 = .ok (.getfield 86, 3) := by decide +kernel
theorem dX5_isTooMany_82 : decode cX5_isTooMany 82 = .ok (.iconst (-1), 1) := by decide +kernel
theorem dX5_isTooMany_83 : decode cX5_isTooMany 83 = .ok (.if_icmp .eq 7, 3) := by decide +kernel
theorem dX5_isTooMany_86 : decode cX5_isTooMany 86 = .ok (.iconst 1, 1) := by decide +kernel
theorem dX5_isTooMany_87 : decode cX5_isTooMany 87 = .ok (.goto 4, 3) := by decide +kernel
theorem dX5_isTooMany_90 : decode cX5_isTooMany 90 = .ok (.iconst 0, 1) := by decide +kernel
theorem dX5_isTooMany_91 : decode cX5_isTooMany 91 = .ok (.ireturn, 1) := by decide +kernel
theorem dX5_isTooMany_92 : decode cX5_isTooMany 92 = .ok (.aload_n 0, 1) := by decide +kernel
theorem dX5_isTooMany_93 : decode cX5_isTooMany 93 = .ok (.getfield 89, 3) := by decide +kernel
theorem dX5_isTooMany_96 : decode cX5_isTooMany 96 = .ok (.ireturn, 1) := by decide +kernel
theorem dX5_isTooMany_97 : decode cX5_isTooMany 97 = .ok (.aload_n 0, 1) := by decide +kernel
theorem dX5_isTooMany_98 : decode cX5_isTooMany 98 = .ok (.getfield 93, 3) := by decide +kernel
theorem dX5_isTooMany_101 : decode cX5_isTooMany 101 = .ok (.bipush 30, 2) := by decide +kernel
theorem dX5_isTooMany_103 : decode cX5_isTooMany 103 = .ok (.if_icmp .lt 7, 3) := by decide +kernel
theorem dX5_isTooMany_106 : decode cX5_isTooMany 106 = .ok (.iconst 1, 1) := by decide +kernel
theorem dX5_isTooMany_107 : decode cX5_isTooMany 107 = .ok (.goto 4, 3) := by decide +kernel
theorem dX5_isTooMany_110 : decode cX5_isTooMany 110 = .ok (.iconst 0, 1) := by decide +kernel
theorem dX5_isTooMany_111 : decode cX5_isTooMany 111 = .ok (.ireturn, 1) := by decide +kernel
theorem dX5_readSize_0 : decode cX5_readSize 0 = .ok (.aload_n 0, 1) := by decide +kernel
theorem dX5_readSize_1 : decode cX5_readSize 1 = .ok (.iconst 1, 1) := by decide +kernel
theorem dX5_readSize_2 : decode cX5_readSize 2 = .ok (.bipush 9, 2) := by decide +kernel
theorem dX5_readSize_4 : decode cX5_readSize 4 = .ok (.invokevirtual 96, 3) := by decide +kernel
theorem dX5_readSize_7 : decode cX5_readSize 7 = .ok (.istore_n 2, 1) := by decide +kernel
theorem dX5_readSize_8 : decode cX5_readSize 8 = .ok (.aload_n 0, 1) := by decide +kernel
theorem dX5_readSize_9 : decode cX5_readSize 9 = .ok (.iconst 1, 1) := by decide +kernel
theorem dX5_readSize_10 : decode cX5_readSize 10 = .ok (.iload_n 2, 1) := by decide +kernel
theorem dX5_readSize_11 : decode cX5_readSize 11 = .ok (.ifCond .le 15, 3) := by decide +kernel
theorem dX5_readSize_14 : decode cX5_readSize 14 = .ok (.bipush 9, 2) := by decide +kernel
theorem dX5_readSize_16 : decode cX5_readSize 16 = .ok (.bipush 42, 2) := by decide +kernel
theorem dX5_readSize_18 : decode cX5_readSize 18 = .ok (.iload_n 2, 1) := by decide +kernel
theorem dX5_readSize_19 : decode cX5_readSize 19 = .ok (.idiv, 1) := by decide +kernel
theorem dX5_readSize_20 : decode cX5_readSize 20 = .ok (.invokestatic 100, 3) := by decide +kernel
theorem dX5_readSize_23 : decode cX5_readSize 23 = .ok (.goto 5, 3) := by decide +kernel
theorem dX5_readSize_26 : decode cX5_readSize 26 = .ok (.bipush 9, 2) := by decide +kernel
theorem dX5_readSize_28 : decode cX5_readSize 28 = .ok (.invokevirtual 96, 3) := by decide +kernel
theorem dX5_readSize_31 : decode cX5_readSize 31 = .ok (.istore_n 3, 1) := by decide +kernel
theorem dX5_readSize_32 : decode cX5_readSize 32 = .ok (.aload_n 0, 1) := by decide +kernel
theorem dX5_readSize_33 : decode cX5_readSize 33 = .ok (.getfield 30, 3) := by decide +kernel
theorem dX5_readSize_36 : decode cX5_readSize 36 = .ok (.ifCond .ne 13, 3) := by decide +kernel
theorem dX5_readSize_39 : decode cX5_readSize 39 = .ok (.aload_n 1, 1) := by decide +kernel
theorem dX5_readSize_40 : decode cX5_readSize 40 = .ok (.iload_n 2, 1) := by decide +kernel
theorem dX5_readSize_41 : decode cX5_readSize 41 = .ok (.putfield 40, 3) := by decide +kernel
theorem dX5_readSize_44 : decode cX5_readSize 44 = .ok (.aload_n 1, 1) := by decide +kernel
theorem dX5_readSize_45 : decode cX5_readSize 45 = .ok (.iload_n 3, 1) := by decide +kernel
theorem dX5_readSize_46 : decode cX5_readSize 46 = .ok (.putfield 105, 3) := by decide +kernel
theorem dX5_readSize_49 : decode cX5_readSize 49 = .ok (.return_, 1) := by decide +kernel
theorem dX5_readSpot_0 : decode cX5_readSpot 0 = .ok (.aload_n 0, 1) := by decide +kernel
theorem dX5_readSpot_1 : decode cX5_readSpot 1 = .ok (.aload_n 1, 1) := by decide +kernel
theorem dX5_readSpot_2 : decode cX5_readSpot 2 = .ok (.invokevirtual 108, 3) := by decide +kernel
theorem dX5_readSpot_5 : decode cX5_readSpot 5 = .ok (.istore_n 3, 1) := by decide +kernel
theorem dX5_readSpot_6 : decode cX5_readSpot 6 = .ok (.iload_n 3, 1) := by decide +kernel
theorem dX5_readSpot_7 : decode cX5_readSpot 7 = .ok (.iconst (-1), 1) := by decide +kernel
theorem dX5_readSpot_8 : decode cX5_readSpot 8 = .ok (.if_icmp .ne 4, 3) := by decide +kernel
theorem dX5_readSpot_11 : decode cX5_readSpot 11 = .ok (.return_, 1) := by decide +kernel
theorem dX5_readSpot_12 : decode cX5_readSpot 12 = .ok (.aload_n 1, 1) := by decide +kernel
theorem dX5_readSpot_13 : decode cX5_readSpot 13 = .ok (.iload_n 3, 1) := by decide +kernel
theorem dX5_readSpot_14 : decode cX5_readSpot 14 = .ok (.invokevirtual 112, 3) := by decide +kernel
theorem dX5_readSpot_17 : decode cX5_readSpot 17 = .ok (.ifCond .eq 15, 3) := by decide +kernel
theorem dX5_readSpot_20 : decode cX5_readSpot 20 = .ok (.aload_n 0, 1) := by decide +kernel
theorem dX5_readSpot_21 : decode cX5_readSpot 21 = .ok (.iconst 4, 1) := by decide +kernel
theorem dX5_readSpot_22 : decode cX5_readSpot 22 = .ok (.aload_n 0, 1) := by decide +kernel
theorem dX5_readSpot_23 : decode cX5_readSpot 23 = .ok (.getfield 116, 3) := by decide +kernel
theorem dX5_readSpot_26 : decode cX5_readSpot 26 = .ok (.invokevirtual 43, 3) := by decide +kernel
theorem dX5_readSpot_29 : decode cX5_readSpot 29 = .ok (.goto 9, 3) := by decide +kernel
theorem dX5_readSpot_32 : decode cX5_readSpot 32 = .ok (.aload_n 1, 1) := by decide +kernel
theorem dX5_readSpot_33 : decode cX5_readSpot 33 = .ok (.iload_n 3, 1) := by decide +kernel
theorem dX5_readSpot_34 : decode cX5_readSpot 34 = .ok (.iload_n 2, 1) := by decide +kernel
theorem dX5_readSpot_35 : decode cX5_readSpot 35 = .ok (.invokevirtual 119, 3) := by decide +kernel
theorem dX5_readSpot_38 : decode cX5_readSpot 38 = .ok (.return_, 1) := by decide +kernel
theorem dX5_readCrowd_0 : decode cX5_readCrowd 0 = .ok (.aload_n 0, 1) := by decide +kernel
theorem dX5_readCrowd_1 : decode cX5_readCrowd 1 = .ok (.iconst 0, 1) := by decide +kernel
theorem dX5_readCrowd_2 : decode cX5_readCrowd 2 = .ok (.iconst 2, 1) := by decide +kernel
theorem dX5_readCrowd_3 : decode cX5_readCrowd 3 = .ok (.invokevirtual 96, 3) := by decide +kernel
theorem dX5_readCrowd_6 : decode cX5_readCrowd 6 = .ok (.istore_n 2, 1) := by decide +kernel
theorem dX5_readCrowd_7 : decode cX5_readCrowd 7 = .ok (.aload_n 0, 1) := by decide +kernel
theorem dX5_readCrowd_8 : decode cX5_readCrowd 8 = .ok (.aload_n 1, 1) := by decide +kernel
theorem dX5_readCrowd_9 : decode cX5_readCrowd 9 = .ok (.invokevirtual 108, 3) := by decide +kernel
theorem dX5_readCrowd_12 : decode cX5_readCrowd 12 = .ok (.istore_n 3, 1) := by decide +kernel
theorem dX5_readCrowd_13 : decode cX5_readCrowd 13 = .ok (.aload_n 0, 1) := by decide +kernel
theorem dX5_readCrowd_14 : decode cX5_readCrowd 14 = .ok (.aload_n 1, 1) := by decide +kernel
theorem dX5_readCrowd_15 : decode cX5_readCrowd 15 = .ok (.iload_n 3, 1) := by decide +kernel
theorem dX5_readCrowd_16 : decode cX5_readCrowd 16 = .ok (.invokevirtual 122, 3) := by decide +kernel
theorem dX5_readCrowd_19 : decode cX5_readCrowd 19 = .ok (.aload_n 0, 1) := by decide +kernel
theorem dX5_readCrowd_20 : decode cX5_readCrowd 20 = .ok (.iconst 1, 1) := by decide +kernel
theorem dX5_readCrowd_21 : decode cX5_readCrowd 21 = .ok (.bipush 99, 2) := by decide +kernel
theorem dX5_readCrowd_23 : decode cX5_readCrowd 23 = .ok (.invokevirtual 96, 3) := by decide +kernel
theorem dX5_readCrowd_26 : decode cX5_readCrowd 26 = .ok (.istore 4, 2) := by decide +kernel
theorem dX5_readCrowd_28 : decode cX5_readCrowd 28 = .ok (.aload_n 0, 1) := by decide +kernel
theorem dX5_readCrowd_29 : decode cX5_readCrowd 29 = .ok (.iconst 1, 1) := by decide +kernel
theorem dX5_readCrowd_30 : decode cX5_readCrowd 30 = .ok (.iconst 3, 1) := by decide +kernel
theorem dX5_readCrowd_31 : decode cX5_readCrowd 31 = .ok (.invokevirtual 96, 3) := by decide +kernel
theorem dX5_readCrowd_34 : decode cX5_readCrowd 34 = .ok (.istore 5, 2) := by decide +kernel
theorem dX5_readCrowd_36 : decode cX5_readCrowd 36 = .ok (.aload_n 0, 1) := by decide +kernel
theorem dX5_readCrowd_37 : decode cX5_readCrowd 37 = .ok (.iconst 0, 1) := by decide +kernel
theorem dX5_readCrowd_38 : decode cX5_readCrowd 38 = .ok (.iload 4, 2) := by decide +kernel
theorem dX5_readCrowd_40 : decode cX5_readCrowd 40 = .ok (.invokevirtual 96, 3) := by decide +kernel
theorem dX5_readCrowd_43 : decode cX5_readCrowd 43 = .ok (.istore 6, 2) := by decide +kernel
theorem dX5_readCrowd_45 : decode cX5_readCrowd 45 = .ok (.aload_n 0, 1) := by decide +kernel
theorem dX5_readCrowd_46 : decode cX5_readCrowd 46 = .ok (.getfield 30, 3) := by decide +kernel
theorem dX5_readCrowd_49 : decode cX5_readCrowd 49 = .ok (.ifCond .ne 15, 3) := by decide +kernel
theorem dX5_readCrowd_52 : decode cX5_readCrowd 52 = .ok (.aload_n 1, 1) := by decide +kernel
theorem dX5_readCrowd_53 : decode cX5_readCrowd 53 = .ok (.iload_n 2, 1) := by decide +kernel
theorem dX5_readCrowd_54 : decode cX5_readCrowd 54 = .ok (.iload_n 3, 1) := by decide +kernel
theorem dX5_readCrowd_55 : decode cX5_readCrowd 55 = .ok (.iload 4, 2) := by decide +kernel
theorem dX5_readCrowd_57 : decode cX5_readCrowd 57 = .ok (.iload 5, 2) := by decide +kernel
theorem dX5_readCrowd_59 : decode cX5_readCrowd 59 = .ok (.iload 6, 2) := by decide +kernel
theorem dX5_readCrowd_61 : decode cX5_readCrowd 61 = .ok (.invokevirtual 125, 3) := by decide +kernel
theorem dX5_readCrowd_64 : decode cX5_readCrowd 64 = .ok (.return_, 1) := by decide +kernel
theorem dX5_readTune_0 : decode cX5_readTune 0 = .ok (.aload_n 0, 1) := by decide +kernel
theorem dX5_readTune_1 : decode cX5_readTune 1 = .ok (.iconst 1, 1) := by decide +kernel
theorem dX5_readTune_2 : decode cX5_readTune 2 = .ok (.bipush 7, 2) := by decide +kernel
theorem dX5_readTune_4 : decode cX5_readTune 4 = .ok (.invokevirtual 96, 3) := by decide +kernel
theorem dX5_readTune_7 : decode cX5_readTune 7 = .ok (.istore_n 2, 1) := by decide +kernel
theorem dX5_readTune_8 : decode cX5_readTune 8 = .ok (.aload_n 0, 1) := by decide +kernel
theorem dX5_readTune_9 : decode cX5_readTune 9 = .ok (.iconst 0, 1) := by decide +kernel
theorem dX5_readTune_10 : decode cX5_readTune 10 = .ok (.bipush 20, 2) := by decide +kernel
theorem dX5_readTune_12 : decode cX5_readTune 12 = .ok (.invokevirtual 96, 3) := by decide +kernel
theorem dX5_readTune_15 : decode cX5_readTune 15 = .ok (.istore_n 3, 1) := by decide +kernel
theorem dX5_readTune_16 : decode cX5_readTune 16 = .ok (.aload_n 0, 1) := by decide +kernel
theorem dX5_readTune_17 : decode cX5_readTune 17 = .ok (.getfield 30, 3) := by decide +kernel
theorem dX5_readTune_20 : decode cX5_readTune 20 = .ok (.ifCond .ne 9, 3) := by decide +kernel
theorem dX5_readTune_23 : decode cX5_readTune 23 = .ok (.aload_n 1, 1) := by decide +kernel
theorem dX5_readTune_24 : decode cX5_readTune 24 = .ok (.iload_n 2, 1) := by decide +kernel
theorem dX5_readTune_25 : decode cX5_readTune 25 = .ok (.iload_n 3, 1) := by decide +kernel
theorem dX5_readTune_26 : decode cX5_readTune 26 = .ok (.invokevirtual 129, 3) := by decide +kernel
theorem dX5_readTune_29 : decode cX5_readTune 29 = .ok (.return_, 1) := by decide +kernel
theorem dX5_readPiper_0 : decode cX5_readPiper 0 = .ok (.aload_n 0, 1) := by decide +kernel
theorem dX5_readPiper_1 : decode cX5_readPiper 1 = .ok (.aload_n 1, 1) := by decide +kernel
theorem dX5_readPiper_2 : decode cX5_readPiper 2 = .ok (.invokevirtual 108, 3) := by decide +kernel
theorem dX5_readPiper_5 : decode cX5_readPiper 5 = .ok (.istore_n 2, 1) := by decide +kernel
theorem dX5_readPiper_6 : decode cX5_readPiper 6 = .ok (.aload_n 0, 1) := by decide +kernel
theorem dX5_readPiper_7 : decode cX5_readPiper 7 = .ok (.aload_n 1, 1) := by decide +kernel
theorem dX5_readPiper_8 : decode cX5_readPiper 8 = .ok (.iload_n 2, 1) := by decide +kernel
theorem dX5_readPiper_9 : decode cX5_readPiper 9 = .ok (.invokevirtual 122, 3) := by decide +kernel
theorem dX5_readPiper_12 : decode cX5_readPiper 12 = .ok (.aload_n 0, 1) := by decide +kernel
theorem dX5_readPiper_13 : decode cX5_readPiper 13 = .ok (.getfield 30, 3) := by decide +kernel
theorem dX5_readPiper_16 : decode cX5_readPiper 16 = .ok (.ifCond .ne 8, 3) := by decide +kernel
theorem dX5_readPiper_19 : decode cX5_readPiper 19 = .ok (.aload_n 1, 1) := by decide +kernel
theorem dX5_readPiper_20 : decode cX5_readPiper 20 = .ok (.iload_n 2, 1) := by decide +kernel
theorem dX5_readPiper_21 : decode cX5_readPiper 21 = .ok (.putfield 86, 3) := by decide +kernel
theorem dX5_readPiper_24 : decode cX5_readPiper 24 = .ok (.return_, 1) := by decide +kernel
theorem dX5_readPay_0 : decode cX5_readPay 0 = .ok (.aload_n 1, 1) := by decide +kernel
theorem dX5_readPay_1 : decode cX5_readPay 1 = .ok (.aload_n 0, 1) := by decide +kernel
theorem dX5_readPay_2 : decode cX5_readPay 2 = .ok (.iconst 0, 1) := by decide +kernel
theorem dX5_readPay_3 : decode cX5_readPay 3 = .ok (.bipush 99, 2) := by decide +kernel
theorem dX5_readPay_5 : decode cX5_readPay 5 = .ok (.invokevirtual 96, 3) := by decide +kernel
theorem dX5_readPay_8 : decode cX5_readPay 8 = .ok (.putfield 132, 3) := by decide +kernel
theorem dX5_readPay_11 : decode cX5_readPay 11 = .ok (.aload_n 1, 1) := by decide +kernel
theorem dX5_readPay_12 : decode cX5_readPay 12 = .ok (.aload_n 0, 1) := by decide +kernel
theorem dX5_readPay_13 : decode cX5_readPay 13 = .ok (.iconst 0, 1) := by decide +kernel
theorem dX5_readPay_14 : decode cX5_readPay 14 = .ok (.bipush 99, 2) := by decide +kernel
theorem dX5_readPay_16 : decode cX5_readPay 16 = .ok (.invokevirtual 96, 3) := by decide +kernel
theorem dX5_readPay_19 : decode cX5_readPay 19 = .ok (.putfield 135, 3) := by decide +kernel
theorem dX5_readPay_22 : decode cX5_readPay 22 = .ok (.aload_n 1, 1) := by decide +kernel
theorem dX5_readPay_23 : decode cX5_readPay 23 = .ok (.iconst 1, 1) := by decide +kernel
theorem dX5_readPay_24 : decode cX5_readPay 24 = .ok (.putfield 89, 3) := by decide +kernel
theorem dX5_readPay_27 : decode cX5_readPay 27 = .ok (.return_, 1) := by decide +kernel
theorem dX5_readCell_0 : decode cX5_readCell 0 = .ok (.aload_n 0, 1) := by decide +kernel
theorem dX5_readCell_1 : decode cX5_readCell 1 = .ok (.iconst 0, 1) := by decide +kernel
theorem dX5_readCell_2 : decode cX5_readCell 2 = .ok (.aload_n 1, 1) := by decide +kernel
theorem dX5_readCell_3 : decode cX5_readCell 3 = .ok (.getfield 40, 3) := by decide +kernel
theorem dX5_readCell_6 : decode cX5_readCell 6 = .ok (.iconst 1, 1) := by decide +kernel
theorem dX5_readCell_7 : decode cX5_readCell 7 = .ok (.isub, 1) := by decide +kernel
theorem dX5_readCell_8 : decode cX5_readCell 8 = .ok (.invokevirtual 96, 3) := by decide +kernel
theorem dX5_readCell_11 : decode cX5_readCell 11 = .ok (.istore_n 2, 1) := by decide +kernel
theorem dX5_readCell_12 : decode cX5_readCell 12 = .ok (.aload_n 0, 1) := by decide +kernel
theorem dX5_readCell_13 : decode cX5_readCell 13 = .ok (.iconst 0, 1) := by decide +kernel
theorem dX5_readCell_14 : decode cX5_readCell 14 = .ok (.aload_n 1, 1) := by decide +kernel
theorem dX5_readCell_15 : decode cX5_readCell 15 = .ok (.getfield 105, 3) := by decide +kernel
theorem dX5_readCell_18 : decode cX5_readCell 18 = .ok (.iconst 1, 1) := by decide +kernel
theorem dX5_readCell_19 : decode cX5_readCell 19 = .ok (.isub, 1) := by decide +kernel
theorem dX5_readCell_20 : decode cX5_readCell 20 = .ok (.invokevirtual 96, 3) := by decide +kernel
theorem dX5_readCell_23 : decode cX5_readCell 23 = .ok (.istore_n 3, 1) := by decide +kernel
theorem dX5_readCell_24 : decode cX5_readCell 24 = .ok (.aload_n 0, 1) := by decide +kernel
theorem dX5_readCell_25 : decode cX5_readCell 25 = .ok (.getfield 30, 3) := by decide +kernel
theorem dX5_readCell_28 : decode cX5_readCell 28 = .ok (.ifCond .ne 14, 3) := by decide +kernel
theorem dX5_readCell_31 : decode cX5_readCell 31 = .ok (.iload_n 3, 1) := by decide +kernel
theorem dX5_readCell_32 : decode cX5_readCell 32 = .ok (.aload_n 1, 1) := by decide +kernel
theorem dX5_readCell_33 : decode cX5_readCell 33 = .ok (.getfield 40, 3) := by decide +kernel
theorem dX5_readCell_36 : decode cX5_readCell 36 = .ok (.imul, 1) := by decide +kernel
theorem dX5_readCell_37 : decode cX5_readCell 37 = .ok (.iload_n 2, 1) := by decide +kernel
theorem dX5_readCell_38 : decode cX5_readCell 38 = .ok (.iadd, 1) := by decide +kernel
theorem dX5_readCell_39 : decode cX5_readCell 39 = .ok (.goto 4, 3) := by decide +kernel
theorem dX5_readCell_42 : decode cX5_readCell 42 = .ok (.iconst (-1), 1) := by decide +kernel
theorem dX5_readCell_43 : decode cX5_readCell 43 = .ok (.ireturn, 1) := by decide +kernel
theorem dX5_blameIfSpot_0 : decode cX5_blameIfSpot 0 = .ok (.aload_n 1, 1) := by decide +kernel
theorem dX5_blameIfSpot_1 : decode cX5_blameIfSpot 1 = .ok (.iload_n 2, 1) := by decide +kernel
theorem dX5_blameIfSpot_2 : decode cX5_blameIfSpot 2 = .ok (.invokevirtual 138, 3) := by decide +kernel
theorem dX5_blameIfSpot_5 : decode cX5_blameIfSpot 5 = .ok (.ifCond .eq 12, 3) := by decide +kernel
theorem dX5_blameIfSpot_8 : decode cX5_blameIfSpot 8 = .ok (.aload_n 0, 1) := by decide +kernel
theorem dX5_blameIfSpot_9 : decode cX5_blameIfSpot 9 = .ok (.iconst 4, 1) := by decide +kernel
theorem dX5_blameIfSpot_10 : decode cX5_blameIfSpot 10 = .ok (.aload_n 0, 1) := by decide +kernel
theorem dX5_blameIfSpot_11 : decode cX5_blameIfSpot 11 = .ok (.getfield 116, 3) := by decide +kernel
theorem dX5_blameIfSpot_14 : decode cX5_blameIfSpot 14 = .ok (.invokevirtual 43, 3) := by decide +kernel
theorem dX5_blameIfSpot_17 : decode cX5_blameIfSpot 17 = .ok (.return_, 1) := by decide +kernel
theorem dX5_readNumber_0 : decode cX5_readNumber 0 = .ok (.aload_n 0, 1) := by decide +kernel
theorem dX5_readNumber_1 : decode cX5_readNumber 1 = .ok (.getfield 30, 3) := by decide +kernel
theorem dX5_readNumber_4 : decode cX5_readNumber 4 = .ok (.ifCond .eq 5, 3) := by decide +kernel
theorem dX5_readNumber_7 : decode cX5_readNumber 7 = .ok (.iload_n 1, 1) := by decide +kernel
theorem dX5_readNumber_8 : decode cX5_readNumber 8 = .ok (.ireturn, 1) := by decide +kernel
theorem dX5_readNumber_9 : decode cX5_readNumber 9 = .ok (.aload_n 0, 1) := by decide +kernel
theorem dX5_readNumber_10 : decode cX5_readNumber 10 = .ok (.invokevirtual 33, 3) := by decide +kernel
theorem dX5_readNumber_13 : decode cX5_readNumber 13 = .ok (.aload_n 0, 1) := by decide +kernel
theorem dX5_readNumber_14 : decode cX5_readNumber 14 = .ok (.aload_n 0, 1) := by decide +kernel
theorem dX5_readNumber_15 : decode cX5_readNumber 15 = .ok (.getfield 27, 3) := by decide +kernel
theorem dX5_readNumber_18 : decode cX5_readNumber 18 = .ok (.putfield 116, 3) := by decide +kernel
theorem dX5_readNumber_21 : decode cX5_readNumber 21 = .ok (.iconst 0, 1) := by decide +kernel
theorem dX5_readNumber_22 : decode cX5_readNumber 22 = .ok (.istore_n 3, 1) := by decide +kernel
theorem dX5_readNumber_23 : decode cX5_readNumber 23 = .ok (.aload_n 0, 1) := by decide +kernel
theorem dX5_readNumber_24 : decode cX5_readNumber 24 = .ok (.getfield 27, 3) := by decide +kernel
theorem dX5_readNumber_27 : decode cX5_readNumber 27 = .ok (.aload_n 0, 1) := by decide +kernel
theorem dX5_readNumber_28 : decode cX5_readNumber 28 = .ok (.getfield 19, 3) := by decide +kernel
theorem dX5_readNumber_31 : decode cX5_readNumber 31 = .ok (.if_icmp .ge 79, 3) := by decide +kernel
theorem dX5_readNumber_34 : decode cX5_readNumber 34 = .ok (.aload_n 0, 1) := by decide +kernel
theorem dX5_readNumber_35 : decode cX5_readNumber 35 = .ok (.getfield 15, 3) := by decide +kernel
theorem dX5_readNumber_38 : decode cX5_readNumber 38 = .ok (.aload_n 0, 1) := by decide +kernel
theorem dX5_readNumber_39 : decode cX5_readNumber 39 = .ok (.getfield 27, 3) := by decide +kernel
theorem dX5_readNumber_42 : decode cX5_readNumber 42 = .ok (.iaload, 1) := by decide +kernel
theorem dX5_readNumber_43 : decode cX5_readNumber 43 = .ok (.bipush 48, 2) := by decide +kernel
theorem dX5_readNumber_45 : decode cX5_readNumber 45 = .ok (.if_icmp .lt 65, 3) := by decide +kernel
theorem dX5_readNumber_48 : decode cX5_readNumber 48 = .ok (.aload_n 0, 1) := by decide +kernel
theorem dX5_readNumber_49 : decode cX5_readNumber 49 = .ok (.getfield 15, 3) := by decide +kernel
theorem dX5_readNumber_52 : decode cX5_readNumber 52 = .ok (.aload_n 0, 1) := by decide +kernel
theorem dX5_readNumber_53 : decode cX5_readNumber 53 = .ok (.getfield 27, 3) := by decide +kernel
theorem dX5_readNumber_56 : decode cX5_readNumber 56 = .ok (.iaload, 1) := by decide +kernel
theorem dX5_readNumber_57 : decode cX5_readNumber 57 = .ok (.bipush 57, 2) := by decide +kernel
theorem dX5_readNumber_59 : decode cX5_readNumber 59 = .ok (.if_icmp .gt 51, 3) := by decide +kernel
theorem dX5_readNumber_62 : decode cX5_readNumber 62 = .ok (.aload_n 0, 1) := by decide +kernel
theorem dX5_readNumber_63 : decode cX5_readNumber 63 = .ok (.getfield 27, 3) := by decide +kernel
theorem dX5_readNumber_66 : decode cX5_readNumber 66 = .ok (.aload_n 0, 1) := by decide +kernel
theorem dX5_readNumber_67 : decode cX5_readNumber 67 = .ok (.getfield 116, 3) := by decide +kernel
theorem dX5_readNumber_70 : decode cX5_readNumber 70 = .ok (.isub, 1) := by decide +kernel
theorem dX5_readNumber_71 : decode cX5_readNumber 71 = .ok (.iconst 3, 1) := by decide +kernel
theorem dX5_readNumber_72 : decode cX5_readNumber 72 = .ok (.if_icmp .ge 23, 3) := by decide +kernel
theorem dX5_readNumber_75 : decode cX5_readNumber 75 = .ok (.iload_n 3, 1) := by decide +kernel
theorem dX5_readNumber_76 : decode cX5_readNumber 76 = .ok (.bipush 10, 2) := by decide +kernel
theorem dX5_readNumber_78 : decode cX5_readNumber 78 = .ok (.imul, 1) := by decide +kernel
theorem dX5_readNumber_79 : decode cX5_readNumber 79 = .ok (.aload_n 0, 1) := by decide +kernel
theorem dX5_readNumber_80 : decode cX5_readNumber 80 = .ok (.getfield 15, 3) := by decide +kernel
theorem dX5_readNumber_83 : decode cX5_readNumber 83 = .ok (.aload_n 0, 1) := by decide +kernel
theorem dX5_readNumber_84 : decode cX5_readNumber 84 = .ok (.getfield 27, 3) := by decide +kernel
theorem dX5_readNumber_87 : decode cX5_readNumber 87 = .ok (.iaload, 1) := by decide +kernel
theorem dX5_readNumber_88 : decode cX5_readNumber 88 = .ok (.iadd, 1) := by decide +kernel
theorem dX5_readNumber_89 : decode cX5_readNumber 89 = .ok (.bipush 48, 2) := by decide +kernel
theorem dX5_readNumber_91 : decode cX5_readNumber 91 = .ok (.isub, 1) := by decide +kernel
theorem dX5_readNumber_92 : decode cX5_readNumber 92 = .ok (.goto 4, 3) := by decide +kernel
theorem dX5_readNumber_95 : decode cX5_readNumber 95 = .ok (.iload_n 3, 1) := by decide +kernel
theorem dX5_readNumber_96 : decode cX5_readNumber 96 = .ok (.istore_n 3, 1) := by decide +kernel
theorem dX5_readNumber_97 : decode cX5_readNumber 97 = .ok (.aload_n 0, 1) := by decide +kernel
theorem dX5_readNumber_98 : decode cX5_readNumber 98 = .ok (.dup, 1) := by decide +kernel
theorem dX5_readNumber_99 : decode cX5_readNumber 99 = .ok (.getfield 27, 3) := by decide +kernel
theorem dX5_readNumber_102 : decode cX5_readNumber 102 = .ok (.iconst 1, 1) := by decide +kernel
theorem dX5_readNumber_103 : decode cX5_readNumber 103 = .ok (.iadd, 1) := by decide +kernel
theorem dX5_readNumber_104 : decode cX5_readNumber 104 = .ok (.putfield 27, 3) := by decide +kernel
theorem dX5_readNumber_107 : decode cX5_readNumber 107 = .ok (.goto (-84), 3) := by decide +kernel
theorem dX5_readNumber_110 : decode cX5_readNumber 110 = .ok (.aload_n 0, 1) := by decide +kernel
theorem dX5_readNumber_111 : decode cX5_readNumber 111 = .ok (.getfield 27, 3) := by decide +kernel
theorem dX5_readNumber_114 : decode cX5_readNumber 114 = .ok (.aload_n 0, 1) := by decide +kernel
theorem dX5_readNumber_115 : decode cX5_readNumber 115 = .ok (.getfield 116, 3) := by decide +kernel
theorem dX5_readNumber_118 : decode cX5_readNumber 118 = .ok (.if_icmp .ne 15, 3) := by decide +kernel
theorem dX5_readNumber_121 : decode cX5_readNumber 121 = .ok (.aload_n 0, 1) := by decide +kernel
theorem dX5_readNumber_122 : decode cX5_readNumber 122 = .ok (.iconst 1, 1) := by decide +kernel
theorem dX5_readNumber_123 : decode cX5_readNumber 123 = .ok (.aload_n 0, 1) := by decide +kernel
theorem dX5_readNumber_124 : decode cX5_readNumber 124 = .ok (.getfield 116, 3) := by decide +kernel
theorem dX5_readNumber_127 : decode cX5_readNumber 127 = .ok (.invokevirtual 43, 3) := by decide +kernel
theorem dX5_readNumber_130 : decode cX5_readNumber 130 = .ok (.goto 35, 3) := by decide +kernel
theorem dX5_readNumber_133 : decode cX5_readNumber 133 = .ok (.aload_n 0, 1) := by decide +kernel
theorem dX5_readNumber_134 : decode cX5_readNumber 134 = .ok (.getfield 27, 3) := by decide +kernel
theorem dX5_readNumber_137 : decode cX5_readNumber 137 = .ok (.aload_n 0, 1) := by decide +kernel
theorem dX5_readNumber_138 : decode cX5_readNumber 138 = .ok (.getfield 116, 3) := by decide +kernel
theorem dX5_readNumber_141 : decode cX5_readNumber 141 = .ok (.isub, 1) := by decide +kernel
theorem dX5_readNumber_142 : decode cX5_readNumber 142 = .ok (.iconst 3, 1) := by decide +kernel
theorem dX5_readNumber_143 : decode cX5_readNumber 143 = .ok (.if_icmp .gt 13, 3) := by decide +kernel
theorem dX5_readNumber_146 : decode cX5_readNumber 146 = .ok (.iload_n 3, 1) := by decide +kernel
theorem dX5_readNumber_147 : decode cX5_readNumber 147 = .ok (.iload_n 1, 1) := by decide +kernel
theorem dX5_readNumber_148 : decode cX5_readNumber 148 = .ok (.if_icmp .lt 8, 3) := by decide +kernel
theorem dX5_readNumber_151 : decode cX5_readNumber 151 = .ok (.iload_n 3, 1) := by decide +kernel
theorem dX5_readNumber_152 : decode cX5_readNumber 152 = .ok (.iload_n 2, 1) := by decide +kernel
theorem dX5_readNumber_153 : decode cX5_readNumber 153 = .ok (.if_icmp .le 12, 3) := by decide +kernel
theorem dX5_readNumber_156 : decode cX5_readNumber 156 = .ok (.aload_n 0, 1) := by decide +kernel
theorem dX5_readNumber_157 : decode cX5_readNumber 157 = .ok (.iconst 2, 1) := by decide +kernel
theorem dX5_readNumber_158 : decode cX5_readNumber 158 = .ok (.aload_n 0, 1) := by decide +kernel
theorem dX5_readNumber_159 : decode cX5_readNumber 159 = .ok (.getfield 116, 3) := by decide +kernel
theorem dX5_readNumber_162 : decode cX5_readNumber 162 = .ok (.invokevirtual 43, 3) := by decide +kernel
theorem dX5_readNumber_165 : decode cX5_readNumber 165 = .ok (.aload_n 0, 1) := by decide +kernel
theorem dX5_readNumber_166 : decode cX5_readNumber 166 = .ok (.getfield 30, 3) := by decide +kernel
theorem dX5_readNumber_169 : decode cX5_readNumber 169 = .ok (.ifCond .ne 7, 3) := by decide +kernel
theorem dX5_readNumber_172 : decode cX5_readNumber 172 = .ok (.iload_n 3, 1) := by decide +kernel
theorem dX5_readNumber_173 : decode cX5_readNumber 173 = .ok (.goto 4, 3) := by decide +kernel
theorem dX5_readNumber_176 : decode cX5_readNumber 176 = .ok (.iload_n 1, 1) := by decide +kernel
theorem dX5_readNumber_177 : decode cX5_readNumber 177 = .ok (.ireturn, 1) := by decide +kernel
theorem dX5_readEnd_0 : decode cX5_readEnd 0 = .ok (.aload_n 0, 1) := by decide +kernel
theorem dX5_readEnd_1 : decode cX5_readEnd 1 = .ok (.invokevirtual 33, 3) := by decide +kernel
theorem dX5_readEnd_4 : decode cX5_readEnd 4 = .ok (.aload_n 0, 1) := by decide +kernel
theorem dX5_readEnd_5 : decode cX5_readEnd 5 = .ok (.getfield 27, 3) := by decide +kernel
theorem dX5_readEnd_8 : decode cX5_readEnd 8 = .ok (.aload_n 0, 1) := by decide +kernel
theorem dX5_readEnd_9 : decode cX5_readEnd 9 = .ok (.getfield 19, 3) := by decide +kernel
theorem dX5_readEnd_12 : decode cX5_readEnd 12 = .ok (.if_icmp .ge 30, 3) := by decide +kernel
theorem dX5_readEnd_15 : decode cX5_readEnd 15 = .ok (.aload_n 0, 1) := by decide +kernel
theorem dX5_readEnd_16 : decode cX5_readEnd 16 = .ok (.getfield 15, 3) := by decide +kernel
theorem dX5_readEnd_19 : decode cX5_readEnd 19 = .ok (.aload_n 0, 1) := by decide +kernel
theorem dX5_readEnd_20 : decode cX5_readEnd 20 = .ok (.getfield 27, 3) := by decide +kernel
theorem dX5_readEnd_23 : decode cX5_readEnd 23 = .ok (.iaload, 1) := by decide +kernel
theorem dX5_readEnd_24 : decode cX5_readEnd 24 = .ok (.bipush 59, 2) := by decide +kernel
theorem dX5_readEnd_26 : decode cX5_readEnd 26 = .ok (.if_icmp .ne 16, 3) := by decide +kernel
theorem dX5_readEnd_29 : decode cX5_readEnd 29 = .ok (.aload_n 0, 1) := by decide +kernel
theorem dX5_readEnd_30 : decode cX5_readEnd 30 = .ok (.dup, 1) := by decide +kernel
theorem dX5_readEnd_31 : decode cX5_readEnd 31 = .ok (.getfield 27, 3) := by decide +kernel
theorem dX5_readEnd_34 : decode cX5_readEnd 34 = .ok (.iconst 1, 1) := by decide +kernel
theorem dX5_readEnd_35 : decode cX5_readEnd 35 = .ok (.iadd, 1) := by decide +kernel
theorem dX5_readEnd_36 : decode cX5_readEnd 36 = .ok (.putfield 27, 3) := by decide +kernel
theorem dX5_readEnd_39 : decode cX5_readEnd 39 = .ok (.goto 12, 3) := by decide +kernel
theorem dX5_readEnd_42 : decode cX5_readEnd 42 = .ok (.aload_n 0, 1) := by decide +kernel
theorem dX5_readEnd_43 : decode cX5_readEnd 43 = .ok (.iconst 1, 1) := by decide +kernel
theorem dX5_readEnd_44 : decode cX5_readEnd 44 = .ok (.aload_n 0, 1) := by decide +kernel
theorem dX5_readEnd_45 : decode cX5_readEnd 45 = .ok (.getfield 27, 3) := by decide +kernel
theorem dX5_readEnd_48 : decode cX5_readEnd 48 = .ok (.invokevirtual 43, 3) := by decide +kernel
theorem dX5_readEnd_51 : decode cX5_readEnd 51 = .ok (.return_, 1) := by decide +kernel
theorem dX5_readWord_0 : decode cX5_readWord 0 = .ok (.aload_n 0, 1) := by decide +kernel
theorem dX5_readWord_1 : decode cX5_readWord 1 = .ok (.getfield 27, 3) := by decide +kernel
theorem dX5_readWord_4 : decode cX5_readWord 4 = .ok (.istore_n 1, 1) := by decide +kernel
theorem dX5_readWord_5 : decode cX5_readWord 5 = .ok (.aload_n 0, 1) := by decide +kernel
theorem dX5_readWord_6 : decode cX5_readWord 6 = .ok (.getfield 27, 3) := by decide +kernel
theorem dX5_readWord_9 : decode cX5_readWord 9 = .ok (.aload_n 0, 1) := by decide +kernel
theorem dX5_readWord_10 : decode cX5_readWord 10 = .ok (.getfield 19, 3) := by decide +kernel
theorem dX5_readWord_13 : decode cX5_readWord 13 = .ok (.if_icmp .ge 44, 3) := by decide +kernel
theorem dX5_readWord_16 : decode cX5_readWord 16 = .ok (.aload_n 0, 1) := by decide +kernel
theorem dX5_readWord_17 : decode cX5_readWord 17 = .ok (.getfield 15, 3) := by decide +kernel
theorem dX5_readWord_20 : decode cX5_readWord 20 = .ok (.aload_n 0, 1) := by decide +kernel
theorem dX5_readWord_21 : decode cX5_readWord 21 = .ok (.getfield 27, 3) := by decide +kernel
theorem dX5_readWord_24 : decode cX5_readWord 24 = .ok (.iaload, 1) := by decide +kernel
theorem dX5_readWord_25 : decode cX5_readWord 25 = .ok (.bipush 97, 2) := by decide +kernel
theorem dX5_readWord_27 : decode cX5_readWord 27 = .ok (.if_icmp .lt 30, 3) := by decide +kernel
theorem dX5_readWord_30 : decode cX5_readWord 30 = .ok (.aload_n 0, 1) := by decide +kernel
theorem dX5_readWord_31 : decode cX5_readWord 31 = .ok (.getfield 15, 3) := by decide +kernel
theorem dX5_readWord_34 : decode cX5_readWord 34 = .ok (.aload_n 0, 1) := by decide +kernel
theorem dX5_readWord_35 : decode cX5_readWord 35 = .ok (.getfield 27, 3) := by decide +kernel
theorem dX5_readWord_38 : decode cX5_readWord 38 = .ok (.iaload, 1) := by decide +kernel
theorem dX5_readWord_39 : decode cX5_readWord 39 = .ok (.bipush 122, 2) := by decide +kernel
theorem dX5_readWord_41 : decode cX5_readWord 41 = .ok (.if_icmp .gt 16, 3) := by decide +kernel
theorem dX5_readWord_44 : decode cX5_readWord 44 = .ok (.aload_n 0, 1) := by decide +kernel
theorem dX5_readWord_45 : decode cX5_readWord 45 = .ok (.dup, 1) := by decide +kernel
theorem dX5_readWord_46 : decode cX5_readWord 46 = .ok (.getfield 27, 3) := by decide +kernel
theorem dX5_readWord_49 : decode cX5_readWord 49 = .ok (.iconst 1, 1) := by decide +kernel
theorem dX5_readWord_50 : decode cX5_readWord 50 = .ok (.iadd, 1) := by decide +kernel
theorem dX5_readWord_51 : decode cX5_readWord 51 = .ok (.putfield 27, 3) := by decide +kernel
theorem dX5_readWord_54 : decode cX5_readWord 54 = .ok (.goto (-49), 3) := by decide +kernel
theorem dX5_readWord_57 : decode cX5_readWord 57 = .ok (.aload_n 0, 1) := by decide +kernel
theorem dX5_readWord_58 : decode cX5_readWord 58 = .ok (.iload_n 1, 1) := by decide +kernel
theorem dX5_readWord_59 : decode cX5_readWord 59 = .ok (.ldc 141, 2) := by decide +kernel
theorem dX5_readWord_61 : decode cX5_readWord 61 = .ok (.invokevirtual 143, 3) := by decide +kernel
theorem dX5_readWord_64 : decode cX5_readWord 64 = .ok (.ifCond .eq 5, 3) := by decide +kernel
theorem dX5_readWord_67 : decode cX5_readWord 67 = .ok (.iconst 4, 1) := by decide +kernel
theorem dX5_readWord_68 : decode cX5_readWord 68 = .ok (.ireturn, 1) := by decide +kernel
theorem dX5_readWord_69 : decode cX5_readWord 69 = .ok (.aload_n 0, 1) := by decide +kernel
theorem dX5_readWord_70 : decode cX5_readWord 70 = .ok (.iload_n 1, 1) := by decide +kernel
theorem dX5_readWord_71 : decode cX5_readWord 71 = .ok (.ldc 147, 2) := by decide +kernel
theorem dX5_readWord_73 : decode cX5_readWord 73 = .ok (.invokevirtual 143, 3) := by decide +kernel
theorem dX5_readWord_76 : decode cX5_readWord 76 = .ok (.ifCond .eq 5, 3) := by decide +kernel
theorem dX5_readWord_79 : decode cX5_readWord 79 = .ok (.iconst 1, 1) := by decide +kernel
theorem dX5_readWord_80 : decode cX5_readWord 80 = .ok (.ireturn, 1) := by decide +kernel
theorem dX5_readWord_81 : decode cX5_readWord 81 = .ok (.aload_n 0, 1) := by decide +kernel
theorem dX5_readWord_82 : decode cX5_readWord 82 = .ok (.iload_n 1, 1) := by decide +kernel
theorem dX5_readWord_83 : decode cX5_readWord 83 = .ok (.ldc 149, 2) := by decide +kernel
theorem dX5_readWord_85 : decode cX5_readWord 85 = .ok (.invokevirtual 143, 3) := by decide +kernel
theorem dX5_readWord_88 : decode cX5_readWord 88 = .ok (.ifCond .eq 5, 3) := by decide +kernel
theorem dX5_readWord_91 : decode cX5_readWord 91 = .ok (.iconst 2, 1) := by decide +kernel
theorem dX5_readWord_92 : decode cX5_readWord 92 = .ok (.ireturn, 1) := by decide +kernel
theorem dX5_readWord_93 : decode cX5_readWord 93 = .ok (.aload_n 0, 1) := by decide +kernel
theorem dX5_readWord_94 : decode cX5_readWord 94 = .ok (.iload_n 1, 1) := by decide +kernel
theorem dX5_readWord_95 : decode cX5_readWord 95 = .ok (.ldc 151, 2) := by decide +kernel
theorem dX5_readWord_97 : decode cX5_readWord 97 = .ok (.invokevirtual 143, 3) := by decide +kernel
theorem dX5_readWord_100 : decode cX5_readWord 100 = .ok (.ifCond .eq 5, 3) := by decide +kernel
theorem dX5_readWord_103 : decode cX5_readWord 103 = .ok (.iconst 3, 1) := by decide +kernel
theorem dX5_readWord_104 : decode cX5_readWord 104 = .ok (.ireturn, 1) := by decide +kernel
theorem dX5_readWord_105 : decode cX5_readWord 105 = .ok (.aload_n 0, 1) := by decide +kernel
theorem dX5_readWord_106 : decode cX5_readWord 106 = .ok (.iload_n 1, 1) := by decide +kernel
theorem dX5_readWord_107 : decode cX5_readWord 107 = .ok (.ldc 153, 2) := by decide +kernel
theorem dX5_readWord_109 : decode cX5_readWord 109 = .ok (.invokevirtual 143, 3) := by decide +kernel
theorem dX5_readWord_112 : decode cX5_readWord 112 = .ok (.ifCond .eq 5, 3) := by decide +kernel
theorem dX5_readWord_115 : decode cX5_readWord 115 = .ok (.iconst 5, 1) := by decide +kernel
theorem dX5_readWord_116 : decode cX5_readWord 116 = .ok (.ireturn, 1) := by decide +kernel
theorem dX5_readWord_117 : decode cX5_readWord 117 = .ok (.aload_n 0, 1) := by decide +kernel
theorem dX5_readWord_118 : decode cX5_readWord 118 = .ok (.iload_n 1, 1) := by decide +kernel
theorem dX5_readWord_119 : decode cX5_readWord 119 = .ok (.ldc 155, 2) := by decide +kernel
theorem dX5_readWord_121 : decode cX5_readWord 121 = .ok (.invokevirtual 143, 3) := by decide +kernel
theorem dX5_readWord_124 : decode cX5_readWord 124 = .ok (.ifCond .eq 6, 3) := by decide +kernel
theorem dX5_readWord_127 : decode cX5_readWord 127 = .ok (.bipush 6, 2) := by decide +kernel
theorem dX5_readWord_129 : decode cX5_readWord 129 = .ok (.ireturn, 1) := by decide +kernel
theorem dX5_readWord_130 : decode cX5_readWord 130 = .ok (.aload_n 0, 1) := by decide +kernel
theorem dX5_readWord_131 : decode cX5_readWord 131 = .ok (.iload_n 1, 1) := by decide +kernel
theorem dX5_readWord_132 : decode cX5_readWord 132 = .ok (.ldc 157, 2) := by decide +kernel
theorem dX5_readWord_134 : decode cX5_readWord 134 = .ok (.invokevirtual 143, 3) := by decide +kernel
theorem dX5_readWord_137 : decode cX5_readWord 137 = .ok (.ifCond .eq 6, 3) := by decide +kernel
theorem dX5_readWord_140 : decode cX5_readWord 140 = .ok (.bipush 7, 2) := by decide +kernel
theorem dX5_readWord_142 : decode cX5_readWord 142 = .ok (.ireturn, 1) := by decide +kernel
theorem dX5_readWord_143 : decode cX5_readWord 143 = .ok (.aload_n 0, 1) := by decide +kernel
theorem dX5_readWord_144 : decode cX5_readWord 144 = .ok (.iload_n 1, 1) := by decide +kernel
theorem dX5_readWord_145 : decode cX5_readWord 145 = .ok (.ldc 158, 2) := by decide +kernel
theorem dX5_readWord_147 : decode cX5_readWord 147 = .ok (.invokevirtual 143, 3) := by decide +kernel
theorem dX5_readWord_150 : decode cX5_readWord 150 = .ok (.ifCond .eq 8, 3) := by decide +kernel
theorem dX5_readWord_153 : decode cX5_readWord 153 = .ok (.bipush 8, 2) := by decide +kernel
theorem dX5_readWord_155 : decode cX5_readWord 155 = .ok (.goto 4, 3) := by decide +kernel
theorem dX5_readWord_158 : decode cX5_readWord 158 = .ok (.iconst (-1), 1) := by decide +kernel
theorem dX5_readWord_159 : decode cX5_readWord 159 = .ok (.ireturn, 1) := by decide +kernel
theorem dX5_isWord_0 : decode cX5_isWord 0 = .ok (.aload_n 0, 1) := by decide +kernel
theorem dX5_isWord_1 : decode cX5_isWord 1 = .ok (.getfield 27, 3) := by decide +kernel
theorem dX5_isWord_4 : decode cX5_isWord 4 = .ok (.iload_n 1, 1) := by decide +kernel
theorem dX5_isWord_5 : decode cX5_isWord 5 = .ok (.isub, 1) := by decide +kernel
theorem dX5_isWord_6 : decode cX5_isWord 6 = .ok (.aload_n 2, 1) := by decide +kernel
theorem dX5_isWord_7 : decode cX5_isWord 7 = .ok (.invokevirtual 160, 3) := by decide +kernel
theorem dX5_isWord_10 : decode cX5_isWord 10 = .ok (.if_icmp .ne 7, 3) := by decide +kernel
theorem dX5_isWord_13 : decode cX5_isWord 13 = .ok (.iconst 1, 1) := by decide +kernel
theorem dX5_isWord_14 : decode cX5_isWord 14 = .ok (.goto 4, 3) := by decide +kernel
theorem dX5_isWord_17 : decode cX5_isWord 17 = .ok (.iconst 0, 1) := by decide +kernel
theorem dX5_isWord_18 : decode cX5_isWord 18 = .ok (.istore_n 3, 1) := by decide +kernel
theorem dX5_isWord_19 : decode cX5_isWord 19 = .ok (.iconst 0, 1) := by decide +kernel
theorem dX5_isWord_20 : decode cX5_isWord 20 = .ok (.istore 4, 2) := by decide +kernel
theorem dX5_isWord_22 : decode cX5_isWord 22 = .ok (.iload_n 3, 1) := by decide +kernel
theorem dX5_isWord_23 : decode cX5_isWord 23 = .ok (.ifCond .eq 53, 3) := by decide +kernel
theorem dX5_isWord_26 : decode cX5_isWord 26 = .ok (.iload 4, 2) := by decide +kernel
theorem dX5_isWord_28 : decode cX5_isWord 28 = .ok (.aload_n 2, 1) := by decide +kernel
theorem dX5_isWord_29 : decode cX5_isWord 29 = .ok (.invokevirtual 160, 3) := by decide +kernel
theorem dX5_isWord_32 : decode cX5_isWord 32 = .ok (.if_icmp .ge 44, 3) := by decide +kernel
theorem dX5_isWord_35 : decode cX5_isWord 35 = .ok (.iload_n 1, 1) := by decide +kernel
theorem dX5_isWord_36 : decode cX5_isWord 36 = .ok (.iload 4, 2) := by decide +kernel
theorem dX5_isWord_38 : decode cX5_isWord 38 = .ok (.iadd, 1) := by decide +kernel
theorem dX5_isWord_39 : decode cX5_isWord 39 = .ok (.aload_n 0, 1) := by decide +kernel
theorem dX5_isWord_40 : decode cX5_isWord 40 = .ok (.getfield 19, 3) := by decide +kernel
theorem dX5_isWord_43 : decode cX5_isWord 43 = .ok (.if_icmp .ge 33, 3) := by decide +kernel
theorem dX5_isWord_46 : decode cX5_isWord 46 = .ok (.aload_n 0, 1) := by decide +kernel
theorem dX5_isWord_47 : decode cX5_isWord 47 = .ok (.getfield 15, 3) := by decide +kernel
theorem dX5_isWord_50 : decode cX5_isWord 50 = .ok (.iload_n 1, 1) := by decide +kernel
theorem dX5_isWord_51 : decode cX5_isWord 51 = .ok (.iload 4, 2) := by decide +kernel
theorem dX5_isWord_53 : decode cX5_isWord 53 = .ok (.iadd, 1) := by decide +kernel
theorem dX5_isWord_54 : decode cX5_isWord 54 = .ok (.iaload, 1) := by decide +kernel
theorem dX5_isWord_55 : decode cX5_isWord 55 = .ok (.aload_n 2, 1) := by decide +kernel
theorem dX5_isWord_56 : decode cX5_isWord 56 = .ok (.iload 4, 2) := by decide +kernel
theorem dX5_isWord_58 : decode cX5_isWord 58 = .ok (.invokevirtual 164, 3) := by decide +kernel
theorem dX5_isWord_61 : decode cX5_isWord 61 = .ok (.if_icmp .ne 7, 3) := by decide +kernel
theorem dX5_isWord_64 : decode cX5_isWord 64 = .ok (.iconst 1, 1) := by decide +kernel
theorem dX5_isWord_65 : decode cX5_isWord 65 = .ok (.goto 4, 3) := by decide +kernel
theorem dX5_isWord_68 : decode cX5_isWord 68 = .ok (.iconst 0, 1) := by decide +kernel
theorem dX5_isWord_69 : decode cX5_isWord 69 = .ok (.istore_n 3, 1) := by decide +kernel
theorem dX5_isWord_70 : decode cX5_isWord 70 = .ok (.iinc 4 1, 3) := by decide +kernel
theorem dX5_isWord_73 : decode cX5_isWord 73 = .ok (.goto (-51), 3) := by decide +kernel
theorem dX5_isWord_76 : decode cX5_isWord 76 = .ok (.iload_n 3, 1) := by decide +kernel
theorem dX5_isWord_77 : decode cX5_isWord 77 = .ok (.ireturn, 1) := by decide +kernel
theorem dX5_skipBlanks_0 : decode cX5_skipBlanks 0 = .ok (.aload_n 0, 1) := by decide +kernel
theorem dX5_skipBlanks_1 : decode cX5_skipBlanks 1 = .ok (.getfield 27, 3) := by decide +kernel
theorem dX5_skipBlanks_4 : decode cX5_skipBlanks 4 = .ok (.aload_n 0, 1) := by decide +kernel
theorem dX5_skipBlanks_5 : decode cX5_skipBlanks 5 = .ok (.getfield 19, 3) := by decide +kernel
theorem dX5_skipBlanks_8 : decode cX5_skipBlanks 8 = .ok (.if_icmp .ge 30, 3) := by decide +kernel
theorem dX5_skipBlanks_11 : decode cX5_skipBlanks 11 = .ok (.aload_n 0, 1) := by decide +kernel
theorem dX5_skipBlanks_12 : decode cX5_skipBlanks 12 = .ok (.getfield 15, 3) := by decide +kernel
theorem dX5_skipBlanks_15 : decode cX5_skipBlanks 15 = .ok (.aload_n 0, 1) := by decide +kernel
theorem dX5_skipBlanks_16 : decode cX5_skipBlanks 16 = .ok (.getfield 27, 3) := by decide +kernel
theorem dX5_skipBlanks_19 : decode cX5_skipBlanks 19 = .ok (.iaload, 1) := by decide +kernel
theorem dX5_skipBlanks_20 : decode cX5_skipBlanks 20 = .ok (.bipush 32, 2) := by decide +kernel
theorem dX5_skipBlanks_22 : decode cX5_skipBlanks 22 = .ok (.if_icmp .ne 16, 3) := by decide +kernel
theorem dX5_skipBlanks_25 : decode cX5_skipBlanks 25 = .ok (.aload_n 0, 1) := by decide +kernel
theorem dX5_skipBlanks_26 : decode cX5_skipBlanks 26 = .ok (.dup, 1) := by decide +kernel
theorem dX5_skipBlanks_27 : decode cX5_skipBlanks 27 = .ok (.getfield 27, 3) := by decide +kernel
theorem dX5_skipBlanks_30 : decode cX5_skipBlanks 30 = .ok (.iconst 1, 1) := by decide +kernel
theorem dX5_skipBlanks_31 : decode cX5_skipBlanks 31 = .ok (.iadd, 1) := by decide +kernel
theorem dX5_skipBlanks_32 : decode cX5_skipBlanks 32 = .ok (.putfield 27, 3) := by decide +kernel
theorem dX5_skipBlanks_35 : decode cX5_skipBlanks 35 = .ok (.goto (-35), 3) := by decide +kernel
theorem dX5_skipBlanks_38 : decode cX5_skipBlanks 38 = .ok (.return_, 1) := by decide +kernel
theorem dX6_init_0 : decode cX6_init 0 = .ok (.aload_n 0, 1) := by decide +kernel
theorem dX6_init_1 : decode cX6_init 1 = .ok (.invokespecial 3, 3) := by decide +kernel
theorem dX6_init_4 : decode cX6_init 4 = .ok (.aload_n 0, 1) := by decide +kernel
theorem dX6_init_5 : decode cX6_init 5 = .ok (.bipush 6, 2) := by decide +kernel
theorem dX6_init_7 : decode cX6_init 7 = .ok (.newarray .int, 2) := by decide +kernel
theorem dX6_init_9 : decode cX6_init 9 = .ok (.putfield 9, 3) := by decide +kernel
theorem dX6_init_12 : decode cX6_init 12 = .ok (.aload_n 0, 1) := by decide +kernel
theorem dX6_init_13 : decode cX6_init 13 = .ok (.bipush 6, 2) := by decide +kernel
theorem dX6_init_15 : decode cX6_init 15 = .ok (.newarray .int, 2) := by decide +kernel
theorem dX6_init_17 : decode cX6_init 17 = .ok (.putfield 15, 3) := by decide +kernel
theorem dX6_init_20 : decode cX6_init 20 = .ok (.aload_n 0, 1) := by decide +kernel
theorem dX6_init_21 : decode cX6_init 21 = .ok (.aload_n 1, 1) := by decide +kernel
theorem dX6_init_22 : decode cX6_init 22 = .ok (.putfield 18, 3) := by decide +kernel
theorem dX6_init_25 : decode cX6_init 25 = .ok (.aload_n 0, 1) := by decide +kernel
theorem dX6_init_26 : decode cX6_init 26 = .ok (.aload_n 2, 1) := by decide +kernel
theorem dX6_init_27 : decode cX6_init 27 = .ok (.putfield 22, 3) := by decide +kernel
theorem dX6_init_30 : decode cX6_init 30 = .ok (.return_, 1) := by decide +kernel
theorem dX6_begin_0 : decode cX6_begin 0 = .ok (.aload_n 0, 1) := by decide +kernel
theorem dX6_begin_1 : decode cX6_begin 1 = .ok (.aload_n 0, 1) := by decide +kernel
theorem dX6_begin_2 : decode cX6_begin 2 = .ok (.getfield 18, 3) := by decide +kernel
theorem dX6_begin_5 : decode cX6_begin 5 = .ok (.getfield 26, 3) := by decide +kernel
theorem dX6_begin_8 : decode cX6_begin 8 = .ok (.putfield 32, 3) := by decide +kernel
theorem dX6_begin_11 : decode cX6_begin 11 = .ok (.aload_n 0, 1) := by decide +kernel
theorem dX6_begin_12 : decode cX6_begin 12 = .ok (.iconst 0, 1) := by decide +kernel
theorem dX6_begin_13 : decode cX6_begin 13 = .ok (.putfield 33, 3) := by decide +kernel
theorem dX6_begin_16 : decode cX6_begin 16 = .ok (.iconst 0, 1) := by decide +kernel
theorem dX6_begin_17 : decode cX6_begin 17 = .ok (.istore_n 1, 1) := by decide +kernel
theorem dX6_begin_18 : decode cX6_begin 18 = .ok (.iload_n 1, 1) := by decide +kernel
theorem dX6_begin_19 : decode cX6_begin 19 = .ok (.bipush 6, 2) := by decide +kernel
theorem dX6_begin_21 : decode cX6_begin 21 = .ok (.if_icmp .ge 31, 3) := by decide +kernel
theorem dX6_begin_24 : decode cX6_begin 24 = .ok (.aload_n 0, 1) := by decide +kernel
theorem dX6_begin_25 : decode cX6_begin 25 = .ok (.getfield 9, 3) := by decide +kernel
theorem dX6_begin_28 : decode cX6_begin 28 = .ok (.iload_n 1, 1) := by decide +kernel
theorem dX6_begin_29 : decode cX6_begin 29 = .ok (.aload_n 0, 1) := by decide +kernel
theorem dX6_begin_30 : decode cX6_begin 30 = .ok (.getfield 18, 3) := by decide +kernel
theorem dX6_begin_33 : decode cX6_begin 33 = .ok (.getfield 36, 3) := by decide +kernel
theorem dX6_begin_36 : decode cX6_begin 36 = .ok (.iload_n 1, 1) := by decide +kernel
theorem dX6_begin_37 : decode cX6_begin 37 = .ok (.iaload, 1) := by decide +kernel
theorem dX6_begin_38 : decode cX6_begin 38 = .ok (.iastore, 1) := by decide +kernel
theorem dX6_begin_39 : decode cX6_begin 39 = .ok (.aload_n 0, 1) := by decide +kernel
theorem dX6_begin_40 : decode cX6_begin 40 = .ok (.getfield 15, 3) := by decide +kernel
theorem dX6_begin_43 : decode cX6_begin 43 = .ok (.iload_n 1, 1) := by decide +kernel
theorem dX6_begin_44 : decode cX6_begin 44 = .ok (.iconst (-1), 1) := by decide +kernel
theorem dX6_begin_45 : decode cX6_begin 45 = .ok (.iastore, 1) := by decide +kernel
theorem dX6_begin_46 : decode cX6_begin 46 = .ok (.iinc 1 1, 3) := by decide +kernel
theorem dX6_begin_49 : decode cX6_begin 49 = .ok (.goto (-31), 3) := by decide +kernel
theorem dX6_begin_52 : decode cX6_begin 52 = .ok (.return_, 1) := by decide +kernel
theorem dX6_copy_0 : decode cX6_copy 0 = .ok (.aload_n 0, 1) := by decide +kernel
theorem dX6_copy_1 : decode cX6_copy 1 = .ok (.aload_n 1, 1) := by decide +kernel
theorem dX6_copy_2 : decode cX6_copy 2 = .ok (.getfield 32, 3) := by decide +kernel
theorem dX6_copy_5 : decode cX6_copy 5 = .ok (.putfield 32, 3) := by decide +kernel
theorem dX6_copy_8 : decode cX6_copy 8 = .ok (.aload_n 0, 1) := by decide +kernel
theorem dX6_copy_9 : decode cX6_copy 9 = .ok (.aload_n 1, 1) := by decide +kernel
theorem dX6_copy_10 : decode cX6_copy 10 = .ok (.getfield 33, 3) := by decide +kernel
theorem dX6_copy_13 : decode cX6_copy 13 = .ok (.putfield 33, 3) := by decide +kernel
theorem dX6_copy_16 : decode cX6_copy 16 = .ok (.iconst 0, 1) := by decide +kernel
theorem dX6_copy_17 : decode cX6_copy 17 = .ok (.istore_n 2, 1) := by decide +kernel
theorem dX6_copy_18 : decode cX6_copy 18 = .ok (.iload_n 2, 1) := by decide +kernel
theorem dX6_copy_19 : decode cX6_copy 19 = .ok (.aload_n 0, 1) := by decide +kernel
theorem dX6_copy_20 : decode cX6_copy 20 = .ok (.getfield 18, 3) := by decide +kernel
theorem dX6_copy_23 : decode cX6_copy 23 = .ok (.getfield 39, 3) := by decide +kernel
theorem dX6_copy_26 : decode cX6_copy 26 = .ok (.if_icmp .ge 33, 3) := by decide +kernel
theorem dX6_copy_29 : decode cX6_copy 29 = .ok (.aload_n 0, 1) := by decide +kernel
theorem dX6_copy_30 : decode cX6_copy 30 = .ok (.getfield 9, 3) := by decide +kernel
theorem dX6_copy_33 : decode cX6_copy 33 = .ok (.iload_n 2, 1) := by decide +kernel
theorem dX6_copy_34 : decode cX6_copy 34 = .ok (.aload_n 1, 1) := by decide +kernel
theorem dX6_copy_35 : decode cX6_copy 35 = .ok (.getfield 9, 3) := by decide +kernel
theorem dX6_copy_38 : decode cX6_copy 38 = .ok (.iload_n 2, 1) := by decide +kernel
theorem dX6_copy_39 : decode cX6_copy 39 = .ok (.iaload, 1) := by decide +kernel
theorem dX6_copy_40 : decode cX6_copy 40 = .ok (.iastore, 1) := by decide +kernel
theorem dX6_copy_41 : decode cX6_copy 41 = .ok (.aload_n 0, 1) := by decide +kernel
theorem dX6_copy_42 : decode cX6_copy 42 = .ok (.getfield 15, 3) := by decide +kernel
theorem dX6_copy_45 : decode cX6_copy 45 = .ok (.iload_n 2, 1) := by decide +kernel
theorem dX6_copy_46 : decode cX6_copy 46 = .ok (.aload_n 1, 1) := by decide +kernel
theorem dX6_copy_47 : decode cX6_copy 47 = .ok (.getfield 15, 3) := by decide +kernel
theorem dX6_copy_50 : decode cX6_copy 50 = .ok (.iload_n 2, 1) := by decide +kernel
theorem dX6_copy_51 : decode cX6_copy 51 = .ok (.iaload, 1) := by decide +kernel
theorem dX6_copy_52 : decode cX6_copy 52 = .ok (.iastore, 1) := by decide +kernel
theorem dX6_copy_53 : decode cX6_copy 53 = .ok (.iinc 2 1, 3) := by decide +kernel
theorem dX6_copy_56 : decode cX6_copy 56 = .ok (.goto (-38), 3) := by decide +kernel
theorem dX6_copy_59 : decode cX6_copy 59 = .ok (.return_, 1) := by decide +kernel
theorem dX6_may_0 : decode cX6_may 0 = .ok (.aload_n 0, 1) := by decide +kernel
theorem dX6_may_1 : decode cX6_may 1 = .ok (.getfield 22, 3) := by decide +kernel
theorem dX6_may_4 : decode cX6_may 4 = .ok (.getfield 42, 3) := by decide +kernel
theorem dX6_may_7 : decode cX6_may 7 = .ok (.ifCond .eq 7, 3) := by decide +kernel
theorem dX6_may_10 : decode cX6_may 10 = .ok (.iload_n 1, 1) := by decide +kernel
theorem dX6_may_11 : decode cX6_may 11 = .ok (.ifCond .ne 19, 3) := by decide +kernel
theorem dX6_may_14 : decode cX6_may 14 = .ok (.aload_n 0, 1) := by decide +kernel
theorem dX6_may_15 : decode cX6_may 15 = .ok (.getfield 22, 3) := by decide +kernel
theorem dX6_may_18 : decode cX6_may 18 = .ok (.getfield 42, 3) := by decide +kernel
theorem dX6_may_21 : decode cX6_may 21 = .ok (.ifCond .le 7, 3) := by decide +kernel
theorem dX6_may_24 : decode cX6_may 24 = .ok (.iconst 1, 1) := by decide +kernel
theorem dX6_may_25 : decode cX6_may 25 = .ok (.goto 4, 3) := by decide +kernel
theorem dX6_may_28 : decode cX6_may 28 = .ok (.iconst 0, 1) := by decide +kernel
theorem dX6_may_29 : decode cX6_may 29 = .ok (.ireturn, 1) := by decide +kernel
theorem dX6_may_30 : decode cX6_may 30 = .ok (.aload_n 0, 1) := by decide +kernel
theorem dX6_may_31 : decode cX6_may 31 = .ok (.getfield 22, 3) := by decide +kernel
theorem dX6_may_34 : decode cX6_may 34 = .ok (.aload_n 0, 1) := by decide +kernel
theorem dX6_may_35 : decode cX6_may 35 = .ok (.getfield 22, 3) := by decide +kernel
theorem dX6_may_38 : decode cX6_may 38 = .ok (.aload_n 0, 1) := by decide +kernel
theorem dX6_may_39 : decode cX6_may 39 = .ok (.getfield 32, 3) := by decide +kernel
theorem dX6_may_42 : decode cX6_may 42 = .ok (.iload_n 1, 1) := by decide +kernel
theorem dX6_may_43 : decode cX6_may 43 = .ok (.invokevirtual 47, 3) := by decide +kernel
theorem dX6_may_46 : decode cX6_may 46 = .ok (.invokevirtual 51, 3) := by decide +kernel
theorem dX6_may_49 : decode cX6_may 49 = .ok (.istore_n 2, 1) := by decide +kernel
theorem dX6_may_50 : decode cX6_may 50 = .ok (.iload_n 2, 1) := by decide +kernel
theorem dX6_may_51 : decode cX6_may 51 = .ok (.iconst 1, 1) := by decide +kernel
theorem dX6_may_52 : decode cX6_may 52 = .ok (.if_icmp .eq 12, 3) := by decide +kernel
theorem dX6_may_55 : decode cX6_may 55 = .ok (.iload_n 2, 1) := by decide +kernel
theorem dX6_may_56 : decode cX6_may 56 = .ok (.iconst 2, 1) := by decide +kernel
theorem dX6_may_57 : decode cX6_may 57 = .ok (.if_icmp .eq 7, 3) := by decide +kernel
theorem dX6_may_60 : decode cX6_may 60 = .ok (.iconst 1, 1) := by decide +kernel
theorem dX6_may_61 : decode cX6_may 61 = .ok (.goto 4, 3) := by decide +kernel
theorem dX6_may_64 : decode cX6_may 64 = .ok (.iconst 0, 1) := by decide +kernel
theorem dX6_may_65 : decode cX6_may 65 = .ok (.ireturn, 1) := by decide +kernel
theorem dX6_pass_0 : decode cX6_pass 0 = .ok (.iload_n 1, 1) := by decide +kernel
theorem dX6_pass_1 : decode cX6_pass 1 = .ok (.ifCond .eq 19, 3) := by decide +kernel
theorem dX6_pass_4 : decode cX6_pass 4 = .ok (.aload_n 0, 1) := by decide +kernel
theorem dX6_pass_5 : decode cX6_pass 5 = .ok (.aload_n 0, 1) := by decide +kernel
theorem dX6_pass_6 : decode cX6_pass 6 = .ok (.getfield 22, 3) := by decide +kernel
theorem dX6_pass_9 : decode cX6_pass 9 = .ok (.aload_n 0, 1) := by decide +kernel
theorem dX6_pass_10 : decode cX6_pass 10 = .ok (.getfield 32, 3) := by decide +kernel
theorem dX6_pass_13 : decode cX6_pass 13 = .ok (.iload_n 1, 1) := by decide +kernel
theorem dX6_pass_14 : decode cX6_pass 14 = .ok (.invokevirtual 47, 3) := by decide +kernel
theorem dX6_pass_17 : decode cX6_pass 17 = .ok (.putfield 32, 3) := by decide +kernel
theorem dX6_pass_20 : decode cX6_pass 20 = .ok (.iconst 0, 1) := by decide +kernel
theorem dX6_pass_21 : decode cX6_pass 21 = .ok (.istore_n 3, 1) := by decide +kernel
theorem dX6_pass_22 : decode cX6_pass 22 = .ok (.iload_n 3, 1) := by decide +kernel
theorem dX6_pass_23 : decode cX6_pass 23 = .ok (.aload_n 0, 1) := by decide +kernel
theorem dX6_pass_24 : decode cX6_pass 24 = .ok (.getfield 18, 3) := by decide +kernel
theorem dX6_pass_27 : decode cX6_pass 27 = .ok (.getfield 39, 3) := by decide +kernel
theorem dX6_pass_30 : decode cX6_pass 30 = .ok (.if_icmp .ge 48, 3) := by decide +kernel
theorem dX6_pass_33 : decode cX6_pass 33 = .ok (.iload_n 2, 1) := by decide +kernel
theorem dX6_pass_34 : decode cX6_pass 34 = .ok (.iconst (-1), 1) := by decide +kernel
theorem dX6_pass_35 : decode cX6_pass 35 = .ok (.if_icmp .eq 22, 3) := by decide +kernel
theorem dX6_pass_38 : decode cX6_pass 38 = .ok (.aload_n 0, 1) := by decide +kernel
theorem dX6_pass_39 : decode cX6_pass 39 = .ok (.iload_n 3, 1) := by decide +kernel
theorem dX6_pass_40 : decode cX6_pass 40 = .ok (.iload_n 2, 1) := by decide +kernel
theorem dX6_pass_41 : decode cX6_pass 41 = .ok (.invokevirtual 55, 3) := by decide +kernel
theorem dX6_pass_44 : decode cX6_pass 44 = .ok (.ifCond .eq 13, 3) := by decide +kernel
theorem dX6_pass_47 : decode cX6_pass 47 = .ok (.aload_n 0, 1) := by decide +kernel
theorem dX6_pass_48 : decode cX6_pass 48 = .ok (.getfield 15, 3) := by decide +kernel
theorem dX6_pass_51 : decode cX6_pass 51 = .ok (.iload_n 3, 1) := by decide +kernel
theorem dX6_pass_52 : decode cX6_pass 52 = .ok (.aload_n 0, 1) := by decide +kernel
theorem dX6_pass_53 : decode cX6_pass 53 = .ok (.getfield 32, 3) := by decide +kernel
theorem dX6_pass_56 : decode cX6_pass 56 = .ok (.iastore, 1) := by decide +kernel
theorem dX6_pass_57 : decode cX6_pass 57 = .ok (.aload_n 0, 1) := by decide +kernel
theorem dX6_pass_58 : decode cX6_pass 58 = .ok (.getfield 15, 3) := by decide +kernel
theorem dX6_pass_61 : decode cX6_pass 61 = .ok (.iload_n 3, 1) := by decide +kernel
theorem dX6_pass_62 : decode cX6_pass 62 = .ok (.iaload, 1) := by decide +kernel
theorem dX6_pass_63 : decode cX6_pass 63 = .ok (.iconst (-1), 1) := by decide +kernel
theorem dX6_pass_64 : decode cX6_pass 64 = .ok (.if_icmp .eq 8, 3) := by decide +kernel
theorem dX6_pass_67 : decode cX6_pass 67 = .ok (.aload_n 0, 1) := by decide +kernel
theorem dX6_pass_68 : decode cX6_pass 68 = .ok (.iload_n 3, 1) := by decide +kernel
theorem dX6_pass_69 : decode cX6_pass 69 = .ok (.invokevirtual 59, 3) := by decide +kernel
theorem dX6_pass_72 : decode cX6_pass 72 = .ok (.iinc 3 1, 3) := by decide +kernel
theorem dX6_pass_75 : decode cX6_pass 75 = .ok (.goto (-53), 3) := by decide +kernel
theorem dX6_pass_78 : decode cX6_pass 78 = .ok (.aload_n 0, 1) := by decide +kernel
theorem dX6_pass_79 : decode cX6_pass 79 = .ok (.dup, 1) := by decide +kernel
theorem dX6_pass_80 : decode cX6_pass 80 = .ok (.getfield 33, 3) := by decide +kernel
theorem dX6_pass_83 : decode cX6_pass 83 = .ok (.iconst 1, 1) := by decide +kernel
theorem dX6_pass_84 : decode cX6_pass 84 = .ok (.iadd, 1) := by decide +kernel
theorem dX6_pass_85 : decode cX6_pass 85 = .ok (.putfield 33, 3) := by decide +kernel
theorem dX6_pass_88 : decode cX6_pass 88 = .ok (.return_, 1) := by decide +kernel
theorem dX6_hears_0 : decode cX6_hears 0 = .ok (.aload_n 0, 1) := by decide +kernel
theorem dX6_hears_1 : decode cX6_hears 1 = .ok (.getfield 18, 3) := by decide +kernel
theorem dX6_hears_4 : decode cX6_hears 4 = .ok (.iload_n 1, 1) := by decide +kernel
theorem dX6_hears_5 : decode cX6_hears 5 = .ok (.iload_n 2, 1) := by decide +kernel
theorem dX6_hears_6 : decode cX6_hears 6 = .ok (.invokevirtual 63, 3) := by decide +kernel
theorem dX6_hears_9 : decode cX6_hears 9 = .ok (.ifCond .eq 11, 3) := by decide +kernel
theorem dX6_hears_12 : decode cX6_hears 12 = .ok (.aload_n 0, 1) := by decide +kernel
theorem dX6_hears_13 : decode cX6_hears 13 = .ok (.iload_n 1, 1) := by decide +kernel
theorem dX6_hears_14 : decode cX6_hears 14 = .ok (.invokevirtual 66, 3) := by decide +kernel
theorem dX6_hears_17 : decode cX6_hears 17 = .ok (.ifCond .ne 5, 3) := by decide +kernel
theorem dX6_hears_20 : decode cX6_hears 20 = .ok (.iconst 0, 1) := by decide +kernel
theorem dX6_hears_21 : decode cX6_hears 21 = .ok (.ireturn, 1) := by decide +kernel
theorem dX6_hears_22 : decode cX6_hears 22 = .ok (.aload_n 0, 1) := by decide +kernel
theorem dX6_hears_23 : decode cX6_hears 23 = .ok (.getfield 22, 3) := by decide +kernel
theorem dX6_hears_26 : decode cX6_hears 26 = .ok (.aload_n 0, 1) := by decide +kernel
theorem dX6_hears_27 : decode cX6_hears 27 = .ok (.getfield 9, 3) := by decide +kernel
theorem dX6_hears_30 : decode cX6_hears 30 = .ok (.iload_n 1, 1) := by decide +kernel
theorem dX6_hears_31 : decode cX6_hears 31 = .ok (.iaload, 1) := by decide +kernel
theorem dX6_hears_32 : decode cX6_hears 32 = .ok (.aload_n 0, 1) := by decide +kernel
theorem dX6_hears_33 : decode cX6_hears 33 = .ok (.getfield 32, 3) := by decide +kernel
theorem dX6_hears_36 : decode cX6_hears 36 = .ok (.invokevirtual 70, 3) := by decide +kernel
theorem dX6_hears_39 : decode cX6_hears 39 = .ok (.istore_n 3, 1) := by decide +kernel
theorem dX6_hears_40 : decode cX6_hears 40 = .ok (.iload_n 3, 1) := by decide +kernel
theorem dX6_hears_41 : decode cX6_hears 41 = .ok (.iconst (-1), 1) := by decide +kernel
theorem dX6_hears_42 : decode cX6_hears 42 = .ok (.if_icmp .eq 20, 3) := by decide +kernel
theorem dX6_hears_45 : decode cX6_hears 45 = .ok (.iload_n 3, 1) := by decide +kernel
theorem dX6_hears_46 : decode cX6_hears 46 = .ok (.aload_n 0, 1) := by decide +kernel
theorem dX6_hears_47 : decode cX6_hears 47 = .ok (.getfield 18, 3) := by decide +kernel
theorem dX6_hears_50 : decode cX6_hears 50 = .ok (.getfield 73, 3) := by decide +kernel
theorem dX6_hears_53 : decode cX6_hears 53 = .ok (.iload_n 2, 1) := by decide +kernel
theorem dX6_hears_54 : decode cX6_hears 54 = .ok (.iaload, 1) := by decide +kernel
theorem dX6_hears_55 : decode cX6_hears 55 = .ok (.if_icmp .gt 7, 3) := by decide +kernel
theorem dX6_hears_58 : decode cX6_hears 58 = .ok (.iconst 1, 1) := by decide +kernel
theorem dX6_hears_59 : decode cX6_hears 59 = .ok (.goto 4, 3) := by decide +kernel
theorem dX6_hears_62 : decode cX6_hears 62 = .ok (.iconst 0, 1) := by decide +kernel
theorem dX6_hears_63 : decode cX6_hears 63 = .ok (.ireturn, 1) := by decide +kernel
theorem dX6_lead_0 : decode cX6_lead 0 = .ok (.iconst 0, 1) := by decide +kernel
theorem dX6_lead_1 : decode cX6_lead 1 = .ok (.istore_n 2, 1) := by decide +kernel
theorem dX6_lead_2 : decode cX6_lead 2 = .ok (.iload_n 2, 1) := by decide +kernel
theorem dX6_lead_3 : decode cX6_lead 3 = .ok (.aload_n 0, 1) := by decide +kernel
theorem dX6_lead_4 : decode cX6_lead 4 = .ok (.getfield 18, 3) := by decide +kernel
theorem dX6_lead_7 : decode cX6_lead 7 = .ok (.getfield 76, 3) := by decide +kernel
theorem dX6_lead_10 : decode cX6_lead 10 = .ok (.iload_n 1, 1) := by decide +kernel
theorem dX6_lead_11 : decode cX6_lead 11 = .ok (.iaload, 1) := by decide +kernel
theorem dX6_lead_12 : decode cX6_lead 12 = .ok (.if_icmp .ge 90, 3) := by decide +kernel
theorem dX6_lead_15 : decode cX6_lead 15 = .ok (.aload_n 0, 1) := by decide +kernel
theorem dX6_lead_16 : decode cX6_lead 16 = .ok (.getfield 15, 3) := by decide +kernel
theorem dX6_lead_19 : decode cX6_lead 19 = .ok (.iload_n 1, 1) := by decide +kernel
theorem dX6_lead_20 : decode cX6_lead 20 = .ok (.iaload, 1) := by decide +kernel
theorem dX6_lead_21 : decode cX6_lead 21 = .ok (.iconst (-1), 1) := by decide +kernel
theorem dX6_lead_22 : decode cX6_lead 22 = .ok (.if_icmp .eq 80, 3) := by decide +kernel
theorem dX6_lead_25 : decode cX6_lead 25 = .ok (.aload_n 0, 1) := by decide +kernel
theorem dX6_lead_26 : decode cX6_lead 26 = .ok (.getfield 22, 3) := by decide +kernel
theorem dX6_lead_29 : decode cX6_lead 29 = .ok (.aload_n 0, 1) := by decide +kernel
theorem dX6_lead_30 : decode cX6_lead 30 = .ok (.getfield 9, 3) := by decide +kernel
theorem dX6_lead_33 : decode cX6_lead 33 = .ok (.iload_n 1, 1) := by decide +kernel
theorem dX6_lead_34 : decode cX6_lead 34 = .ok (.iaload, 1) := by decide +kernel
theorem dX6_lead_35 : decode cX6_lead 35 = .ok (.aload_n 0, 1) := by decide +kernel
theorem dX6_lead_36 : decode cX6_lead 36 = .ok (.getfield 15, 3) := by decide +kernel
theorem dX6_lead_39 : decode cX6_lead 39 = .ok (.iload_n 1, 1) := by decide +kernel
theorem dX6_lead_40 : decode cX6_lead 40 = .ok (.iaload, 1) := by decide +kernel
theorem dX6_lead_41 : decode cX6_lead 41 = .ok (.invokevirtual 79, 3) := by decide +kernel
theorem dX6_lead_44 : decode cX6_lead 44 = .ok (.istore_n 3, 1) := by decide +kernel
theorem dX6_lead_45 : decode cX6_lead 45 = .ok (.aload_n 0, 1) := by decide +kernel
theorem dX6_lead_46 : decode cX6_lead 46 = .ok (.getfield 9, 3) := by decide +kernel
theorem dX6_lead_49 : decode cX6_lead 49 = .ok (.iload_n 1, 1) := by decide +kernel
theorem dX6_lead_50 : decode cX6_lead 50 = .ok (.iload_n 3, 1) := by decide +kernel
theorem dX6_lead_51 : decode cX6_lead 51 = .ok (.iconst (-1), 1) := by decide +kernel
theorem dX6_lead_52 : decode cX6_lead 52 = .ok (.if_icmp .ne 12, 3) := by decide +kernel
theorem dX6_lead_55 : decode cX6_lead 55 = .ok (.aload_n 0, 1) := by decide +kernel
theorem dX6_lead_56 : decode cX6_lead 56 = .ok (.getfield 9, 3) := by decide +kernel
theorem dX6_lead_59 : decode cX6_lead 59 = .ok (.iload_n 1, 1) := by decide +kernel
theorem dX6_lead_60 : decode cX6_lead 60 = .ok (.iaload, 1) := by decide +kernel
theorem dX6_lead_61 : decode cX6_lead 61 = .ok (.goto 4, 3) := by decide +kernel
theorem dX6_lead_64 : decode cX6_lead 64 = .ok (.iload_n 3, 1) := by decide +kernel
theorem dX6_lead_65 : decode cX6_lead 65 = .ok (.iastore, 1) := by decide +kernel
theorem dX6_lead_66 : decode cX6_lead 66 = .ok (.aload_n 0, 1) := by decide +kernel
theorem dX6_lead_67 : decode cX6_lead 67 = .ok (.getfield 9, 3) := by decide +kernel
theorem dX6_lead_70 : decode cX6_lead 70 = .ok (.iload_n 1, 1) := by decide +kernel
theorem dX6_lead_71 : decode cX6_lead 71 = .ok (.iaload, 1) := by decide +kernel
theorem dX6_lead_72 : decode cX6_lead 72 = .ok (.aload_n 0, 1) := by decide +kernel
theorem dX6_lead_73 : decode cX6_lead 73 = .ok (.getfield 15, 3) := by decide +kernel
theorem dX6_lead_76 : decode cX6_lead 76 = .ok (.iload_n 1, 1) := by decide +kernel
theorem dX6_lead_77 : decode cX6_lead 77 = .ok (.iaload, 1) := by decide +kernel
theorem dX6_lead_78 : decode cX6_lead 78 = .ok (.if_icmp .eq 11, 3) := by decide +kernel
theorem dX6_lead_81 : decode cX6_lead 81 = .ok (.aload_n 0, 1) := by decide +kernel
theorem dX6_lead_82 : decode cX6_lead 82 = .ok (.iload_n 1, 1) := by decide +kernel
theorem dX6_lead_83 : decode cX6_lead 83 = .ok (.invokevirtual 82, 3) := by decide +kernel
theorem dX6_lead_86 : decode cX6_lead 86 = .ok (.ifCond .eq 10, 3) := by decide +kernel
theorem dX6_lead_89 : decode cX6_lead 89 = .ok (.aload_n 0, 1) := by decide +kernel
theorem dX6_lead_90 : decode cX6_lead 90 = .ok (.getfield 15, 3) := by decide +kernel
theorem dX6_lead_93 : decode cX6_lead 93 = .ok (.iload_n 1, 1) := by decide +kernel
theorem dX6_lead_94 : decode cX6_lead 94 = .ok (.iconst (-1), 1) := by decide +kernel
theorem dX6_lead_95 : decode cX6_lead 95 = .ok (.iastore, 1) := by decide +kernel
theorem dX6_lead_96 : decode cX6_lead 96 = .ok (.iinc 2 1, 3) := by decide +kernel
theorem dX6_lead_99 : decode cX6_lead 99 = .ok (.goto (-97), 3) := by decide +kernel
theorem dX6_lead_102 : decode cX6_lead 102 = .ok (.return_, 1) := by decide +kernel
theorem dX6_hearers_0 : decode cX6_hearers 0 = .ok (.iconst 0, 1) := by decide +kernel
theorem dX6_hearers_1 : decode cX6_hearers 1 = .ok (.istore_n 2, 1) := by decide +kernel
theorem dX6_hearers_2 : decode cX6_hearers 2 = .ok (.iconst 0, 1) := by decide +kernel
theorem dX6_hearers_3 : decode cX6_hearers 3 = .ok (.istore_n 3, 1) := by decide +kernel
theorem dX6_hearers_4 : decode cX6_hearers 4 = .ok (.iload_n 3, 1) := by decide +kernel
theorem dX6_hearers_5 : decode cX6_hearers 5 = .ok (.aload_n 0, 1) := by decide +kernel
theorem dX6_hearers_6 : decode cX6_hearers 6 = .ok (.getfield 18, 3) := by decide +kernel
theorem dX6_hearers_9 : decode cX6_hearers 9 = .ok (.getfield 39, 3) := by decide +kernel
theorem dX6_hearers_12 : decode cX6_hearers 12 = .ok (.if_icmp .ge 24, 3) := by decide +kernel
theorem dX6_hearers_15 : decode cX6_hearers 15 = .ok (.aload_n 0, 1) := by decide +kernel
theorem dX6_hearers_16 : decode cX6_hearers 16 = .ok (.iload_n 3, 1) := by decide +kernel
theorem dX6_hearers_17 : decode cX6_hearers 17 = .ok (.iload_n 1, 1) := by decide +kernel
theorem dX6_hearers_18 : decode cX6_hearers 18 = .ok (.invokevirtual 55, 3) := by decide +kernel
theorem dX6_hearers_21 : decode cX6_hearers 21 = .ok (.ifCond .eq 9, 3) := by decide +kernel
theorem dX6_hearers_24 : decode cX6_hearers 24 = .ok (.iload_n 2, 1) := by decide +kernel
theorem dX6_hearers_25 : decode cX6_hearers 25 = .ok (.iconst 1, 1) := by decide +kernel
theorem dX6_hearers_26 : decode cX6_hearers 26 = .ok (.iload_n 3, 1) := by decide +kernel
theorem dX6_hearers_27 : decode cX6_hearers 27 = .ok (.ishl, 1) := by decide +kernel
theorem dX6_hearers_28 : decode cX6_hearers 28 = .ok (.ior, 1) := by decide +kernel
theorem dX6_hearers_29 : decode cX6_hearers 29 = .ok (.istore_n 2, 1) := by decide +kernel
theorem dX6_hearers_30 : decode cX6_hearers 30 = .ok (.iinc 3 1, 3) := by decide +kernel
theorem dX6_hearers_33 : decode cX6_hearers 33 = .ok (.goto (-29), 3) := by decide +kernel
theorem dX6_hearers_36 : decode cX6_hearers 36 = .ok (.iload_n 2, 1) := by decide +kernel
theorem dX6_hearers_37 : decode cX6_hearers 37 = .ok (.ireturn, 1) := by decide +kernel
theorem dX6_fate_0 : decode cX6_fate 0 = .ok (.iload_n 1, 1) := by decide +kernel
theorem dX6_fate_1 : decode cX6_fate 1 = .ok (.ifCond .lt 18, 3) := by decide +kernel
theorem dX6_fate_4 : decode cX6_fate 4 = .ok (.iload_n 1, 1) := by decide +kernel
theorem dX6_fate_5 : decode cX6_fate 5 = .ok (.bipush 6, 2) := by decide +kernel
theorem dX6_fate_7 : decode cX6_fate 7 = .ok (.if_icmp .ge 12, 3) := by decide +kernel
theorem dX6_fate_10 : decode cX6_fate 10 = .ok (.aload_n 0, 1) := by decide +kernel
theorem dX6_fate_11 : decode cX6_fate 11 = .ok (.getfield 9, 3) := by decide +kernel
theorem dX6_fate_14 : decode cX6_fate 14 = .ok (.iload_n 1, 1) := by decide +kernel
theorem dX6_fate_15 : decode cX6_fate 15 = .ok (.iaload, 1) := by decide +kernel
theorem dX6_fate_16 : decode cX6_fate 16 = .ok (.goto 4, 3) := by decide +kernel
theorem dX6_fate_19 : decode cX6_fate 19 = .ok (.iconst (-1), 1) := by decide +kernel
theorem dX6_fate_20 : decode cX6_fate 20 = .ok (.istore_n 2, 1) := by decide +kernel
theorem dX6_fate_21 : decode cX6_fate 21 = .ok (.iload_n 2, 1) := by decide +kernel
theorem dX6_fate_22 : decode cX6_fate 22 = .ok (.ifCond .lt 21, 3) := by decide +kernel
theorem dX6_fate_25 : decode cX6_fate 25 = .ok (.iload_n 2, 1) := by decide +kernel
theorem dX6_fate_26 : decode cX6_fate 26 = .ok (.bipush 42, 2) := by decide +kernel
theorem dX6_fate_28 : decode cX6_fate 28 = .ok (.if_icmp .ge 15, 3) := by decide +kernel
theorem dX6_fate_31 : decode cX6_fate 31 = .ok (.aload_n 0, 1) := by decide +kernel
theorem dX6_fate_32 : decode cX6_fate 32 = .ok (.getfield 22, 3) := by decide +kernel
theorem dX6_fate_35 : decode cX6_fate 35 = .ok (.getfield 85, 3) := by decide +kernel
theorem dX6_fate_38 : decode cX6_fate 38 = .ok (.iload_n 2, 1) := by decide +kernel
theorem dX6_fate_39 : decode cX6_fate 39 = .ok (.iaload, 1) := by decide +kernel
theorem dX6_fate_40 : decode cX6_fate 40 = .ok (.goto 4, 3) := by decide +kernel
theorem dX6_fate_43 : decode cX6_fate 43 = .ok (.iconst 0, 1) := by decide +kernel
theorem dX6_fate_44 : decode cX6_fate 44 = .ok (.istore_n 3, 1) := by decide +kernel
theorem dX6_fate_45 : decode cX6_fate 45 = .ok (.iload_n 3, 1) := by decide +kernel
theorem dX6_fate_46 : decode cX6_fate 46 = .ok (.iconst 3, 1) := by decide +kernel
theorem dX6_fate_47 : decode cX6_fate 47 = .ok (.if_icmp .ne 7, 3) := by decide +kernel
theorem dX6_fate_50 : decode cX6_fate 50 = .ok (.iconst 1, 1) := by decide +kernel
theorem dX6_fate_51 : decode cX6_fate 51 = .ok (.goto 13, 3) := by decide +kernel
theorem dX6_fate_54 : decode cX6_fate 54 = .ok (.iload_n 3, 1) := by decide +kernel
theorem dX6_fate_55 : decode cX6_fate 55 = .ok (.iconst 2, 1) := by decide +kernel
theorem dX6_fate_56 : decode cX6_fate 56 = .ok (.if_icmp .ne 7, 3) := by decide +kernel
theorem dX6_fate_59 : decode cX6_fate 59 = .ok (.iconst 2, 1) := by decide +kernel
theorem dX6_fate_60 : decode cX6_fate 60 = .ok (.goto 4, 3) := by decide +kernel
theorem dX6_fate_63 : decode cX6_fate 63 = .ok (.iconst 0, 1) := by decide +kernel
theorem dX6_fate_64 : decode cX6_fate 64 = .ok (.ireturn, 1) := by decide +kernel
theorem dX6_isHere_0 : decode cX6_isHere 0 = .ok (.aload_n 0, 1) := by decide +kernel
theorem dX6_isHere_1 : decode cX6_isHere 1 = .ok (.getfield 18, 3) := by decide +kernel
theorem dX6_isHere_4 : decode cX6_isHere 4 = .ok (.iload_n 1, 1) := by decide +kernel
theorem dX6_isHere_5 : decode cX6_isHere 5 = .ok (.invokevirtual 88, 3) := by decide +kernel
theorem dX6_isHere_8 : decode cX6_isHere 8 = .ok (.ifCond .le 15, 3) := by decide +kernel
theorem dX6_isHere_11 : decode cX6_isHere 11 = .ok (.aload_n 0, 1) := by decide +kernel
theorem dX6_isHere_12 : decode cX6_isHere 12 = .ok (.iload_n 1, 1) := by decide +kernel
theorem dX6_isHere_13 : decode cX6_isHere 13 = .ok (.invokevirtual 82, 3) := by decide +kernel
theorem dX6_isHere_16 : decode cX6_isHere 16 = .ok (.ifCond .ne 7, 3) := by decide +kernel
theorem dX6_isHere_19 : decode cX6_isHere 19 = .ok (.iconst 1, 1) := by decide +kernel
theorem dX6_isHere_20 : decode cX6_isHere 20 = .ok (.goto 4, 3) := by decide +kernel
theorem dX6_isHere_23 : decode cX6_isHere 23 = .ok (.iconst 0, 1) := by decide +kernel
theorem dX6_isHere_24 : decode cX6_isHere 24 = .ok (.ireturn, 1) := by decide +kernel
theorem dX6_isAt_0 : decode cX6_isAt 0 = .ok (.iload_n 1, 1) := by decide +kernel
theorem dX6_isAt_1 : decode cX6_isAt 1 = .ok (.ifCond .lt 23, 3) := by decide +kernel
theorem dX6_isAt_4 : decode cX6_isAt 4 = .ok (.iload_n 1, 1) := by decide +kernel
theorem dX6_isAt_5 : decode cX6_isAt 5 = .ok (.bipush 6, 2) := by decide +kernel
theorem dX6_isAt_7 : decode cX6_isAt 7 = .ok (.if_icmp .ge 17, 3) := by decide +kernel
theorem dX6_isAt_10 : decode cX6_isAt 10 = .ok (.aload_n 0, 1) := by decide +kernel
theorem dX6_isAt_11 : decode cX6_isAt 11 = .ok (.getfield 9, 3) := by decide +kernel
theorem dX6_isAt_14 : decode cX6_isAt 14 = .ok (.iload_n 1, 1) := by decide +kernel
theorem dX6_isAt_15 : decode cX6_isAt 15 = .ok (.iaload, 1) := by decide +kernel
theorem dX6_isAt_16 : decode cX6_isAt 16 = .ok (.iload_n 2, 1) := by decide +kernel
theorem dX6_isAt_17 : decode cX6_isAt 17 = .ok (.if_icmp .ne 7, 3) := by decide +kernel
theorem dX6_isAt_20 : decode cX6_isAt 20 = .ok (.iconst 1, 1) := by decide +kernel
theorem dX6_isAt_21 : decode cX6_isAt 21 = .ok (.goto 4, 3) := by decide +kernel
theorem dX6_isAt_24 : decode cX6_isAt 24 = .ok (.iconst 0, 1) := by decide +kernel
theorem dX6_isAt_25 : decode cX6_isAt 25 = .ok (.ireturn, 1) := by decide +kernel
theorem dX6_holds_0 : decode cX6_holds 0 = .ok (.aload_n 0, 1) := by decide +kernel
theorem dX6_holds_1 : decode cX6_holds 1 = .ok (.getfield 32, 3) := by decide +kernel
theorem dX6_holds_4 : decode cX6_holds 4 = .ok (.iload_n 1, 1) := by decide +kernel
theorem dX6_holds_5 : decode cX6_holds 5 = .ok (.if_icmp .ne 7, 3) := by decide +kernel
theorem dX6_holds_8 : decode cX6_holds 8 = .ok (.iconst 1, 1) := by decide +kernel
theorem dX6_holds_9 : decode cX6_holds 9 = .ok (.goto 4, 3) := by decide +kernel
theorem dX6_holds_12 : decode cX6_holds 12 = .ok (.iconst 0, 1) := by decide +kernel
theorem dX6_holds_13 : decode cX6_holds 13 = .ok (.istore_n 2, 1) := by decide +kernel
theorem dX6_holds_14 : decode cX6_holds 14 = .ok (.iconst 0, 1) := by decide +kernel
theorem dX6_holds_15 : decode cX6_holds 15 = .ok (.istore_n 3, 1) := by decide +kernel
theorem dX6_holds_16 : decode cX6_holds 16 = .ok (.iload_n 3, 1) := by decide +kernel
theorem dX6_holds_17 : decode cX6_holds 17 = .ok (.aload_n 0, 1) := by decide +kernel
theorem dX6_holds_18 : decode cX6_holds 18 = .ok (.getfield 18, 3) := by decide +kernel
theorem dX6_holds_21 : decode cX6_holds 21 = .ok (.getfield 39, 3) := by decide +kernel
theorem dX6_holds_24 : decode cX6_holds 24 = .ok (.if_icmp .ge 36, 3) := by decide +kernel
theorem dX6_holds_27 : decode cX6_holds 27 = .ok (.iload_n 2, 1) := by decide +kernel
theorem dX6_holds_28 : decode cX6_holds 28 = .ok (.ifCond .ne 20, 3) := by decide +kernel
theorem dX6_holds_31 : decode cX6_holds 31 = .ok (.aload_n 0, 1) := by decide +kernel
theorem dX6_holds_32 : decode cX6_holds 32 = .ok (.iload_n 3, 1) := by decide +kernel
theorem dX6_holds_33 : decode cX6_holds 33 = .ok (.iload_n 1, 1) := by decide +kernel
theorem dX6_holds_34 : decode cX6_holds 34 = .ok (.invokevirtual 91, 3) := by decide +kernel
theorem dX6_holds_37 : decode cX6_holds 37 = .ok (.ifCond .eq 15, 3) := by decide +kernel
theorem dX6_holds_40 : decode cX6_holds 40 = .ok (.aload_n 0, 1) := by decide +kernel
theorem dX6_holds_41 : decode cX6_holds 41 = .ok (.iload_n 3, 1) := by decide +kernel
theorem dX6_holds_42 : decode cX6_holds 42 = .ok (.invokevirtual 66, 3) := by decide +kernel
theorem dX6_holds_45 : decode cX6_holds 45 = .ok (.ifCond .eq 7, 3) := by decide +kernel
theorem dX6_holds_48 : decode cX6_holds 48 = .ok (.iconst 1, 1) := by decide +kernel
