theorem dX11_draw_9 : decode cX11_draw 9 = .ok (.lmul, 1) := by decide +kernel
theorem dX11_draw_10 : decode cX11_draw 10 = .ok (.ldc2_w 339, 3) := by decide +kernel
theorem dX11_draw_13 : decode cX11_draw 13 = .ok (.ladd, 1) := by decide +kernel
theorem dX11_draw_14 : decode cX11_draw 14 = .ok (.ldc2_w 341, 3) := by decide +kernel
theorem dX11_draw_17 : decode cX11_draw 17 = .ok (.lrem, 1) := by decide +kernel
theorem dX11_draw_18 : decode cX11_draw 18 = .ok (.l2i, 1) := by decide +kernel
theorem dX11_draw_19 : decode cX11_draw 19 = .ok (.putfield 334, 3) := by decide +kernel
theorem dX11_draw_22 : decode cX11_draw 22 = .ok (.aload_n 0, 1) := by decide +kernel
theorem dX11_draw_23 : decode cX11_draw 23 = .ok (.getfield 334, 3) := by decide +kernel
theorem dX11_draw_26 : decode cX11_draw 26 = .ok (.ldc_w 343, 3) := by decide +kernel
theorem dX11_draw_29 : decode cX11_draw 29 = .ok (.idiv, 1) := by decide +kernel
theorem dX11_draw_30 : decode cX11_draw 30 = .ok (.iload_n 1, 1) := by decide +kernel
theorem dX11_draw_31 : decode cX11_draw 31 = .ok (.irem, 1) := by decide +kernel
theorem dX11_draw_32 : decode cX11_draw 32 = .ok (.ireturn, 1) := by decide +kernel
theorem dX11_drift_0 : decode cX11_drift 0 = .ok (.iload_n 1, 1) := by decide +kernel
theorem dX11_drift_1 : decode cX11_drift 1 = .ok (.i2l, 1) := by decide +kernel
theorem dX11_drift_2 : decode cX11_drift 2 = .ok (.lconst 1, 1) := by decide +kernel
theorem dX11_drift_3 : decode cX11_drift 3 = .ok (.ldc2_w 344, 3) := by decide +kernel
theorem dX11_drift_6 : decode cX11_drift 6 = .ok (.invokestatic 114, 3) := by decide +kernel
theorem dX11_drift_9 : decode cX11_drift 9 = .ok (.ifCond .ne 6, 3) := by decide +kernel
theorem dX11_drift_12 : decode cX11_drift 12 = .ok (.ldc 129, 2) := by decide +kernel
theorem dX11_drift_14 : decode cX11_drift 14 = .ok (.ireturn, 1) := by decide +kernel
theorem dX11_drift_15 : decode cX11_drift 15 = .ok (.aload_n 0, 1) := by decide +kernel
theorem dX11_drift_16 : decode cX11_drift 16 = .ok (.getfield 111, 3) := by decide +kernel
theorem dX11_drift_19 : decode cX11_drift 19 = .ok (.ifCond .ne 7, 3) := by decide +kernel
theorem dX11_drift_22 : decode cX11_drift 22 = .ok (.ldc_w 330, 3) := by decide +kernel
theorem dX11_drift_25 : decode cX11_drift 25 = .ok (.ireturn, 1) := by decide +kernel
theorem dX11_drift_26 : decode cX11_drift 26 = .ok (.iconst 0, 1) := by decide +kernel
theorem dX11_drift_27 : decode cX11_drift 27 = .ok (.istore_n 2, 1) := by decide +kernel
theorem dX11_drift_28 : decode cX11_drift 28 = .ok (.iload_n 2, 1) := by decide +kernel
theorem dX11_drift_29 : decode cX11_drift 29 = .ok (.iload_n 1, 1) := by decide +kernel
theorem dX11_drift_30 : decode cX11_drift 30 = .ok (.if_icmp .ge 71, 3) := by decide +kernel
theorem dX11_drift_33 : decode cX11_drift 33 = .ok (.aload_n 0, 1) := by decide +kernel
theorem dX11_drift_34 : decode cX11_drift 34 = .ok (.iconst 5, 1) := by decide +kernel
theorem dX11_drift_35 : decode cX11_drift 35 = .ok (.invokevirtual 346, 3) := by decide +kernel
theorem dX11_drift_38 : decode cX11_drift 38 = .ok (.istore_n 3, 1) := by decide +kernel
theorem dX11_drift_39 : decode cX11_drift 39 = .ok (.aload_n 0, 1) := by decide +kernel
theorem dX11_drift_40 : decode cX11_drift 40 = .ok (.aload_n 0, 1) := by decide +kernel
theorem dX11_drift_41 : decode cX11_drift 41 = .ok (.getfield 124, 3) := by decide +kernel
theorem dX11_drift_44 : decode cX11_drift 44 = .ok (.iconst 1, 1) := by decide +kernel
theorem dX11_drift_45 : decode cX11_drift 45 = .ok (.iadd, 1) := by decide +kernel
theorem dX11_drift_46 : decode cX11_drift 46 = .ok (.invokevirtual 346, 3) := by decide +kernel
theorem dX11_drift_49 : decode cX11_drift 49 = .ok (.istore 4, 2) := by decide +kernel
theorem dX11_drift_51 : decode cX11_drift 51 = .ok (.aload_n 0, 1) := by decide +kernel
theorem dX11_drift_52 : decode cX11_drift 52 = .ok (.aload_n 0, 1) := by decide +kernel
theorem dX11_drift_53 : decode cX11_drift 53 = .ok (.iload_n 3, 1) := by decide +kernel
theorem dX11_drift_54 : decode cX11_drift 54 = .ok (.invokevirtual 319, 3) := by decide +kernel
theorem dX11_drift_57 : decode cX11_drift 57 = .ok (.ifCond .ge 7, 3) := by decide +kernel
theorem dX11_drift_60 : decode cX11_drift 60 = .ok (.iconst 0, 1) := by decide +kernel
theorem dX11_drift_61 : decode cX11_drift 61 = .ok (.goto 4, 3) := by decide +kernel
theorem dX11_drift_64 : decode cX11_drift 64 = .ok (.iload_n 3, 1) := by decide +kernel
theorem dX11_drift_65 : decode cX11_drift 65 = .ok (.iload 4, 2) := by decide +kernel
theorem dX11_drift_67 : decode cX11_drift 67 = .ok (.aload_n 0, 1) := by decide +kernel
theorem dX11_drift_68 : decode cX11_drift 68 = .ok (.getfield 124, 3) := by decide +kernel
theorem dX11_drift_71 : decode cX11_drift 71 = .ok (.if_icmp .ne 7, 3) := by decide +kernel
theorem dX11_drift_74 : decode cX11_drift 74 = .ok (.iconst (-1), 1) := by decide +kernel
theorem dX11_drift_75 : decode cX11_drift 75 = .ok (.goto 5, 3) := by decide +kernel
theorem dX11_drift_78 : decode cX11_drift 78 = .ok (.iload 4, 2) := by decide +kernel
theorem dX11_drift_80 : decode cX11_drift 80 = .ok (.invokevirtual 327, 3) := by decide +kernel
theorem dX11_drift_83 : decode cX11_drift 83 = .ok (.istore 5, 2) := by decide +kernel
theorem dX11_drift_85 : decode cX11_drift 85 = .ok (.aload_n 0, 1) := by decide +kernel
theorem dX11_drift_86 : decode cX11_drift 86 = .ok (.dup, 1) := by decide +kernel
theorem dX11_drift_87 : decode cX11_drift 87 = .ok (.getfield 262, 3) := by decide +kernel
theorem dX11_drift_90 : decode cX11_drift 90 = .ok (.iconst 1, 1) := by decide +kernel
theorem dX11_drift_91 : decode cX11_drift 91 = .ok (.iadd, 1) := by decide +kernel
theorem dX11_drift_92 : decode cX11_drift 92 = .ok (.putfield 262, 3) := by decide +kernel
theorem dX11_drift_95 : decode cX11_drift 95 = .ok (.iinc 2 1, 3) := by decide +kernel
theorem dX11_drift_98 : decode cX11_drift 98 = .ok (.goto (-70), 3) := by decide +kernel
theorem dX11_drift_101 : decode cX11_drift 101 = .ok (.aload_n 0, 1) := by decide +kernel
theorem dX11_drift_102 : decode cX11_drift 102 = .ok (.bipush 9, 2) := by decide +kernel
theorem dX11_drift_104 : decode cX11_drift 104 = .ok (.invokevirtual 349, 3) := by decide +kernel
theorem dX11_drift_107 : decode cX11_drift 107 = .ok (.ireturn, 1) := by decide +kernel
theorem dX11_save_0 : decode cX11_save 0 = .ok (.aload_n 0, 1) := by decide +kernel
theorem dX11_save_1 : decode cX11_save 1 = .ok (.aload_n 0, 1) := by decide +kernel
theorem dX11_save_2 : decode cX11_save 2 = .ok (.getfield 259, 3) := by decide +kernel
theorem dX11_save_5 : decode cX11_save 5 = .ok (.putfield 352, 3) := by decide +kernel
theorem dX11_save_8 : decode cX11_save 8 = .ok (.iconst 0, 1) := by decide +kernel
theorem dX11_save_9 : decode cX11_save 9 = .ok (.istore_n 1, 1) := by decide +kernel
theorem dX11_save_10 : decode cX11_save 10 = .ok (.iload_n 1, 1) := by decide +kernel
theorem dX11_save_11 : decode cX11_save 11 = .ok (.aload_n 0, 1) := by decide +kernel
theorem dX11_save_12 : decode cX11_save 12 = .ok (.getfield 121, 3) := by decide +kernel
theorem dX11_save_15 : decode cX11_save 15 = .ok (.if_icmp .ge 45, 3) := by decide +kernel
theorem dX11_save_18 : decode cX11_save 18 = .ok (.aload_n 0, 1) := by decide +kernel
theorem dX11_save_19 : decode cX11_save 19 = .ok (.getfield 80, 3) := by decide +kernel
theorem dX11_save_22 : decode cX11_save 22 = .ok (.iload_n 1, 1) := by decide +kernel
theorem dX11_save_23 : decode cX11_save 23 = .ok (.aload_n 0, 1) := by decide +kernel
theorem dX11_save_24 : decode cX11_save 24 = .ok (.getfield 38, 3) := by decide +kernel
theorem dX11_save_27 : decode cX11_save 27 = .ok (.iload_n 1, 1) := by decide +kernel
theorem dX11_save_28 : decode cX11_save 28 = .ok (.iaload, 1) := by decide +kernel
theorem dX11_save_29 : decode cX11_save 29 = .ok (.iastore, 1) := by decide +kernel
theorem dX11_save_30 : decode cX11_save 30 = .ok (.aload_n 0, 1) := by decide +kernel
theorem dX11_save_31 : decode cX11_save 31 = .ok (.getfield 83, 3) := by decide +kernel
theorem dX11_save_34 : decode cX11_save 34 = .ok (.iload_n 1, 1) := by decide +kernel
theorem dX11_save_35 : decode cX11_save 35 = .ok (.aload_n 0, 1) := by decide +kernel
theorem dX11_save_36 : decode cX11_save 36 = .ok (.getfield 41, 3) := by decide +kernel
theorem dX11_save_39 : decode cX11_save 39 = .ok (.iload_n 1, 1) := by decide +kernel
theorem dX11_save_40 : decode cX11_save 40 = .ok (.iaload, 1) := by decide +kernel
theorem dX11_save_41 : decode cX11_save 41 = .ok (.iastore, 1) := by decide +kernel
theorem dX11_save_42 : decode cX11_save 42 = .ok (.aload_n 0, 1) := by decide +kernel
theorem dX11_save_43 : decode cX11_save 43 = .ok (.getfield 86, 3) := by decide +kernel
theorem dX11_save_46 : decode cX11_save 46 = .ok (.iload_n 1, 1) := by decide +kernel
theorem dX11_save_47 : decode cX11_save 47 = .ok (.aload_n 0, 1) := by decide +kernel
theorem dX11_save_48 : decode cX11_save 48 = .ok (.getfield 44, 3) := by decide +kernel
theorem dX11_save_51 : decode cX11_save 51 = .ok (.iload_n 1, 1) := by decide +kernel
theorem dX11_save_52 : decode cX11_save 52 = .ok (.iaload, 1) := by decide +kernel
theorem dX11_save_53 : decode cX11_save 53 = .ok (.iastore, 1) := by decide +kernel
theorem dX11_save_54 : decode cX11_save 54 = .ok (.iinc 1 1, 3) := by decide +kernel
theorem dX11_save_57 : decode cX11_save 57 = .ok (.goto (-47), 3) := by decide +kernel
theorem dX11_save_60 : decode cX11_save 60 = .ok (.return_, 1) := by decide +kernel
theorem dX11_putBack_0 : decode cX11_putBack 0 = .ok (.aload_n 0, 1) := by decide +kernel
theorem dX11_putBack_1 : decode cX11_putBack 1 = .ok (.aload_n 0, 1) := by decide +kernel
theorem dX11_putBack_2 : decode cX11_putBack 2 = .ok (.getfield 352, 3) := by decide +kernel
theorem dX11_putBack_5 : decode cX11_putBack 5 = .ok (.putfield 259, 3) := by decide +kernel
theorem dX11_putBack_8 : decode cX11_putBack 8 = .ok (.iconst 0, 1) := by decide +kernel
theorem dX11_putBack_9 : decode cX11_putBack 9 = .ok (.istore_n 1, 1) := by decide +kernel
theorem dX11_putBack_10 : decode cX11_putBack 10 = .ok (.iload_n 1, 1) := by decide +kernel
theorem dX11_putBack_11 : decode cX11_putBack 11 = .ok (.aload_n 0, 1) := by decide +kernel
theorem dX11_putBack_12 : decode cX11_putBack 12 = .ok (.getfield 121, 3) := by decide +kernel
theorem dX11_putBack_15 : decode cX11_putBack 15 = .ok (.if_icmp .ge 45, 3) := by decide +kernel
theorem dX11_putBack_18 : decode cX11_putBack 18 = .ok (.aload_n 0, 1) := by decide +kernel
theorem dX11_putBack_19 : decode cX11_putBack 19 = .ok (.getfield 38, 3) := by decide +kernel
theorem dX11_putBack_22 : decode cX11_putBack 22 = .ok (.iload_n 1, 1) := by decide +kernel
theorem dX11_putBack_23 : decode cX11_putBack 23 = .ok (.aload_n 0, 1) := by decide +kernel
theorem dX11_putBack_24 : decode cX11_putBack 24 = .ok (.getfield 80, 3) := by decide +kernel
theorem dX11_putBack_27 : decode cX11_putBack 27 = .ok (.iload_n 1, 1) := by decide +kernel
theorem dX11_putBack_28 : decode cX11_putBack 28 = .ok (.iaload, 1) := by decide +kernel
theorem dX11_putBack_29 : decode cX11_putBack 29 = .ok (.iastore, 1) := by decide +kernel
theorem dX11_putBack_30 : decode cX11_putBack 30 = .ok (.aload_n 0, 1) := by decide +kernel
theorem dX11_putBack_31 : decode cX11_putBack 31 = .ok (.getfield 41, 3) := by decide +kernel
theorem dX11_putBack_34 : decode cX11_putBack 34 = .ok (.iload_n 1, 1) := by decide +kernel
theorem dX11_putBack_35 : decode cX11_putBack 35 = .ok (.aload_n 0, 1) := by decide +kernel
theorem dX11_putBack_36 : decode cX11_putBack 36 = .ok (.getfield 83, 3) := by decide +kernel
theorem dX11_putBack_39 : decode cX11_putBack 39 = .ok (.iload_n 1, 1) := by decide +kernel
theorem dX11_putBack_40 : decode cX11_putBack 40 = .ok (.iaload, 1) := by decide +kernel
theorem dX11_putBack_41 : decode cX11_putBack 41 = .ok (.iastore, 1) := by decide +kernel
theorem dX11_putBack_42 : decode cX11_putBack 42 = .ok (.aload_n 0, 1) := by decide +kernel
theorem dX11_putBack_43 : decode cX11_putBack 43 = .ok (.getfield 44, 3) := by decide +kernel
theorem dX11_putBack_46 : decode cX11_putBack 46 = .ok (.iload_n 1, 1) := by decide +kernel
theorem dX11_putBack_47 : decode cX11_putBack 47 = .ok (.aload_n 0, 1) := by decide +kernel
theorem dX11_putBack_48 : decode cX11_putBack 48 = .ok (.getfield 86, 3) := by decide +kernel
theorem dX11_putBack_51 : decode cX11_putBack 51 = .ok (.iload_n 1, 1) := by decide +kernel
theorem dX11_putBack_52 : decode cX11_putBack 52 = .ok (.iaload, 1) := by decide +kernel
theorem dX11_putBack_53 : decode cX11_putBack 53 = .ok (.iastore, 1) := by decide +kernel
theorem dX11_putBack_54 : decode cX11_putBack 54 = .ok (.iinc 1 1, 3) := by decide +kernel
theorem dX11_putBack_57 : decode cX11_putBack 57 = .ok (.goto (-47), 3) := by decide +kernel
theorem dX11_putBack_60 : decode cX11_putBack 60 = .ok (.return_, 1) := by decide +kernel
theorem dX11_plan_0 : decode cX11_plan 0 = .ok (.iload_n 2, 1) := by decide +kernel
theorem dX11_plan_1 : decode cX11_plan 1 = .ok (.iconst (-1), 1) := by decide +kernel
theorem dX11_plan_2 : decode cX11_plan 2 = .ok (.if_icmp .eq 15, 3) := by decide +kernel
theorem dX11_plan_5 : decode cX11_plan 5 = .ok (.aload_n 0, 1) := by decide +kernel
theorem dX11_plan_6 : decode cX11_plan 6 = .ok (.iload_n 2, 1) := by decide +kernel
theorem dX11_plan_7 : decode cX11_plan 7 = .ok (.invokevirtual 310, 3) := by decide +kernel
theorem dX11_plan_10 : decode cX11_plan 10 = .ok (.ifCond .ne 7, 3) := by decide +kernel
theorem dX11_plan_13 : decode cX11_plan 13 = .ok (.ldc_w 285, 3) := by decide +kernel
theorem dX11_plan_16 : decode cX11_plan 16 = .ok (.ireturn, 1) := by decide +kernel
theorem dX11_plan_17 : decode cX11_plan 17 = .ok (.iload_n 1, 1) := by decide +kernel
theorem dX11_plan_18 : decode cX11_plan 18 = .ok (.i2l, 1) := by decide +kernel
theorem dX11_plan_19 : decode cX11_plan 19 = .ok (.lconst 0, 1) := by decide +kernel
theorem dX11_plan_20 : decode cX11_plan 20 = .ok (.ldc2_w 325, 3) := by decide +kernel
theorem dX11_plan_23 : decode cX11_plan 23 = .ok (.invokestatic 114, 3) := by decide +kernel
theorem dX11_plan_26 : decode cX11_plan 26 = .ok (.ifCond .ne 6, 3) := by decide +kernel
theorem dX11_plan_29 : decode cX11_plan 29 = .ok (.ldc 129, 2) := by decide +kernel
theorem dX11_plan_31 : decode cX11_plan 31 = .ok (.ireturn, 1) := by decide +kernel
theorem dX11_plan_32 : decode cX11_plan 32 = .ok (.aload_n 0, 1) := by decide +kernel
theorem dX11_plan_33 : decode cX11_plan 33 = .ok (.getfield 265, 3) := by decide +kernel
theorem dX11_plan_36 : decode cX11_plan 36 = .ok (.bipush 30, 2) := by decide +kernel
theorem dX11_plan_38 : decode cX11_plan 38 = .ok (.if_icmp .ne 6, 3) := by decide +kernel
theorem dX11_plan_41 : decode cX11_plan 41 = .ok (.ldc 133, 2) := by decide +kernel
theorem dX11_plan_43 : decode cX11_plan 43 = .ok (.ireturn, 1) := by decide +kernel
theorem dX11_plan_44 : decode cX11_plan 44 = .ok (.aload_n 0, 1) := by decide +kernel
theorem dX11_plan_45 : decode cX11_plan 45 = .ok (.getfield 89, 3) := by decide +kernel
theorem dX11_plan_48 : decode cX11_plan 48 = .ok (.aload_n 0, 1) := by decide +kernel
theorem dX11_plan_49 : decode cX11_plan 49 = .ok (.getfield 265, 3) := by decide +kernel
theorem dX11_plan_52 : decode cX11_plan 52 = .ok (.iload_n 1, 1) := by decide +kernel
theorem dX11_plan_53 : decode cX11_plan 53 = .ok (.iastore, 1) := by decide +kernel
theorem dX11_plan_54 : decode cX11_plan 54 = .ok (.aload_n 0, 1) := by decide +kernel
theorem dX11_plan_55 : decode cX11_plan 55 = .ok (.getfield 92, 3) := by decide +kernel
theorem dX11_plan_58 : decode cX11_plan 58 = .ok (.aload_n 0, 1) := by decide +kernel
theorem dX11_plan_59 : decode cX11_plan 59 = .ok (.getfield 265, 3) := by decide +kernel
theorem dX11_plan_62 : decode cX11_plan 62 = .ok (.iload_n 2, 1) := by decide +kernel
theorem dX11_plan_63 : decode cX11_plan 63 = .ok (.iastore, 1) := by decide +kernel
theorem dX11_plan_64 : decode cX11_plan 64 = .ok (.aload_n 0, 1) := by decide +kernel
theorem dX11_plan_65 : decode cX11_plan 65 = .ok (.dup, 1) := by decide +kernel
theorem dX11_plan_66 : decode cX11_plan 66 = .ok (.getfield 265, 3) := by decide +kernel
theorem dX11_plan_69 : decode cX11_plan 69 = .ok (.iconst 1, 1) := by decide +kernel
theorem dX11_plan_70 : decode cX11_plan 70 = .ok (.iadd, 1) := by decide +kernel
theorem dX11_plan_71 : decode cX11_plan 71 = .ok (.putfield 265, 3) := by decide +kernel
theorem dX11_plan_74 : decode cX11_plan 74 = .ok (.aload_n 0, 1) := by decide +kernel
theorem dX11_plan_75 : decode cX11_plan 75 = .ok (.getfield 265, 3) := by decide +kernel
theorem dX11_plan_78 : decode cX11_plan 78 = .ok (.ireturn, 1) := by decide +kernel
theorem dX11_drop_0 : decode cX11_drop 0 = .ok (.aload_n 0, 1) := by decide +kernel
theorem dX11_drop_1 : decode cX11_drop 1 = .ok (.getfield 265, 3) := by decide +kernel
theorem dX11_drop_4 : decode cX11_drop 4 = .ok (.istore_n 1, 1) := by decide +kernel
theorem dX11_drop_5 : decode cX11_drop 5 = .ok (.aload_n 0, 1) := by decide +kernel
theorem dX11_drop_6 : decode cX11_drop 6 = .ok (.iconst 0, 1) := by decide +kernel
theorem dX11_drop_7 : decode cX11_drop 7 = .ok (.putfield 265, 3) := by decide +kernel
theorem dX11_drop_10 : decode cX11_drop 10 = .ok (.iload_n 1, 1) := by decide +kernel
theorem dX11_drop_11 : decode cX11_drop 11 = .ok (.ireturn, 1) := by decide +kernel
theorem dX11_follow_0 : decode cX11_follow 0 = .ok (.iconst 0, 1) := by decide +kernel
theorem dX11_follow_1 : decode cX11_follow 1 = .ok (.istore_n 2, 1) := by decide +kernel
theorem dX11_follow_2 : decode cX11_follow 2 = .ok (.iload_n 2, 1) := by decide +kernel
theorem dX11_follow_3 : decode cX11_follow 3 = .ok (.iload_n 1, 1) := by decide +kernel
theorem dX11_follow_4 : decode cX11_follow 4 = .ok (.if_icmp .ge 36, 3) := by decide +kernel
theorem dX11_follow_7 : decode cX11_follow 7 = .ok (.iload_n 2, 1) := by decide +kernel
theorem dX11_follow_8 : decode cX11_follow 8 = .ok (.aload_n 0, 1) := by decide +kernel
theorem dX11_follow_9 : decode cX11_follow 9 = .ok (.getfield 265, 3) := by decide +kernel
theorem dX11_follow_12 : decode cX11_follow 12 = .ok (.if_icmp .ge 28, 3) := by decide +kernel
theorem dX11_follow_15 : decode cX11_follow 15 = .ok (.aload_n 0, 1) := by decide +kernel
theorem dX11_follow_16 : decode cX11_follow 16 = .ok (.aload_n 0, 1) := by decide +kernel
theorem dX11_follow_17 : decode cX11_follow 17 = .ok (.getfield 89, 3) := by decide +kernel
theorem dX11_follow_20 : decode cX11_follow 20 = .ok (.iload_n 2, 1) := by decide +kernel
theorem dX11_follow_21 : decode cX11_follow 21 = .ok (.iaload, 1) := by decide +kernel
theorem dX11_follow_22 : decode cX11_follow 22 = .ok (.aload_n 0, 1) := by decide +kernel
theorem dX11_follow_23 : decode cX11_follow 23 = .ok (.getfield 92, 3) := by decide +kernel
theorem dX11_follow_26 : decode cX11_follow 26 = .ok (.iload_n 2, 1) := by decide +kernel
theorem dX11_follow_27 : decode cX11_follow 27 = .ok (.iaload, 1) := by decide +kernel
theorem dX11_follow_28 : decode cX11_follow 28 = .ok (.invokevirtual 327, 3) := by decide +kernel
theorem dX11_follow_31 : decode cX11_follow 31 = .ok (.ifCond .eq 9, 3) := by decide +kernel
theorem dX11_follow_34 : decode cX11_follow 34 = .ok (.iinc 2 1, 3) := by decide +kernel
theorem dX11_follow_37 : decode cX11_follow 37 = .ok (.goto (-35), 3) := by decide +kernel
theorem dX11_follow_40 : decode cX11_follow 40 = .ok (.iload_n 2, 1) := by decide +kernel
theorem dX11_follow_41 : decode cX11_follow 41 = .ok (.ireturn, 1) := by decide +kernel
theorem dX11_judge_0 : decode cX11_judge 0 = .ok (.aload_n 0, 1) := by decide +kernel
theorem dX11_judge_1 : decode cX11_judge 1 = .ok (.invokevirtual 355, 3) := by decide +kernel
theorem dX11_judge_4 : decode cX11_judge 4 = .ok (.aload_n 0, 1) := by decide +kernel
theorem dX11_judge_5 : decode cX11_judge 5 = .ok (.bipush 30, 2) := by decide +kernel
theorem dX11_judge_7 : decode cX11_judge 7 = .ok (.invokevirtual 358, 3) := by decide +kernel
theorem dX11_judge_10 : decode cX11_judge 10 = .ok (.istore_n 1, 1) := by decide +kernel
theorem dX11_judge_11 : decode cX11_judge 11 = .ok (.aload_n 0, 1) := by decide +kernel
theorem dX11_judge_12 : decode cX11_judge 12 = .ok (.invokevirtual 361, 3) := by decide +kernel
theorem dX11_judge_15 : decode cX11_judge 15 = .ok (.iload_n 1, 1) := by decide +kernel
theorem dX11_judge_16 : decode cX11_judge 16 = .ok (.aload_n 0, 1) := by decide +kernel
theorem dX11_judge_17 : decode cX11_judge 17 = .ok (.getfield 265, 3) := by decide +kernel
theorem dX11_judge_20 : decode cX11_judge 20 = .ok (.if_icmp .ne 7, 3) := by decide +kernel
theorem dX11_judge_23 : decode cX11_judge 23 = .ok (.iconst (-1), 1) := by decide +kernel
theorem dX11_judge_24 : decode cX11_judge 24 = .ok (.goto 4, 3) := by decide +kernel
theorem dX11_judge_27 : decode cX11_judge 27 = .ok (.iload_n 1, 1) := by decide +kernel
theorem dX11_judge_28 : decode cX11_judge 28 = .ok (.ireturn, 1) := by decide +kernel
theorem dX11_tried_0 : decode cX11_tried 0 = .ok (.iload_n 1, 1) := by decide +kernel
theorem dX11_tried_1 : decode cX11_tried 1 = .ok (.i2l, 1) := by decide +kernel
theorem dX11_tried_2 : decode cX11_tried 2 = .ok (.ldc2_w 364, 3) := by decide +kernel
theorem dX11_tried_5 : decode cX11_tried 5 = .ok (.ldc2_w 366, 3) := by decide +kernel
theorem dX11_tried_8 : decode cX11_tried 8 = .ok (.invokestatic 114, 3) := by decide +kernel
theorem dX11_tried_11 : decode cX11_tried 11 = .ok (.ifCond .ne 7, 3) := by decide +kernel
theorem dX11_tried_14 : decode cX11_tried 14 = .ok (.ldc_w 285, 3) := by decide +kernel
theorem dX11_tried_17 : decode cX11_tried 17 = .ok (.ireturn, 1) := by decide +kernel
theorem dX11_tried_18 : decode cX11_tried 18 = .ok (.iload_n 1, 1) := by decide +kernel
theorem dX11_tried_19 : decode cX11_tried 19 = .ok (.iconst (-1), 1) := by decide +kernel
theorem dX11_tried_20 : decode cX11_tried 20 = .ok (.if_icmp .eq 16, 3) := by decide +kernel
theorem dX11_tried_23 : decode cX11_tried 23 = .ok (.iload_n 2, 1) := by decide +kernel
theorem dX11_tried_24 : decode cX11_tried 24 = .ok (.i2l, 1) := by decide +kernel
theorem dX11_tried_25 : decode cX11_tried 25 = .ok (.lconst 0, 1) := by decide +kernel
theorem dX11_tried_26 : decode cX11_tried 26 = .ok (.lconst 1, 1) := by decide +kernel
theorem dX11_tried_27 : decode cX11_tried 27 = .ok (.invokestatic 114, 3) := by decide +kernel
theorem dX11_tried_30 : decode cX11_tried 30 = .ok (.ifCond .ne 6, 3) := by decide +kernel
theorem dX11_tried_33 : decode cX11_tried 33 = .ok (.ldc 129, 2) := by decide +kernel
theorem dX11_tried_35 : decode cX11_tried 35 = .ok (.ireturn, 1) := by decide +kernel
theorem dX11_tried_36 : decode cX11_tried 36 = .ok (.aload_n 0, 1) := by decide +kernel
theorem dX11_tried_37 : decode cX11_tried 37 = .ok (.invokevirtual 355, 3) := by decide +kernel
theorem dX11_tried_40 : decode cX11_tried 40 = .ok (.aload_n 0, 1) := by decide +kernel
theorem dX11_tried_41 : decode cX11_tried 41 = .ok (.bipush 30, 2) := by decide +kernel
theorem dX11_tried_43 : decode cX11_tried 43 = .ok (.invokevirtual 358, 3) := by decide +kernel
theorem dX11_tried_46 : decode cX11_tried 46 = .ok (.istore_n 3, 1) := by decide +kernel
theorem dX11_tried_47 : decode cX11_tried 47 = .ok (.iload_n 1, 1) := by decide +kernel
theorem dX11_tried_48 : decode cX11_tried 48 = .ok (.iconst (-1), 1) := by decide +kernel
theorem dX11_tried_49 : decode cX11_tried 49 = .ok (.if_icmp .ne 10, 3) := by decide +kernel
theorem dX11_tried_52 : decode cX11_tried 52 = .ok (.aload_n 0, 1) := by decide +kernel
theorem dX11_tried_53 : decode cX11_tried 53 = .ok (.invokevirtual 298, 3) := by decide +kernel
theorem dX11_tried_56 : decode cX11_tried 56 = .ok (.goto 11, 3) := by decide +kernel
theorem dX11_tried_59 : decode cX11_tried 59 = .ok (.aload_n 0, 1) := by decide +kernel
theorem dX11_tried_60 : decode cX11_tried 60 = .ok (.iload_n 1, 1) := by decide +kernel
theorem dX11_tried_61 : decode cX11_tried 61 = .ok (.iload_n 2, 1) := by decide +kernel
theorem dX11_tried_62 : decode cX11_tried 62 = .ok (.iconst 1, 1) := by decide +kernel
theorem dX11_tried_63 : decode cX11_tried 63 = .ok (.iadd, 1) := by decide +kernel
theorem dX11_tried_64 : decode cX11_tried 64 = .ok (.invokevirtual 289, 3) := by decide +kernel
theorem dX11_tried_67 : decode cX11_tried 67 = .ok (.istore 4, 2) := by decide +kernel
theorem dX11_tried_69 : decode cX11_tried 69 = .ok (.aload_n 0, 1) := by decide +kernel
theorem dX11_tried_70 : decode cX11_tried 70 = .ok (.invokevirtual 361, 3) := by decide +kernel
theorem dX11_tried_73 : decode cX11_tried 73 = .ok (.iload 4, 2) := by decide +kernel
theorem dX11_tried_75 : decode cX11_tried 75 = .ok (.ireturn, 1) := by decide +kernel
theorem dX11_where_0 : decode cX11_where 0 = .ok (.aload_n 0, 1) := by decide +kernel
theorem dX11_where_1 : decode cX11_where 1 = .ok (.iload_n 1, 1) := by decide +kernel
theorem dX11_where_2 : decode cX11_where 2 = .ok (.invokevirtual 301, 3) := by decide +kernel
theorem dX11_where_5 : decode cX11_where 5 = .ok (.ifCond .ne 7, 3) := by decide +kernel
theorem dX11_where_8 : decode cX11_where 8 = .ok (.ldc_w 285, 3) := by decide +kernel
theorem dX11_where_11 : decode cX11_where 11 = .ok (.ireturn, 1) := by decide +kernel
theorem dX11_where_12 : decode cX11_where 12 = .ok (.iload_n 2, 1) := by decide +kernel
theorem dX11_where_13 : decode cX11_where 13 = .ok (.i2l, 1) := by decide +kernel
theorem dX11_where_14 : decode cX11_where 14 = .ok (.lconst 0, 1) := by decide +kernel
theorem dX11_where_15 : decode cX11_where 15 = .ok (.ldc2_w 368, 3) := by decide +kernel
theorem dX11_where_18 : decode cX11_where 18 = .ok (.invokestatic 114, 3) := by decide +kernel
theorem dX11_where_21 : decode cX11_where 21 = .ok (.ifCond .ne 6, 3) := by decide +kernel
theorem dX11_where_24 : decode cX11_where 24 = .ok (.ldc 129, 2) := by decide +kernel
theorem dX11_where_26 : decode cX11_where 26 = .ok (.ireturn, 1) := by decide +kernel
theorem dX11_where_27 : decode cX11_where 27 = .ok (.aload_n 0, 1) := by decide +kernel
theorem dX11_where_28 : decode cX11_where 28 = .ok (.invokevirtual 355, 3) := by decide +kernel
theorem dX11_where_31 : decode cX11_where 31 = .ok (.aload_n 0, 1) := by decide +kernel
theorem dX11_where_32 : decode cX11_where 32 = .ok (.iload_n 2, 1) := by decide +kernel
theorem dX11_where_33 : decode cX11_where 33 = .ok (.invokevirtual 358, 3) := by decide +kernel
theorem dX11_where_36 : decode cX11_where 36 = .ok (.istore_n 3, 1) := by decide +kernel
theorem dX11_where_37 : decode cX11_where 37 = .ok (.aload_n 0, 1) := by decide +kernel
theorem dX11_where_38 : decode cX11_where 38 = .ok (.aload_n 0, 1) := by decide +kernel
theorem dX11_where_39 : decode cX11_where 39 = .ok (.getfield 38, 3) := by decide +kernel
theorem dX11_where_42 : decode cX11_where 42 = .ok (.iload_n 1, 1) := by decide +kernel
theorem dX11_where_43 : decode cX11_where 43 = .ok (.iaload, 1) := by decide +kernel
theorem dX11_where_44 : decode cX11_where 44 = .ok (.invokevirtual 292, 3) := by decide +kernel
theorem dX11_where_47 : decode cX11_where 47 = .ok (.istore 4, 2) := by decide +kernel
theorem dX11_where_49 : decode cX11_where 49 = .ok (.aload_n 0, 1) := by decide +kernel
theorem dX11_where_50 : decode cX11_where 50 = .ok (.invokevirtual 361, 3) := by decide +kernel
theorem dX11_where_53 : decode cX11_where 53 = .ok (.iload 4, 2) := by decide +kernel
theorem dX11_where_55 : decode cX11_where 55 = .ok (.ireturn, 1) := by decide +kernel
theorem dX11_power_0 : decode cX11_power 0 = .ok (.iconst 1, 1) := by decide +kernel
theorem dX11_power_1 : decode cX11_power 1 = .ok (.istore_n 1, 1) := by decide +kernel
theorem dX11_power_2 : decode cX11_power 2 = .ok (.iconst 0, 1) := by decide +kernel
theorem dX11_power_3 : decode cX11_power 3 = .ok (.istore_n 2, 1) := by decide +kernel
theorem dX11_power_4 : decode cX11_power 4 = .ok (.iload_n 2, 1) := by decide +kernel
theorem dX11_power_5 : decode cX11_power 5 = .ok (.iload_n 0, 1) := by decide +kernel
theorem dX11_power_6 : decode cX11_power 6 = .ok (.if_icmp .ge 13, 3) := by decide +kernel
theorem dX11_power_9 : decode cX11_power 9 = .ok (.iload_n 1, 1) := by decide +kernel
theorem dX11_power_10 : decode cX11_power 10 = .ok (.iconst 5, 1) := by decide +kernel
theorem dX11_power_11 : decode cX11_power 11 = .ok (.imul, 1) := by decide +kernel
theorem dX11_power_12 : decode cX11_power 12 = .ok (.istore_n 1, 1) := by decide +kernel
theorem dX11_power_13 : decode cX11_power 13 = .ok (.iinc 2 1, 3) := by decide +kernel
theorem dX11_power_16 : decode cX11_power 16 = .ok (.goto (-12), 3) := by decide +kernel
theorem dX11_power_19 : decode cX11_power 19 = .ok (.iload_n 1, 1) := by decide +kernel
theorem dX11_power_20 : decode cX11_power 20 = .ok (.ireturn, 1) := by decide +kernel
theorem dX11_stepIn_0 : decode cX11_stepIn 0 = .ok (.iload_n 0, 1) := by decide +kernel
theorem dX11_stepIn_1 : decode cX11_stepIn 1 = .ok (.iload_n 1, 1) := by decide +kernel
theorem dX11_stepIn_2 : decode cX11_stepIn 2 = .ok (.iconst 1, 1) := by decide +kernel
theorem dX11_stepIn_3 : decode cX11_stepIn 3 = .ok (.isub, 1) := by decide +kernel
theorem dX11_stepIn_4 : decode cX11_stepIn 4 = .ok (.iload_n 2, 1) := by decide +kernel
theorem dX11_stepIn_5 : decode cX11_stepIn 5 = .ok (.isub, 1) := by decide +kernel
theorem dX11_stepIn_6 : decode cX11_stepIn 6 = .ok (.invokestatic 370, 3) := by decide +kernel
theorem dX11_stepIn_9 : decode cX11_stepIn 9 = .ok (.idiv, 1) := by decide +kernel
theorem dX11_stepIn_10 : decode cX11_stepIn 10 = .ok (.iconst 5, 1) := by decide +kernel
theorem dX11_stepIn_11 : decode cX11_stepIn 11 = .ok (.irem, 1) := by decide +kernel
theorem dX11_stepIn_12 : decode cX11_stepIn 12 = .ok (.ireturn, 1) := by decide +kernel
theorem dX11_isLedOut_0 : decode cX11_isLedOut 0 = .ok (.iconst 1, 1) := by decide +kernel
theorem dX11_isLedOut_1 : decode cX11_isLedOut 1 = .ok (.istore_n 2, 1) := by decide +kernel
theorem dX11_isLedOut_2 : decode cX11_isLedOut 2 = .ok (.iconst 0, 1) := by decide +kernel
theorem dX11_isLedOut_3 : decode cX11_isLedOut 3 = .ok (.istore_n 3, 1) := by decide +kernel
theorem dX11_isLedOut_4 : decode cX11_isLedOut 4 = .ok (.iload_n 3, 1) := by decide +kernel
theorem dX11_isLedOut_5 : decode cX11_isLedOut 5 = .ok (.aload_n 0, 1) := by decide +kernel
theorem dX11_isLedOut_6 : decode cX11_isLedOut 6 = .ok (.getfield 121, 3) := by decide +kernel
theorem dX11_isLedOut_9 : decode cX11_isLedOut 9 = .ok (.if_icmp .ge 77, 3) := by decide +kernel
theorem dX11_isLedOut_12 : decode cX11_isLedOut 12 = .ok (.aload_n 0, 1) := by decide +kernel
theorem dX11_isLedOut_13 : decode cX11_isLedOut 13 = .ok (.getfield 13, 3) := by decide +kernel
theorem dX11_isLedOut_16 : decode cX11_isLedOut 16 = .ok (.iload_n 3, 1) := by decide +kernel
theorem dX11_isLedOut_17 : decode cX11_isLedOut 17 = .ok (.iaload, 1) := by decide +kernel
theorem dX11_isLedOut_18 : decode cX11_isLedOut 18 = .ok (.iload_n 1, 1) := by decide +kernel
theorem dX11_isLedOut_19 : decode cX11_isLedOut 19 = .ok (.if_icmp .ne 7, 3) := by decide +kernel
theorem dX11_isLedOut_22 : decode cX11_isLedOut 22 = .ok (.iconst 1, 1) := by decide +kernel
theorem dX11_isLedOut_23 : decode cX11_isLedOut 23 = .ok (.goto 4, 3) := by decide +kernel
theorem dX11_isLedOut_26 : decode cX11_isLedOut 26 = .ok (.iconst 0, 1) := by decide +kernel
theorem dX11_isLedOut_27 : decode cX11_isLedOut 27 = .ok (.istore 4, 2) := by decide +kernel
theorem dX11_isLedOut_29 : decode cX11_isLedOut 29 = .ok (.iload_n 2, 1) := by decide +kernel
theorem dX11_isLedOut_30 : decode cX11_isLedOut 30 = .ok (.ifCond .eq 48, 3) := by decide +kernel
theorem dX11_isLedOut_33 : decode cX11_isLedOut 33 = .ok (.aload_n 0, 1) := by decide +kernel
theorem dX11_isLedOut_34 : decode cX11_isLedOut 34 = .ok (.iload_n 3, 1) := by decide +kernel
theorem dX11_isLedOut_35 : decode cX11_isLedOut 35 = .ok (.invokevirtual 286, 3) := by decide +kernel
theorem dX11_isLedOut_38 : decode cX11_isLedOut 38 = .ok (.ifCond .eq 36, 3) := by decide +kernel
theorem dX11_isLedOut_41 : decode cX11_isLedOut 41 = .ok (.iload 4, 2) := by decide +kernel
theorem dX11_isLedOut_43 : decode cX11_isLedOut 43 = .ok (.ifCond .eq 16, 3) := by decide +kernel
theorem dX11_isLedOut_46 : decode cX11_isLedOut 46 = .ok (.aload_n 0, 1) := by decide +kernel
theorem dX11_isLedOut_47 : decode cX11_isLedOut 47 = .ok (.getfield 44, 3) := by decide +kernel
theorem dX11_isLedOut_50 : decode cX11_isLedOut 50 = .ok (.iload_n 3, 1) := by decide +kernel
theorem dX11_isLedOut_51 : decode cX11_isLedOut 51 = .ok (.iaload, 1) := by decide +kernel
theorem dX11_isLedOut_52 : decode cX11_isLedOut 52 = .ok (.iconst 1, 1) := by decide +kernel
theorem dX11_isLedOut_53 : decode cX11_isLedOut 53 = .ok (.if_icmp .ne 25, 3) := by decide +kernel
theorem dX11_isLedOut_56 : decode cX11_isLedOut 56 = .ok (.goto 18, 3) := by decide +kernel
theorem dX11_isLedOut_59 : decode cX11_isLedOut 59 = .ok (.aload_n 0, 1) := by decide +kernel
theorem dX11_isLedOut_60 : decode cX11_isLedOut 60 = .ok (.getfield 44, 3) := by decide +kernel
theorem dX11_isLedOut_63 : decode cX11_isLedOut 63 = .ok (.iload_n 3, 1) := by decide +kernel
theorem dX11_isLedOut_64 : decode cX11_isLedOut 64 = .ok (.iaload, 1) := by decide +kernel
theorem dX11_isLedOut_65 : decode cX11_isLedOut 65 = .ok (.aload_n 0, 1) := by decide +kernel
theorem dX11_isLedOut_66 : decode cX11_isLedOut 66 = .ok (.getfield 86, 3) := by decide +kernel
theorem dX11_isLedOut_69 : decode cX11_isLedOut 69 = .ok (.iload_n 3, 1) := by decide +kernel
theorem dX11_isLedOut_70 : decode cX11_isLedOut 70 = .ok (.iaload, 1) := by decide +kernel
theorem dX11_isLedOut_71 : decode cX11_isLedOut 71 = .ok (.if_icmp .ne 7, 3) := by decide +kernel
theorem dX11_isLedOut_74 : decode cX11_isLedOut 74 = .ok (.iconst 1, 1) := by decide +kernel
theorem dX11_isLedOut_75 : decode cX11_isLedOut 75 = .ok (.goto 4, 3) := by decide +kernel
theorem dX11_isLedOut_78 : decode cX11_isLedOut 78 = .ok (.iconst 0, 1) := by decide +kernel
theorem dX11_isLedOut_79 : decode cX11_isLedOut 79 = .ok (.istore_n 2, 1) := by decide +kernel
theorem dX11_isLedOut_80 : decode cX11_isLedOut 80 = .ok (.iinc 3 1, 3) := by decide +kernel
theorem dX11_isLedOut_83 : decode cX11_isLedOut 83 = .ok (.goto (-79), 3) := by decide +kernel
theorem dX11_isLedOut_86 : decode cX11_isLedOut 86 = .ok (.iload_n 2, 1) := by decide +kernel
theorem dX11_isLedOut_87 : decode cX11_isLedOut 87 = .ok (.ireturn, 1) := by decide +kernel
theorem dX11_leadsOut_0 : decode cX11_leadsOut 0 = .ok (.iconst 1, 1) := by decide +kernel
theorem dX11_leadsOut_1 : decode cX11_leadsOut 1 = .ok (.istore 5, 2) := by decide +kernel
theorem dX11_leadsOut_3 : decode cX11_leadsOut 3 = .ok (.iconst 0, 1) := by decide +kernel
theorem dX11_leadsOut_4 : decode cX11_leadsOut 4 = .ok (.istore 6, 2) := by decide +kernel
theorem dX11_leadsOut_6 : decode cX11_leadsOut 6 = .ok (.iload 6, 2) := by decide +kernel
theorem dX11_leadsOut_8 : decode cX11_leadsOut 8 = .ok (.iload_n 3, 1) := by decide +kernel
theorem dX11_leadsOut_9 : decode cX11_leadsOut 9 = .ok (.if_icmp .ge 29, 3) := by decide +kernel
theorem dX11_leadsOut_12 : decode cX11_leadsOut 12 = .ok (.iload 5, 2) := by decide +kernel
theorem dX11_leadsOut_14 : decode cX11_leadsOut 14 = .ok (.ifCond .eq 24, 3) := by decide +kernel
theorem dX11_leadsOut_17 : decode cX11_leadsOut 17 = .ok (.aload_n 0, 1) := by decide +kernel
theorem dX11_leadsOut_18 : decode cX11_leadsOut 18 = .ok (.iload 4, 2) := by decide +kernel
theorem dX11_leadsOut_20 : decode cX11_leadsOut 20 = .ok (.iload_n 3, 1) := by decide +kernel
theorem dX11_leadsOut_21 : decode cX11_leadsOut 21 = .ok (.iload 6, 2) := by decide +kernel
theorem dX11_leadsOut_23 : decode cX11_leadsOut 23 = .ok (.invokestatic 373, 3) := by decide +kernel
theorem dX11_leadsOut_26 : decode cX11_leadsOut 26 = .ok (.iload_n 2, 1) := by decide +kernel
theorem dX11_leadsOut_27 : decode cX11_leadsOut 27 = .ok (.invokevirtual 327, 3) := by decide +kernel
theorem dX11_leadsOut_30 : decode cX11_leadsOut 30 = .ok (.istore 5, 2) := by decide +kernel
theorem dX11_leadsOut_32 : decode cX11_leadsOut 32 = .ok (.iinc 6 1, 3) := by decide +kernel
theorem dX11_leadsOut_35 : decode cX11_leadsOut 35 = .ok (.goto (-29), 3) := by decide +kernel
theorem dX11_leadsOut_38 : decode cX11_leadsOut 38 = .ok (.iload 5, 2) := by decide +kernel
theorem dX11_leadsOut_40 : decode cX11_leadsOut 40 = .ok (.ifCond .eq 15, 3) := by decide +kernel
theorem dX11_leadsOut_43 : decode cX11_leadsOut 43 = .ok (.aload_n 0, 1) := by decide +kernel
theorem dX11_leadsOut_44 : decode cX11_leadsOut 44 = .ok (.iload_n 1, 1) := by decide +kernel
theorem dX11_leadsOut_45 : decode cX11_leadsOut 45 = .ok (.invokevirtual 377, 3) := by decide +kernel
theorem dX11_leadsOut_48 : decode cX11_leadsOut 48 = .ok (.ifCond .eq 7, 3) := by decide +kernel
theorem dX11_leadsOut_51 : decode cX11_leadsOut 51 = .ok (.iconst 1, 1) := by decide +kernel
theorem dX11_leadsOut_52 : decode cX11_leadsOut 52 = .ok (.goto 4, 3) := by decide +kernel
theorem dX11_leadsOut_55 : decode cX11_leadsOut 55 = .ok (.iconst 0, 1) := by decide +kernel
theorem dX11_leadsOut_56 : decode cX11_leadsOut 56 = .ok (.ireturn, 1) := by decide +kernel
theorem dX11_soonest_0 : decode cX11_soonest 0 = .ok (.iload_n 1, 1) := by decide +kernel
theorem dX11_soonest_1 : decode cX11_soonest 1 = .ok (.i2l, 1) := by decide +kernel
theorem dX11_soonest_2 : decode cX11_soonest 2 = .ok (.lconst 0, 1) := by decide +kernel
theorem dX11_soonest_3 : decode cX11_soonest 3 = .ok (.ldc2_w 366, 3) := by decide +kernel
theorem dX11_soonest_6 : decode cX11_soonest 6 = .ok (.invokestatic 114, 3) := by decide +kernel
theorem dX11_soonest_9 : decode cX11_soonest 9 = .ok (.ifCond .eq 11, 3) := by decide +kernel
theorem dX11_soonest_12 : decode cX11_soonest 12 = .ok (.aload_n 0, 1) := by decide +kernel
theorem dX11_soonest_13 : decode cX11_soonest 13 = .ok (.iload_n 2, 1) := by decide +kernel
theorem dX11_soonest_14 : decode cX11_soonest 14 = .ok (.invokevirtual 310, 3) := by decide +kernel
theorem dX11_soonest_17 : decode cX11_soonest 17 = .ok (.ifCond .ne 7, 3) := by decide +kernel
theorem dX11_soonest_20 : decode cX11_soonest 20 = .ok (.ldc_w 285, 3) := by decide +kernel
theorem dX11_soonest_23 : decode cX11_soonest 23 = .ok (.ireturn, 1) := by decide +kernel
theorem dX11_soonest_24 : decode cX11_soonest 24 = .ok (.aload_n 0, 1) := by decide +kernel
theorem dX11_soonest_25 : decode cX11_soonest 25 = .ok (.invokevirtual 355, 3) := by decide +kernel
theorem dX11_soonest_28 : decode cX11_soonest 28 = .ok (.iconst 0, 1) := by decide +kernel
theorem dX11_soonest_29 : decode cX11_soonest 29 = .ok (.istore 4, 2) := by decide +kernel
theorem dX11_soonest_31 : decode cX11_soonest 31 = .ok (.iload 4, 2) := by decide +kernel
theorem dX11_soonest_33 : decode cX11_soonest 33 = .ok (.bipush 7, 2) := by decide +kernel
theorem dX11_soonest_35 : decode cX11_soonest 35 = .ok (.if_icmp .ge 86, 3) := by decide +kernel
theorem dX11_soonest_38 : decode cX11_soonest 38 = .ok (.iconst 0, 1) := by decide +kernel
theorem dX11_soonest_39 : decode cX11_soonest 39 = .ok (.istore 5, 2) := by decide +kernel
theorem dX11_soonest_41 : decode cX11_soonest 41 = .ok (.iload 5, 2) := by decide +kernel
theorem dX11_soonest_43 : decode cX11_soonest 43 = .ok (.iload 4, 2) := by decide +kernel
theorem dX11_soonest_45 : decode cX11_soonest 45 = .ok (.invokestatic 370, 3) := by decide +kernel
theorem dX11_soonest_48 : decode cX11_soonest 48 = .ok (.if_icmp .ge 67, 3) := by decide +kernel
theorem dX11_soonest_51 : decode cX11_soonest 51 = .ok (.aload_n 0, 1) := by decide +kernel
theorem dX11_soonest_52 : decode cX11_soonest 52 = .ok (.iload_n 1, 1) := by decide +kernel
theorem dX11_soonest_53 : decode cX11_soonest 53 = .ok (.iload_n 2, 1) := by decide +kernel
theorem dX11_soonest_54 : decode cX11_soonest 54 = .ok (.iload 4, 2) := by decide +kernel
theorem dX11_soonest_56 : decode cX11_soonest 56 = .ok (.iload 5, 2) := by decide +kernel
theorem dX11_soonest_58 : decode cX11_soonest 58 = .ok (.invokevirtual 380, 3) := by decide +kernel
theorem dX11_soonest_61 : decode cX11_soonest 61 = .ok (.istore 6, 2) := by decide +kernel
theorem dX11_soonest_63 : decode cX11_soonest 63 = .ok (.aload_n 0, 1) := by decide +kernel
theorem dX11_soonest_64 : decode cX11_soonest 64 = .ok (.invokevirtual 361, 3) := by decide +kernel
theorem dX11_soonest_67 : decode cX11_soonest 67 = .ok (.iload 6, 2) := by decide +kernel
theorem dX11_soonest_69 : decode cX11_soonest 69 = .ok (.ifCond .eq 40, 3) := by decide +kernel
theorem dX11_soonest_72 : decode cX11_soonest 72 = .ok (.iload_n 3, 1) := by decide +kernel
theorem dX11_soonest_73 : decode cX11_soonest 73 = .ok (.iconst (-1), 1) := by decide +kernel
theorem dX11_soonest_74 : decode cX11_soonest 74 = .ok (.if_icmp .ne 8, 3) := by decide +kernel
theorem dX11_soonest_77 : decode cX11_soonest 77 = .ok (.iload 4, 2) := by decide +kernel
theorem dX11_soonest_79 : decode cX11_soonest 79 = .ok (.goto 29, 3) := by decide +kernel
theorem dX11_soonest_82 : decode cX11_soonest 82 = .ok (.iload_n 3, 1) := by decide +kernel
theorem dX11_soonest_83 : decode cX11_soonest 83 = .ok (.i2l, 1) := by decide +kernel
theorem dX11_soonest_84 : decode cX11_soonest 84 = .ok (.lconst 0, 1) := by decide +kernel
theorem dX11_soonest_85 : decode cX11_soonest 85 = .ok (.iload 4, 2) := by decide +kernel
theorem dX11_soonest_87 : decode cX11_soonest 87 = .ok (.iconst 1, 1) := by decide +kernel
theorem dX11_soonest_88 : decode cX11_soonest 88 = .ok (.isub, 1) := by decide +kernel
theorem dX11_soonest_89 : decode cX11_soonest 89 = .ok (.i2l, 1) := by decide +kernel
theorem dX11_soonest_90 : decode cX11_soonest 90 = .ok (.invokestatic 114, 3) := by decide +kernel
theorem dX11_soonest_93 : decode cX11_soonest 93 = .ok (.ifCond .eq 14, 3) := by decide +kernel
theorem dX11_soonest_96 : decode cX11_soonest 96 = .ok (.iload 5, 2) := by decide +kernel
theorem dX11_soonest_98 : decode cX11_soonest 98 = .ok (.iload 4, 2) := by decide +kernel
theorem dX11_soonest_100 : decode cX11_soonest 100 = .ok (.iload_n 3, 1) := by decide +kernel
theorem dX11_soonest_101 : decode cX11_soonest 101 = .ok (.invokestatic 373, 3) := by decide +kernel
theorem dX11_soonest_104 : decode cX11_soonest 104 = .ok (.goto 4, 3) := by decide +kernel
theorem dX11_soonest_107 : decode cX11_soonest 107 = .ok (.iconst (-1), 1) := by decide +kernel
theorem dX11_soonest_108 : decode cX11_soonest 108 = .ok (.ireturn, 1) := by decide +kernel
theorem dX11_soonest_109 : decode cX11_soonest 109 = .ok (.iinc 5 1, 3) := by decide +kernel
theorem dX11_soonest_112 : decode cX11_soonest 112 = .ok (.goto (-71), 3) := by decide +kernel
theorem dX11_soonest_115 : decode cX11_soonest 115 = .ok (.iinc 4 1, 3) := by decide +kernel
theorem dX11_soonest_118 : decode cX11_soonest 118 = .ok (.goto (-87), 3) := by decide +kernel
theorem dX11_soonest_121 : decode cX11_soonest 121 = .ok (.iconst (-1), 1) := by decide +kernel
theorem dX11_soonest_122 : decode cX11_soonest 122 = .ok (.ireturn, 1) := by decide +kernel
theorem dX11_bestWall_0 : decode cX11_bestWall 0 = .ok (.iload_n 1, 1) := by decide +kernel
theorem dX11_bestWall_1 : decode cX11_bestWall 1 = .ok (.i2l, 1) := by decide +kernel
theorem dX11_bestWall_2 : decode cX11_bestWall 2 = .ok (.lconst 0, 1) := by decide +kernel
theorem dX11_bestWall_3 : decode cX11_bestWall 3 = .ok (.ldc2_w 366, 3) := by decide +kernel
theorem dX11_bestWall_6 : decode cX11_bestWall 6 = .ok (.invokestatic 114, 3) := by decide +kernel
theorem dX11_bestWall_9 : decode cX11_bestWall 9 = .ok (.ifCond .ne 7, 3) := by decide +kernel
theorem dX11_bestWall_12 : decode cX11_bestWall 12 = .ok (.ldc_w 285, 3) := by decide +kernel
theorem dX11_bestWall_15 : decode cX11_bestWall 15 = .ok (.ireturn, 1) := by decide +kernel
theorem dX11_bestWall_16 : decode cX11_bestWall 16 = .ok (.iload_n 2, 1) := by decide +kernel
theorem dX11_bestWall_17 : decode cX11_bestWall 17 = .ok (.i2l, 1) := by decide +kernel
theorem dX11_bestWall_18 : decode cX11_bestWall 18 = .ok (.lconst 0, 1) := by decide +kernel
theorem dX11_bestWall_19 : decode cX11_bestWall 19 = .ok (.lconst 1, 1) := by decide +kernel
theorem dX11_bestWall_20 : decode cX11_bestWall 20 = .ok (.invokestatic 114, 3) := by decide +kernel
theorem dX11_bestWall_23 : decode cX11_bestWall 23 = .ok (.ifCond .ne 6, 3) := by decide +kernel
theorem dX11_bestWall_26 : decode cX11_bestWall 26 = .ok (.ldc 129, 2) := by decide +kernel
theorem dX11_bestWall_28 : decode cX11_bestWall 28 = .ok (.ireturn, 1) := by decide +kernel
theorem dX11_bestWall_29 : decode cX11_bestWall 29 = .ok (.iconst (-1), 1) := by decide +kernel
theorem dX11_bestWall_30 : decode cX11_bestWall 30 = .ok (.istore_n 3, 1) := by decide +kernel
theorem dX11_bestWall_31 : decode cX11_bestWall 31 = .ok (.iconst 0, 1) := by decide +kernel
theorem dX11_bestWall_32 : decode cX11_bestWall 32 = .ok (.istore 4, 2) := by decide +kernel
theorem dX11_bestWall_34 : decode cX11_bestWall 34 = .ok (.aload_n 0, 1) := by decide +kernel
theorem dX11_bestWall_35 : decode cX11_bestWall 35 = .ok (.invokevirtual 355, 3) := by decide +kernel
theorem dX11_bestWall_38 : decode cX11_bestWall 38 = .ok (.iconst 0, 1) := by decide +kernel
theorem dX11_bestWall_39 : decode cX11_bestWall 39 = .ok (.istore 5, 2) := by decide +kernel
theorem dX11_bestWall_41 : decode cX11_bestWall 41 = .ok (.iload 5, 2) := by decide +kernel
theorem dX11_bestWall_43 : decode cX11_bestWall 43 = .ok (.aload_n 0, 1) := by decide +kernel
theorem dX11_bestWall_44 : decode cX11_bestWall 44 = .ok (.getfield 111, 3) := by decide +kernel
theorem dX11_bestWall_47 : decode cX11_bestWall 47 = .ok (.aload_n 0, 1) := by decide +kernel
theorem dX11_bestWall_48 : decode cX11_bestWall 48 = .ok (.getfield 118, 3) := by decide +kernel
theorem dX11_bestWall_51 : decode cX11_bestWall 51 = .ok (.imul, 1) := by decide +kernel
theorem dX11_bestWall_52 : decode cX11_bestWall 52 = .ok (.if_icmp .ge 112, 3) := by decide +kernel
theorem dX11_bestWall_55 : decode cX11_bestWall 55 = .ok (.aload_n 0, 1) := by decide +kernel
theorem dX11_bestWall_56 : decode cX11_bestWall 56 = .ok (.getfield 7, 3) := by decide +kernel
theorem dX11_bestWall_59 : decode cX11_bestWall 59 = .ok (.iload 5, 2) := by decide +kernel
theorem dX11_bestWall_61 : decode cX11_bestWall 61 = .ok (.iaload, 1) := by decide +kernel
theorem dX11_bestWall_62 : decode cX11_bestWall 62 = .ok (.ifCond .ne 96, 3) := by decide +kernel
theorem dX11_bestWall_65 : decode cX11_bestWall 65 = .ok (.aload_n 0, 1) := by decide +kernel
theorem dX11_bestWall_66 : decode cX11_bestWall 66 = .ok (.iload 5, 2) := by decide +kernel
theorem dX11_bestWall_68 : decode cX11_bestWall 68 = .ok (.invokevirtual 331, 3) := by decide +kernel
theorem dX11_bestWall_71 : decode cX11_bestWall 71 = .ok (.ifCond .ne 87, 3) := by decide +kernel
theorem dX11_bestWall_74 : decode cX11_bestWall 74 = .ok (.aload_n 0, 1) := by decide +kernel
theorem dX11_bestWall_75 : decode cX11_bestWall 75 = .ok (.getfield 7, 3) := by decide +kernel
theorem dX11_bestWall_78 : decode cX11_bestWall 78 = .ok (.iload 5, 2) := by decide +kernel
theorem dX11_bestWall_80 : decode cX11_bestWall 80 = .ok (.iconst 1, 1) := by decide +kernel
theorem dX11_bestWall_81 : decode cX11_bestWall 81 = .ok (.iastore, 1) := by decide +kernel
theorem dX11_bestWall_82 : decode cX11_bestWall 82 = .ok (.aload_n 0, 1) := by decide +kernel
theorem dX11_bestWall_83 : decode cX11_bestWall 83 = .ok (.invokevirtual 271, 3) := by decide +kernel
theorem dX11_bestWall_86 : decode cX11_bestWall 86 = .ok (.aload_n 0, 1) := by decide +kernel
theorem dX11_bestWall_87 : decode cX11_bestWall 87 = .ok (.bipush 30, 2) := by decide +kernel
theorem dX11_bestWall_89 : decode cX11_bestWall 89 = .ok (.invokevirtual 358, 3) := by decide +kernel
theorem dX11_bestWall_92 : decode cX11_bestWall 92 = .ok (.istore 6, 2) := by decide +kernel
theorem dX11_bestWall_94 : decode cX11_bestWall 94 = .ok (.aload_n 0, 1) := by decide +kernel
theorem dX11_bestWall_95 : decode cX11_bestWall 95 = .ok (.iload_n 1, 1) := by decide +kernel
theorem dX11_bestWall_96 : decode cX11_bestWall 96 = .ok (.iconst 1, 1) := by decide +kernel
theorem dX11_bestWall_97 : decode cX11_bestWall 97 = .ok (.invokevirtual 289, 3) := by decide +kernel
theorem dX11_bestWall_100 : decode cX11_bestWall 100 = .ok (.istore 7, 2) := by decide +kernel
theorem dX11_bestWall_102 : decode cX11_bestWall 102 = .ok (.aload_n 0, 1) := by decide +kernel
theorem dX11_bestWall_103 : decode cX11_bestWall 103 = .ok (.invokevirtual 361, 3) := by decide +kernel
theorem dX11_bestWall_106 : decode cX11_bestWall 106 = .ok (.aload_n 0, 1) := by decide +kernel
theorem dX11_bestWall_107 : decode cX11_bestWall 107 = .ok (.getfield 7, 3) := by decide +kernel
theorem dX11_bestWall_110 : decode cX11_bestWall 110 = .ok (.iload 5, 2) := by decide +kernel
theorem dX11_bestWall_112 : decode cX11_bestWall 112 = .ok (.iconst 0, 1) := by decide +kernel
theorem dX11_bestWall_113 : decode cX11_bestWall 113 = .ok (.iastore, 1) := by decide +kernel
theorem dX11_bestWall_114 : decode cX11_bestWall 114 = .ok (.iload_n 3, 1) := by decide +kernel
theorem dX11_bestWall_115 : decode cX11_bestWall 115 = .ok (.ifCond .lt 10, 3) := by decide +kernel
theorem dX11_bestWall_118 : decode cX11_bestWall 118 = .ok (.iload 7, 2) := by decide +kernel
theorem dX11_bestWall_120 : decode cX11_bestWall 120 = .ok (.iload 4, 2) := by decide +kernel
theorem dX11_bestWall_122 : decode cX11_bestWall 122 = .ok (.if_icmp .ge 7, 3) := by decide +kernel
theorem dX11_bestWall_125 : decode cX11_bestWall 125 = .ok (.iconst 1, 1) := by decide +kernel
theorem dX11_bestWall_126 : decode cX11_bestWall 126 = .ok (.goto 4, 3) := by decide +kernel
theorem dX11_bestWall_129 : decode cX11_bestWall 129 = .ok (.iconst 0, 1) := by decide +kernel
theorem dX11_bestWall_130 : decode cX11_bestWall 130 = .ok (.istore 8, 2) := by decide +kernel
theorem dX11_bestWall_132 : decode cX11_bestWall 132 = .ok (.iload 8, 2) := by decide +kernel
theorem dX11_bestWall_134 : decode cX11_bestWall 134 = .ok (.ifCond .eq 8, 3) := by decide +kernel
theorem dX11_bestWall_137 : decode cX11_bestWall 137 = .ok (.iload 5, 2) := by decide +kernel
theorem dX11_bestWall_139 : decode cX11_bestWall 139 = .ok (.goto 4, 3) := by decide +kernel
theorem dX11_bestWall_142 : decode cX11_bestWall 142 = .ok (.iload_n 3, 1) := by decide +kernel
theorem dX11_bestWall_143 : decode cX11_bestWall 143 = .ok (.istore_n 3, 1) := by decide +kernel
theorem dX11_bestWall_144 : decode cX11_bestWall 144 = .ok (.iload 8, 2) := by decide +kernel
theorem dX11_bestWall_146 : decode cX11_bestWall 146 = .ok (.ifCond .eq 8, 3) := by decide +kernel
theorem dX11_bestWall_149 : decode cX11_bestWall 149 = .ok (.iload 7, 2) := by decide +kernel
theorem dX11_bestWall_151 : decode cX11_bestWall 151 = .ok (.goto 5, 3) := by decide +kernel
theorem dX11_bestWall_154 : decode cX11_bestWall 154 = .ok (.iload 4, 2) := by decide +kernel
theorem dX11_bestWall_156 : decode cX11_bestWall 156 = .ok (.istore 4, 2) := by decide +kernel
theorem dX11_bestWall_158 : decode cX11_bestWall 158 = .ok (.iinc 5 1, 3) := by decide +kernel
theorem dX11_bestWall_161 : decode cX11_bestWall 161 = .ok (.goto (-120), 3) := by decide +kernel
theorem dX11_bestWall_164 : decode cX11_bestWall 164 = .ok (.aload_n 0, 1) := by decide +kernel
theorem dX11_bestWall_165 : decode cX11_bestWall 165 = .ok (.invokevirtual 271, 3) := by decide +kernel
theorem dX11_bestWall_168 : decode cX11_bestWall 168 = .ok (.iload_n 3, 1) := by decide +kernel
theorem dX11_bestWall_169 : decode cX11_bestWall 169 = .ok (.ifCond .ge 7, 3) := by decide +kernel
theorem dX11_bestWall_172 : decode cX11_bestWall 172 = .ok (.iconst (-1), 1) := by decide +kernel
theorem dX11_bestWall_173 : decode cX11_bestWall 173 = .ok (.goto 17, 3) := by decide +kernel
theorem dX11_bestWall_176 : decode cX11_bestWall 176 = .ok (.iload_n 2, 1) := by decide +kernel
theorem dX11_bestWall_177 : decode cX11_bestWall 177 = .ok (.ifCond .ne 11, 3) := by decide +kernel
theorem dX11_bestWall_180 : decode cX11_bestWall 180 = .ok (.aload_n 0, 1) := by decide +kernel
theorem dX11_bestWall_181 : decode cX11_bestWall 181 = .ok (.iload_n 3, 1) := by decide +kernel
theorem dX11_bestWall_182 : decode cX11_bestWall 182 = .ok (.invokevirtual 292, 3) := by decide +kernel
theorem dX11_bestWall_185 : decode cX11_bestWall 185 = .ok (.goto 5, 3) := by decide +kernel
theorem dX11_bestWall_188 : decode cX11_bestWall 188 = .ok (.iload 4, 2) := by decide +kernel
theorem dX11_bestWall_190 : decode cX11_bestWall 190 = .ok (.ireturn, 1) := by decide +kernel
theorem dX11_wax_0 : decode cX11_wax 0 = .ok (.iload_n 1, 1) := by decide +kernel
theorem dX11_wax_1 : decode cX11_wax 1 = .ok (.i2l, 1) := by decide +kernel
theorem dX11_wax_2 : decode cX11_wax 2 = .ok (.lconst 0, 1) := by decide +kernel
theorem dX11_wax_3 : decode cX11_wax 3 = .ok (.ldc2_w 366, 3) := by decide +kernel
theorem dX11_wax_6 : decode cX11_wax 6 = .ok (.invokestatic 114, 3) := by decide +kernel
theorem dX11_wax_9 : decode cX11_wax 9 = .ok (.ifCond .ne 7, 3) := by decide +kernel
theorem dX11_wax_12 : decode cX11_wax 12 = .ok (.ldc_w 285, 3) := by decide +kernel
theorem dX11_wax_15 : decode cX11_wax 15 = .ok (.ireturn, 1) := by decide +kernel
theorem dX11_wax_16 : decode cX11_wax 16 = .ok (.aload_n 0, 1) := by decide +kernel
theorem dX11_wax_17 : decode cX11_wax 17 = .ok (.invokevirtual 355, 3) := by decide +kernel
theorem dX11_wax_20 : decode cX11_wax 20 = .ok (.aload_n 0, 1) := by decide +kernel
theorem dX11_wax_21 : decode cX11_wax 21 = .ok (.bipush 30, 2) := by decide +kernel
theorem dX11_wax_23 : decode cX11_wax 23 = .ok (.invokevirtual 358, 3) := by decide +kernel
theorem dX11_wax_26 : decode cX11_wax 26 = .ok (.istore_n 2, 1) := by decide +kernel
theorem dX11_wax_27 : decode cX11_wax 27 = .ok (.iconst 0, 1) := by decide +kernel
theorem dX11_wax_28 : decode cX11_wax 28 = .ok (.istore_n 3, 1) := by decide +kernel
theorem dX11_wax_29 : decode cX11_wax 29 = .ok (.iconst 0, 1) := by decide +kernel
theorem dX11_wax_30 : decode cX11_wax 30 = .ok (.istore 4, 2) := by decide +kernel
theorem dX11_wax_32 : decode cX11_wax 32 = .ok (.iload 4, 2) := by decide +kernel
theorem dX11_wax_34 : decode cX11_wax 34 = .ok (.aload_n 0, 1) := by decide +kernel
theorem dX11_wax_35 : decode cX11_wax 35 = .ok (.getfield 121, 3) := by decide +kernel
theorem dX11_wax_38 : decode cX11_wax 38 = .ok (.if_icmp .ge 60, 3) := by decide +kernel
theorem dX11_wax_41 : decode cX11_wax 41 = .ok (.iload_n 3, 1) := by decide +kernel
theorem dX11_wax_42 : decode cX11_wax 42 = .ok (.aload_n 0, 1) := by decide +kernel
theorem dX11_wax_43 : decode cX11_wax 43 = .ok (.getfield 13, 3) := by decide +kernel
theorem dX11_wax_46 : decode cX11_wax 46 = .ok (.iload 4, 2) := by decide +kernel
theorem dX11_wax_48 : decode cX11_wax 48 = .ok (.iaload, 1) := by decide +kernel
theorem dX11_wax_49 : decode cX11_wax 49 = .ok (.iload_n 1, 1) := by decide +kernel
theorem dX11_wax_50 : decode cX11_wax 50 = .ok (.if_icmp .ne 39, 3) := by decide +kernel
theorem dX11_wax_53 : decode cX11_wax 53 = .ok (.aload_n 0, 1) := by decide +kernel
theorem dX11_wax_54 : decode cX11_wax 54 = .ok (.iload 4, 2) := by decide +kernel
theorem dX11_wax_56 : decode cX11_wax 56 = .ok (.invokevirtual 286, 3) := by decide +kernel
theorem dX11_wax_59 : decode cX11_wax 59 = .ok (.ifCond .le 30, 3) := by decide +kernel
theorem dX11_wax_62 : decode cX11_wax 62 = .ok (.aload_n 0, 1) := by decide +kernel
theorem dX11_wax_63 : decode cX11_wax 63 = .ok (.getfield 44, 3) := by decide +kernel
theorem dX11_wax_66 : decode cX11_wax 66 = .ok (.iload 4, 2) := by decide +kernel
theorem dX11_wax_68 : decode cX11_wax 68 = .ok (.iaload, 1) := by decide +kernel
theorem dX11_wax_69 : decode cX11_wax 69 = .ok (.ifCond .le 20, 3) := by decide +kernel
theorem dX11_wax_72 : decode cX11_wax 72 = .ok (.aload_n 0, 1) := by decide +kernel
theorem dX11_wax_73 : decode cX11_wax 73 = .ok (.getfield 86, 3) := by decide +kernel
theorem dX11_wax_76 : decode cX11_wax 76 = .ok (.iload 4, 2) := by decide +kernel
theorem dX11_wax_78 : decode cX11_wax 78 = .ok (.iaload, 1) := by decide +kernel
theorem dX11_wax_79 : decode cX11_wax 79 = .ok (.ifCond .ne 10, 3) := by decide +kernel
theorem dX11_wax_82 : decode cX11_wax 82 = .ok (.iconst 1, 1) := by decide +kernel
theorem dX11_wax_83 : decode cX11_wax 83 = .ok (.iload 4, 2) := by decide +kernel
theorem dX11_wax_85 : decode cX11_wax 85 = .ok (.ishl, 1) := by decide +kernel
theorem dX11_wax_86 : decode cX11_wax 86 = .ok (.goto 4, 3) := by decide +kernel
theorem dX11_wax_89 : decode cX11_wax 89 = .ok (.iconst 0, 1) := by decide +kernel
theorem dX11_wax_90 : decode cX11_wax 90 = .ok (.ior, 1) := by decide +kernel
theorem dX11_wax_91 : decode cX11_wax 91 = .ok (.istore_n 3, 1) := by decide +kernel
theorem dX11_wax_92 : decode cX11_wax 92 = .ok (.iinc 4 1, 3) := by decide +kernel
theorem dX11_wax_95 : decode cX11_wax 95 = .ok (.goto (-63), 3) := by decide +kernel
theorem dX11_wax_98 : decode cX11_wax 98 = .ok (.aload_n 0, 1) := by decide +kernel
theorem dX11_wax_99 : decode cX11_wax 99 = .ok (.invokevirtual 361, 3) := by decide +kernel
theorem dX11_wax_102 : decode cX11_wax 102 = .ok (.iload_n 3, 1) := by decide +kernel
theorem dX11_wax_103 : decode cX11_wax 103 = .ok (.ireturn, 1) := by decide +kernel
theorem dX11_see_0 : decode cX11_see 0 = .ok (.aload_n 0, 1) := by decide +kernel
theorem dX11_see_1 : decode cX11_see 1 = .ok (.iload_n 1, 1) := by decide +kernel
theorem dX11_see_2 : decode cX11_see 2 = .ok (.invokevirtual 301, 3) := by decide +kernel
theorem dX11_see_5 : decode cX11_see 5 = .ok (.ifCond .eq 13, 3) := by decide +kernel
theorem dX11_see_8 : decode cX11_see 8 = .ok (.aload_n 0, 1) := by decide +kernel
theorem dX11_see_9 : decode cX11_see 9 = .ok (.iload_n 3, 1) := by decide +kernel
theorem dX11_see_10 : decode cX11_see 10 = .ok (.iload 4, 2) := by decide +kernel
theorem dX11_see_12 : decode cX11_see 12 = .ok (.invokevirtual 274, 3) := by decide +kernel
theorem dX11_see_15 : decode cX11_see 15 = .ok (.ifCond .ne 7, 3) := by decide +kernel
theorem dX11_see_18 : decode cX11_see 18 = .ok (.ldc_w 285, 3) := by decide +kernel
theorem dX11_see_21 : decode cX11_see 21 = .ok (.ireturn, 1) := by decide +kernel
theorem dX11_see_22 : decode cX11_see 22 = .ok (.iload_n 2, 1) := by decide +kernel
theorem dX11_see_23 : decode cX11_see 23 = .ok (.i2l, 1) := by decide +kernel
theorem dX11_see_24 : decode cX11_see 24 = .ok (.lconst 1, 1) := by decide +kernel
theorem dX11_see_25 : decode cX11_see 25 = .ok (.ldc2_w 384, 3) := by decide +kernel
theorem dX11_see_28 : decode cX11_see 28 = .ok (.invokestatic 114, 3) := by decide +kernel
theorem dX11_see_31 : decode cX11_see 31 = .ok (.ifCond .ne 6, 3) := by decide +kernel
theorem dX11_see_34 : decode cX11_see 34 = .ok (.ldc 129, 2) := by decide +kernel
theorem dX11_see_36 : decode cX11_see 36 = .ok (.ireturn, 1) := by decide +kernel
theorem dX11_see_37 : decode cX11_see 37 = .ok (.aload_n 0, 1) := by decide +kernel
theorem dX11_see_38 : decode cX11_see 38 = .ok (.getfield 268, 3) := by decide +kernel
theorem dX11_see_41 : decode cX11_see 41 = .ok (.bipush 10, 2) := by decide +kernel
theorem dX11_see_43 : decode cX11_see 43 = .ok (.if_icmp .ne 6, 3) := by decide +kernel
theorem dX11_see_46 : decode cX11_see 46 = .ok (.ldc 133, 2) := by decide +kernel
theorem dX11_see_48 : decode cX11_see 48 = .ok (.ireturn, 1) := by decide +kernel
theorem dX11_see_49 : decode cX11_see 49 = .ok (.aload_n 0, 1) := by decide +kernel
theorem dX11_see_50 : decode cX11_see 50 = .ok (.getfield 95, 3) := by decide +kernel
theorem dX11_see_53 : decode cX11_see 53 = .ok (.aload_n 0, 1) := by decide +kernel
theorem dX11_see_54 : decode cX11_see 54 = .ok (.getfield 268, 3) := by decide +kernel
theorem dX11_see_57 : decode cX11_see 57 = .ok (.iload_n 1, 1) := by decide +kernel
theorem dX11_see_58 : decode cX11_see 58 = .ok (.iastore, 1) := by decide +kernel
theorem dX11_see_59 : decode cX11_see 59 = .ok (.aload_n 0, 1) := by decide +kernel
theorem dX11_see_60 : decode cX11_see 60 = .ok (.getfield 98, 3) := by decide +kernel
theorem dX11_see_63 : decode cX11_see 63 = .ok (.aload_n 0, 1) := by decide +kernel
theorem dX11_see_64 : decode cX11_see 64 = .ok (.getfield 268, 3) := by decide +kernel
theorem dX11_see_67 : decode cX11_see 67 = .ok (.iload_n 2, 1) := by decide +kernel
theorem dX11_see_68 : decode cX11_see 68 = .ok (.iastore, 1) := by decide +kernel
theorem dX11_see_69 : decode cX11_see 69 = .ok (.aload_n 0, 1) := by decide +kernel
theorem dX11_see_70 : decode cX11_see 70 = .ok (.getfield 101, 3) := by decide +kernel
theorem dX11_see_73 : decode cX11_see 73 = .ok (.aload_n 0, 1) := by decide +kernel
theorem dX11_see_74 : decode cX11_see 74 = .ok (.getfield 268, 3) := by decide +kernel
theorem dX11_see_77 : decode cX11_see 77 = .ok (.aload_n 0, 1) := by decide +kernel
theorem dX11_see_78 : decode cX11_see 78 = .ok (.getfield 111, 3) := by decide +kernel
theorem dX11_see_81 : decode cX11_see 81 = .ok (.iload 4, 2) := by decide +kernel
theorem dX11_see_83 : decode cX11_see 83 = .ok (.imul, 1) := by decide +kernel
theorem dX11_see_84 : decode cX11_see 84 = .ok (.iload_n 3, 1) := by decide +kernel
theorem dX11_see_85 : decode cX11_see 85 = .ok (.iadd, 1) := by decide +kernel
theorem dX11_see_86 : decode cX11_see 86 = .ok (.iastore, 1) := by decide +kernel
theorem dX11_see_87 : decode cX11_see 87 = .ok (.aload_n 0, 1) := by decide +kernel
theorem dX11_see_88 : decode cX11_see 88 = .ok (.dup, 1) := by decide +kernel
theorem dX11_see_89 : decode cX11_see 89 = .ok (.getfield 268, 3) := by decide +kernel
theorem dX11_see_92 : decode cX11_see 92 = .ok (.iconst 1, 1) := by decide +kernel
theorem dX11_see_93 : decode cX11_see 93 = .ok (.iadd, 1) := by decide +kernel
theorem dX11_see_94 : decode cX11_see 94 = .ok (.putfield 268, 3) := by decide +kernel
theorem dX11_see_97 : decode cX11_see 97 = .ok (.aload_n 0, 1) := by decide +kernel
theorem dX11_see_98 : decode cX11_see 98 = .ok (.getfield 268, 3) := by decide +kernel
theorem dX11_see_101 : decode cX11_see 101 = .ok (.ireturn, 1) := by decide +kernel
theorem dX11_isAsSeen_0 : decode cX11_isAsSeen 0 = .ok (.iconst 1, 1) := by decide +kernel
theorem dX11_isAsSeen_1 : decode cX11_isAsSeen 1 = .ok (.istore_n 2, 1) := by decide +kernel
theorem dX11_isAsSeen_2 : decode cX11_isAsSeen 2 = .ok (.iconst 0, 1) := by decide +kernel
theorem dX11_isAsSeen_3 : decode cX11_isAsSeen 3 = .ok (.istore_n 3, 1) := by decide +kernel
theorem dX11_isAsSeen_4 : decode cX11_isAsSeen 4 = .ok (.iload_n 3, 1) := by decide +kernel
theorem dX11_isAsSeen_5 : decode cX11_isAsSeen 5 = .ok (.aload_n 0, 1) := by decide +kernel
theorem dX11_isAsSeen_6 : decode cX11_isAsSeen 6 = .ok (.getfield 268, 3) := by decide +kernel
theorem dX11_isAsSeen_9 : decode cX11_isAsSeen 9 = .ok (.if_icmp .ge 49, 3) := by decide +kernel
theorem dX11_isAsSeen_12 : decode cX11_isAsSeen 12 = .ok (.iload_n 2, 1) := by decide +kernel
theorem dX11_isAsSeen_13 : decode cX11_isAsSeen 13 = .ok (.ifCond .eq 37, 3) := by decide +kernel
theorem dX11_isAsSeen_16 : decode cX11_isAsSeen 16 = .ok (.aload_n 0, 1) := by decide +kernel
theorem dX11_isAsSeen_17 : decode cX11_isAsSeen 17 = .ok (.getfield 98, 3) := by decide +kernel
theorem dX11_isAsSeen_20 : decode cX11_isAsSeen 20 = .ok (.iload_n 3, 1) := by decide +kernel
theorem dX11_isAsSeen_21 : decode cX11_isAsSeen 21 = .ok (.iaload, 1) := by decide +kernel
theorem dX11_isAsSeen_22 : decode cX11_isAsSeen 22 = .ok (.iload_n 1, 1) := by decide +kernel
theorem dX11_isAsSeen_23 : decode cX11_isAsSeen 23 = .ok (.if_icmp .ne 23, 3) := by decide +kernel
theorem dX11_isAsSeen_26 : decode cX11_isAsSeen 26 = .ok (.aload_n 0, 1) := by decide +kernel
theorem dX11_isAsSeen_27 : decode cX11_isAsSeen 27 = .ok (.getfield 38, 3) := by decide +kernel
theorem dX11_isAsSeen_30 : decode cX11_isAsSeen 30 = .ok (.aload_n 0, 1) := by decide +kernel
theorem dX11_isAsSeen_31 : decode cX11_isAsSeen 31 = .ok (.getfield 95, 3) := by decide +kernel
theorem dX11_isAsSeen_34 : decode cX11_isAsSeen 34 = .ok (.iload_n 3, 1) := by decide +kernel
theorem dX11_isAsSeen_35 : decode cX11_isAsSeen 35 = .ok (.iaload, 1) := by decide +kernel
theorem dX11_isAsSeen_36 : decode cX11_isAsSeen 36 = .ok (.iaload, 1) := by decide +kernel
theorem dX11_isAsSeen_37 : decode cX11_isAsSeen 37 = .ok (.aload_n 0, 1) := by decide +kernel
theorem dX11_isAsSeen_38 : decode cX11_isAsSeen 38 = .ok (.getfield 101, 3) := by decide +kernel
theorem dX11_isAsSeen_41 : decode cX11_isAsSeen 41 = .ok (.iload_n 3, 1) := by decide +kernel
theorem dX11_isAsSeen_42 : decode cX11_isAsSeen 42 = .ok (.iaload, 1) := by decide +kernel
theorem dX11_isAsSeen_43 : decode cX11_isAsSeen 43 = .ok (.if_icmp .ne 7, 3) := by decide +kernel
theorem dX11_isAsSeen_46 : decode cX11_isAsSeen 46 = .ok (.iconst 1, 1) := by decide +kernel
theorem dX11_isAsSeen_47 : decode cX11_isAsSeen 47 = .ok (.goto 4, 3) := by decide +kernel
theorem dX11_isAsSeen_50 : decode cX11_isAsSeen 50 = .ok (.iconst 0, 1) := by decide +kernel
theorem dX11_isAsSeen_51 : decode cX11_isAsSeen 51 = .ok (.istore_n 2, 1) := by decide +kernel
theorem dX11_isAsSeen_52 : decode cX11_isAsSeen 52 = .ok (.iinc 3 1, 3) := by decide +kernel
theorem dX11_isAsSeen_55 : decode cX11_isAsSeen 55 = .ok (.goto (-51), 3) := by decide +kernel
theorem dX11_isAsSeen_58 : decode cX11_isAsSeen 58 = .ok (.iload_n 2, 1) := by decide +kernel
theorem dX11_isAsSeen_59 : decode cX11_isAsSeen 59 = .ok (.ireturn, 1) := by decide +kernel
theorem dX11_isWalk_0 : decode cX11_isWalk 0 = .ok (.iconst 1, 1) := by decide +kernel
theorem dX11_isWalk_1 : decode cX11_isWalk 1 = .ok (.istore 4, 2) := by decide +kernel
theorem dX11_isWalk_3 : decode cX11_isWalk 3 = .ok (.iconst 0, 1) := by decide +kernel
theorem dX11_isWalk_4 : decode cX11_isWalk 4 = .ok (.istore 5, 2) := by decide +kernel
theorem dX11_isWalk_6 : decode cX11_isWalk 6 = .ok (.iload 5, 2) := by decide +kernel
theorem dX11_isWalk_8 : decode cX11_isWalk 8 = .ok (.iload_n 1, 1) := by decide +kernel
theorem dX11_isWalk_9 : decode cX11_isWalk 9 = .ok (.if_icmp .ge 47, 3) := by decide +kernel
theorem dX11_isWalk_12 : decode cX11_isWalk 12 = .ok (.iload 4, 2) := by decide +kernel
theorem dX11_isWalk_14 : decode cX11_isWalk 14 = .ok (.ifCond .eq 42, 3) := by decide +kernel
theorem dX11_isWalk_17 : decode cX11_isWalk 17 = .ok (.aload_n 0, 1) := by decide +kernel
theorem dX11_isWalk_18 : decode cX11_isWalk 18 = .ok (.iload_n 3, 1) := by decide +kernel
theorem dX11_isWalk_19 : decode cX11_isWalk 19 = .ok (.iload_n 1, 1) := by decide +kernel
theorem dX11_isWalk_20 : decode cX11_isWalk 20 = .ok (.iload 5, 2) := by decide +kernel
theorem dX11_isWalk_22 : decode cX11_isWalk 22 = .ok (.invokestatic 373, 3) := by decide +kernel
theorem dX11_isWalk_25 : decode cX11_isWalk 25 = .ok (.iload_n 2, 1) := by decide +kernel
theorem dX11_isWalk_26 : decode cX11_isWalk 26 = .ok (.invokevirtual 327, 3) := by decide +kernel
theorem dX11_isWalk_29 : decode cX11_isWalk 29 = .ok (.ifCond .eq 18, 3) := by decide +kernel
theorem dX11_isWalk_32 : decode cX11_isWalk 32 = .ok (.aload_n 0, 1) := by decide +kernel
theorem dX11_isWalk_33 : decode cX11_isWalk 33 = .ok (.iload 5, 2) := by decide +kernel
theorem dX11_isWalk_35 : decode cX11_isWalk 35 = .ok (.iconst 1, 1) := by decide +kernel
theorem dX11_isWalk_36 : decode cX11_isWalk 36 = .ok (.iadd, 1) := by decide +kernel
theorem dX11_isWalk_37 : decode cX11_isWalk 37 = .ok (.invokevirtual 386, 3) := by decide +kernel
theorem dX11_isWalk_40 : decode cX11_isWalk 40 = .ok (.ifCond .eq 7, 3) := by decide +kernel
theorem dX11_isWalk_43 : decode cX11_isWalk 43 = .ok (.iconst 1, 1) := by decide +kernel
theorem dX11_isWalk_44 : decode cX11_isWalk 44 = .ok (.goto 4, 3) := by decide +kernel
theorem dX11_isWalk_47 : decode cX11_isWalk 47 = .ok (.iconst 0, 1) := by decide +kernel
theorem dX11_isWalk_48 : decode cX11_isWalk 48 = .ok (.istore 4, 2) := by decide +kernel
theorem dX11_isWalk_50 : decode cX11_isWalk 50 = .ok (.iinc 5 1, 3) := by decide +kernel
theorem dX11_isWalk_53 : decode cX11_isWalk 53 = .ok (.goto (-47), 3) := by decide +kernel
theorem dX11_isWalk_56 : decode cX11_isWalk 56 = .ok (.iload 4, 2) := by decide +kernel
theorem dX11_isWalk_58 : decode cX11_isWalk 58 = .ok (.ireturn, 1) := by decide +kernel
theorem dX11_walks_0 : decode cX11_walks 0 = .ok (.aload_n 0, 1) := by decide +kernel
theorem dX11_walks_1 : decode cX11_walks 1 = .ok (.iload_n 2, 1) := by decide +kernel
theorem dX11_walks_2 : decode cX11_walks 2 = .ok (.invokevirtual 310, 3) := by decide +kernel
theorem dX11_walks_5 : decode cX11_walks 5 = .ok (.ifCond .ne 7, 3) := by decide +kernel
theorem dX11_walks_8 : decode cX11_walks 8 = .ok (.ldc_w 285, 3) := by decide +kernel
theorem dX11_walks_11 : decode cX11_walks 11 = .ok (.ireturn, 1) := by decide +kernel
theorem dX11_walks_12 : decode cX11_walks 12 = .ok (.iload_n 1, 1) := by decide +kernel
theorem dX11_walks_13 : decode cX11_walks 13 = .ok (.i2l, 1) := by decide +kernel
theorem dX11_walks_14 : decode cX11_walks 14 = .ok (.lconst 1, 1) := by decide +kernel
theorem dX11_walks_15 : decode cX11_walks 15 = .ok (.ldc2_w 384, 3) := by decide +kernel
theorem dX11_walks_18 : decode cX11_walks 18 = .ok (.invokestatic 114, 3) := by decide +kernel
theorem dX11_walks_21 : decode cX11_walks 21 = .ok (.ifCond .ne 6, 3) := by decide +kernel
theorem dX11_walks_24 : decode cX11_walks 24 = .ok (.ldc 129, 2) := by decide +kernel
theorem dX11_walks_26 : decode cX11_walks 26 = .ok (.ireturn, 1) := by decide +kernel
theorem dX11_walks_27 : decode cX11_walks 27 = .ok (.aload_n 0, 1) := by decide +kernel
theorem dX11_walks_28 : decode cX11_walks 28 = .ok (.invokevirtual 355, 3) := by decide +kernel
theorem dX11_walks_31 : decode cX11_walks 31 = .ok (.iconst 0, 1) := by decide +kernel
theorem dX11_walks_32 : decode cX11_walks 32 = .ok (.istore 4, 2) := by decide +kernel
theorem dX11_walks_34 : decode cX11_walks 34 = .ok (.iconst (-1), 1) := by decide +kernel
theorem dX11_walks_35 : decode cX11_walks 35 = .ok (.istore 5, 2) := by decide +kernel
theorem dX11_walks_37 : decode cX11_walks 37 = .ok (.iconst 0, 1) := by decide +kernel
theorem dX11_walks_38 : decode cX11_walks 38 = .ok (.istore 6, 2) := by decide +kernel
theorem dX11_walks_40 : decode cX11_walks 40 = .ok (.iload 6, 2) := by decide +kernel
theorem dX11_walks_42 : decode cX11_walks 42 = .ok (.iload_n 1, 1) := by decide +kernel
theorem dX11_walks_43 : decode cX11_walks 43 = .ok (.invokestatic 370, 3) := by decide +kernel
theorem dX11_walks_46 : decode cX11_walks 46 = .ok (.if_icmp .ge 57, 3) := by decide +kernel
theorem dX11_walks_49 : decode cX11_walks 49 = .ok (.aload_n 0, 1) := by decide +kernel
theorem dX11_walks_50 : decode cX11_walks 50 = .ok (.iload_n 1, 1) := by decide +kernel
theorem dX11_walks_51 : decode cX11_walks 51 = .ok (.iload_n 2, 1) := by decide +kernel
theorem dX11_walks_52 : decode cX11_walks 52 = .ok (.iload 6, 2) := by decide +kernel
theorem dX11_walks_54 : decode cX11_walks 54 = .ok (.invokevirtual 389, 3) := by decide +kernel
theorem dX11_walks_57 : decode cX11_walks 57 = .ok (.istore 7, 2) := by decide +kernel
theorem dX11_walks_59 : decode cX11_walks 59 = .ok (.aload_n 0, 1) := by decide +kernel
theorem dX11_walks_60 : decode cX11_walks 60 = .ok (.invokevirtual 361, 3) := by decide +kernel
theorem dX11_walks_63 : decode cX11_walks 63 = .ok (.iload 7, 2) := by decide +kernel
theorem dX11_walks_65 : decode cX11_walks 65 = .ok (.ifCond .eq 13, 3) := by decide +kernel
theorem dX11_walks_68 : decode cX11_walks 68 = .ok (.iload 4, 2) := by decide +kernel
theorem dX11_walks_70 : decode cX11_walks 70 = .ok (.ifCond .ne 8, 3) := by decide +kernel
theorem dX11_walks_73 : decode cX11_walks 73 = .ok (.iload 6, 2) := by decide +kernel
theorem dX11_walks_75 : decode cX11_walks 75 = .ok (.goto 5, 3) := by decide +kernel
theorem dX11_walks_78 : decode cX11_walks 78 = .ok (.iload 5, 2) := by decide +kernel
theorem dX11_walks_80 : decode cX11_walks 80 = .ok (.istore 5, 2) := by decide +kernel
theorem dX11_walks_82 : decode cX11_walks 82 = .ok (.iload 4, 2) := by decide +kernel
theorem dX11_walks_84 : decode cX11_walks 84 = .ok (.iload 7, 2) := by decide +kernel
theorem dX11_walks_86 : decode cX11_walks 86 = .ok (.ifCond .eq 7, 3) := by decide +kernel
theorem dX11_walks_89 : decode cX11_walks 89 = .ok (.iconst 1, 1) := by decide +kernel
theorem dX11_walks_90 : decode cX11_walks 90 = .ok (.goto 4, 3) := by decide +kernel
theorem dX11_walks_93 : decode cX11_walks 93 = .ok (.iconst 0, 1) := by decide +kernel
theorem dX11_walks_94 : decode cX11_walks 94 = .ok (.iadd, 1) := by decide +kernel
theorem dX11_walks_95 : decode cX11_walks 95 = .ok (.istore 4, 2) := by decide +kernel
theorem dX11_walks_97 : decode cX11_walks 97 = .ok (.iinc 6 1, 3) := by decide +kernel
theorem dX11_walks_100 : decode cX11_walks 100 = .ok (.goto (-60), 3) := by decide +kernel
theorem dX11_walks_103 : decode cX11_walks 103 = .ok (.iload_n 3, 1) := by decide +kernel
theorem dX11_walks_104 : decode cX11_walks 104 = .ok (.iconst (-1), 1) := by decide +kernel
theorem dX11_walks_105 : decode cX11_walks 105 = .ok (.if_icmp .ne 8, 3) := by decide +kernel
theorem dX11_walks_108 : decode cX11_walks 108 = .ok (.iload 4, 2) := by decide +kernel
theorem dX11_walks_110 : decode cX11_walks 110 = .ok (.goto 32, 3) := by decide +kernel
theorem dX11_walks_113 : decode cX11_walks 113 = .ok (.iload 4, 2) := by decide +kernel
theorem dX11_walks_115 : decode cX11_walks 115 = .ok (.ifCond .eq 16, 3) := by decide +kernel
theorem dX11_walks_118 : decode cX11_walks 118 = .ok (.iload_n 3, 1) := by decide +kernel
theorem dX11_walks_119 : decode cX11_walks 119 = .ok (.i2l, 1) := by decide +kernel
theorem dX11_walks_120 : decode cX11_walks 120 = .ok (.lconst 0, 1) := by decide +kernel
theorem dX11_walks_121 : decode cX11_walks 121 = .ok (.iload_n 1, 1) := by decide +kernel
theorem dX11_walks_122 : decode cX11_walks 122 = .ok (.iconst 1, 1) := by decide +kernel
theorem dX11_walks_123 : decode cX11_walks 123 = .ok (.isub, 1) := by decide +kernel
theorem dX11_walks_124 : decode cX11_walks 124 = .ok (.i2l, 1) := by decide +kernel
theorem dX11_walks_125 : decode cX11_walks 125 = .ok (.invokestatic 114, 3) := by decide +kernel
theorem dX11_walks_128 : decode cX11_walks 128 = .ok (.ifCond .ne 7, 3) := by decide +kernel
theorem dX11_walks_131 : decode cX11_walks 131 = .ok (.iconst (-1), 1) := by decide +kernel
theorem dX11_walks_132 : decode cX11_walks 132 = .ok (.goto 10, 3) := by decide +kernel
theorem dX11_walks_135 : decode cX11_walks 135 = .ok (.iload 5, 2) := by decide +kernel
theorem dX11_walks_137 : decode cX11_walks 137 = .ok (.iload_n 1, 1) := by decide +kernel
theorem dX11_walks_138 : decode cX11_walks 138 = .ok (.iload_n 3, 1) := by decide +kernel
theorem dX11_walks_139 : decode cX11_walks 139 = .ok (.invokestatic 373, 3) := by decide +kernel
theorem dX11_walks_142 : decode cX11_walks 142 = .ok (.ireturn, 1) := by decide +kernel
theorem dX11_tear_0 : decode cX11_tear 0 = .ok (.aload_n 0, 1) := by decide +kernel
theorem dX11_tear_1 : decode cX11_tear 1 = .ok (.getfield 268, 3) := by decide +kernel
theorem dX11_tear_4 : decode cX11_tear 4 = .ok (.istore_n 1, 1) := by decide +kernel
theorem dX11_tear_5 : decode cX11_tear 5 = .ok (.aload_n 0, 1) := by decide +kernel
theorem dX11_tear_6 : decode cX11_tear 6 = .ok (.iconst 0, 1) := by decide +kernel
theorem dX11_tear_7 : decode cX11_tear 7 = .ok (.putfield 268, 3) := by decide +kernel
theorem dX11_tear_10 : decode cX11_tear 10 = .ok (.iload_n 1, 1) := by decide +kernel
theorem dX11_tear_11 : decode cX11_tear 11 = .ok (.ireturn, 1) := by decide +kernel
theorem dX11_seed_0 : decode cX11_seed 0 = .ok (.iload_n 1, 1) := by decide +kernel
theorem dX11_seed_1 : decode cX11_seed 1 = .ok (.ifCond .ge 6, 3) := by decide +kernel
theorem dX11_seed_4 : decode cX11_seed 4 = .ok (.ldc 129, 2) := by decide +kernel
theorem dX11_seed_6 : decode cX11_seed 6 = .ok (.ireturn, 1) := by decide +kernel
theorem dX11_seed_7 : decode cX11_seed 7 = .ok (.aload_n 0, 1) := by decide +kernel
theorem dX11_seed_8 : decode cX11_seed 8 = .ok (.getfield 334, 3) := by decide +kernel
theorem dX11_seed_11 : decode cX11_seed 11 = .ok (.istore_n 2, 1) := by decide +kernel
theorem dX11_seed_12 : decode cX11_seed 12 = .ok (.aload_n 0, 1) := by decide +kernel
theorem dX11_seed_13 : decode cX11_seed 13 = .ok (.iload_n 1, 1) := by decide +kernel
theorem dX11_seed_14 : decode cX11_seed 14 = .ok (.putfield 334, 3) := by decide +kernel
theorem dX11_seed_17 : decode cX11_seed 17 = .ok (.iload_n 2, 1) := by decide +kernel
theorem dX11_seed_18 : decode cX11_seed 18 = .ok (.ireturn, 1) := by decide +kernel
theorem dX11_keep_0 : decode cX11_keep 0 = .ok (.iload_n 1, 1) := by decide +kernel
theorem dX11_keep_1 : decode cX11_keep 1 = .ok (.i2l, 1) := by decide +kernel
theorem dX11_keep_2 : decode cX11_keep 2 = .ok (.lconst 0, 1) := by decide +kernel
theorem dX11_keep_3 : decode cX11_keep 3 = .ok (.lconst 1, 1) := by decide +kernel
theorem dX11_keep_4 : decode cX11_keep 4 = .ok (.invokestatic 114, 3) := by decide +kernel
theorem dX11_keep_7 : decode cX11_keep 7 = .ok (.ifCond .ne 7, 3) := by decide +kernel
theorem dX11_keep_10 : decode cX11_keep 10 = .ok (.ldc_w 285, 3) := by decide +kernel
theorem dX11_keep_13 : decode cX11_keep 13 = .ok (.ireturn, 1) := by decide +kernel
theorem dX11_keep_14 : decode cX11_keep 14 = .ok (.bipush 70, 2) := by decide +kernel
theorem dX11_keep_16 : decode cX11_keep 16 = .ok (.iload_n 1, 1) := by decide +kernel
theorem dX11_keep_17 : decode cX11_keep 17 = .ok (.imul, 1) := by decide +kernel
theorem dX11_keep_18 : decode cX11_keep 18 = .ok (.istore_n 2, 1) := by decide +kernel
theorem dX11_keep_19 : decode cX11_keep 19 = .ok (.iconst 0, 1) := by decide +kernel
theorem dX11_keep_20 : decode cX11_keep 20 = .ok (.istore_n 3, 1) := by decide +kernel
theorem dX11_keep_21 : decode cX11_keep 21 = .ok (.iload_n 3, 1) := by decide +kernel
theorem dX11_keep_22 : decode cX11_keep 22 = .ok (.bipush 42, 2) := by decide +kernel
theorem dX11_keep_24 : decode cX11_keep 24 = .ok (.if_icmp .ge 23, 3) := by decide +kernel
theorem dX11_keep_27 : decode cX11_keep 27 = .ok (.aload_n 0, 1) := by decide +kernel
theorem dX11_keep_28 : decode cX11_keep 28 = .ok (.getfield 104, 3) := by decide +kernel
theorem dX11_keep_31 : decode cX11_keep 31 = .ok (.iload_n 2, 1) := by decide +kernel
theorem dX11_keep_32 : decode cX11_keep 32 = .ok (.iload_n 3, 1) := by decide +kernel
theorem dX11_keep_33 : decode cX11_keep 33 = .ok (.iadd, 1) := by decide +kernel
theorem dX11_keep_34 : decode cX11_keep 34 = .ok (.aload_n 0, 1) := by decide +kernel
theorem dX11_keep_35 : decode cX11_keep 35 = .ok (.getfield 7, 3) := by decide +kernel
theorem dX11_keep_38 : decode cX11_keep 38 = .ok (.iload_n 3, 1) := by decide +kernel
theorem dX11_keep_39 : decode cX11_keep 39 = .ok (.iaload, 1) := by decide +kernel
theorem dX11_keep_40 : decode cX11_keep 40 = .ok (.iastore, 1) := by decide +kernel
theorem dX11_keep_41 : decode cX11_keep 41 = .ok (.iinc 3 1, 3) := by decide +kernel
theorem dX11_keep_44 : decode cX11_keep 44 = .ok (.goto (-23), 3) := by decide +kernel
theorem dX11_keep_47 : decode cX11_keep 47 = .ok (.iconst 0, 1) := by decide +kernel
theorem dX11_keep_48 : decode cX11_keep 48 = .ok (.istore_n 3, 1) := by decide +kernel
theorem dX11_keep_49 : decode cX11_keep 49 = .ok (.iload_n 3, 1) := by decide +kernel
theorem dX11_keep_50 : decode cX11_keep 50 = .ok (.bipush 6, 2) := by decide +kernel
theorem dX11_keep_52 : decode cX11_keep 52 = .ok (.if_icmp .ge 60, 3) := by decide +kernel
theorem dX11_keep_55 : decode cX11_keep 55 = .ok (.aload_n 0, 1) := by decide +kernel
theorem dX11_keep_56 : decode cX11_keep 56 = .ok (.getfield 104, 3) := by decide +kernel
theorem dX11_keep_59 : decode cX11_keep 59 = .ok (.iload_n 2, 1) := by decide +kernel
theorem dX11_keep_60 : decode cX11_keep 60 = .ok (.bipush 42, 2) := by decide +kernel
theorem dX11_keep_62 : decode cX11_keep 62 = .ok (.iadd, 1) := by decide +kernel
theorem dX11_keep_63 : decode cX11_keep 63 = .ok (.iload_n 3, 1) := by decide +kernel
theorem dX11_keep_64 : decode cX11_keep 64 = .ok (.iadd, 1) := by decide +kernel
theorem dX11_keep_65 : decode cX11_keep 65 = .ok (.aload_n 0, 1) := by decide +kernel
theorem dX11_keep_66 : decode cX11_keep 66 = .ok (.getfield 38, 3) := by decide +kernel
theorem dX11_keep_69 : decode cX11_keep 69 = .ok (.iload_n 3, 1) := by decide +kernel
theorem dX11_keep_70 : decode cX11_keep 70 = .ok (.iaload, 1) := by decide +kernel
theorem dX11_keep_71 : decode cX11_keep 71 = .ok (.iastore, 1) := by decide +kernel
theorem dX11_keep_72 : decode cX11_keep 72 = .ok (.aload_n 0, 1) := by decide +kernel
theorem dX11_keep_73 : decode cX11_keep 73 = .ok (.getfield 104, 3) := by decide +kernel
theorem dX11_keep_76 : decode cX11_keep 76 = .ok (.iload_n 2, 1) := by decide +kernel
theorem dX11_keep_77 : decode cX11_keep 77 = .ok (.bipush 48, 2) := by decide +kernel
theorem dX11_keep_79 : decode cX11_keep 79 = .ok (.iadd, 1) := by decide +kernel
theorem dX11_keep_80 : decode cX11_keep 80 = .ok (.iload_n 3, 1) := by decide +kernel
theorem dX11_keep_81 : decode cX11_keep 81 = .ok (.iadd, 1) := by decide +kernel
theorem dX11_keep_82 : decode cX11_keep 82 = .ok (.aload_n 0, 1) := by decide +kernel
theorem dX11_keep_83 : decode cX11_keep 83 = .ok (.getfield 41, 3) := by decide +kernel
theorem dX11_keep_86 : decode cX11_keep 86 = .ok (.iload_n 3, 1) := by decide +kernel
theorem dX11_keep_87 : decode cX11_keep 87 = .ok (.iaload, 1) := by decide +kernel
theorem dX11_keep_88 : decode cX11_keep 88 = .ok (.iastore, 1) := by decide +kernel
theorem dX11_keep_89 : decode cX11_keep 89 = .ok (.aload_n 0, 1) := by decide +kernel
theorem dX11_keep_90 : decode cX11_keep 90 = .ok (.getfield 104, 3) := by decide +kernel
theorem dX11_keep_93 : decode cX11_keep 93 = .ok (.iload_n 2, 1) := by decide +kernel
theorem dX11_keep_94 : decode cX11_keep 94 = .ok (.bipush 54, 2) := by decide +kernel
theorem dX11_keep_96 : decode cX11_keep 96 = .ok (.iadd, 1) := by decide +kernel
theorem dX11_keep_97 : decode cX11_keep 97 = .ok (.iload_n 3, 1) := by decide +kernel
theorem dX11_keep_98 : decode cX11_keep 98 = .ok (.iadd, 1) := by decide +kernel
theorem dX11_keep_99 : decode cX11_keep 99 = .ok (.aload_n 0, 1) := by decide +kernel
theorem dX11_keep_100 : decode cX11_keep 100 = .ok (.getfield 44, 3) := by decide +kernel
theorem dX11_keep_103 : decode cX11_keep 103 = .ok (.iload_n 3, 1) := by decide +kernel
theorem dX11_keep_104 : decode cX11_keep 104 = .ok (.iaload, 1) := by decide +kernel
theorem dX11_keep_105 : decode cX11_keep 105 = .ok (.iastore, 1) := by decide +kernel
theorem dX11_keep_106 : decode cX11_keep 106 = .ok (.iinc 3 1, 3) := by decide +kernel
theorem dX11_keep_109 : decode cX11_keep 109 = .ok (.goto (-60), 3) := by decide +kernel
theorem dX11_keep_112 : decode cX11_keep 112 = .ok (.aload_n 0, 1) := by decide +kernel
theorem dX11_keep_113 : decode cX11_keep 113 = .ok (.getfield 104, 3) := by decide +kernel
theorem dX11_keep_116 : decode cX11_keep 116 = .ok (.iload_n 2, 1) := by decide +kernel
theorem dX11_keep_117 : decode cX11_keep 117 = .ok (.bipush 60, 2) := by decide +kernel
theorem dX11_keep_119 : decode cX11_keep 119 = .ok (.iadd, 1) := by decide +kernel
theorem dX11_keep_120 : decode cX11_keep 120 = .ok (.aload_n 0, 1) := by decide +kernel
theorem dX11_keep_121 : decode cX11_keep 121 = .ok (.getfield 259, 3) := by decide +kernel
theorem dX11_keep_124 : decode cX11_keep 124 = .ok (.iastore, 1) := by decide +kernel
theorem dX11_keep_125 : decode cX11_keep 125 = .ok (.aload_n 0, 1) := by decide +kernel
theorem dX11_keep_126 : decode cX11_keep 126 = .ok (.getfield 104, 3) := by decide +kernel
theorem dX11_keep_129 : decode cX11_keep 129 = .ok (.iload_n 2, 1) := by decide +kernel
theorem dX11_keep_130 : decode cX11_keep 130 = .ok (.bipush 61, 2) := by decide +kernel
theorem dX11_keep_132 : decode cX11_keep 132 = .ok (.iadd, 1) := by decide +kernel
theorem dX11_keep_133 : decode cX11_keep 133 = .ok (.aload_n 0, 1) := by decide +kernel
theorem dX11_keep_134 : decode cX11_keep 134 = .ok (.getfield 262, 3) := by decide +kernel
theorem dX11_keep_137 : decode cX11_keep 137 = .ok (.iastore, 1) := by decide +kernel
theorem dX11_keep_138 : decode cX11_keep 138 = .ok (.aload_n 0, 1) := by decide +kernel
theorem dX11_keep_139 : decode cX11_keep 139 = .ok (.getfield 104, 3) := by decide +kernel
theorem dX11_keep_142 : decode cX11_keep 142 = .ok (.iload_n 2, 1) := by decide +kernel
theorem dX11_keep_143 : decode cX11_keep 143 = .ok (.bipush 62, 2) := by decide +kernel
theorem dX11_keep_145 : decode cX11_keep 145 = .ok (.iadd, 1) := by decide +kernel
theorem dX11_keep_146 : decode cX11_keep 146 = .ok (.aload_n 0, 1) := by decide +kernel
theorem dX11_keep_147 : decode cX11_keep 147 = .ok (.getfield 334, 3) := by decide +kernel
theorem dX11_keep_150 : decode cX11_keep 150 = .ok (.iastore, 1) := by decide +kernel
theorem dX11_keep_151 : decode cX11_keep 151 = .ok (.aload_n 0, 1) := by decide +kernel
theorem dX11_keep_152 : decode cX11_keep 152 = .ok (.getfield 107, 3) := by decide +kernel
theorem dX11_keep_155 : decode cX11_keep 155 = .ok (.iload_n 1, 1) := by decide +kernel
theorem dX11_keep_156 : decode cX11_keep 156 = .ok (.iconst 1, 1) := by decide +kernel
theorem dX11_keep_157 : decode cX11_keep 157 = .ok (.bastore, 1) := by decide +kernel
theorem dX11_keep_158 : decode cX11_keep 158 = .ok (.iconst 1, 1) := by decide +kernel
theorem dX11_keep_159 : decode cX11_keep 159 = .ok (.ireturn, 1) := by decide +kernel
theorem dX11_goBack_0 : decode cX11_goBack 0 = .ok (.iload_n 1, 1) := by decide +kernel
theorem dX11_goBack_1 : decode cX11_goBack 1 = .ok (.i2l, 1) := by decide +kernel
theorem dX11_goBack_2 : decode cX11_goBack 2 = .ok (.lconst 0, 1) := by decide +kernel
theorem dX11_goBack_3 : decode cX11_goBack 3 = .ok (.lconst 1, 1) := by decide +kernel
theorem dX11_goBack_4 : decode cX11_goBack 4 = .ok (.invokestatic 114, 3) := by decide +kernel
theorem dX11_goBack_7 : decode cX11_goBack 7 = .ok (.ifCond .ne 7, 3) := by decide +kernel
theorem dX11_goBack_10 : decode cX11_goBack 10 = .ok (.ldc_w 285, 3) := by decide +kernel
theorem dX11_goBack_13 : decode cX11_goBack 13 = .ok (.ireturn, 1) := by decide +kernel
theorem dX11_goBack_14 : decode cX11_goBack 14 = .ok (.aload_n 0, 1) := by decide +kernel
theorem dX11_goBack_15 : decode cX11_goBack 15 = .ok (.getfield 107, 3) := by decide +kernel
theorem dX11_goBack_18 : decode cX11_goBack 18 = .ok (.iload_n 1, 1) := by decide +kernel
theorem dX11_goBack_19 : decode cX11_goBack 19 = .ok (.baload, 1) := by decide +kernel
theorem dX11_goBack_20 : decode cX11_goBack 20 = .ok (.ifCond .ne 7, 3) := by decide +kernel
theorem dX11_goBack_23 : decode cX11_goBack 23 = .ok (.ldc_w 330, 3) := by decide +kernel
theorem dX11_goBack_26 : decode cX11_goBack 26 = .ok (.ireturn, 1) := by decide +kernel
theorem dX11_goBack_27 : decode cX11_goBack 27 = .ok (.bipush 70, 2) := by decide +kernel
theorem dX11_goBack_29 : decode cX11_goBack 29 = .ok (.iload_n 1, 1) := by decide +kernel
theorem dX11_goBack_30 : decode cX11_goBack 30 = .ok (.imul, 1) := by decide +kernel
theorem dX11_goBack_31 : decode cX11_goBack 31 = .ok (.istore_n 2, 1) := by decide +kernel
theorem dX11_goBack_32 : decode cX11_goBack 32 = .ok (.iconst 0, 1) := by decide +kernel
theorem dX11_goBack_33 : decode cX11_goBack 33 = .ok (.istore_n 3, 1) := by decide +kernel
theorem dX11_goBack_34 : decode cX11_goBack 34 = .ok (.iload_n 3, 1) := by decide +kernel
theorem dX11_goBack_35 : decode cX11_goBack 35 = .ok (.bipush 42, 2) := by decide +kernel
theorem dX11_goBack_37 : decode cX11_goBack 37 = .ok (.if_icmp .ge 23, 3) := by decide +kernel
theorem dX11_goBack_40 : decode cX11_goBack 40 = .ok (.aload_n 0, 1) := by decide +kernel
theorem dX11_goBack_41 : decode cX11_goBack 41 = .ok (.getfield 7, 3) := by decide +kernel
theorem dX11_goBack_44 : decode cX11_goBack 44 = .ok (.iload_n 3, 1) := by decide +kernel
theorem dX11_goBack_45 : decode cX11_goBack 45 = .ok (.aload_n 0, 1) := by decide +kernel
theorem dX11_goBack_46 : decode cX11_goBack 46 = .ok (.getfield 104, 3) := by decide +kernel
theorem dX11_goBack_49 : decode cX11_goBack 49 = .ok (.iload_n 2, 1) := by decide +kernel
theorem dX11_goBack_50 : decode cX11_goBack 50 = .ok (.iload_n 3, 1) := by decide +kernel
theorem dX11_goBack_51 : decode cX11_goBack 51 = .ok (.iadd, 1) := by decide +kernel
theorem dX11_goBack_52 : decode cX11_goBack 52 = .ok (.iaload, 1) := by decide +kernel
theorem dX11_goBack_53 : decode cX11_goBack 53 = .ok (.iastore, 1) := by decide +kernel
theorem dX11_goBack_54 : decode cX11_goBack 54 = .ok (.iinc 3 1, 3) := by decide +kernel
theorem dX11_goBack_57 : decode cX11_goBack 57 = .ok (.goto (-23), 3) := by decide +kernel
theorem dX11_goBack_60 : decode cX11_goBack 60 = .ok (.iconst 0, 1) := by decide +kernel
theorem dX11_goBack_61 : decode cX11_goBack 61 = .ok (.istore_n 3, 1) := by decide +kernel
theorem dX11_goBack_62 : decode cX11_goBack 62 = .ok (.iload_n 3, 1) := by decide +kernel
theorem dX11_goBack_63 : decode cX11_goBack 63 = .ok (.bipush 6, 2) := by decide +kernel
theorem dX11_goBack_65 : decode cX11_goBack 65 = .ok (.if_icmp .ge 60, 3) := by decide +kernel
theorem dX11_goBack_68 : decode cX11_goBack 68 = .ok (.aload_n 0, 1) := by decide +kernel
theorem dX11_goBack_69 : decode cX11_goBack 69 = .ok (.getfield 38, 3) := by decide +kernel
theorem dX11_goBack_72 : decode cX11_goBack 72 = .ok (.iload_n 3, 1) := by decide +kernel
theorem dX11_goBack_73 : decode cX11_goBack 73 = .ok (.aload_n 0, 1) := by decide +kernel
theorem dX11_goBack_74 : decode cX11_goBack 74 = .ok (.getfield 104, 3) := by decide +kernel
theorem dX11_goBack_77 : decode cX11_goBack 77 = .ok (.iload_n 2, 1) := by decide +kernel
theorem dX11_goBack_78 : decode cX11_goBack 78 = .ok (.bipush 42, 2) := by decide +kernel
theorem dX11_goBack_80 : decode cX11_goBack 80 = .ok (.iadd, 1) := by decide +kernel
theorem dX11_goBack_81 : decode cX11_goBack 81 = .ok (.iload_n 3, 1) := by decide +kernel
theorem dX11_goBack_82 : decode cX11_goBack 82 = .ok (.iadd, 1) := by decide +kernel
theorem dX11_goBack_83 : decode cX11_goBack 83 = .ok (.iaload, 1) := by decide +kernel
theorem dX11_goBack_84 : decode cX11_goBack 84 = .ok (.iastore, 1) := by decide +kernel
theorem dX11_goBack_85 : decode cX11_goBack 85 = .ok (.aload_n 0, 1) := by decide +kernel
theorem dX11_goBack_86 : decode cX11_goBack 86 = .ok (.getfield 41, 3) := by decide +kernel
theorem dX11_goBack_89 : decode cX11_goBack 89 = .ok (.iload_n 3, 1) := by decide +kernel
theorem dX11_goBack_90 : decode cX11_goBack 90 = .ok (.aload_n 0, 1) := by decide +kernel
theorem dX11_goBack_91 : decode cX11_goBack 91 = .ok (.getfield 104, 3) := by decide +kernel
theorem dX11_goBack_94 : decode cX11_goBack 94 = .ok (.iload_n 2, 1) := by decide +kernel
theorem dX11_goBack_95 : decode cX11_goBack 95 = .ok (.bipush 48, 2) := by decide +kernel
theorem dX11_goBack_97 : decode cX11_goBack 97 = .ok (.iadd, 1) := by decide +kernel
theorem dX11_goBack_98 : decode cX11_goBack 98 = .ok (.iload_n 3, 1) := by decide +kernel
theorem dX11_goBack_99 : decode cX11_goBack 99 = .ok (.iadd, 1) := by decide +kernel
theorem dX11_goBack_100 : decode cX11_goBack 100 = .ok (.iaload, 1) := by decide +kernel
theorem dX11_goBack_101 : decode cX11_goBack 101 = .ok (.iastore, 1) := by decide +kernel
theorem dX11_goBack_102 : decode cX11_goBack 102 = .ok (.aload_n 0, 1) := by decide +kernel
theorem dX11_goBack_103 : decode cX11_goBack 103 = .ok (.getfield 44, 3) := by decide +kernel
theorem dX11_goBack_106 : decode cX11_goBack 106 = .ok (.iload_n 3, 1) := by decide +kernel
theorem dX11_goBack_107 : decode cX11_goBack 107 = .ok (.aload_n 0, 1) := by decide +kernel
theorem dX11_goBack_108 : decode cX11_goBack 108 = .ok (.getfield 104, 3) := by decide +kernel
theorem dX11_goBack_111 : decode cX11_goBack 111 = .ok (.iload_n 2, 1) := by decide +kernel
theorem dX11_goBack_112 : decode cX11_goBack 112 = .ok (.bipush 54, 2) := by decide +kernel
theorem dX11_goBack_114 : decode cX11_goBack 114 = .ok (.iadd, 1) := by decide +kernel
theorem dX11_goBack_115 : decode cX11_goBack 115 = .ok (.iload_n 3, 1) := by decide +kernel
theorem dX11_goBack_116 : decode cX11_goBack 116 = .ok (.iadd, 1) := by decide +kernel
theorem dX11_goBack_117 : decode cX11_goBack 117 = .ok (.iaload, 1) := by decide +kernel
theorem dX11_goBack_118 : decode cX11_goBack 118 = .ok (.iastore, 1) := by decide +kernel
theorem dX11_goBack_119 : decode cX11_goBack 119 = .ok (.iinc 3 1, 3) := by decide +kernel
theorem dX11_goBack_122 : decode cX11_goBack 122 = .ok (.goto (-60), 3) := by decide +kernel
theorem dX11_goBack_125 : decode cX11_goBack 125 = .ok (.aload_n 0, 1) := by decide +kernel
theorem dX11_goBack_126 : decode cX11_goBack 126 = .ok (.aload_n 0, 1) := by decide +kernel
theorem dX11_goBack_127 : decode cX11_goBack 127 = .ok (.getfield 104, 3) := by decide +kernel
theorem dX11_goBack_130 : decode cX11_goBack 130 = .ok (.iload_n 2, 1) := by decide +kernel
theorem dX11_goBack_131 : decode cX11_goBack 131 = .ok (.bipush 60, 2) := by decide +kernel
theorem dX11_goBack_133 : decode cX11_goBack 133 = .ok (.iadd, 1) := by decide +kernel
theorem dX11_goBack_134 : decode cX11_goBack 134 = .ok (.iaload, 1) := by decide +kernel
theorem dX11_goBack_135 : decode cX11_goBack 135 = .ok (.putfield 259, 3) := by decide +kernel
theorem dX11_goBack_138 : decode cX11_goBack 138 = .ok (.aload_n 0, 1) := by decide +kernel
theorem dX11_goBack_139 : decode cX11_goBack 139 = .ok (.aload_n 0, 1) := by decide +kernel
theorem dX11_goBack_140 : decode cX11_goBack 140 = .ok (.getfield 104, 3) := by decide +kernel
theorem dX11_goBack_143 : decode cX11_goBack 143 = .ok (.iload_n 2, 1) := by decide +kernel
theorem dX11_goBack_144 : decode cX11_goBack 144 = .ok (.bipush 61, 2) := by decide +kernel
theorem dX11_goBack_146 : decode cX11_goBack 146 = .ok (.iadd, 1) := by decide +kernel
theorem dX11_goBack_147 : decode cX11_goBack 147 = .ok (.iaload, 1) := by decide +kernel
theorem dX11_goBack_148 : decode cX11_goBack 148 = .ok (.putfield 262, 3) := by decide +kernel
theorem dX11_goBack_151 : decode cX11_goBack 151 = .ok (.aload_n 0, 1) := by decide +kernel
theorem dX11_goBack_152 : decode cX11_goBack 152 = .ok (.aload_n 0, 1) := by decide +kernel
theorem dX11_goBack_153 : decode cX11_goBack 153 = .ok (.getfield 104, 3) := by decide +kernel
theorem dX11_goBack_156 : decode cX11_goBack 156 = .ok (.iload_n 2, 1) := by decide +kernel
theorem dX11_goBack_157 : decode cX11_goBack 157 = .ok (.bipush 62, 2) := by decide +kernel
theorem dX11_goBack_159 : decode cX11_goBack 159 = .ok (.iadd, 1) := by decide +kernel
theorem dX11_goBack_160 : decode cX11_goBack 160 = .ok (.iaload, 1) := by decide +kernel
theorem dX11_goBack_161 : decode cX11_goBack 161 = .ok (.putfield 334, 3) := by decide +kernel
theorem dX11_goBack_164 : decode cX11_goBack 164 = .ok (.aload_n 0, 1) := by decide +kernel
theorem dX11_goBack_165 : decode cX11_goBack 165 = .ok (.invokevirtual 271, 3) := by decide +kernel
theorem dX11_goBack_168 : decode cX11_goBack 168 = .ok (.iconst 1, 1) := by decide +kernel
theorem dX11_goBack_169 : decode cX11_goBack 169 = .ok (.ireturn, 1) := by decide +kernel
theorem dJ0_length_8abf5_0 : decode cJ0_length_8abf5 0 = .ok (.aload_n 0, 1) := by decide +kernel
theorem dJ0_length_8abf5_1 : decode cJ0_length_8abf5 1 = .ok (.getfield 9, 3) := by decide +kernel
theorem dJ0_length_8abf5_4 : decode cJ0_length_8abf5 4 = .ok (.arraylength, 1) := by decide +kernel
theorem dJ0_length_8abf5_5 : decode cJ0_length_8abf5 5 = .ok (.aload_n 0, 1) := by decide +kernel
theorem dJ0_length_8abf5_6 : decode cJ0_length_8abf5 6 = .ok (.invokevirtual 335, 3) := by decide +kernel
theorem dJ0_length_8abf5_9 : decode cJ0_length_8abf5 9 = .ok (.ishr, 1) := by decide +kernel
theorem dJ0_length_8abf5_10 : decode cJ0_length_8abf5 10 = .ok (.ireturn, 1) := by decide +kernel
theorem dJ0_charAt_5068e_0 : decode cJ0_charAt_5068e 0 = .ok (.aload_n 0, 1) := by decide +kernel
theorem dJ0_charAt_5068e_1 : decode cJ0_charAt_5068e 1 = .ok (.invokevirtual 492, 3) := by decide +kernel
theorem dJ0_charAt_5068e_4 : decode cJ0_charAt_5068e 4 = .ok (.ifCond .eq 12, 3) := by decide +kernel
theorem dJ0_charAt_5068e_7 : decode cJ0_charAt_5068e 7 = .ok (.aload_n 0, 1) := by decide +kernel
theorem dJ0_charAt_5068e_8 : decode cJ0_charAt_5068e 8 = .ok (.getfield 9, 3) := by decide +kernel
theorem dJ0_charAt_5068e_11 : decode cJ0_charAt_5068e 11 = .ok (.iload_n 1, 1) := by decide +kernel
theorem dJ0_charAt_5068e_12 : decode cJ0_charAt_5068e 12 = .ok (.invokestatic 495, 3) := by decide +kernel
theorem dJ0_charAt_5068e_15 : decode cJ0_charAt_5068e 15 = .ok (.ireturn, 1) := by decide +kernel
theorem dJ0_charAt_5068e_16 : decode cJ0_charAt_5068e 16 = .ok (.aload_n 0, 1) := by decide +kernel
theorem dJ0_charAt_5068e_17 : decode cJ0_charAt_5068e 17 = .ok (.getfield 9, 3) := by decide +kernel
theorem dJ0_charAt_5068e_20 : decode cJ0_charAt_5068e 20 = .ok (.iload_n 1, 1) := by decide +kernel
theorem dJ0_charAt_5068e_21 : decode cJ0_charAt_5068e 21 = .ok (.invokestatic 498, 3) := by decide +kernel
theorem dJ0_charAt_5068e_24 : decode cJ0_charAt_5068e 24 = .ok (.ireturn, 1) := by decide +kernel
theorem dJ0_coder_7d493_0 : decode cJ0_coder_7d493 0 = .ok (.getstatic 38, 3) := by decide +kernel
theorem dJ0_coder_7d493_3 : decode cJ0_coder_7d493 3 = .ok (.ifCond .eq 10, 3) := by decide +kernel
theorem dJ0_coder_7d493_6 : decode cJ0_coder_7d493 6 = .ok (.aload_n 0, 1) := by decide +kernel
theorem dJ0_coder_7d493_7 : decode cJ0_coder_7d493 7 = .ok (.getfield 15, 3) := by decide +kernel
theorem dJ0_coder_7d493_10 : decode cJ0_coder_7d493 10 = .ok (.goto 4, 3) := by decide +kernel
theorem dJ0_coder_7d493_13 : decode cJ0_coder_7d493 13 = .ok (.iconst 1, 1) := by decide +kernel
theorem dJ0_coder_7d493_14 : decode cJ0_coder_7d493 14 = .ok (.ireturn, 1) := by decide +kernel
theorem dJ0_isLatin1_aae02_0 : decode cJ0_isLatin1_aae02 0 = .ok (.getstatic 38, 3) := by decide +kernel
theorem dJ0_isLatin1_aae02_3 : decode cJ0_isLatin1_aae02 3 = .ok (.ifCond .eq 14, 3) := by decide +kernel
theorem dJ0_isLatin1_aae02_6 : decode cJ0_isLatin1_aae02 6 = .ok (.aload_n 0, 1) := by decide +kernel
theorem dJ0_isLatin1_aae02_7 : decode cJ0_isLatin1_aae02 7 = .ok (.getfield 15, 3) := by decide +kernel
theorem dJ0_isLatin1_aae02_10 : decode cJ0_isLatin1_aae02 10 = .ok (.ifCond .ne 7, 3) := by decide +kernel
theorem dJ0_isLatin1_aae02_13 : decode cJ0_isLatin1_aae02 13 = .ok (.iconst 1, 1) := by decide +kernel
theorem dJ0_isLatin1_aae02_14 : decode cJ0_isLatin1_aae02 14 = .ok (.goto 4, 3) := by decide +kernel
theorem dJ0_isLatin1_aae02_17 : decode cJ0_isLatin1_aae02 17 = .ok (.iconst 0, 1) := by decide +kernel
theorem dJ0_isLatin1_aae02_18 : decode cJ0_isLatin1_aae02 18 = .ok (.ireturn, 1) := by decide +kernel
theorem dJ0_checkIndex_df160_0 : decode cJ0_checkIndex_df160 0 = .ok (.iload_n 0, 1) := by decide +kernel
theorem dJ0_checkIndex_df160_1 : decode cJ0_checkIndex_df160 1 = .ok (.iload_n 1, 1) := by decide +kernel
theorem dJ0_checkIndex_df160_2 : decode cJ0_checkIndex_df160 2 = .ok (.getstatic 1053, 3) := by decide +kernel
theorem dJ0_checkIndex_df160_5 : decode cJ0_checkIndex_df160 5 = .ok (.invokestatic 1059, 3) := by decide +kernel
theorem dJ0_checkIndex_df160_8 : decode cJ0_checkIndex_df160 8 = .ok (.pop, 1) := by decide +kernel
theorem dJ0_checkIndex_df160_9 : decode cJ0_checkIndex_df160 9 = .ok (.return_, 1) := by decide +kernel
theorem dJ1_charAt_3b067_0 : decode cJ1_charAt_3b067 0 = .ok (.iload_n 1, 1) := by decide +kernel
theorem dJ1_charAt_3b067_1 : decode cJ1_charAt_3b067 1 = .ok (.aload_n 0, 1) := by decide +kernel
theorem dJ1_charAt_3b067_2 : decode cJ1_charAt_3b067 2 = .ok (.arraylength, 1) := by decide +kernel
theorem dJ1_charAt_3b067_3 : decode cJ1_charAt_3b067 3 = .ok (.invokestatic 9, 3) := by decide +kernel
theorem dJ1_charAt_3b067_6 : decode cJ1_charAt_3b067 6 = .ok (.aload_n 0, 1) := by decide +kernel
theorem dJ1_charAt_3b067_7 : decode cJ1_charAt_3b067 7 = .ok (.iload_n 1, 1) := by decide +kernel
theorem dJ1_charAt_3b067_8 : decode cJ1_charAt_3b067 8 = .ok (.baload, 1) := by decide +kernel
theorem dJ1_charAt_3b067_9 : decode cJ1_charAt_3b067 9 = .ok (.sipush 255, 3) := by decide +kernel
theorem dJ1_charAt_3b067_12 : decode cJ1_charAt_3b067 12 = .ok (.iand, 1) := by decide +kernel
theorem dJ1_charAt_3b067_13 : decode cJ1_charAt_3b067 13 = .ok (.i2c, 1) := by decide +kernel
theorem dJ1_charAt_3b067_14 : decode cJ1_charAt_3b067 14 = .ok (.ireturn, 1) := by decide +kernel
theorem dJ3_checkIndex_8e157_0 : decode cJ3_checkIndex_8e157 0 = .ok (.iload_n 0, 1) := by decide +kernel
theorem dJ3_checkIndex_8e157_1 : decode cJ3_checkIndex_8e157 1 = .ok (.ifCond .lt 8, 3) := by decide +kernel
theorem dJ3_checkIndex_8e157_4 : decode cJ3_checkIndex_8e157 4 = .ok (.iload_n 0, 1) := by decide +kernel
theorem dJ3_checkIndex_8e157_5 : decode cJ3_checkIndex_8e157 5 = .ok (.iload_n 1, 1) := by decide +kernel
theorem dJ3_checkIndex_8e157_6 : decode cJ3_checkIndex_8e157 6 = .ok (.if_icmp .lt 10, 3) := by decide +kernel
theorem dJ3_checkIndex_8e157_9 : decode cJ3_checkIndex_8e157 9 = .ok (.aload_n 2, 1) := by decide +kernel
theorem dJ3_checkIndex_8e157_10 : decode cJ3_checkIndex_8e157 10 = .ok (.iload_n 0, 1) := by decide +kernel
theorem dJ3_checkIndex_8e157_11 : decode cJ3_checkIndex_8e157 11 = .ok (.iload_n 1, 1) := by decide +kernel
theorem dJ3_checkIndex_8e157_12 : decode cJ3_checkIndex_8e157 12 = .ok (.invokestatic 95, 3) := by decide +kernel
theorem dJ3_checkIndex_8e157_15 : decode cJ3_checkIndex_8e157 15 = .ok (.athrow, 1) := by decide +kernel
theorem dJ3_checkIndex_8e157_16 : decode cJ3_checkIndex_8e157 16 = .ok (.iload_n 0, 1) := by decide +kernel
theorem dJ3_checkIndex_8e157_17 : decode cJ3_checkIndex_8e157 17 = .ok (.ireturn, 1) := by decide +kernel
theorem dL_law_0 : decode cL_law 0 = .ok (.new 7, 3) := by decide +kernel
theorem dL_law_3 : decode cL_law 3 = .ok (.dup, 1) := by decide +kernel
theorem dL_law_4 : decode cL_law 4 = .ok (.invokespecial 9, 3) := by decide +kernel
theorem dL_law_7 : decode cL_law 7 = .ok (.astore_n 1, 1) := by decide +kernel
theorem dL_law_8 : decode cL_law 8 = .ok (.new 10, 3) := by decide +kernel
theorem dL_law_11 : decode cL_law 11 = .ok (.dup, 1) := by decide +kernel
theorem dL_law_12 : decode cL_law 12 = .ok (.invokespecial 12, 3) := by decide +kernel
theorem dL_law_15 : decode cL_law 15 = .ok (.astore_n 2, 1) := by decide +kernel
theorem dL_law_16 : decode cL_law 16 = .ok (.iconst 0, 1) := by decide +kernel
theorem dL_law_17 : decode cL_law 17 = .ok (.istore_n 3, 1) := by decide +kernel
theorem dL_law_18 : decode cL_law 18 = .ok (.iload_n 3, 1) := by decide +kernel
theorem dL_law_19 : decode cL_law 19 = .ok (.aload_n 0, 1) := by decide +kernel
theorem dL_law_20 : decode cL_law 20 = .ok (.arraylength, 1) := by decide +kernel
theorem dL_law_21 : decode cL_law 21 = .ok (.iconst 5, 1) := by decide +kernel
theorem dL_law_22 : decode cL_law 22 = .ok (.isub, 1) := by decide +kernel
theorem dL_law_23 : decode cL_law 23 = .ok (.if_icmp .gt 912, 3) := by decide +kernel
theorem dL_law_26 : decode cL_law 26 = .ok (.aload_n 0, 1) := by decide +kernel
theorem dL_law_27 : decode cL_law 27 = .ok (.iload_n 3, 1) := by decide +kernel
theorem dL_law_28 : decode cL_law 28 = .ok (.iaload, 1) := by decide +kernel
theorem dL_law_29 : decode cL_law 29 = .ok (.bipush 31, 2) := by decide +kernel
theorem dL_law_31 : decode cL_law 31 = .ok (.iand, 1) := by decide +kernel
theorem dL_law_32 : decode cL_law 32 = .ok (.tableswitch 897 0 24 #[116, 179, 192, 205, 228, 261, 294, 327, 380, 413, 472, 495, 528, 541, 554, 587, 620, 663, 696, 719, 772, 815, 828, 851, 874], 116) := by decide +kernel
theorem dL_law_148 : decode cL_law 148 = .ok (.aload_n 1, 1) := by decide +kernel
theorem dL_law_149 : decode cL_law 149 = .ok (.aload_n 0, 1) := by decide +kernel
theorem dL_law_150 : decode cL_law 150 = .ok (.iload_n 3, 1) := by decide +kernel
theorem dL_law_151 : decode cL_law 151 = .ok (.iconst 1, 1) := by decide +kernel
theorem dL_law_152 : decode cL_law 152 = .ok (.iadd, 1) := by decide +kernel
theorem dL_law_153 : decode cL_law 153 = .ok (.iaload, 1) := by decide +kernel
theorem dL_law_154 : decode cL_law 154 = .ok (.aload_n 0, 1) := by decide +kernel
theorem dL_law_155 : decode cL_law 155 = .ok (.iload_n 3, 1) := by decide +kernel
theorem dL_law_156 : decode cL_law 156 = .ok (.iconst 2, 1) := by decide +kernel
theorem dL_law_157 : decode cL_law 157 = .ok (.iadd, 1) := by decide +kernel
theorem dL_law_158 : decode cL_law 158 = .ok (.iaload, 1) := by decide +kernel
theorem dL_law_159 : decode cL_law 159 = .ok (.i2l, 1) := by decide +kernel
theorem dL_law_160 : decode cL_law 160 = .ok (.bipush 32, 2) := by decide +kernel
theorem dL_law_162 : decode cL_law 162 = .ok (.lshl, 1) := by decide +kernel
theorem dL_law_163 : decode cL_law 163 = .ok (.aload_n 0, 1) := by decide +kernel
theorem dL_law_164 : decode cL_law 164 = .ok (.iload_n 3, 1) := by decide +kernel
theorem dL_law_165 : decode cL_law 165 = .ok (.iconst 3, 1) := by decide +kernel
theorem dL_law_166 : decode cL_law 166 = .ok (.iadd, 1) := by decide +kernel
theorem dL_law_167 : decode cL_law 167 = .ok (.iaload, 1) := by decide +kernel
theorem dL_law_168 : decode cL_law 168 = .ok (.i2l, 1) := by decide +kernel
theorem dL_law_169 : decode cL_law 169 = .ok (.ldc2_w 13, 3) := by decide +kernel
theorem dL_law_172 : decode cL_law 172 = .ok (.land, 1) := by decide +kernel
theorem dL_law_173 : decode cL_law 173 = .ok (.lor, 1) := by decide +kernel
theorem dL_law_174 : decode cL_law 174 = .ok (.invokevirtual 15, 3) := by decide +kernel
theorem dL_law_177 : decode cL_law 177 = .ok (.pop, 1) := by decide +kernel
theorem dL_law_178 : decode cL_law 178 = .ok (.aload_n 2, 1) := by decide +kernel
theorem dL_law_179 : decode cL_law 179 = .ok (.aload_n 0, 1) := by decide +kernel
theorem dL_law_180 : decode cL_law 180 = .ok (.iload_n 3, 1) := by decide +kernel
theorem dL_law_181 : decode cL_law 181 = .ok (.iconst 1, 1) := by decide +kernel
theorem dL_law_182 : decode cL_law 182 = .ok (.iadd, 1) := by decide +kernel
theorem dL_law_183 : decode cL_law 183 = .ok (.iaload, 1) := by decide +kernel
theorem dL_law_184 : decode cL_law 184 = .ok (.aload_n 0, 1) := by decide +kernel
theorem dL_law_185 : decode cL_law 185 = .ok (.iload_n 3, 1) := by decide +kernel
theorem dL_law_186 : decode cL_law 186 = .ok (.iconst 2, 1) := by decide +kernel
theorem dL_law_187 : decode cL_law 187 = .ok (.iadd, 1) := by decide +kernel
theorem dL_law_188 : decode cL_law 188 = .ok (.iaload, 1) := by decide +kernel
theorem dL_law_189 : decode cL_law 189 = .ok (.i2l, 1) := by decide +kernel
theorem dL_law_190 : decode cL_law 190 = .ok (.bipush 32, 2) := by decide +kernel
theorem dL_law_192 : decode cL_law 192 = .ok (.lshl, 1) := by decide +kernel
theorem dL_law_193 : decode cL_law 193 = .ok (.aload_n 0, 1) := by decide +kernel
theorem dL_law_194 : decode cL_law 194 = .ok (.iload_n 3, 1) := by decide +kernel
theorem dL_law_195 : decode cL_law 195 = .ok (.iconst 3, 1) := by decide +kernel
theorem dL_law_196 : decode cL_law 196 = .ok (.iadd, 1) := by decide +kernel
theorem dL_law_197 : decode cL_law 197 = .ok (.iaload, 1) := by decide +kernel
theorem dL_law_198 : decode cL_law 198 = .ok (.i2l, 1) := by decide +kernel
theorem dL_law_199 : decode cL_law 199 = .ok (.ldc2_w 13, 3) := by decide +kernel
theorem dL_law_202 : decode cL_law 202 = .ok (.land, 1) := by decide +kernel
theorem dL_law_203 : decode cL_law 203 = .ok (.lor, 1) := by decide +kernel
theorem dL_law_204 : decode cL_law 204 = .ok (.invokevirtual 19, 3) := by decide +kernel
theorem dL_law_207 : decode cL_law 207 = .ok (.pop, 1) := by decide +kernel
theorem dL_law_208 : decode cL_law 208 = .ok (.goto 721, 3) := by decide +kernel
theorem dL_law_211 : decode cL_law 211 = .ok (.aload_n 1, 1) := by decide +kernel
theorem dL_law_212 : decode cL_law 212 = .ok (.invokevirtual 20, 3) := by decide +kernel
theorem dL_law_215 : decode cL_law 215 = .ok (.pop, 1) := by decide +kernel
theorem dL_law_216 : decode cL_law 216 = .ok (.aload_n 2, 1) := by decide +kernel
theorem dL_law_217 : decode cL_law 217 = .ok (.invokevirtual 24, 3) := by decide +kernel
theorem dL_law_220 : decode cL_law 220 = .ok (.pop, 1) := by decide +kernel
theorem dL_law_221 : decode cL_law 221 = .ok (.goto 708, 3) := by decide +kernel
theorem dL_law_224 : decode cL_law 224 = .ok (.aload_n 1, 1) := by decide +kernel
theorem dL_law_225 : decode cL_law 225 = .ok (.invokevirtual 25, 3) := by decide +kernel
theorem dL_law_228 : decode cL_law 228 = .ok (.pop, 1) := by decide +kernel
theorem dL_law_229 : decode cL_law 229 = .ok (.aload_n 2, 1) := by decide +kernel
theorem dL_law_230 : decode cL_law 230 = .ok (.invokevirtual 28, 3) := by decide +kernel
theorem dL_law_233 : decode cL_law 233 = .ok (.pop, 1) := by decide +kernel
theorem dL_law_234 : decode cL_law 234 = .ok (.goto 695, 3) := by decide +kernel
theorem dL_law_237 : decode cL_law 237 = .ok (.aload_n 1, 1) := by decide +kernel
theorem dL_law_238 : decode cL_law 238 = .ok (.aload_n 0, 1) := by decide +kernel
theorem dL_law_239 : decode cL_law 239 = .ok (.iload_n 3, 1) := by decide +kernel
theorem dL_law_240 : decode cL_law 240 = .ok (.iconst 1, 1) := by decide +kernel
theorem dL_law_241 : decode cL_law 241 = .ok (.iadd, 1) := by decide +kernel
theorem dL_law_242 : decode cL_law 242 = .ok (.iaload, 1) := by decide +kernel
theorem dL_law_243 : decode cL_law 243 = .ok (.invokevirtual 29, 3) := by decide +kernel
theorem dL_law_246 : decode cL_law 246 = .ok (.pop, 1) := by decide +kernel
theorem dL_law_247 : decode cL_law 247 = .ok (.aload_n 2, 1) := by decide +kernel
theorem dL_law_248 : decode cL_law 248 = .ok (.aload_n 0, 1) := by decide +kernel
theorem dL_law_249 : decode cL_law 249 = .ok (.iload_n 3, 1) := by decide +kernel
theorem dL_law_250 : decode cL_law 250 = .ok (.iconst 1, 1) := by decide +kernel
theorem dL_law_251 : decode cL_law 251 = .ok (.iadd, 1) := by decide +kernel
theorem dL_law_252 : decode cL_law 252 = .ok (.iaload, 1) := by decide +kernel
theorem dL_law_253 : decode cL_law 253 = .ok (.invokevirtual 33, 3) := by decide +kernel
theorem dL_law_256 : decode cL_law 256 = .ok (.pop, 1) := by decide +kernel
theorem dL_law_257 : decode cL_law 257 = .ok (.goto 672, 3) := by decide +kernel
theorem dL_law_260 : decode cL_law 260 = .ok (.aload_n 1, 1) := by decide +kernel
theorem dL_law_261 : decode cL_law 261 = .ok (.aload_n 0, 1) := by decide +kernel
theorem dL_law_262 : decode cL_law 262 = .ok (.iload_n 3, 1) := by decide +kernel
theorem dL_law_263 : decode cL_law 263 = .ok (.iconst 1, 1) := by decide +kernel
theorem dL_law_264 : decode cL_law 264 = .ok (.iadd, 1) := by decide +kernel
theorem dL_law_265 : decode cL_law 265 = .ok (.iaload, 1) := by decide +kernel
theorem dL_law_266 : decode cL_law 266 = .ok (.aload_n 0, 1) := by decide +kernel
theorem dL_law_267 : decode cL_law 267 = .ok (.iload_n 3, 1) := by decide +kernel
theorem dL_law_268 : decode cL_law 268 = .ok (.iconst 2, 1) := by decide +kernel
theorem dL_law_269 : decode cL_law 269 = .ok (.iadd, 1) := by decide +kernel
theorem dL_law_270 : decode cL_law 270 = .ok (.iaload, 1) := by decide +kernel
theorem dL_law_271 : decode cL_law 271 = .ok (.invokevirtual 34, 3) := by decide +kernel
theorem dL_law_274 : decode cL_law 274 = .ok (.pop, 1) := by decide +kernel
theorem dL_law_275 : decode cL_law 275 = .ok (.aload_n 2, 1) := by decide +kernel
theorem dL_law_276 : decode cL_law 276 = .ok (.aload_n 0, 1) := by decide +kernel
theorem dL_law_277 : decode cL_law 277 = .ok (.iload_n 3, 1) := by decide +kernel
theorem dL_law_278 : decode cL_law 278 = .ok (.iconst 1, 1) := by decide +kernel
theorem dL_law_279 : decode cL_law 279 = .ok (.iadd, 1) := by decide +kernel
theorem dL_law_280 : decode cL_law 280 = .ok (.iaload, 1) := by decide +kernel
theorem dL_law_281 : decode cL_law 281 = .ok (.aload_n 0, 1) := by decide +kernel
theorem dL_law_282 : decode cL_law 282 = .ok (.iload_n 3, 1) := by decide +kernel
theorem dL_law_283 : decode cL_law 283 = .ok (.iconst 2, 1) := by decide +kernel
theorem dL_law_284 : decode cL_law 284 = .ok (.iadd, 1) := by decide +kernel
theorem dL_law_285 : decode cL_law 285 = .ok (.iaload, 1) := by decide +kernel
theorem dL_law_286 : decode cL_law 286 = .ok (.invokevirtual 38, 3) := by decide +kernel
theorem dL_law_289 : decode cL_law 289 = .ok (.pop, 1) := by decide +kernel
theorem dL_law_290 : decode cL_law 290 = .ok (.goto 639, 3) := by decide +kernel
theorem dL_law_293 : decode cL_law 293 = .ok (.aload_n 1, 1) := by decide +kernel
theorem dL_law_294 : decode cL_law 294 = .ok (.aload_n 0, 1) := by decide +kernel
theorem dL_law_295 : decode cL_law 295 = .ok (.iload_n 3, 1) := by decide +kernel
theorem dL_law_296 : decode cL_law 296 = .ok (.iconst 1, 1) := by decide +kernel
theorem dL_law_297 : decode cL_law 297 = .ok (.iadd, 1) := by decide +kernel
theorem dL_law_298 : decode cL_law 298 = .ok (.iaload, 1) := by decide +kernel
theorem dL_law_299 : decode cL_law 299 = .ok (.aload_n 0, 1) := by decide +kernel
theorem dL_law_300 : decode cL_law 300 = .ok (.iload_n 3, 1) := by decide +kernel
theorem dL_law_301 : decode cL_law 301 = .ok (.iconst 2, 1) := by decide +kernel
theorem dL_law_302 : decode cL_law 302 = .ok (.iadd, 1) := by decide +kernel
theorem dL_law_303 : decode cL_law 303 = .ok (.iaload, 1) := by decide +kernel
theorem dL_law_304 : decode cL_law 304 = .ok (.invokevirtual 39, 3) := by decide +kernel
theorem dL_law_307 : decode cL_law 307 = .ok (.pop, 1) := by decide +kernel
theorem dL_law_308 : decode cL_law 308 = .ok (.aload_n 2, 1) := by decide +kernel
theorem dL_law_309 : decode cL_law 309 = .ok (.aload_n 0, 1) := by decide +kernel
theorem dL_law_310 : decode cL_law 310 = .ok (.iload_n 3, 1) := by decide +kernel
theorem dL_law_311 : decode cL_law 311 = .ok (.iconst 1, 1) := by decide +kernel
theorem dL_law_312 : decode cL_law 312 = .ok (.iadd, 1) := by decide +kernel
theorem dL_law_313 : decode cL_law 313 = .ok (.iaload, 1) := by decide +kernel
theorem dL_law_314 : decode cL_law 314 = .ok (.aload_n 0, 1) := by decide +kernel
theorem dL_law_315 : decode cL_law 315 = .ok (.iload_n 3, 1) := by decide +kernel
theorem dL_law_316 : decode cL_law 316 = .ok (.iconst 2, 1) := by decide +kernel
theorem dL_law_317 : decode cL_law 317 = .ok (.iadd, 1) := by decide +kernel
theorem dL_law_318 : decode cL_law 318 = .ok (.iaload, 1) := by decide +kernel
theorem dL_law_319 : decode cL_law 319 = .ok (.invokevirtual 42, 3) := by decide +kernel
theorem dL_law_322 : decode cL_law 322 = .ok (.pop, 1) := by decide +kernel
theorem dL_law_323 : decode cL_law 323 = .ok (.goto 606, 3) := by decide +kernel
theorem dL_law_326 : decode cL_law 326 = .ok (.aload_n 1, 1) := by decide +kernel
theorem dL_law_327 : decode cL_law 327 = .ok (.aload_n 0, 1) := by decide +kernel
theorem dL_law_328 : decode cL_law 328 = .ok (.iload_n 3, 1) := by decide +kernel
theorem dL_law_329 : decode cL_law 329 = .ok (.iconst 1, 1) := by decide +kernel
theorem dL_law_330 : decode cL_law 330 = .ok (.iadd, 1) := by decide +kernel
theorem dL_law_331 : decode cL_law 331 = .ok (.iaload, 1) := by decide +kernel
theorem dL_law_332 : decode cL_law 332 = .ok (.aload_n 0, 1) := by decide +kernel
theorem dL_law_333 : decode cL_law 333 = .ok (.iload_n 3, 1) := by decide +kernel
theorem dL_law_334 : decode cL_law 334 = .ok (.iconst 2, 1) := by decide +kernel
theorem dL_law_335 : decode cL_law 335 = .ok (.iadd, 1) := by decide +kernel
theorem dL_law_336 : decode cL_law 336 = .ok (.iaload, 1) := by decide +kernel
theorem dL_law_337 : decode cL_law 337 = .ok (.invokevirtual 43, 3) := by decide +kernel
theorem dL_law_340 : decode cL_law 340 = .ok (.pop, 1) := by decide +kernel
theorem dL_law_341 : decode cL_law 341 = .ok (.aload_n 2, 1) := by decide +kernel
theorem dL_law_342 : decode cL_law 342 = .ok (.aload_n 0, 1) := by decide +kernel
theorem dL_law_343 : decode cL_law 343 = .ok (.iload_n 3, 1) := by decide +kernel
theorem dL_law_344 : decode cL_law 344 = .ok (.iconst 1, 1) := by decide +kernel
theorem dL_law_345 : decode cL_law 345 = .ok (.iadd, 1) := by decide +kernel
theorem dL_law_346 : decode cL_law 346 = .ok (.iaload, 1) := by decide +kernel
theorem dL_law_347 : decode cL_law 347 = .ok (.aload_n 0, 1) := by decide +kernel
theorem dL_law_348 : decode cL_law 348 = .ok (.iload_n 3, 1) := by decide +kernel
theorem dL_law_349 : decode cL_law 349 = .ok (.iconst 2, 1) := by decide +kernel
theorem dL_law_350 : decode cL_law 350 = .ok (.iadd, 1) := by decide +kernel
theorem dL_law_351 : decode cL_law 351 = .ok (.iaload, 1) := by decide +kernel
theorem dL_law_352 : decode cL_law 352 = .ok (.invokevirtual 46, 3) := by decide +kernel
theorem dL_law_355 : decode cL_law 355 = .ok (.pop, 1) := by decide +kernel
theorem dL_law_356 : decode cL_law 356 = .ok (.goto 573, 3) := by decide +kernel
theorem dL_law_359 : decode cL_law 359 = .ok (.aload_n 1, 1) := by decide +kernel
theorem dL_law_360 : decode cL_law 360 = .ok (.aload_n 0, 1) := by decide +kernel
theorem dL_law_361 : decode cL_law 361 = .ok (.iload_n 3, 1) := by decide +kernel
theorem dL_law_362 : decode cL_law 362 = .ok (.iconst 1, 1) := by decide +kernel
theorem dL_law_363 : decode cL_law 363 = .ok (.iadd, 1) := by decide +kernel
theorem dL_law_364 : decode cL_law 364 = .ok (.iaload, 1) := by decide +kernel
theorem dL_law_365 : decode cL_law 365 = .ok (.aload_n 0, 1) := by decide +kernel
theorem dL_law_366 : decode cL_law 366 = .ok (.iload_n 3, 1) := by decide +kernel
theorem dL_law_367 : decode cL_law 367 = .ok (.iconst 2, 1) := by decide +kernel
theorem dL_law_368 : decode cL_law 368 = .ok (.iadd, 1) := by decide +kernel
theorem dL_law_369 : decode cL_law 369 = .ok (.iaload, 1) := by decide +kernel
theorem dL_law_370 : decode cL_law 370 = .ok (.aload_n 0, 1) := by decide +kernel
theorem dL_law_371 : decode cL_law 371 = .ok (.iload_n 3, 1) := by decide +kernel
theorem dL_law_372 : decode cL_law 372 = .ok (.iconst 3, 1) := by decide +kernel
theorem dL_law_373 : decode cL_law 373 = .ok (.iadd, 1) := by decide +kernel
theorem dL_law_374 : decode cL_law 374 = .ok (.iaload, 1) := by decide +kernel
theorem dL_law_375 : decode cL_law 375 = .ok (.aload_n 0, 1) := by decide +kernel
theorem dL_law_376 : decode cL_law 376 = .ok (.iload_n 3, 1) := by decide +kernel
theorem dL_law_377 : decode cL_law 377 = .ok (.iconst 4, 1) := by decide +kernel
theorem dL_law_378 : decode cL_law 378 = .ok (.iadd, 1) := by decide +kernel
theorem dL_law_379 : decode cL_law 379 = .ok (.iaload, 1) := by decide +kernel
theorem dL_law_380 : decode cL_law 380 = .ok (.invokevirtual 47, 3) := by decide +kernel
theorem dL_law_383 : decode cL_law 383 = .ok (.pop, 1) := by decide +kernel
theorem dL_law_384 : decode cL_law 384 = .ok (.aload_n 2, 1) := by decide +kernel
theorem dL_law_385 : decode cL_law 385 = .ok (.aload_n 0, 1) := by decide +kernel
theorem dL_law_386 : decode cL_law 386 = .ok (.iload_n 3, 1) := by decide +kernel
theorem dL_law_387 : decode cL_law 387 = .ok (.iconst 1, 1) := by decide +kernel
theorem dL_law_388 : decode cL_law 388 = .ok (.iadd, 1) := by decide +kernel
theorem dL_law_389 : decode cL_law 389 = .ok (.iaload, 1) := by decide +kernel
theorem dL_law_390 : decode cL_law 390 = .ok (.aload_n 0, 1) := by decide +kernel
theorem dL_law_391 : decode cL_law 391 = .ok (.iload_n 3, 1) := by decide +kernel
theorem dL_law_392 : decode cL_law 392 = .ok (.iconst 2, 1) := by decide +kernel
theorem dL_law_393 : decode cL_law 393 = .ok (.iadd, 1) := by decide +kernel
theorem dL_law_394 : decode cL_law 394 = .ok (.iaload, 1) := by decide +kernel
theorem dL_law_395 : decode cL_law 395 = .ok (.aload_n 0, 1) := by decide +kernel
theorem dL_law_396 : decode cL_law 396 = .ok (.iload_n 3, 1) := by decide +kernel
theorem dL_law_397 : decode cL_law 397 = .ok (.iconst 3, 1) := by decide +kernel
theorem dL_law_398 : decode cL_law 398 = .ok (.iadd, 1) := by decide +kernel
theorem dL_law_399 : decode cL_law 399 = .ok (.iaload, 1) := by decide +kernel
theorem dL_law_400 : decode cL_law 400 = .ok (.aload_n 0, 1) := by decide +kernel
theorem dL_law_401 : decode cL_law 401 = .ok (.iload_n 3, 1) := by decide +kernel
theorem dL_law_402 : decode cL_law 402 = .ok (.iconst 4, 1) := by decide +kernel
theorem dL_law_403 : decode cL_law 403 = .ok (.iadd, 1) := by decide +kernel
theorem dL_law_404 : decode cL_law 404 = .ok (.iaload, 1) := by decide +kernel
theorem dL_law_405 : decode cL_law 405 = .ok (.invokevirtual 51, 3) := by decide +kernel
theorem dL_law_408 : decode cL_law 408 = .ok (.pop, 1) := by decide +kernel
theorem dL_law_409 : decode cL_law 409 = .ok (.goto 520, 3) := by decide +kernel
theorem dL_law_412 : decode cL_law 412 = .ok (.aload_n 1, 1) := by decide +kernel
theorem dL_law_413 : decode cL_law 413 = .ok (.aload_n 0, 1) := by decide +kernel
theorem dL_law_414 : decode cL_law 414 = .ok (.iload_n 3, 1) := by decide +kernel
theorem dL_law_415 : decode cL_law 415 = .ok (.iconst 1, 1) := by decide +kernel
theorem dL_law_416 : decode cL_law 416 = .ok (.iadd, 1) := by decide +kernel
theorem dL_law_417 : decode cL_law 417 = .ok (.iaload, 1) := by decide +kernel
theorem dL_law_418 : decode cL_law 418 = .ok (.aload_n 0, 1) := by decide +kernel
theorem dL_law_419 : decode cL_law 419 = .ok (.iload_n 3, 1) := by decide +kernel
theorem dL_law_420 : decode cL_law 420 = .ok (.iconst 2, 1) := by decide +kernel
theorem dL_law_421 : decode cL_law 421 = .ok (.iadd, 1) := by decide +kernel
theorem dL_law_422 : decode cL_law 422 = .ok (.iaload, 1) := by decide +kernel
theorem dL_law_423 : decode cL_law 423 = .ok (.invokevirtual 52, 3) := by decide +kernel
theorem dL_law_426 : decode cL_law 426 = .ok (.pop, 1) := by decide +kernel
theorem dL_law_427 : decode cL_law 427 = .ok (.aload_n 2, 1) := by decide +kernel
theorem dL_law_428 : decode cL_law 428 = .ok (.aload_n 0, 1) := by decide +kernel
theorem dL_law_429 : decode cL_law 429 = .ok (.iload_n 3, 1) := by decide +kernel
theorem dL_law_430 : decode cL_law 430 = .ok (.iconst 1, 1) := by decide +kernel
theorem dL_law_431 : decode cL_law 431 = .ok (.iadd, 1) := by decide +kernel
theorem dL_law_432 : decode cL_law 432 = .ok (.iaload, 1) := by decide +kernel
theorem dL_law_433 : decode cL_law 433 = .ok (.aload_n 0, 1) := by decide +kernel
theorem dL_law_434 : decode cL_law 434 = .ok (.iload_n 3, 1) := by decide +kernel
theorem dL_law_435 : decode cL_law 435 = .ok (.iconst 2, 1) := by decide +kernel
theorem dL_law_436 : decode cL_law 436 = .ok (.iadd, 1) := by decide +kernel
theorem dL_law_437 : decode cL_law 437 = .ok (.iaload, 1) := by decide +kernel
theorem dL_law_438 : decode cL_law 438 = .ok (.invokevirtual 55, 3) := by decide +kernel
theorem dL_law_441 : decode cL_law 441 = .ok (.pop, 1) := by decide +kernel
theorem dL_law_442 : decode cL_law 442 = .ok (.goto 487, 3) := by decide +kernel
theorem dL_law_445 : decode cL_law 445 = .ok (.aload_n 1, 1) := by decide +kernel
theorem dL_law_446 : decode cL_law 446 = .ok (.aload_n 0, 1) := by decide +kernel
theorem dL_law_447 : decode cL_law 447 = .ok (.iload_n 3, 1) := by decide +kernel
theorem dL_law_448 : decode cL_law 448 = .ok (.iconst 1, 1) := by decide +kernel
theorem dL_law_449 : decode cL_law 449 = .ok (.iadd, 1) := by decide +kernel
theorem dL_law_450 : decode cL_law 450 = .ok (.iaload, 1) := by decide +kernel
theorem dL_law_451 : decode cL_law 451 = .ok (.aload_n 0, 1) := by decide +kernel
theorem dL_law_452 : decode cL_law 452 = .ok (.iload_n 3, 1) := by decide +kernel
theorem dL_law_453 : decode cL_law 453 = .ok (.iconst 2, 1) := by decide +kernel
theorem dL_law_454 : decode cL_law 454 = .ok (.iadd, 1) := by decide +kernel
theorem dL_law_455 : decode cL_law 455 = .ok (.iaload, 1) := by decide +kernel
theorem dL_law_456 : decode cL_law 456 = .ok (.aload_n 0, 1) := by decide +kernel
theorem dL_law_457 : decode cL_law 457 = .ok (.iload_n 3, 1) := by decide +kernel
theorem dL_law_458 : decode cL_law 458 = .ok (.iconst 3, 1) := by decide +kernel
theorem dL_law_459 : decode cL_law 459 = .ok (.iadd, 1) := by decide +kernel
theorem dL_law_460 : decode cL_law 460 = .ok (.iaload, 1) := by decide +kernel
theorem dL_law_461 : decode cL_law 461 = .ok (.ifCond .eq 7, 3) := by decide +kernel
theorem dL_law_464 : decode cL_law 464 = .ok (.iconst 1, 1) := by decide +kernel
theorem dL_law_465 : decode cL_law 465 = .ok (.goto 4, 3) := by decide +kernel
theorem dL_law_468 : decode cL_law 468 = .ok (.iconst 0, 1) := by decide +kernel
theorem dL_law_469 : decode cL_law 469 = .ok (.invokevirtual 56, 3) := by decide +kernel
theorem dL_law_472 : decode cL_law 472 = .ok (.pop, 1) := by decide +kernel
theorem dL_law_473 : decode cL_law 473 = .ok (.aload_n 2, 1) := by decide +kernel
theorem dL_law_474 : decode cL_law 474 = .ok (.aload_n 0, 1) := by decide +kernel
theorem dL_law_475 : decode cL_law 475 = .ok (.iload_n 3, 1) := by decide +kernel
theorem dL_law_476 : decode cL_law 476 = .ok (.iconst 1, 1) := by decide +kernel
theorem dL_law_477 : decode cL_law 477 = .ok (.iadd, 1) := by decide +kernel
theorem dL_law_478 : decode cL_law 478 = .ok (.iaload, 1) := by decide +kernel
theorem dL_law_479 : decode cL_law 479 = .ok (.aload_n 0, 1) := by decide +kernel
theorem dL_law_480 : decode cL_law 480 = .ok (.iload_n 3, 1) := by decide +kernel
theorem dL_law_481 : decode cL_law 481 = .ok (.iconst 2, 1) := by decide +kernel
theorem dL_law_482 : decode cL_law 482 = .ok (.iadd, 1) := by decide +kernel
theorem dL_law_483 : decode cL_law 483 = .ok (.iaload, 1) := by decide +kernel
theorem dL_law_484 : decode cL_law 484 = .ok (.aload_n 0, 1) := by decide +kernel
theorem dL_law_485 : decode cL_law 485 = .ok (.iload_n 3, 1) := by decide +kernel
theorem dL_law_486 : decode cL_law 486 = .ok (.iconst 3, 1) := by decide +kernel
theorem dL_law_487 : decode cL_law 487 = .ok (.iadd, 1) := by decide +kernel
theorem dL_law_488 : decode cL_law 488 = .ok (.iaload, 1) := by decide +kernel
theorem dL_law_489 : decode cL_law 489 = .ok (.ifCond .eq 7, 3) := by decide +kernel
theorem dL_law_492 : decode cL_law 492 = .ok (.iconst 1, 1) := by decide +kernel
theorem dL_law_493 : decode cL_law 493 = .ok (.goto 4, 3) := by decide +kernel
theorem dL_law_496 : decode cL_law 496 = .ok (.iconst 0, 1) := by decide +kernel
theorem dL_law_497 : decode cL_law 497 = .ok (.invokevirtual 60, 3) := by decide +kernel
theorem dL_law_500 : decode cL_law 500 = .ok (.pop, 1) := by decide +kernel
theorem dL_law_501 : decode cL_law 501 = .ok (.goto 428, 3) := by decide +kernel
theorem dL_law_504 : decode cL_law 504 = .ok (.aload_n 1, 1) := by decide +kernel
theorem dL_law_505 : decode cL_law 505 = .ok (.aload_n 0, 1) := by decide +kernel
theorem dL_law_506 : decode cL_law 506 = .ok (.iload_n 3, 1) := by decide +kernel
theorem dL_law_507 : decode cL_law 507 = .ok (.iconst 1, 1) := by decide +kernel
theorem dL_law_508 : decode cL_law 508 = .ok (.iadd, 1) := by decide +kernel
theorem dL_law_509 : decode cL_law 509 = .ok (.iaload, 1) := by decide +kernel
theorem dL_law_510 : decode cL_law 510 = .ok (.invokevirtual 61, 3) := by decide +kernel
theorem dL_law_513 : decode cL_law 513 = .ok (.pop, 1) := by decide +kernel
theorem dL_law_514 : decode cL_law 514 = .ok (.aload_n 2, 1) := by decide +kernel
theorem dL_law_515 : decode cL_law 515 = .ok (.aload_n 0, 1) := by decide +kernel
theorem dL_law_516 : decode cL_law 516 = .ok (.iload_n 3, 1) := by decide +kernel
theorem dL_law_517 : decode cL_law 517 = .ok (.iconst 1, 1) := by decide +kernel
theorem dL_law_518 : decode cL_law 518 = .ok (.iadd, 1) := by decide +kernel
theorem dL_law_519 : decode cL_law 519 = .ok (.iaload, 1) := by decide +kernel
theorem dL_law_520 : decode cL_law 520 = .ok (.invokevirtual 64, 3) := by decide +kernel
theorem dL_law_523 : decode cL_law 523 = .ok (.pop, 1) := by decide +kernel
theorem dL_law_524 : decode cL_law 524 = .ok (.goto 405, 3) := by decide +kernel
theorem dL_law_527 : decode cL_law 527 = .ok (.aload_n 1, 1) := by decide +kernel
theorem dL_law_528 : decode cL_law 528 = .ok (.aload_n 0, 1) := by decide +kernel
theorem dL_law_529 : decode cL_law 529 = .ok (.iload_n 3, 1) := by decide +kernel
theorem dL_law_530 : decode cL_law 530 = .ok (.iconst 1, 1) := by decide +kernel
theorem dL_law_531 : decode cL_law 531 = .ok (.iadd, 1) := by decide +kernel
theorem dL_law_532 : decode cL_law 532 = .ok (.iaload, 1) := by decide +kernel
theorem dL_law_533 : decode cL_law 533 = .ok (.aload_n 0, 1) := by decide +kernel
theorem dL_law_534 : decode cL_law 534 = .ok (.iload_n 3, 1) := by decide +kernel
theorem dL_law_535 : decode cL_law 535 = .ok (.iconst 2, 1) := by decide +kernel
theorem dL_law_536 : decode cL_law 536 = .ok (.iadd, 1) := by decide +kernel
theorem dL_law_537 : decode cL_law 537 = .ok (.iaload, 1) := by decide +kernel
theorem dL_law_538 : decode cL_law 538 = .ok (.invokevirtual 65, 3) := by decide +kernel
theorem dL_law_541 : decode cL_law 541 = .ok (.pop, 1) := by decide +kernel
theorem dL_law_542 : decode cL_law 542 = .ok (.aload_n 2, 1) := by decide +kernel
theorem dL_law_543 : decode cL_law 543 = .ok (.aload_n 0, 1) := by decide +kernel
theorem dL_law_544 : decode cL_law 544 = .ok (.iload_n 3, 1) := by decide +kernel
theorem dL_law_545 : decode cL_law 545 = .ok (.iconst 1, 1) := by decide +kernel
theorem dL_law_546 : decode cL_law 546 = .ok (.iadd, 1) := by decide +kernel
theorem dL_law_547 : decode cL_law 547 = .ok (.iaload, 1) := by decide +kernel
theorem dL_law_548 : decode cL_law 548 = .ok (.aload_n 0, 1) := by decide +kernel
theorem dL_law_549 : decode cL_law 549 = .ok (.iload_n 3, 1) := by decide +kernel
theorem dL_law_550 : decode cL_law 550 = .ok (.iconst 2, 1) := by decide +kernel
theorem dL_law_551 : decode cL_law 551 = .ok (.iadd, 1) := by decide +kernel
theorem dL_law_552 : decode cL_law 552 = .ok (.iaload, 1) := by decide +kernel
theorem dL_law_553 : decode cL_law 553 = .ok (.invokevirtual 68, 3) := by decide +kernel
theorem dL_law_556 : decode cL_law 556 = .ok (.pop, 1) := by decide +kernel
theorem dL_law_557 : decode cL_law 557 = .ok (.goto 372, 3) := by decide +kernel
theorem dL_law_560 : decode cL_law 560 = .ok (.aload_n 1, 1) := by decide +kernel
theorem dL_law_561 : decode cL_law 561 = .ok (.invokevirtual 69, 3) := by decide +kernel
theorem dL_law_564 : decode cL_law 564 = .ok (.pop, 1) := by decide +kernel
theorem dL_law_565 : decode cL_law 565 = .ok (.aload_n 2, 1) := by decide +kernel
theorem dL_law_566 : decode cL_law 566 = .ok (.invokevirtual 72, 3) := by decide +kernel
theorem dL_law_569 : decode cL_law 569 = .ok (.pop, 1) := by decide +kernel
theorem dL_law_570 : decode cL_law 570 = .ok (.goto 359, 3) := by decide +kernel
theorem dL_law_573 : decode cL_law 573 = .ok (.aload_n 1, 1) := by decide +kernel
theorem dL_law_574 : decode cL_law 574 = .ok (.invokevirtual 73, 3) := by decide +kernel
theorem dL_law_577 : decode cL_law 577 = .ok (.pop, 1) := by decide +kernel
theorem dL_law_578 : decode cL_law 578 = .ok (.aload_n 2, 1) := by decide +kernel
theorem dL_law_579 : decode cL_law 579 = .ok (.invokevirtual 76, 3) := by decide +kernel
theorem dL_law_582 : decode cL_law 582 = .ok (.pop, 1) := by decide +kernel
theorem dL_law_583 : decode cL_law 583 = .ok (.goto 346, 3) := by decide +kernel
theorem dL_law_586 : decode cL_law 586 = .ok (.aload_n 1, 1) := by decide +kernel
theorem dL_law_587 : decode cL_law 587 = .ok (.aload_n 0, 1) := by decide +kernel
theorem dL_law_588 : decode cL_law 588 = .ok (.iload_n 3, 1) := by decide +kernel
theorem dL_law_589 : decode cL_law 589 = .ok (.iconst 1, 1) := by decide +kernel
theorem dL_law_590 : decode cL_law 590 = .ok (.iadd, 1) := by decide +kernel
theorem dL_law_591 : decode cL_law 591 = .ok (.iaload, 1) := by decide +kernel
theorem dL_law_592 : decode cL_law 592 = .ok (.aload_n 0, 1) := by decide +kernel
theorem dL_law_593 : decode cL_law 593 = .ok (.iload_n 3, 1) := by decide +kernel
theorem dL_law_594 : decode cL_law 594 = .ok (.iconst 2, 1) := by decide +kernel
theorem dL_law_595 : decode cL_law 595 = .ok (.iadd, 1) := by decide +kernel
theorem dL_law_596 : decode cL_law 596 = .ok (.iaload, 1) := by decide +kernel
theorem dL_law_597 : decode cL_law 597 = .ok (.invokevirtual 77, 3) := by decide +kernel
theorem dL_law_600 : decode cL_law 600 = .ok (.pop, 1) := by decide +kernel
theorem dL_law_601 : decode cL_law 601 = .ok (.aload_n 2, 1) := by decide +kernel
theorem dL_law_602 : decode cL_law 602 = .ok (.aload_n 0, 1) := by decide +kernel
theorem dL_law_603 : decode cL_law 603 = .ok (.iload_n 3, 1) := by decide +kernel
theorem dL_law_604 : decode cL_law 604 = .ok (.iconst 1, 1) := by decide +kernel
theorem dL_law_605 : decode cL_law 605 = .ok (.iadd, 1) := by decide +kernel
theorem dL_law_606 : decode cL_law 606 = .ok (.iaload, 1) := by decide +kernel
theorem dL_law_607 : decode cL_law 607 = .ok (.aload_n 0, 1) := by decide +kernel
theorem dL_law_608 : decode cL_law 608 = .ok (.iload_n 3, 1) := by decide +kernel
theorem dL_law_609 : decode cL_law 609 = .ok (.iconst 2, 1) := by decide +kernel
theorem dL_law_610 : decode cL_law 610 = .ok (.iadd, 1) := by decide +kernel
theorem dL_law_611 : decode cL_law 611 = .ok (.iaload, 1) := by decide +kernel
theorem dL_law_612 : decode cL_law 612 = .ok (.invokevirtual 80, 3) := by decide +kernel
theorem dL_law_615 : decode cL_law 615 = .ok (.pop, 1) := by decide +kernel
theorem dL_law_616 : decode cL_law 616 = .ok (.goto 313, 3) := by decide +kernel
theorem dL_law_619 : decode cL_law 619 = .ok (.aload_n 1, 1) := by decide +kernel
theorem dL_law_620 : decode cL_law 620 = .ok (.aload_n 0, 1) := by decide +kernel
theorem dL_law_621 : decode cL_law 621 = .ok (.iload_n 3, 1) := by decide +kernel
theorem dL_law_622 : decode cL_law 622 = .ok (.iconst 1, 1) := by decide +kernel
theorem dL_law_623 : decode cL_law 623 = .ok (.iadd, 1) := by decide +kernel
theorem dL_law_624 : decode cL_law 624 = .ok (.iaload, 1) := by decide +kernel
theorem dL_law_625 : decode cL_law 625 = .ok (.aload_n 0, 1) := by decide +kernel
theorem dL_law_626 : decode cL_law 626 = .ok (.iload_n 3, 1) := by decide +kernel
theorem dL_law_627 : decode cL_law 627 = .ok (.iconst 2, 1) := by decide +kernel
theorem dL_law_628 : decode cL_law 628 = .ok (.iadd, 1) := by decide +kernel
theorem dL_law_629 : decode cL_law 629 = .ok (.iaload, 1) := by decide +kernel
theorem dL_law_630 : decode cL_law 630 = .ok (.invokevirtual 81, 3) := by decide +kernel
theorem dL_law_633 : decode cL_law 633 = .ok (.pop, 1) := by decide +kernel
theorem dL_law_634 : decode cL_law 634 = .ok (.aload_n 2, 1) := by decide +kernel
theorem dL_law_635 : decode cL_law 635 = .ok (.aload_n 0, 1) := by decide +kernel
theorem dL_law_636 : decode cL_law 636 = .ok (.iload_n 3, 1) := by decide +kernel
theorem dL_law_637 : decode cL_law 637 = .ok (.iconst 1, 1) := by decide +kernel
theorem dL_law_638 : decode cL_law 638 = .ok (.iadd, 1) := by decide +kernel
theorem dL_law_639 : decode cL_law 639 = .ok (.iaload, 1) := by decide +kernel
theorem dL_law_640 : decode cL_law 640 = .ok (.aload_n 0, 1) := by decide +kernel
theorem dL_law_641 : decode cL_law 641 = .ok (.iload_n 3, 1) := by decide +kernel
theorem dL_law_642 : decode cL_law 642 = .ok (.iconst 2, 1) := by decide +kernel
theorem dL_law_643 : decode cL_law 643 = .ok (.iadd, 1) := by decide +kernel
theorem dL_law_644 : decode cL_law 644 = .ok (.iaload, 1) := by decide +kernel
theorem dL_law_645 : decode cL_law 645 = .ok (.invokevirtual 84, 3) := by decide +kernel
theorem dL_law_648 : decode cL_law 648 = .ok (.pop, 1) := by decide +kernel
theorem dL_law_649 : decode cL_law 649 = .ok (.goto 280, 3) := by decide +kernel
theorem dL_law_652 : decode cL_law 652 = .ok (.aload_n 1, 1) := by decide +kernel
theorem dL_law_653 : decode cL_law 653 = .ok (.aload_n 0, 1) := by decide +kernel
theorem dL_law_654 : decode cL_law 654 = .ok (.iload_n 3, 1) := by decide +kernel
theorem dL_law_655 : decode cL_law 655 = .ok (.iconst 1, 1) := by decide +kernel
theorem dL_law_656 : decode cL_law 656 = .ok (.iadd, 1) := by decide +kernel
theorem dL_law_657 : decode cL_law 657 = .ok (.iaload, 1) := by decide +kernel
theorem dL_law_658 : decode cL_law 658 = .ok (.aload_n 0, 1) := by decide +kernel
theorem dL_law_659 : decode cL_law 659 = .ok (.iload_n 3, 1) := by decide +kernel
theorem dL_law_660 : decode cL_law 660 = .ok (.iconst 2, 1) := by decide +kernel
theorem dL_law_661 : decode cL_law 661 = .ok (.iadd, 1) := by decide +kernel
theorem dL_law_662 : decode cL_law 662 = .ok (.iaload, 1) := by decide +kernel
theorem dL_law_663 : decode cL_law 663 = .ok (.aload_n 0, 1) := by decide +kernel
theorem dL_law_664 : decode cL_law 664 = .ok (.iload_n 3, 1) := by decide +kernel
theorem dL_law_665 : decode cL_law 665 = .ok (.iconst 3, 1) := by decide +kernel
theorem dL_law_666 : decode cL_law 666 = .ok (.iadd, 1) := by decide +kernel
theorem dL_law_667 : decode cL_law 667 = .ok (.iaload, 1) := by decide +kernel
theorem dL_law_668 : decode cL_law 668 = .ok (.invokevirtual 85, 3) := by decide +kernel
theorem dL_law_671 : decode cL_law 671 = .ok (.pop, 1) := by decide +kernel
theorem dL_law_672 : decode cL_law 672 = .ok (.aload_n 2, 1) := by decide +kernel
theorem dL_law_673 : decode cL_law 673 = .ok (.aload_n 0, 1) := by decide +kernel
theorem dL_law_674 : decode cL_law 674 = .ok (.iload_n 3, 1) := by decide +kernel
theorem dL_law_675 : decode cL_law 675 = .ok (.iconst 1, 1) := by decide +kernel
theorem dL_law_676 : decode cL_law 676 = .ok (.iadd, 1) := by decide +kernel
theorem dL_law_677 : decode cL_law 677 = .ok (.iaload, 1) := by decide +kernel
theorem dL_law_678 : decode cL_law 678 = .ok (.aload_n 0, 1) := by decide +kernel
theorem dL_law_679 : decode cL_law 679 = .ok (.iload_n 3, 1) := by decide +kernel
theorem dL_law_680 : decode cL_law 680 = .ok (.iconst 2, 1) := by decide +kernel
theorem dL_law_681 : decode cL_law 681 = .ok (.iadd, 1) := by decide +kernel
theorem dL_law_682 : decode cL_law 682 = .ok (.iaload, 1) := by decide +kernel
theorem dL_law_683 : decode cL_law 683 = .ok (.aload_n 0, 1) := by decide +kernel
theorem dL_law_684 : decode cL_law 684 = .ok (.iload_n 3, 1) := by decide +kernel
theorem dL_law_685 : decode cL_law 685 = .ok (.iconst 3, 1) := by decide +kernel
theorem dL_law_686 : decode cL_law 686 = .ok (.iadd, 1) := by decide +kernel
theorem dL_law_687 : decode cL_law 687 = .ok (.iaload, 1) := by decide +kernel
theorem dL_law_688 : decode cL_law 688 = .ok (.invokevirtual 89, 3) := by decide +kernel
theorem dL_law_691 : decode cL_law 691 = .ok (.pop, 1) := by decide +kernel
theorem dL_law_692 : decode cL_law 692 = .ok (.goto 237, 3) := by decide +kernel
theorem dL_law_695 : decode cL_law 695 = .ok (.aload_n 1, 1) := by decide +kernel
theorem dL_law_696 : decode cL_law 696 = .ok (.aload_n 0, 1) := by decide +kernel
theorem dL_law_697 : decode cL_law 697 = .ok (.iload_n 3, 1) := by decide +kernel
theorem dL_law_698 : decode cL_law 698 = .ok (.iconst 1, 1) := by decide +kernel
theorem dL_law_699 : decode cL_law 699 = .ok (.iadd, 1) := by decide +kernel
theorem dL_law_700 : decode cL_law 700 = .ok (.iaload, 1) := by decide +kernel
theorem dL_law_701 : decode cL_law 701 = .ok (.aload_n 0, 1) := by decide +kernel
theorem dL_law_702 : decode cL_law 702 = .ok (.iload_n 3, 1) := by decide +kernel
theorem dL_law_703 : decode cL_law 703 = .ok (.iconst 2, 1) := by decide +kernel
theorem dL_law_704 : decode cL_law 704 = .ok (.iadd, 1) := by decide +kernel
theorem dL_law_705 : decode cL_law 705 = .ok (.iaload, 1) := by decide +kernel
theorem dL_law_706 : decode cL_law 706 = .ok (.invokevirtual 90, 3) := by decide +kernel
theorem dL_law_709 : decode cL_law 709 = .ok (.pop, 1) := by decide +kernel
theorem dL_law_710 : decode cL_law 710 = .ok (.aload_n 2, 1) := by decide +kernel
theorem dL_law_711 : decode cL_law 711 = .ok (.aload_n 0, 1) := by decide +kernel
theorem dL_law_712 : decode cL_law 712 = .ok (.iload_n 3, 1) := by decide +kernel
theorem dL_law_713 : decode cL_law 713 = .ok (.iconst 1, 1) := by decide +kernel
theorem dL_law_714 : decode cL_law 714 = .ok (.iadd, 1) := by decide +kernel
theorem dL_law_715 : decode cL_law 715 = .ok (.iaload, 1) := by decide +kernel
theorem dL_law_716 : decode cL_law 716 = .ok (.aload_n 0, 1) := by decide +kernel
theorem dL_law_717 : decode cL_law 717 = .ok (.iload_n 3, 1) := by decide +kernel
theorem dL_law_718 : decode cL_law 718 = .ok (.iconst 2, 1) := by decide +kernel
theorem dL_law_719 : decode cL_law 719 = .ok (.iadd, 1) := by decide +kernel
theorem dL_law_720 : decode cL_law 720 = .ok (.iaload, 1) := by decide +kernel
theorem dL_law_721 : decode cL_law 721 = .ok (.invokevirtual 93, 3) := by decide +kernel
theorem dL_law_724 : decode cL_law 724 = .ok (.pop, 1) := by decide +kernel
theorem dL_law_725 : decode cL_law 725 = .ok (.goto 204, 3) := by decide +kernel
theorem dL_law_728 : decode cL_law 728 = .ok (.aload_n 1, 1) := by decide +kernel
theorem dL_law_729 : decode cL_law 729 = .ok (.aload_n 0, 1) := by decide +kernel
theorem dL_law_730 : decode cL_law 730 = .ok (.iload_n 3, 1) := by decide +kernel
theorem dL_law_731 : decode cL_law 731 = .ok (.iconst 1, 1) := by decide +kernel
theorem dL_law_732 : decode cL_law 732 = .ok (.iadd, 1) := by decide +kernel
theorem dL_law_733 : decode cL_law 733 = .ok (.iaload, 1) := by decide +kernel
theorem dL_law_734 : decode cL_law 734 = .ok (.invokevirtual 94, 3) := by decide +kernel
theorem dL_law_737 : decode cL_law 737 = .ok (.pop, 1) := by decide +kernel
theorem dL_law_738 : decode cL_law 738 = .ok (.aload_n 2, 1) := by decide +kernel
theorem dL_law_739 : decode cL_law 739 = .ok (.aload_n 0, 1) := by decide +kernel
theorem dL_law_740 : decode cL_law 740 = .ok (.iload_n 3, 1) := by decide +kernel
theorem dL_law_741 : decode cL_law 741 = .ok (.iconst 1, 1) := by decide +kernel
theorem dL_law_742 : decode cL_law 742 = .ok (.iadd, 1) := by decide +kernel
theorem dL_law_743 : decode cL_law 743 = .ok (.iaload, 1) := by decide +kernel
theorem dL_law_744 : decode cL_law 744 = .ok (.invokevirtual 97, 3) := by decide +kernel
theorem dL_law_747 : decode cL_law 747 = .ok (.pop, 1) := by decide +kernel
theorem dL_law_748 : decode cL_law 748 = .ok (.goto 181, 3) := by decide +kernel
theorem dL_law_751 : decode cL_law 751 = .ok (.aload_n 1, 1) := by decide +kernel
theorem dL_law_752 : decode cL_law 752 = .ok (.aload_n 0, 1) := by decide +kernel
theorem dL_law_753 : decode cL_law 753 = .ok (.iload_n 3, 1) := by decide +kernel
theorem dL_law_754 : decode cL_law 754 = .ok (.iconst 1, 1) := by decide +kernel
theorem dL_law_755 : decode cL_law 755 = .ok (.iadd, 1) := by decide +kernel
theorem dL_law_756 : decode cL_law 756 = .ok (.iaload, 1) := by decide +kernel
theorem dL_law_757 : decode cL_law 757 = .ok (.aload_n 0, 1) := by decide +kernel
theorem dL_law_758 : decode cL_law 758 = .ok (.iload_n 3, 1) := by decide +kernel
theorem dL_law_759 : decode cL_law 759 = .ok (.iconst 2, 1) := by decide +kernel
theorem dL_law_760 : decode cL_law 760 = .ok (.iadd, 1) := by decide +kernel
theorem dL_law_761 : decode cL_law 761 = .ok (.iaload, 1) := by decide +kernel
theorem dL_law_762 : decode cL_law 762 = .ok (.aload_n 0, 1) := by decide +kernel
theorem dL_law_763 : decode cL_law 763 = .ok (.iload_n 3, 1) := by decide +kernel
theorem dL_law_764 : decode cL_law 764 = .ok (.iconst 3, 1) := by decide +kernel
theorem dL_law_765 : decode cL_law 765 = .ok (.iadd, 1) := by decide +kernel
theorem dL_law_766 : decode cL_law 766 = .ok (.iaload, 1) := by decide +kernel
theorem dL_law_767 : decode cL_law 767 = .ok (.aload_n 0, 1) := by decide +kernel
theorem dL_law_768 : decode cL_law 768 = .ok (.iload_n 3, 1) := by decide +kernel
theorem dL_law_769 : decode cL_law 769 = .ok (.iconst 4, 1) := by decide +kernel
theorem dL_law_770 : decode cL_law 770 = .ok (.iadd, 1) := by decide +kernel
theorem dL_law_771 : decode cL_law 771 = .ok (.iaload, 1) := by decide +kernel
theorem dL_law_772 : decode cL_law 772 = .ok (.invokevirtual 98, 3) := by decide +kernel
theorem dL_law_775 : decode cL_law 775 = .ok (.pop, 1) := by decide +kernel
theorem dL_law_776 : decode cL_law 776 = .ok (.aload_n 2, 1) := by decide +kernel
theorem dL_law_777 : decode cL_law 777 = .ok (.aload_n 0, 1) := by decide +kernel
theorem dL_law_778 : decode cL_law 778 = .ok (.iload_n 3, 1) := by decide +kernel
theorem dL_law_779 : decode cL_law 779 = .ok (.iconst 1, 1) := by decide +kernel
theorem dL_law_780 : decode cL_law 780 = .ok (.iadd, 1) := by decide +kernel
theorem dL_law_781 : decode cL_law 781 = .ok (.iaload, 1) := by decide +kernel
theorem dL_law_782 : decode cL_law 782 = .ok (.aload_n 0, 1) := by decide +kernel
theorem dL_law_783 : decode cL_law 783 = .ok (.iload_n 3, 1) := by decide +kernel
theorem dL_law_784 : decode cL_law 784 = .ok (.iconst 2, 1) := by decide +kernel
theorem dL_law_785 : decode cL_law 785 = .ok (.iadd, 1) := by decide +kernel
theorem dL_law_786 : decode cL_law 786 = .ok (.iaload, 1) := by decide +kernel
theorem dL_law_787 : decode cL_law 787 = .ok (.aload_n 0, 1) := by decide +kernel
theorem dL_law_788 : decode cL_law 788 = .ok (.iload_n 3, 1) := by decide +kernel
theorem dL_law_789 : decode cL_law 789 = .ok (.iconst 3, 1) := by decide +kernel
theorem dL_law_790 : decode cL_law 790 = .ok (.iadd, 1) := by decide +kernel
theorem dL_law_791 : decode cL_law 791 = .ok (.iaload, 1) := by decide +kernel
theorem dL_law_792 : decode cL_law 792 = .ok (.aload_n 0, 1) := by decide +kernel
theorem dL_law_793 : decode cL_law 793 = .ok (.iload_n 3, 1) := by decide +kernel
theorem dL_law_794 : decode cL_law 794 = .ok (.iconst 4, 1) := by decide +kernel
theorem dL_law_795 : decode cL_law 795 = .ok (.iadd, 1) := by decide +kernel
theorem dL_law_796 : decode cL_law 796 = .ok (.iaload, 1) := by decide +kernel
theorem dL_law_797 : decode cL_law 797 = .ok (.invokevirtual 101, 3) := by decide +kernel
theorem dL_law_800 : decode cL_law 800 = .ok (.pop, 1) := by decide +kernel
theorem dL_law_801 : decode cL_law 801 = .ok (.goto 128, 3) := by decide +kernel
theorem dL_law_804 : decode cL_law 804 = .ok (.aload_n 1, 1) := by decide +kernel
theorem dL_law_805 : decode cL_law 805 = .ok (.aload_n 0, 1) := by decide +kernel
theorem dL_law_806 : decode cL_law 806 = .ok (.iload_n 3, 1) := by decide +kernel
theorem dL_law_807 : decode cL_law 807 = .ok (.iconst 1, 1) := by decide +kernel
theorem dL_law_808 : decode cL_law 808 = .ok (.iadd, 1) := by decide +kernel
theorem dL_law_809 : decode cL_law 809 = .ok (.iaload, 1) := by decide +kernel
theorem dL_law_810 : decode cL_law 810 = .ok (.aload_n 0, 1) := by decide +kernel
theorem dL_law_811 : decode cL_law 811 = .ok (.iload_n 3, 1) := by decide +kernel
theorem dL_law_812 : decode cL_law 812 = .ok (.iconst 2, 1) := by decide +kernel
theorem dL_law_813 : decode cL_law 813 = .ok (.iadd, 1) := by decide +kernel
theorem dL_law_814 : decode cL_law 814 = .ok (.iaload, 1) := by decide +kernel
theorem dL_law_815 : decode cL_law 815 = .ok (.aload_n 0, 1) := by decide +kernel
theorem dL_law_816 : decode cL_law 816 = .ok (.iload_n 3, 1) := by decide +kernel
theorem dL_law_817 : decode cL_law 817 = .ok (.iconst 3, 1) := by decide +kernel
theorem dL_law_818 : decode cL_law 818 = .ok (.iadd, 1) := by decide +kernel
theorem dL_law_819 : decode cL_law 819 = .ok (.iaload, 1) := by decide +kernel
theorem dL_law_820 : decode cL_law 820 = .ok (.invokevirtual 102, 3) := by decide +kernel
theorem dL_law_823 : decode cL_law 823 = .ok (.pop, 1) := by decide +kernel
theorem dL_law_824 : decode cL_law 824 = .ok (.aload_n 2, 1) := by decide +kernel
theorem dL_law_825 : decode cL_law 825 = .ok (.aload_n 0, 1) := by decide +kernel
theorem dL_law_826 : decode cL_law 826 = .ok (.iload_n 3, 1) := by decide +kernel
theorem dL_law_827 : decode cL_law 827 = .ok (.iconst 1, 1) := by decide +kernel
theorem dL_law_828 : decode cL_law 828 = .ok (.iadd, 1) := by decide +kernel
theorem dL_law_829 : decode cL_law 829 = .ok (.iaload, 1) := by decide +kernel
theorem dL_law_830 : decode cL_law 830 = .ok (.aload_n 0, 1) := by decide +kernel
theorem dL_law_831 : decode cL_law 831 = .ok (.iload_n 3, 1) := by decide +kernel
theorem dL_law_832 : decode cL_law 832 = .ok (.iconst 2, 1) := by decide +kernel
theorem dL_law_833 : decode cL_law 833 = .ok (.iadd, 1) := by decide +kernel
theorem dL_law_834 : decode cL_law 834 = .ok (.iaload, 1) := by decide +kernel
theorem dL_law_835 : decode cL_law 835 = .ok (.aload_n 0, 1) := by decide +kernel
theorem dL_law_836 : decode cL_law 836 = .ok (.iload_n 3, 1) := by decide +kernel
theorem dL_law_837 : decode cL_law 837 = .ok (.iconst 3, 1) := by decide +kernel
theorem dL_law_838 : decode cL_law 838 = .ok (.iadd, 1) := by decide +kernel
theorem dL_law_839 : decode cL_law 839 = .ok (.iaload, 1) := by decide +kernel
theorem dL_law_840 : decode cL_law 840 = .ok (.invokevirtual 105, 3) := by decide +kernel
theorem dL_law_843 : decode cL_law 843 = .ok (.pop, 1) := by decide +kernel
theorem dL_law_844 : decode cL_law 844 = .ok (.goto 85, 3) := by decide +kernel
theorem dL_law_847 : decode cL_law 847 = .ok (.aload_n 1, 1) := by decide +kernel
theorem dL_law_848 : decode cL_law 848 = .ok (.invokevirtual 106, 3) := by decide +kernel
theorem dL_law_851 : decode cL_law 851 = .ok (.pop, 1) := by decide +kernel
theorem dL_law_852 : decode cL_law 852 = .ok (.aload_n 2, 1) := by decide +kernel
theorem dL_law_853 : decode cL_law 853 = .ok (.invokevirtual 109, 3) := by decide +kernel
theorem dL_law_856 : decode cL_law 856 = .ok (.pop, 1) := by decide +kernel
theorem dL_law_857 : decode cL_law 857 = .ok (.goto 72, 3) := by decide +kernel
theorem dL_law_860 : decode cL_law 860 = .ok (.aload_n 1, 1) := by decide +kernel
theorem dL_law_861 : decode cL_law 861 = .ok (.aload_n 0, 1) := by decide +kernel
theorem dL_law_862 : decode cL_law 862 = .ok (.iload_n 3, 1) := by decide +kernel
theorem dL_law_863 : decode cL_law 863 = .ok (.iconst 1, 1) := by decide +kernel
theorem dL_law_864 : decode cL_law 864 = .ok (.iadd, 1) := by decide +kernel
theorem dL_law_865 : decode cL_law 865 = .ok (.iaload, 1) := by decide +kernel
theorem dL_law_866 : decode cL_law 866 = .ok (.invokevirtual 110, 3) := by decide +kernel
theorem dL_law_869 : decode cL_law 869 = .ok (.pop, 1) := by decide +kernel
theorem dL_law_870 : decode cL_law 870 = .ok (.aload_n 2, 1) := by decide +kernel
theorem dL_law_871 : decode cL_law 871 = .ok (.aload_n 0, 1) := by decide +kernel
theorem dL_law_872 : decode cL_law 872 = .ok (.iload_n 3, 1) := by decide +kernel
theorem dL_law_873 : decode cL_law 873 = .ok (.iconst 1, 1) := by decide +kernel
theorem dL_law_874 : decode cL_law 874 = .ok (.iadd, 1) := by decide +kernel
theorem dL_law_875 : decode cL_law 875 = .ok (.iaload, 1) := by decide +kernel
theorem dL_law_876 : decode cL_law 876 = .ok (.invokevirtual 113, 3) := by decide +kernel
theorem dL_law_879 : decode cL_law 879 = .ok (.pop, 1) := by decide +kernel
theorem dL_law_880 : decode cL_law 880 = .ok (.goto 49, 3) := by decide +kernel
theorem dL_law_883 : decode cL_law 883 = .ok (.aload_n 1, 1) := by decide +kernel
theorem dL_law_884 : decode cL_law 884 = .ok (.aload_n 0, 1) := by decide +kernel
theorem dL_law_885 : decode cL_law 885 = .ok (.iload_n 3, 1) := by decide +kernel
theorem dL_law_886 : decode cL_law 886 = .ok (.iconst 1, 1) := by decide +kernel
theorem dL_law_887 : decode cL_law 887 = .ok (.iadd, 1) := by decide +kernel
theorem dL_law_888 : decode cL_law 888 = .ok (.iaload, 1) := by decide +kernel
theorem dL_law_889 : decode cL_law 889 = .ok (.invokevirtual 114, 3) := by decide +kernel
theorem dL_law_892 : decode cL_law 892 = .ok (.aload_n 2, 1) := by decide +kernel
theorem dL_law_893 : decode cL_law 893 = .ok (.aload_n 0, 1) := by decide +kernel
theorem dL_law_894 : decode cL_law 894 = .ok (.iload_n 3, 1) := by decide +kernel
theorem dL_law_895 : decode cL_law 895 = .ok (.iconst 1, 1) := by decide +kernel
theorem dL_law_896 : decode cL_law 896 = .ok (.iadd, 1) := by decide +kernel
theorem dL_law_897 : decode cL_law 897 = .ok (.iaload, 1) := by decide +kernel
theorem dL_law_898 : decode cL_law 898 = .ok (.invokevirtual 117, 3) := by decide +kernel
theorem dL_law_901 : decode cL_law 901 = .ok (.if_icmp .eq 28, 3) := by decide +kernel
theorem dL_law_904 : decode cL_law 904 = .ok (.iconst 0, 1) := by decide +kernel
theorem dL_law_905 : decode cL_law 905 = .ok (.ireturn, 1) := by decide +kernel
theorem dL_law_906 : decode cL_law 906 = .ok (.aload_n 1, 1) := by decide +kernel
theorem dL_law_907 : decode cL_law 907 = .ok (.aload_n 0, 1) := by decide +kernel
theorem dL_law_908 : decode cL_law 908 = .ok (.iload_n 3, 1) := by decide +kernel
theorem dL_law_909 : decode cL_law 909 = .ok (.iconst 1, 1) := by decide +kernel
theorem dL_law_910 : decode cL_law 910 = .ok (.iadd, 1) := by decide +kernel
theorem dL_law_911 : decode cL_law 911 = .ok (.iaload, 1) := by decide +kernel
theorem dL_law_912 : decode cL_law 912 = .ok (.invokevirtual 118, 3) := by decide +kernel
theorem dL_law_915 : decode cL_law 915 = .ok (.pop, 1) := by decide +kernel
theorem dL_law_916 : decode cL_law 916 = .ok (.aload_n 2, 1) := by decide +kernel
theorem dL_law_917 : decode cL_law 917 = .ok (.aload_n 0, 1) := by decide +kernel
theorem dL_law_918 : decode cL_law 918 = .ok (.iload_n 3, 1) := by decide +kernel
theorem dL_law_919 : decode cL_law 919 = .ok (.iconst 1, 1) := by decide +kernel
theorem dL_law_920 : decode cL_law 920 = .ok (.iadd, 1) := by decide +kernel
theorem dL_law_921 : decode cL_law 921 = .ok (.iaload, 1) := by decide +kernel
theorem dL_law_922 : decode cL_law 922 = .ok (.invokevirtual 121, 3) := by decide +kernel
theorem dL_law_925 : decode cL_law 925 = .ok (.pop, 1) := by decide +kernel
theorem dL_law_926 : decode cL_law 926 = .ok (.goto 3, 3) := by decide +kernel
theorem dL_law_929 : decode cL_law 929 = .ok (.iinc 3 5, 3) := by decide +kernel
theorem dL_law_932 : decode cL_law 932 = .ok (.goto (-914), 3) := by decide +kernel
theorem dL_law_935 : decode cL_law 935 = .ok (.iconst 1, 1) := by decide +kernel
theorem dL_law_936 : decode cL_law 936 = .ok (.ireturn, 1) := by decide +kernel
