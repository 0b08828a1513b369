theorem dX6_holds_49 : decode cX6_holds 49 = .ok (.goto 4, 3) := by decide +kernel
theorem dX6_holds_52 : decode cX6_holds 52 = .ok (.iconst 0, 1) := by decide +kernel
theorem dX6_holds_53 : decode cX6_holds 53 = .ok (.istore_n 2, 1) := by decide +kernel
theorem dX6_holds_54 : decode cX6_holds 54 = .ok (.iinc 3 1, 3) := by decide +kernel
theorem dX6_holds_57 : decode cX6_holds 57 = .ok (.goto (-41), 3) := by decide +kernel
theorem dX6_holds_60 : decode cX6_holds 60 = .ok (.iload_n 2, 1) := by decide +kernel
theorem dX6_holds_61 : decode cX6_holds 61 = .ok (.ireturn, 1) := by decide +kernel
theorem dX6_heads_0 : decode cX6_heads 0 = .ok (.iconst 0, 1) := by decide +kernel
theorem dX6_heads_1 : decode cX6_heads 1 = .ok (.istore_n 3, 1) := by decide +kernel
theorem dX6_heads_2 : decode cX6_heads 2 = .ok (.iconst 0, 1) := by decide +kernel
theorem dX6_heads_3 : decode cX6_heads 3 = .ok (.istore 4, 2) := by decide +kernel
theorem dX6_heads_5 : decode cX6_heads 5 = .ok (.iload 4, 2) := by decide +kernel
theorem dX6_heads_7 : decode cX6_heads 7 = .ok (.aload_n 0, 1) := by decide +kernel
theorem dX6_heads_8 : decode cX6_heads 8 = .ok (.getfield 18, 3) := by decide +kernel
theorem dX6_heads_11 : decode cX6_heads 11 = .ok (.getfield 39, 3) := by decide +kernel
theorem dX6_heads_14 : decode cX6_heads 14 = .ok (.if_icmp .ge 50, 3) := by decide +kernel
theorem dX6_heads_17 : decode cX6_heads 17 = .ok (.iload_n 1, 1) := by decide +kernel
theorem dX6_heads_18 : decode cX6_heads 18 = .ok (.iconst (-1), 1) := by decide +kernel
theorem dX6_heads_19 : decode cX6_heads 19 = .ok (.if_icmp .eq 17, 3) := by decide +kernel
theorem dX6_heads_22 : decode cX6_heads 22 = .ok (.aload_n 0, 1) := by decide +kernel
theorem dX6_heads_23 : decode cX6_heads 23 = .ok (.getfield 18, 3) := by decide +kernel
theorem dX6_heads_26 : decode cX6_heads 26 = .ok (.getfield 94, 3) := by decide +kernel
theorem dX6_heads_29 : decode cX6_heads 29 = .ok (.iload 4, 2) := by decide +kernel
theorem dX6_heads_31 : decode cX6_heads 31 = .ok (.iaload, 1) := by decide +kernel
theorem dX6_heads_32 : decode cX6_heads 32 = .ok (.iload_n 1, 1) := by decide +kernel
theorem dX6_heads_33 : decode cX6_heads 33 = .ok (.if_icmp .ne 25, 3) := by decide +kernel
theorem dX6_heads_36 : decode cX6_heads 36 = .ok (.aload_n 0, 1) := by decide +kernel
theorem dX6_heads_37 : decode cX6_heads 37 = .ok (.iload 4, 2) := by decide +kernel
theorem dX6_heads_39 : decode cX6_heads 39 = .ok (.invokevirtual 82, 3) := by decide +kernel
theorem dX6_heads_42 : decode cX6_heads 42 = .ok (.iload_n 2, 1) := by decide +kernel
theorem dX6_heads_43 : decode cX6_heads 43 = .ok (.if_icmp .ne 15, 3) := by decide +kernel
theorem dX6_heads_46 : decode cX6_heads 46 = .ok (.iload_n 3, 1) := by decide +kernel
theorem dX6_heads_47 : decode cX6_heads 47 = .ok (.aload_n 0, 1) := by decide +kernel
theorem dX6_heads_48 : decode cX6_heads 48 = .ok (.getfield 18, 3) := by decide +kernel
theorem dX6_heads_51 : decode cX6_heads 51 = .ok (.iload 4, 2) := by decide +kernel
theorem dX6_heads_53 : decode cX6_heads 53 = .ok (.invokevirtual 88, 3) := by decide +kernel
theorem dX6_heads_56 : decode cX6_heads 56 = .ok (.iadd, 1) := by decide +kernel
theorem dX6_heads_57 : decode cX6_heads 57 = .ok (.istore_n 3, 1) := by decide +kernel
theorem dX6_heads_58 : decode cX6_heads 58 = .ok (.iinc 4 1, 3) := by decide +kernel
theorem dX6_heads_61 : decode cX6_heads 61 = .ok (.goto (-56), 3) := by decide +kernel
theorem dX6_heads_64 : decode cX6_heads 64 = .ok (.iload_n 3, 1) := by decide +kernel
theorem dX6_heads_65 : decode cX6_heads 65 = .ok (.ireturn, 1) := by decide +kernel
theorem dX6_left_0 : decode cX6_left 0 = .ok (.iconst 0, 1) := by decide +kernel
theorem dX6_left_1 : decode cX6_left 1 = .ok (.istore_n 1, 1) := by decide +kernel
theorem dX6_left_2 : decode cX6_left 2 = .ok (.iconst 0, 1) := by decide +kernel
theorem dX6_left_3 : decode cX6_left 3 = .ok (.istore_n 2, 1) := by decide +kernel
theorem dX6_left_4 : decode cX6_left 4 = .ok (.iload_n 2, 1) := by decide +kernel
theorem dX6_left_5 : decode cX6_left 5 = .ok (.aload_n 0, 1) := by decide +kernel
theorem dX6_left_6 : decode cX6_left 6 = .ok (.getfield 18, 3) := by decide +kernel
theorem dX6_left_9 : decode cX6_left 9 = .ok (.getfield 39, 3) := by decide +kernel
theorem dX6_left_12 : decode cX6_left 12 = .ok (.if_icmp .ge 41, 3) := by decide +kernel
theorem dX6_left_15 : decode cX6_left 15 = .ok (.iload_n 1, 1) := by decide +kernel
theorem dX6_left_16 : decode cX6_left 16 = .ok (.aload_n 0, 1) := by decide +kernel
theorem dX6_left_17 : decode cX6_left 17 = .ok (.iload_n 2, 1) := by decide +kernel
theorem dX6_left_18 : decode cX6_left 18 = .ok (.invokevirtual 82, 3) := by decide +kernel
theorem dX6_left_21 : decode cX6_left 21 = .ok (.ifCond .ne 15, 3) := by decide +kernel
theorem dX6_left_24 : decode cX6_left 24 = .ok (.aload_n 0, 1) := by decide +kernel
theorem dX6_left_25 : decode cX6_left 25 = .ok (.getfield 18, 3) := by decide +kernel
theorem dX6_left_28 : decode cX6_left 28 = .ok (.getfield 97, 3) := by decide +kernel
theorem dX6_left_31 : decode cX6_left 31 = .ok (.iload_n 2, 1) := by decide +kernel
theorem dX6_left_32 : decode cX6_left 32 = .ok (.iaload, 1) := by decide +kernel
theorem dX6_left_33 : decode cX6_left 33 = .ok (.goto 12, 3) := by decide +kernel
theorem dX6_left_36 : decode cX6_left 36 = .ok (.aload_n 0, 1) := by decide +kernel
theorem dX6_left_37 : decode cX6_left 37 = .ok (.getfield 18, 3) := by decide +kernel
theorem dX6_left_40 : decode cX6_left 40 = .ok (.getfield 100, 3) := by decide +kernel
theorem dX6_left_43 : decode cX6_left 43 = .ok (.iload_n 2, 1) := by decide +kernel
theorem dX6_left_44 : decode cX6_left 44 = .ok (.iaload, 1) := by decide +kernel
theorem dX6_left_45 : decode cX6_left 45 = .ok (.iadd, 1) := by decide +kernel
theorem dX6_left_46 : decode cX6_left 46 = .ok (.istore_n 1, 1) := by decide +kernel
theorem dX6_left_47 : decode cX6_left 47 = .ok (.iinc 2 1, 3) := by decide +kernel
theorem dX6_left_50 : decode cX6_left 50 = .ok (.goto (-46), 3) := by decide +kernel
theorem dX6_left_53 : decode cX6_left 53 = .ok (.iload_n 1, 1) := by decide +kernel
theorem dX6_left_54 : decode cX6_left 54 = .ok (.ireturn, 1) := by decide +kernel
theorem dX6_worth_0 : decode cX6_worth 0 = .ok (.aload_n 0, 1) := by decide +kernel
theorem dX6_worth_1 : decode cX6_worth 1 = .ok (.getfield 18, 3) := by decide +kernel
theorem dX6_worth_4 : decode cX6_worth 4 = .ok (.getfield 103, 3) := by decide +kernel
theorem dX6_worth_7 : decode cX6_worth 7 = .ok (.aload_n 0, 1) := by decide +kernel
theorem dX6_worth_8 : decode cX6_worth 8 = .ok (.iconst (-1), 1) := by decide +kernel
theorem dX6_worth_9 : decode cX6_worth 9 = .ok (.iconst 1, 1) := by decide +kernel
theorem dX6_worth_10 : decode cX6_worth 10 = .ok (.invokevirtual 106, 3) := by decide +kernel
theorem dX6_worth_13 : decode cX6_worth 13 = .ok (.imul, 1) := by decide +kernel
theorem dX6_worth_14 : decode cX6_worth 14 = .ok (.aload_n 0, 1) := by decide +kernel
theorem dX6_worth_15 : decode cX6_worth 15 = .ok (.getfield 18, 3) := by decide +kernel
theorem dX6_worth_18 : decode cX6_worth 18 = .ok (.getfield 108, 3) := by decide +kernel
theorem dX6_worth_21 : decode cX6_worth 21 = .ok (.aload_n 0, 1) := by decide +kernel
theorem dX6_worth_22 : decode cX6_worth 22 = .ok (.iconst (-1), 1) := by decide +kernel
theorem dX6_worth_23 : decode cX6_worth 23 = .ok (.iconst 2, 1) := by decide +kernel
theorem dX6_worth_24 : decode cX6_worth 24 = .ok (.invokevirtual 106, 3) := by decide +kernel
theorem dX6_worth_27 : decode cX6_worth 27 = .ok (.imul, 1) := by decide +kernel
theorem dX6_worth_28 : decode cX6_worth 28 = .ok (.isub, 1) := by decide +kernel
theorem dX6_worth_29 : decode cX6_worth 29 = .ok (.ireturn, 1) := by decide +kernel
theorem dX6_places_0 : decode cX6_places 0 = .ok (.aload_n 0, 1) := by decide +kernel
theorem dX6_places_1 : decode cX6_places 1 = .ok (.getfield 32, 3) := by decide +kernel
theorem dX6_places_4 : decode cX6_places 4 = .ok (.i2l, 1) := by decide +kernel
theorem dX6_places_5 : decode cX6_places 5 = .ok (.lstore_n 1, 1) := by decide +kernel
theorem dX6_places_6 : decode cX6_places 6 = .ok (.iconst 0, 1) := by decide +kernel
theorem dX6_places_7 : decode cX6_places 7 = .ok (.istore_n 3, 1) := by decide +kernel
theorem dX6_places_8 : decode cX6_places 8 = .ok (.iload_n 3, 1) := by decide +kernel
theorem dX6_places_9 : decode cX6_places 9 = .ok (.aload_n 0, 1) := by decide +kernel
theorem dX6_places_10 : decode cX6_places 10 = .ok (.getfield 18, 3) := by decide +kernel
theorem dX6_places_13 : decode cX6_places 13 = .ok (.getfield 39, 3) := by decide +kernel
theorem dX6_places_16 : decode cX6_places 16 = .ok (.if_icmp .ge 22, 3) := by decide +kernel
theorem dX6_places_19 : decode cX6_places 19 = .ok (.lload_n 1, 1) := by decide +kernel
theorem dX6_places_20 : decode cX6_places 20 = .ok (.bipush 6, 2) := by decide +kernel
theorem dX6_places_22 : decode cX6_places 22 = .ok (.lshl, 1) := by decide +kernel
theorem dX6_places_23 : decode cX6_places 23 = .ok (.aload_n 0, 1) := by decide +kernel
theorem dX6_places_24 : decode cX6_places 24 = .ok (.getfield 9, 3) := by decide +kernel
theorem dX6_places_27 : decode cX6_places 27 = .ok (.iload_n 3, 1) := by decide +kernel
theorem dX6_places_28 : decode cX6_places 28 = .ok (.iaload, 1) := by decide +kernel
theorem dX6_places_29 : decode cX6_places 29 = .ok (.i2l, 1) := by decide +kernel
theorem dX6_places_30 : decode cX6_places 30 = .ok (.lor, 1) := by decide +kernel
theorem dX6_places_31 : decode cX6_places 31 = .ok (.lstore_n 1, 1) := by decide +kernel
theorem dX6_places_32 : decode cX6_places 32 = .ok (.iinc 3 1, 3) := by decide +kernel
theorem dX6_places_35 : decode cX6_places 35 = .ok (.goto (-27), 3) := by decide +kernel
theorem dX6_places_38 : decode cX6_places 38 = .ok (.lload_n 1, 1) := by decide +kernel
theorem dX6_places_39 : decode cX6_places 39 = .ok (.lreturn, 1) := by decide +kernel
theorem dX6_goals_0 : decode cX6_goals 0 = .ok (.lconst 0, 1) := by decide +kernel
theorem dX6_goals_1 : decode cX6_goals 1 = .ok (.lstore_n 1, 1) := by decide +kernel
theorem dX6_goals_2 : decode cX6_goals 2 = .ok (.iconst 0, 1) := by decide +kernel
theorem dX6_goals_3 : decode cX6_goals 3 = .ok (.istore_n 3, 1) := by decide +kernel
theorem dX6_goals_4 : decode cX6_goals 4 = .ok (.iload_n 3, 1) := by decide +kernel
theorem dX6_goals_5 : decode cX6_goals 5 = .ok (.aload_n 0, 1) := by decide +kernel
theorem dX6_goals_6 : decode cX6_goals 6 = .ok (.getfield 18, 3) := by decide +kernel
theorem dX6_goals_9 : decode cX6_goals 9 = .ok (.getfield 39, 3) := by decide +kernel
theorem dX6_goals_12 : decode cX6_goals 12 = .ok (.if_icmp .ge 24, 3) := by decide +kernel
theorem dX6_goals_15 : decode cX6_goals 15 = .ok (.lload_n 1, 1) := by decide +kernel
theorem dX6_goals_16 : decode cX6_goals 16 = .ok (.bipush 6, 2) := by decide +kernel
theorem dX6_goals_18 : decode cX6_goals 18 = .ok (.lshl, 1) := by decide +kernel
theorem dX6_goals_19 : decode cX6_goals 19 = .ok (.aload_n 0, 1) := by decide +kernel
theorem dX6_goals_20 : decode cX6_goals 20 = .ok (.getfield 15, 3) := by decide +kernel
theorem dX6_goals_23 : decode cX6_goals 23 = .ok (.iload_n 3, 1) := by decide +kernel
theorem dX6_goals_24 : decode cX6_goals 24 = .ok (.iaload, 1) := by decide +kernel
theorem dX6_goals_25 : decode cX6_goals 25 = .ok (.iconst 1, 1) := by decide +kernel
theorem dX6_goals_26 : decode cX6_goals 26 = .ok (.iadd, 1) := by decide +kernel
theorem dX6_goals_27 : decode cX6_goals 27 = .ok (.i2l, 1) := by decide +kernel
theorem dX6_goals_28 : decode cX6_goals 28 = .ok (.lor, 1) := by decide +kernel
theorem dX6_goals_29 : decode cX6_goals 29 = .ok (.lstore_n 1, 1) := by decide +kernel
theorem dX6_goals_30 : decode cX6_goals 30 = .ok (.iinc 3 1, 3) := by decide +kernel
theorem dX6_goals_33 : decode cX6_goals 33 = .ok (.goto (-29), 3) := by decide +kernel
theorem dX6_goals_36 : decode cX6_goals 36 = .ok (.lload_n 1, 1) := by decide +kernel
theorem dX6_goals_37 : decode cX6_goals 37 = .ok (.lreturn, 1) := by decide +kernel
theorem dX7_init_0 : decode cX7_init 0 = .ok (.aload_n 0, 1) := by decide +kernel
theorem dX7_init_1 : decode cX7_init 1 = .ok (.invokespecial 3, 3) := by decide +kernel
theorem dX7_init_4 : decode cX7_init 4 = .ok (.aload_n 0, 1) := by decide +kernel
theorem dX7_init_5 : decode cX7_init 5 = .ok (.bipush 10, 2) := by decide +kernel
theorem dX7_init_7 : decode cX7_init 7 = .ok (.newarray .int, 2) := by decide +kernel
theorem dX7_init_9 : decode cX7_init 9 = .ok (.putfield 9, 3) := by decide +kernel
theorem dX7_init_12 : decode cX7_init 12 = .ok (.aload_n 0, 1) := by decide +kernel
theorem dX7_init_13 : decode cX7_init 13 = .ok (.bipush 10, 2) := by decide +kernel
theorem dX7_init_15 : decode cX7_init 15 = .ok (.newarray .int, 2) := by decide +kernel
theorem dX7_init_17 : decode cX7_init 17 = .ok (.putfield 15, 3) := by decide +kernel
theorem dX7_init_20 : decode cX7_init 20 = .ok (.aload_n 0, 1) := by decide +kernel
theorem dX7_init_21 : decode cX7_init 21 = .ok (.bipush 10, 2) := by decide +kernel
theorem dX7_init_23 : decode cX7_init 23 = .ok (.newarray .int, 2) := by decide +kernel
theorem dX7_init_25 : decode cX7_init 25 = .ok (.putfield 18, 3) := by decide +kernel
theorem dX7_init_28 : decode cX7_init 28 = .ok (.return_, 1) := by decide +kernel
theorem dX7_add_0 : decode cX7_add 0 = .ok (.aload_n 0, 1) := by decide +kernel
theorem dX7_add_1 : decode cX7_add 1 = .ok (.getfield 21, 3) := by decide +kernel
theorem dX7_add_4 : decode cX7_add 4 = .ok (.bipush 10, 2) := by decide +kernel
theorem dX7_add_6 : decode cX7_add 6 = .ok (.if_icmp .ge 43, 3) := by decide +kernel
theorem dX7_add_9 : decode cX7_add 9 = .ok (.aload_n 0, 1) := by decide +kernel
theorem dX7_add_10 : decode cX7_add 10 = .ok (.getfield 9, 3) := by decide +kernel
theorem dX7_add_13 : decode cX7_add 13 = .ok (.aload_n 0, 1) := by decide +kernel
theorem dX7_add_14 : decode cX7_add 14 = .ok (.getfield 21, 3) := by decide +kernel
theorem dX7_add_17 : decode cX7_add 17 = .ok (.iload_n 1, 1) := by decide +kernel
theorem dX7_add_18 : decode cX7_add 18 = .ok (.iastore, 1) := by decide +kernel
theorem dX7_add_19 : decode cX7_add 19 = .ok (.aload_n 0, 1) := by decide +kernel
theorem dX7_add_20 : decode cX7_add 20 = .ok (.getfield 15, 3) := by decide +kernel
theorem dX7_add_23 : decode cX7_add 23 = .ok (.aload_n 0, 1) := by decide +kernel
theorem dX7_add_24 : decode cX7_add 24 = .ok (.getfield 21, 3) := by decide +kernel
theorem dX7_add_27 : decode cX7_add 27 = .ok (.iload_n 2, 1) := by decide +kernel
theorem dX7_add_28 : decode cX7_add 28 = .ok (.iastore, 1) := by decide +kernel
theorem dX7_add_29 : decode cX7_add 29 = .ok (.aload_n 0, 1) := by decide +kernel
theorem dX7_add_30 : decode cX7_add 30 = .ok (.getfield 18, 3) := by decide +kernel
theorem dX7_add_33 : decode cX7_add 33 = .ok (.aload_n 0, 1) := by decide +kernel
theorem dX7_add_34 : decode cX7_add 34 = .ok (.getfield 21, 3) := by decide +kernel
theorem dX7_add_37 : decode cX7_add 37 = .ok (.iload_n 3, 1) := by decide +kernel
theorem dX7_add_38 : decode cX7_add 38 = .ok (.iastore, 1) := by decide +kernel
theorem dX7_add_39 : decode cX7_add 39 = .ok (.aload_n 0, 1) := by decide +kernel
theorem dX7_add_40 : decode cX7_add 40 = .ok (.dup, 1) := by decide +kernel
theorem dX7_add_41 : decode cX7_add 41 = .ok (.getfield 21, 3) := by decide +kernel
theorem dX7_add_44 : decode cX7_add 44 = .ok (.iconst 1, 1) := by decide +kernel
theorem dX7_add_45 : decode cX7_add 45 = .ok (.iadd, 1) := by decide +kernel
theorem dX7_add_46 : decode cX7_add 46 = .ok (.putfield 21, 3) := by decide +kernel
theorem dX7_add_49 : decode cX7_add 49 = .ok (.return_, 1) := by decide +kernel
theorem dX7_fits_0 : decode cX7_fits 0 = .ok (.iconst 1, 1) := by decide +kernel
theorem dX7_fits_1 : decode cX7_fits 1 = .ok (.istore_n 3, 1) := by decide +kernel
theorem dX7_fits_2 : decode cX7_fits 2 = .ok (.iconst 0, 1) := by decide +kernel
theorem dX7_fits_3 : decode cX7_fits 3 = .ok (.istore 4, 2) := by decide +kernel
theorem dX7_fits_5 : decode cX7_fits 5 = .ok (.iload 4, 2) := by decide +kernel
theorem dX7_fits_7 : decode cX7_fits 7 = .ok (.aload_n 0, 1) := by decide +kernel
theorem dX7_fits_8 : decode cX7_fits 8 = .ok (.getfield 21, 3) := by decide +kernel
theorem dX7_fits_11 : decode cX7_fits 11 = .ok (.if_icmp .ge 51, 3) := by decide +kernel
theorem dX7_fits_14 : decode cX7_fits 14 = .ok (.iload_n 3, 1) := by decide +kernel
theorem dX7_fits_15 : decode cX7_fits 15 = .ok (.ifCond .eq 39, 3) := by decide +kernel
theorem dX7_fits_18 : decode cX7_fits 18 = .ok (.aload_n 0, 1) := by decide +kernel
theorem dX7_fits_19 : decode cX7_fits 19 = .ok (.getfield 15, 3) := by decide +kernel
theorem dX7_fits_22 : decode cX7_fits 22 = .ok (.iload 4, 2) := by decide +kernel
theorem dX7_fits_24 : decode cX7_fits 24 = .ok (.iaload, 1) := by decide +kernel
theorem dX7_fits_25 : decode cX7_fits 25 = .ok (.iload_n 2, 1) := by decide +kernel
theorem dX7_fits_26 : decode cX7_fits 26 = .ok (.if_icmp .ne 24, 3) := by decide +kernel
theorem dX7_fits_29 : decode cX7_fits 29 = .ok (.aload_n 1, 1) := by decide +kernel
theorem dX7_fits_30 : decode cX7_fits 30 = .ok (.aload_n 0, 1) := by decide +kernel
theorem dX7_fits_31 : decode cX7_fits 31 = .ok (.getfield 9, 3) := by decide +kernel
theorem dX7_fits_34 : decode cX7_fits 34 = .ok (.iload 4, 2) := by decide +kernel
theorem dX7_fits_36 : decode cX7_fits 36 = .ok (.iaload, 1) := by decide +kernel
theorem dX7_fits_37 : decode cX7_fits 37 = .ok (.aload_n 0, 1) := by decide +kernel
theorem dX7_fits_38 : decode cX7_fits 38 = .ok (.getfield 18, 3) := by decide +kernel
theorem dX7_fits_41 : decode cX7_fits 41 = .ok (.iload 4, 2) := by decide +kernel
theorem dX7_fits_43 : decode cX7_fits 43 = .ok (.iaload, 1) := by decide +kernel
theorem dX7_fits_44 : decode cX7_fits 44 = .ok (.invokevirtual 25, 3) := by decide +kernel
theorem dX7_fits_47 : decode cX7_fits 47 = .ok (.ifCond .eq 7, 3) := by decide +kernel
theorem dX7_fits_50 : decode cX7_fits 50 = .ok (.iconst 1, 1) := by decide +kernel
theorem dX7_fits_51 : decode cX7_fits 51 = .ok (.goto 4, 3) := by decide +kernel
theorem dX7_fits_54 : decode cX7_fits 54 = .ok (.iconst 0, 1) := by decide +kernel
theorem dX7_fits_55 : decode cX7_fits 55 = .ok (.istore_n 3, 1) := by decide +kernel
theorem dX7_fits_56 : decode cX7_fits 56 = .ok (.iinc 4 1, 3) := by decide +kernel
theorem dX7_fits_59 : decode cX7_fits 59 = .ok (.goto (-54), 3) := by decide +kernel
theorem dX7_fits_62 : decode cX7_fits 62 = .ok (.iload_n 3, 1) := by decide +kernel
theorem dX7_fits_63 : decode cX7_fits 63 = .ok (.ireturn, 1) := by decide +kernel
theorem dX7_latest_0 : decode cX7_latest 0 = .ok (.iconst 0, 1) := by decide +kernel
theorem dX7_latest_1 : decode cX7_latest 1 = .ok (.istore_n 2, 1) := by decide +kernel
theorem dX7_latest_2 : decode cX7_latest 2 = .ok (.iconst 0, 1) := by decide +kernel
theorem dX7_latest_3 : decode cX7_latest 3 = .ok (.istore_n 3, 1) := by decide +kernel
theorem dX7_latest_4 : decode cX7_latest 4 = .ok (.iload_n 3, 1) := by decide +kernel
theorem dX7_latest_5 : decode cX7_latest 5 = .ok (.aload_n 0, 1) := by decide +kernel
theorem dX7_latest_6 : decode cX7_latest 6 = .ok (.getfield 21, 3) := by decide +kernel
theorem dX7_latest_9 : decode cX7_latest 9 = .ok (.if_icmp .ge 34, 3) := by decide +kernel
theorem dX7_latest_12 : decode cX7_latest 12 = .ok (.aload_n 0, 1) := by decide +kernel
theorem dX7_latest_13 : decode cX7_latest 13 = .ok (.getfield 15, 3) := by decide +kernel
theorem dX7_latest_16 : decode cX7_latest 16 = .ok (.iload_n 3, 1) := by decide +kernel
theorem dX7_latest_17 : decode cX7_latest 17 = .ok (.iaload, 1) := by decide +kernel
theorem dX7_latest_18 : decode cX7_latest 18 = .ok (.iload_n 1, 1) := by decide +kernel
theorem dX7_latest_19 : decode cX7_latest 19 = .ok (.if_icmp .gt 16, 3) := by decide +kernel
theorem dX7_latest_22 : decode cX7_latest 22 = .ok (.iload_n 2, 1) := by decide +kernel
theorem dX7_latest_23 : decode cX7_latest 23 = .ok (.aload_n 0, 1) := by decide +kernel
theorem dX7_latest_24 : decode cX7_latest 24 = .ok (.getfield 15, 3) := by decide +kernel
theorem dX7_latest_27 : decode cX7_latest 27 = .ok (.iload_n 3, 1) := by decide +kernel
theorem dX7_latest_28 : decode cX7_latest 28 = .ok (.iaload, 1) := by decide +kernel
theorem dX7_latest_29 : decode cX7_latest 29 = .ok (.invokestatic 31, 3) := by decide +kernel
theorem dX7_latest_32 : decode cX7_latest 32 = .ok (.goto 4, 3) := by decide +kernel
theorem dX7_latest_35 : decode cX7_latest 35 = .ok (.iload_n 2, 1) := by decide +kernel
theorem dX7_latest_36 : decode cX7_latest 36 = .ok (.istore_n 2, 1) := by decide +kernel
theorem dX7_latest_37 : decode cX7_latest 37 = .ok (.iinc 3 1, 3) := by decide +kernel
theorem dX7_latest_40 : decode cX7_latest 40 = .ok (.goto (-36), 3) := by decide +kernel
theorem dX7_latest_43 : decode cX7_latest 43 = .ok (.iload_n 2, 1) := by decide +kernel
theorem dX7_latest_44 : decode cX7_latest 44 = .ok (.ireturn, 1) := by decide +kernel
theorem dX8_init_0 : decode cX8_init 0 = .ok (.aload_n 0, 1) := by decide +kernel
theorem dX8_init_1 : decode cX8_init 1 = .ok (.invokespecial 3, 3) := by decide +kernel
theorem dX8_init_4 : decode cX8_init 4 = .ok (.aload_n 0, 1) := by decide +kernel
theorem dX8_init_5 : decode cX8_init 5 = .ok (.bipush 7, 2) := by decide +kernel
theorem dX8_init_7 : decode cX8_init 7 = .ok (.anewarray 9, 3) := by decide +kernel
theorem dX8_init_10 : decode cX8_init 10 = .ok (.putfield 11, 3) := by decide +kernel
theorem dX8_init_13 : decode cX8_init 13 = .ok (.aload_n 0, 1) := by decide +kernel
theorem dX8_init_14 : decode cX8_init 14 = .ok (.bipush 6, 2) := by decide +kernel
theorem dX8_init_16 : decode cX8_init 16 = .ok (.newarray .int, 2) := by decide +kernel
theorem dX8_init_18 : decode cX8_init 18 = .ok (.putfield 17, 3) := by decide +kernel
theorem dX8_init_21 : decode cX8_init 21 = .ok (.aload_n 0, 1) := by decide +kernel
theorem dX8_init_22 : decode cX8_init 22 = .ok (.bipush 42, 2) := by decide +kernel
theorem dX8_init_24 : decode cX8_init 24 = .ok (.newarray .int, 2) := by decide +kernel
theorem dX8_init_26 : decode cX8_init 26 = .ok (.putfield 21, 3) := by decide +kernel
theorem dX8_init_29 : decode cX8_init 29 = .ok (.aload_n 0, 1) := by decide +kernel
theorem dX8_init_30 : decode cX8_init 30 = .ok (.aload_n 1, 1) := by decide +kernel
theorem dX8_init_31 : decode cX8_init 31 = .ok (.putfield 24, 3) := by decide +kernel
theorem dX8_init_34 : decode cX8_init 34 = .ok (.aload_n 0, 1) := by decide +kernel
theorem dX8_init_35 : decode cX8_init 35 = .ok (.aload_n 2, 1) := by decide +kernel
theorem dX8_init_36 : decode cX8_init 36 = .ok (.putfield 28, 3) := by decide +kernel
theorem dX8_init_39 : decode cX8_init 39 = .ok (.aload_n 0, 1) := by decide +kernel
theorem dX8_init_40 : decode cX8_init 40 = .ok (.aload_n 3, 1) := by decide +kernel
theorem dX8_init_41 : decode cX8_init 41 = .ok (.putfield 32, 3) := by decide +kernel
theorem dX8_init_44 : decode cX8_init 44 = .ok (.iconst 0, 1) := by decide +kernel
theorem dX8_init_45 : decode cX8_init 45 = .ok (.istore 4, 2) := by decide +kernel
theorem dX8_init_47 : decode cX8_init 47 = .ok (.iload 4, 2) := by decide +kernel
theorem dX8_init_49 : decode cX8_init 49 = .ok (.bipush 6, 2) := by decide +kernel
theorem dX8_init_51 : decode cX8_init 51 = .ok (.if_icmp .gt 25, 3) := by decide +kernel
theorem dX8_init_54 : decode cX8_init 54 = .ok (.aload_n 0, 1) := by decide +kernel
theorem dX8_init_55 : decode cX8_init 55 = .ok (.getfield 11, 3) := by decide +kernel
theorem dX8_init_58 : decode cX8_init 58 = .ok (.iload 4, 2) := by decide +kernel
theorem dX8_init_60 : decode cX8_init 60 = .ok (.new 9, 3) := by decide +kernel
theorem dX8_init_63 : decode cX8_init 63 = .ok (.dup, 1) := by decide +kernel
theorem dX8_init_64 : decode cX8_init 64 = .ok (.aload_n 1, 1) := by decide +kernel
theorem dX8_init_65 : decode cX8_init 65 = .ok (.aload_n 2, 1) := by decide +kernel
theorem dX8_init_66 : decode cX8_init 66 = .ok (.invokespecial 36, 3) := by decide +kernel
theorem dX8_init_69 : decode cX8_init 69 = .ok (.aastore, 1) := by decide +kernel
theorem dX8_init_70 : decode cX8_init 70 = .ok (.iinc 4 1, 3) := by decide +kernel
theorem dX8_init_73 : decode cX8_init 73 = .ok (.goto (-26), 3) := by decide +kernel
theorem dX8_init_76 : decode cX8_init 76 = .ok (.return_, 1) := by decide +kernel
theorem dX8_forget_0 : decode cX8_forget 0 = .ok (.aload_n 0, 1) := by decide +kernel
theorem dX8_forget_1 : decode cX8_forget 1 = .ok (.iconst 0, 1) := by decide +kernel
theorem dX8_forget_2 : decode cX8_forget 2 = .ok (.putfield 39, 3) := by decide +kernel
theorem dX8_forget_5 : decode cX8_forget 5 = .ok (.return_, 1) := by decide +kernel
theorem dX8_stepAt_0 : decode cX8_stepAt 0 = .ok (.iload_n 1, 1) := by decide +kernel
theorem dX8_stepAt_1 : decode cX8_stepAt 1 = .ok (.ifCond .lt 20, 3) := by decide +kernel
theorem dX8_stepAt_4 : decode cX8_stepAt 4 = .ok (.iload_n 1, 1) := by decide +kernel
theorem dX8_stepAt_5 : decode cX8_stepAt 5 = .ok (.aload_n 0, 1) := by decide +kernel
theorem dX8_stepAt_6 : decode cX8_stepAt 6 = .ok (.getfield 43, 3) := by decide +kernel
theorem dX8_stepAt_9 : decode cX8_stepAt 9 = .ok (.if_icmp .ge 12, 3) := by decide +kernel
theorem dX8_stepAt_12 : decode cX8_stepAt 12 = .ok (.aload_n 0, 1) := by decide +kernel
theorem dX8_stepAt_13 : decode cX8_stepAt 13 = .ok (.getfield 17, 3) := by decide +kernel
theorem dX8_stepAt_16 : decode cX8_stepAt 16 = .ok (.iload_n 1, 1) := by decide +kernel
theorem dX8_stepAt_17 : decode cX8_stepAt 17 = .ok (.iaload, 1) := by decide +kernel
theorem dX8_stepAt_18 : decode cX8_stepAt 18 = .ok (.goto 4, 3) := by decide +kernel
theorem dX8_stepAt_21 : decode cX8_stepAt 21 = .ok (.iconst (-1), 1) := by decide +kernel
theorem dX8_stepAt_22 : decode cX8_stepAt 22 = .ok (.ireturn, 1) := by decide +kernel
theorem dX8_search_0 : decode cX8_search 0 = .ok (.aload_n 0, 1) := by decide +kernel
theorem dX8_search_1 : decode cX8_search 1 = .ok (.getfield 39, 3) := by decide +kernel
theorem dX8_search_4 : decode cX8_search 4 = .ok (.ifCond .eq 20, 3) := by decide +kernel
theorem dX8_search_7 : decode cX8_search 7 = .ok (.aload_n 0, 1) := by decide +kernel
theorem dX8_search_8 : decode cX8_search 8 = .ok (.getfield 47, 3) := by decide +kernel
theorem dX8_search_11 : decode cX8_search 11 = .ok (.iload_n 2, 1) := by decide +kernel
theorem dX8_search_12 : decode cX8_search 12 = .ok (.if_icmp .ne 12, 3) := by decide +kernel
theorem dX8_search_15 : decode cX8_search 15 = .ok (.aload_n 0, 1) := by decide +kernel
theorem dX8_search_16 : decode cX8_search 16 = .ok (.getfield 50, 3) := by decide +kernel
theorem dX8_search_19 : decode cX8_search 19 = .ok (.iload_n 3, 1) := by decide +kernel
theorem dX8_search_20 : decode cX8_search 20 = .ok (.if_icmp .ne 4, 3) := by decide +kernel
theorem dX8_search_23 : decode cX8_search 23 = .ok (.return_, 1) := by decide +kernel
theorem dX8_search_24 : decode cX8_search 24 = .ok (.aload_n 0, 1) := by decide +kernel
theorem dX8_search_25 : decode cX8_search 25 = .ok (.iconst 1, 1) := by decide +kernel
theorem dX8_search_26 : decode cX8_search 26 = .ok (.putfield 39, 3) := by decide +kernel
theorem dX8_search_29 : decode cX8_search 29 = .ok (.aload_n 0, 1) := by decide +kernel
theorem dX8_search_30 : decode cX8_search 30 = .ok (.iload_n 2, 1) := by decide +kernel
theorem dX8_search_31 : decode cX8_search 31 = .ok (.putfield 47, 3) := by decide +kernel
theorem dX8_search_34 : decode cX8_search 34 = .ok (.aload_n 0, 1) := by decide +kernel
theorem dX8_search_35 : decode cX8_search 35 = .ok (.iload_n 3, 1) := by decide +kernel
theorem dX8_search_36 : decode cX8_search 36 = .ok (.putfield 50, 3) := by decide +kernel
theorem dX8_search_39 : decode cX8_search 39 = .ok (.aload_n 0, 1) := by decide +kernel
theorem dX8_search_40 : decode cX8_search 40 = .ok (.iconst (-1), 1) := by decide +kernel
theorem dX8_search_41 : decode cX8_search 41 = .ok (.putfield 43, 3) := by decide +kernel
theorem dX8_search_44 : decode cX8_search 44 = .ok (.aload_n 0, 1) := by decide +kernel
theorem dX8_search_45 : decode cX8_search 45 = .ok (.getfield 11, 3) := by decide +kernel
theorem dX8_search_48 : decode cX8_search 48 = .ok (.iconst 0, 1) := by decide +kernel
theorem dX8_search_49 : decode cX8_search 49 = .ok (.aaload, 1) := by decide +kernel
theorem dX8_search_50 : decode cX8_search 50 = .ok (.aload_n 1, 1) := by decide +kernel
theorem dX8_search_51 : decode cX8_search 51 = .ok (.invokevirtual 53, 3) := by decide +kernel
theorem dX8_search_54 : decode cX8_search 54 = .ok (.aload_n 0, 1) := by decide +kernel
theorem dX8_search_55 : decode cX8_search 55 = .ok (.getfield 32, 3) := by decide +kernel
theorem dX8_search_58 : decode cX8_search 58 = .ok (.invokevirtual 57, 3) := by decide +kernel
theorem dX8_search_61 : decode cX8_search 61 = .ok (.aload_n 0, 1) := by decide +kernel
theorem dX8_search_62 : decode cX8_search 62 = .ok (.invokevirtual 62, 3) := by decide +kernel
theorem dX8_search_65 : decode cX8_search 65 = .ok (.iconst 0, 1) := by decide +kernel
theorem dX8_search_66 : decode cX8_search 66 = .ok (.istore 4, 2) := by decide +kernel
theorem dX8_search_68 : decode cX8_search 68 = .ok (.iload 4, 2) := by decide +kernel
theorem dX8_search_70 : decode cX8_search 70 = .ok (.bipush 6, 2) := by decide +kernel
theorem dX8_search_72 : decode cX8_search 72 = .ok (.if_icmp .gt 33, 3) := by decide +kernel
theorem dX8_search_75 : decode cX8_search 75 = .ok (.aload_n 0, 1) := by decide +kernel
theorem dX8_search_76 : decode cX8_search 76 = .ok (.getfield 43, 3) := by decide +kernel
theorem dX8_search_79 : decode cX8_search 79 = .ok (.iconst (-1), 1) := by decide +kernel
theorem dX8_search_80 : decode cX8_search 80 = .ok (.if_icmp .ne 25, 3) := by decide +kernel
theorem dX8_search_83 : decode cX8_search 83 = .ok (.aload_n 0, 1) := by decide +kernel
theorem dX8_search_84 : decode cX8_search 84 = .ok (.iconst 0, 1) := by decide +kernel
theorem dX8_search_85 : decode cX8_search 85 = .ok (.iload 4, 2) := by decide +kernel
theorem dX8_search_87 : decode cX8_search 87 = .ok (.invokevirtual 65, 3) := by decide +kernel
theorem dX8_search_90 : decode cX8_search 90 = .ok (.ifCond .eq 9, 3) := by decide +kernel
theorem dX8_search_93 : decode cX8_search 93 = .ok (.aload_n 0, 1) := by decide +kernel
theorem dX8_search_94 : decode cX8_search 94 = .ok (.iload 4, 2) := by decide +kernel
theorem dX8_search_96 : decode cX8_search 96 = .ok (.putfield 43, 3) := by decide +kernel
theorem dX8_search_99 : decode cX8_search 99 = .ok (.iinc 4 1, 3) := by decide +kernel
theorem dX8_search_102 : decode cX8_search 102 = .ok (.goto (-34), 3) := by decide +kernel
theorem dX8_search_105 : decode cX8_search 105 = .ok (.return_, 1) := by decide +kernel
theorem dX8_findGates_0 : decode cX8_findGates 0 = .ok (.iconst 0, 1) := by decide +kernel
theorem dX8_findGates_1 : decode cX8_findGates 1 = .ok (.istore_n 1, 1) := by decide +kernel
theorem dX8_findGates_2 : decode cX8_findGates 2 = .ok (.iload_n 1, 1) := by decide +kernel
theorem dX8_findGates_3 : decode cX8_findGates 3 = .ok (.aload_n 0, 1) := by decide +kernel
theorem dX8_findGates_4 : decode cX8_findGates 4 = .ok (.getfield 28, 3) := by decide +kernel
theorem dX8_findGates_7 : decode cX8_findGates 7 = .ok (.getfield 69, 3) := by decide +kernel
theorem dX8_findGates_10 : decode cX8_findGates 10 = .ok (.if_icmp .ge 16, 3) := by decide +kernel
theorem dX8_findGates_13 : decode cX8_findGates 13 = .ok (.aload_n 0, 1) := by decide +kernel
theorem dX8_findGates_14 : decode cX8_findGates 14 = .ok (.getfield 21, 3) := by decide +kernel
theorem dX8_findGates_17 : decode cX8_findGates 17 = .ok (.iload_n 1, 1) := by decide +kernel
theorem dX8_findGates_18 : decode cX8_findGates 18 = .ok (.iconst (-1), 1) := by decide +kernel
theorem dX8_findGates_19 : decode cX8_findGates 19 = .ok (.iastore, 1) := by decide +kernel
theorem dX8_findGates_20 : decode cX8_findGates 20 = .ok (.iinc 1 1, 3) := by decide +kernel
theorem dX8_findGates_23 : decode cX8_findGates 23 = .ok (.goto (-21), 3) := by decide +kernel
theorem dX8_findGates_26 : decode cX8_findGates 26 = .ok (.iconst 0, 1) := by decide +kernel
theorem dX8_findGates_27 : decode cX8_findGates 27 = .ok (.istore_n 1, 1) := by decide +kernel
theorem dX8_findGates_28 : decode cX8_findGates 28 = .ok (.iload_n 1, 1) := by decide +kernel
theorem dX8_findGates_29 : decode cX8_findGates 29 = .ok (.aload_n 0, 1) := by decide +kernel
theorem dX8_findGates_30 : decode cX8_findGates 30 = .ok (.getfield 28, 3) := by decide +kernel
theorem dX8_findGates_33 : decode cX8_findGates 33 = .ok (.getfield 69, 3) := by decide +kernel
theorem dX8_findGates_36 : decode cX8_findGates 36 = .ok (.if_icmp .ge 82, 3) := by decide +kernel
theorem dX8_findGates_39 : decode cX8_findGates 39 = .ok (.iconst 0, 1) := by decide +kernel
theorem dX8_findGates_40 : decode cX8_findGates 40 = .ok (.istore_n 2, 1) := by decide +kernel
theorem dX8_findGates_41 : decode cX8_findGates 41 = .ok (.iload_n 2, 1) := by decide +kernel
theorem dX8_findGates_42 : decode cX8_findGates 42 = .ok (.aload_n 0, 1) := by decide +kernel
theorem dX8_findGates_43 : decode cX8_findGates 43 = .ok (.getfield 28, 3) := by decide +kernel
theorem dX8_findGates_46 : decode cX8_findGates 46 = .ok (.getfield 69, 3) := by decide +kernel
theorem dX8_findGates_49 : decode cX8_findGates 49 = .ok (.if_icmp .ge 63, 3) := by decide +kernel
theorem dX8_findGates_52 : decode cX8_findGates 52 = .ok (.aload_n 0, 1) := by decide +kernel
theorem dX8_findGates_53 : decode cX8_findGates 53 = .ok (.getfield 28, 3) := by decide +kernel
theorem dX8_findGates_56 : decode cX8_findGates 56 = .ok (.iload_n 1, 1) := by decide +kernel
theorem dX8_findGates_57 : decode cX8_findGates 57 = .ok (.invokevirtual 74, 3) := by decide +kernel
theorem dX8_findGates_60 : decode cX8_findGates 60 = .ok (.iconst 3, 1) := by decide +kernel
theorem dX8_findGates_61 : decode cX8_findGates 61 = .ok (.if_icmp .ne 51, 3) := by decide +kernel
theorem dX8_findGates_64 : decode cX8_findGates 64 = .ok (.aload_n 0, 1) := by decide +kernel
theorem dX8_findGates_65 : decode cX8_findGates 65 = .ok (.getfield 28, 3) := by decide +kernel
theorem dX8_findGates_68 : decode cX8_findGates 68 = .ok (.iload_n 2, 1) := by decide +kernel
theorem dX8_findGates_69 : decode cX8_findGates 69 = .ok (.iload_n 1, 1) := by decide +kernel
theorem dX8_findGates_70 : decode cX8_findGates 70 = .ok (.invokevirtual 78, 3) := by decide +kernel
theorem dX8_findGates_73 : decode cX8_findGates 73 = .ok (.istore_n 3, 1) := by decide +kernel
theorem dX8_findGates_74 : decode cX8_findGates 74 = .ok (.iload_n 3, 1) := by decide +kernel
theorem dX8_findGates_75 : decode cX8_findGates 75 = .ok (.iconst (-1), 1) := by decide +kernel
theorem dX8_findGates_76 : decode cX8_findGates 76 = .ok (.if_icmp .eq 30, 3) := by decide +kernel
theorem dX8_findGates_79 : decode cX8_findGates 79 = .ok (.aload_n 0, 1) := by decide +kernel
theorem dX8_findGates_80 : decode cX8_findGates 80 = .ok (.getfield 21, 3) := by decide +kernel
theorem dX8_findGates_83 : decode cX8_findGates 83 = .ok (.iload_n 2, 1) := by decide +kernel
theorem dX8_findGates_84 : decode cX8_findGates 84 = .ok (.iaload, 1) := by decide +kernel
theorem dX8_findGates_85 : decode cX8_findGates 85 = .ok (.iconst (-1), 1) := by decide +kernel
theorem dX8_findGates_86 : decode cX8_findGates 86 = .ok (.if_icmp .eq 13, 3) := by decide +kernel
theorem dX8_findGates_89 : decode cX8_findGates 89 = .ok (.iload_n 3, 1) := by decide +kernel
theorem dX8_findGates_90 : decode cX8_findGates 90 = .ok (.aload_n 0, 1) := by decide +kernel
theorem dX8_findGates_91 : decode cX8_findGates 91 = .ok (.getfield 21, 3) := by decide +kernel
theorem dX8_findGates_94 : decode cX8_findGates 94 = .ok (.iload_n 2, 1) := by decide +kernel
theorem dX8_findGates_95 : decode cX8_findGates 95 = .ok (.iaload, 1) := by decide +kernel
theorem dX8_findGates_96 : decode cX8_findGates 96 = .ok (.if_icmp .ge 10, 3) := by decide +kernel
theorem dX8_findGates_99 : decode cX8_findGates 99 = .ok (.aload_n 0, 1) := by decide +kernel
theorem dX8_findGates_100 : decode cX8_findGates 100 = .ok (.getfield 21, 3) := by decide +kernel
theorem dX8_findGates_103 : decode cX8_findGates 103 = .ok (.iload_n 2, 1) := by decide +kernel
theorem dX8_findGates_104 : decode cX8_findGates 104 = .ok (.iload_n 3, 1) := by decide +kernel
theorem dX8_findGates_105 : decode cX8_findGates 105 = .ok (.iastore, 1) := by decide +kernel
theorem dX8_findGates_106 : decode cX8_findGates 106 = .ok (.iinc 2 1, 3) := by decide +kernel
theorem dX8_findGates_109 : decode cX8_findGates 109 = .ok (.goto (-68), 3) := by decide +kernel
theorem dX8_findGates_112 : decode cX8_findGates 112 = .ok (.iinc 1 1, 3) := by decide +kernel
theorem dX8_findGates_115 : decode cX8_findGates 115 = .ok (.goto (-87), 3) := by decide +kernel
theorem dX8_findGates_118 : decode cX8_findGates 118 = .ok (.return_, 1) := by decide +kernel
theorem dX8_leads_0 : decode cX8_leads 0 = .ok (.iload_n 1, 1) := by decide +kernel
theorem dX8_leads_1 : decode cX8_leads 1 = .ok (.ifCond .lt 9, 3) := by decide +kernel
theorem dX8_leads_4 : decode cX8_leads 4 = .ok (.iload_n 1, 1) := by decide +kernel
theorem dX8_leads_5 : decode cX8_leads 5 = .ok (.bipush 6, 2) := by decide +kernel
theorem dX8_leads_7 : decode cX8_leads 7 = .ok (.if_icmp .le 5, 3) := by decide +kernel
theorem dX8_leads_10 : decode cX8_leads 10 = .ok (.iconst 0, 1) := by decide +kernel
theorem dX8_leads_11 : decode cX8_leads 11 = .ok (.ireturn, 1) := by decide +kernel
theorem dX8_leads_12 : decode cX8_leads 12 = .ok (.aload_n 0, 1) := by decide +kernel
theorem dX8_leads_13 : decode cX8_leads 13 = .ok (.getfield 11, 3) := by decide +kernel
theorem dX8_leads_16 : decode cX8_leads 16 = .ok (.iload_n 1, 1) := by decide +kernel
theorem dX8_leads_17 : decode cX8_leads 17 = .ok (.aaload, 1) := by decide +kernel
theorem dX8_leads_18 : decode cX8_leads 18 = .ok (.astore_n 3, 1) := by decide +kernel
theorem dX8_leads_19 : decode cX8_leads 19 = .ok (.iload_n 2, 1) := by decide +kernel
theorem dX8_leads_20 : decode cX8_leads 20 = .ok (.iload_n 1, 1) := by decide +kernel
theorem dX8_leads_21 : decode cX8_leads 21 = .ok (.isub, 1) := by decide +kernel
theorem dX8_leads_22 : decode cX8_leads 22 = .ok (.istore 4, 2) := by decide +kernel
theorem dX8_leads_24 : decode cX8_leads 24 = .ok (.aload_n 0, 1) := by decide +kernel
theorem dX8_leads_25 : decode cX8_leads 25 = .ok (.aload_n 3, 1) := by decide +kernel
theorem dX8_leads_26 : decode cX8_leads 26 = .ok (.iload 4, 2) := by decide +kernel
theorem dX8_leads_28 : decode cX8_leads 28 = .ok (.invokevirtual 81, 3) := by decide +kernel
theorem dX8_leads_31 : decode cX8_leads 31 = .ok (.istore 5, 2) := by decide +kernel
theorem dX8_leads_33 : decode cX8_leads 33 = .ok (.iload 5, 2) := by decide +kernel
theorem dX8_leads_35 : decode cX8_leads 35 = .ok (.iconst 1, 1) := by decide +kernel
theorem dX8_leads_36 : decode cX8_leads 36 = .ok (.if_icmp .ne 14, 3) := by decide +kernel
theorem dX8_leads_39 : decode cX8_leads 39 = .ok (.iload 4, 2) := by decide +kernel
theorem dX8_leads_41 : decode cX8_leads 41 = .ok (.ifCond .le 9, 3) := by decide +kernel
theorem dX8_leads_44 : decode cX8_leads 44 = .ok (.iload_n 1, 1) := by decide +kernel
theorem dX8_leads_45 : decode cX8_leads 45 = .ok (.bipush 6, 2) := by decide +kernel
theorem dX8_leads_47 : decode cX8_leads 47 = .ok (.if_icmp .lt 15, 3) := by decide +kernel
theorem dX8_leads_50 : decode cX8_leads 50 = .ok (.iload 5, 2) := by decide +kernel
theorem dX8_leads_52 : decode cX8_leads 52 = .ok (.iconst 2, 1) := by decide +kernel
theorem dX8_leads_53 : decode cX8_leads 53 = .ok (.if_icmp .ne 7, 3) := by decide +kernel
theorem dX8_leads_56 : decode cX8_leads 56 = .ok (.iconst 1, 1) := by decide +kernel
theorem dX8_leads_57 : decode cX8_leads 57 = .ok (.goto 4, 3) := by decide +kernel
theorem dX8_leads_60 : decode cX8_leads 60 = .ok (.iconst 0, 1) := by decide +kernel
theorem dX8_leads_61 : decode cX8_leads 61 = .ok (.ireturn, 1) := by decide +kernel
theorem dX8_leads_62 : decode cX8_leads 62 = .ok (.aload_n 3, 1) := by decide +kernel
theorem dX8_leads_63 : decode cX8_leads 63 = .ok (.invokevirtual 85, 3) := by decide +kernel
theorem dX8_leads_66 : decode cX8_leads 66 = .ok (.lstore 6, 2) := by decide +kernel
theorem dX8_leads_68 : decode cX8_leads 68 = .ok (.aload_n 3, 1) := by decide +kernel
theorem dX8_leads_69 : decode cX8_leads 69 = .ok (.invokevirtual 89, 3) := by decide +kernel
theorem dX8_leads_72 : decode cX8_leads 72 = .ok (.lstore 8, 2) := by decide +kernel
theorem dX8_leads_74 : decode cX8_leads 74 = .ok (.aload_n 0, 1) := by decide +kernel
theorem dX8_leads_75 : decode cX8_leads 75 = .ok (.getfield 32, 3) := by decide +kernel
theorem dX8_leads_78 : decode cX8_leads 78 = .ok (.lload 6, 2) := by decide +kernel
theorem dX8_leads_80 : decode cX8_leads 80 = .ok (.lload 8, 2) := by decide +kernel
theorem dX8_leads_82 : decode cX8_leads 82 = .ok (.invokevirtual 92, 3) := by decide +kernel
theorem dX8_leads_85 : decode cX8_leads 85 = .ok (.iload 4, 2) := by decide +kernel
theorem dX8_leads_87 : decode cX8_leads 87 = .ok (.if_icmp .lt 5, 3) := by decide +kernel
theorem dX8_leads_90 : decode cX8_leads 90 = .ok (.iconst 0, 1) := by decide +kernel
theorem dX8_leads_91 : decode cX8_leads 91 = .ok (.ireturn, 1) := by decide +kernel
theorem dX8_leads_92 : decode cX8_leads 92 = .ok (.aload_n 0, 1) := by decide +kernel
theorem dX8_leads_93 : decode cX8_leads 93 = .ok (.iload_n 1, 1) := by decide +kernel
theorem dX8_leads_94 : decode cX8_leads 94 = .ok (.iload_n 2, 1) := by decide +kernel
theorem dX8_leads_95 : decode cX8_leads 95 = .ok (.invokevirtual 96, 3) := by decide +kernel
theorem dX8_leads_98 : decode cX8_leads 98 = .ok (.ifCond .eq 5, 3) := by decide +kernel
theorem dX8_leads_101 : decode cX8_leads 101 = .ok (.iconst 1, 1) := by decide +kernel
theorem dX8_leads_102 : decode cX8_leads 102 = .ok (.ireturn, 1) := by decide +kernel
theorem dX8_leads_103 : decode cX8_leads 103 = .ok (.aload_n 0, 1) := by decide +kernel
theorem dX8_leads_104 : decode cX8_leads 104 = .ok (.getfield 32, 3) := by decide +kernel
theorem dX8_leads_107 : decode cX8_leads 107 = .ok (.lload 6, 2) := by decide +kernel
theorem dX8_leads_109 : decode cX8_leads 109 = .ok (.lload 8, 2) := by decide +kernel
theorem dX8_leads_111 : decode cX8_leads 111 = .ok (.iload 4, 2) := by decide +kernel
theorem dX8_leads_113 : decode cX8_leads 113 = .ok (.invokevirtual 99, 3) := by decide +kernel
theorem dX8_leads_116 : decode cX8_leads 116 = .ok (.iconst 0, 1) := by decide +kernel
theorem dX8_leads_117 : decode cX8_leads 117 = .ok (.ireturn, 1) := by decide +kernel
theorem dX8_stepLeads_0 : decode cX8_stepLeads 0 = .ok (.iconst 0, 1) := by decide +kernel
theorem dX8_stepLeads_1 : decode cX8_stepLeads 1 = .ok (.istore_n 3, 1) := by decide +kernel
theorem dX8_stepLeads_2 : decode cX8_stepLeads 2 = .ok (.iconst 0, 1) := by decide +kernel
theorem dX8_stepLeads_3 : decode cX8_stepLeads 3 = .ok (.istore 4, 2) := by decide +kernel
theorem dX8_stepLeads_5 : decode cX8_stepLeads 5 = .ok (.iload 4, 2) := by decide +kernel
theorem dX8_stepLeads_7 : decode cX8_stepLeads 7 = .ok (.iconst 4, 1) := by decide +kernel
theorem dX8_stepLeads_8 : decode cX8_stepLeads 8 = .ok (.if_icmp .gt 78, 3) := by decide +kernel
theorem dX8_stepLeads_11 : decode cX8_stepLeads 11 = .ok (.iload_n 3, 1) := by decide +kernel
theorem dX8_stepLeads_12 : decode cX8_stepLeads 12 = .ok (.ifCond .ne 74, 3) := by decide +kernel
theorem dX8_stepLeads_15 : decode cX8_stepLeads 15 = .ok (.aload_n 0, 1) := by decide +kernel
theorem dX8_stepLeads_16 : decode cX8_stepLeads 16 = .ok (.getfield 11, 3) := by decide +kernel
theorem dX8_stepLeads_19 : decode cX8_stepLeads 19 = .ok (.iload_n 1, 1) := by decide +kernel
theorem dX8_stepLeads_20 : decode cX8_stepLeads 20 = .ok (.aaload, 1) := by decide +kernel
theorem dX8_stepLeads_21 : decode cX8_stepLeads 21 = .ok (.iload 4, 2) := by decide +kernel
theorem dX8_stepLeads_23 : decode cX8_stepLeads 23 = .ok (.invokevirtual 103, 3) := by decide +kernel
theorem dX8_stepLeads_26 : decode cX8_stepLeads 26 = .ok (.ifCond .eq 54, 3) := by decide +kernel
theorem dX8_stepLeads_29 : decode cX8_stepLeads 29 = .ok (.aload_n 0, 1) := by decide +kernel
theorem dX8_stepLeads_30 : decode cX8_stepLeads 30 = .ok (.getfield 11, 3) := by decide +kernel
theorem dX8_stepLeads_33 : decode cX8_stepLeads 33 = .ok (.iload_n 1, 1) := by decide +kernel
theorem dX8_stepLeads_34 : decode cX8_stepLeads 34 = .ok (.iconst 1, 1) := by decide +kernel
theorem dX8_stepLeads_35 : decode cX8_stepLeads 35 = .ok (.iadd, 1) := by decide +kernel
theorem dX8_stepLeads_36 : decode cX8_stepLeads 36 = .ok (.aaload, 1) := by decide +kernel
theorem dX8_stepLeads_37 : decode cX8_stepLeads 37 = .ok (.aload_n 0, 1) := by decide +kernel
theorem dX8_stepLeads_38 : decode cX8_stepLeads 38 = .ok (.getfield 11, 3) := by decide +kernel
theorem dX8_stepLeads_41 : decode cX8_stepLeads 41 = .ok (.iload_n 1, 1) := by decide +kernel
theorem dX8_stepLeads_42 : decode cX8_stepLeads 42 = .ok (.aaload, 1) := by decide +kernel
theorem dX8_stepLeads_43 : decode cX8_stepLeads 43 = .ok (.invokevirtual 53, 3) := by decide +kernel
theorem dX8_stepLeads_46 : decode cX8_stepLeads 46 = .ok (.aload_n 0, 1) := by decide +kernel
theorem dX8_stepLeads_47 : decode cX8_stepLeads 47 = .ok (.getfield 11, 3) := by decide +kernel
theorem dX8_stepLeads_50 : decode cX8_stepLeads 50 = .ok (.iload_n 1, 1) := by decide +kernel
theorem dX8_stepLeads_51 : decode cX8_stepLeads 51 = .ok (.iconst 1, 1) := by decide +kernel
theorem dX8_stepLeads_52 : decode cX8_stepLeads 52 = .ok (.iadd, 1) := by decide +kernel
theorem dX8_stepLeads_53 : decode cX8_stepLeads 53 = .ok (.aaload, 1) := by decide +kernel
theorem dX8_stepLeads_54 : decode cX8_stepLeads 54 = .ok (.iload 4, 2) := by decide +kernel
theorem dX8_stepLeads_56 : decode cX8_stepLeads 56 = .ok (.aload_n 0, 1) := by decide +kernel
theorem dX8_stepLeads_57 : decode cX8_stepLeads 57 = .ok (.getfield 50, 3) := by decide +kernel
theorem dX8_stepLeads_60 : decode cX8_stepLeads 60 = .ok (.invokevirtual 107, 3) := by decide +kernel
theorem dX8_stepLeads_63 : decode cX8_stepLeads 63 = .ok (.aload_n 0, 1) := by decide +kernel
theorem dX8_stepLeads_64 : decode cX8_stepLeads 64 = .ok (.getfield 17, 3) := by decide +kernel
theorem dX8_stepLeads_67 : decode cX8_stepLeads 67 = .ok (.iload_n 1, 1) := by decide +kernel
theorem dX8_stepLeads_68 : decode cX8_stepLeads 68 = .ok (.iload 4, 2) := by decide +kernel
theorem dX8_stepLeads_70 : decode cX8_stepLeads 70 = .ok (.iastore, 1) := by decide +kernel
theorem dX8_stepLeads_71 : decode cX8_stepLeads 71 = .ok (.aload_n 0, 1) := by decide +kernel
theorem dX8_stepLeads_72 : decode cX8_stepLeads 72 = .ok (.iload_n 1, 1) := by decide +kernel
theorem dX8_stepLeads_73 : decode cX8_stepLeads 73 = .ok (.iconst 1, 1) := by decide +kernel
theorem dX8_stepLeads_74 : decode cX8_stepLeads 74 = .ok (.iadd, 1) := by decide +kernel
theorem dX8_stepLeads_75 : decode cX8_stepLeads 75 = .ok (.iload_n 2, 1) := by decide +kernel
theorem dX8_stepLeads_76 : decode cX8_stepLeads 76 = .ok (.invokevirtual 65, 3) := by decide +kernel
theorem dX8_stepLeads_79 : decode cX8_stepLeads 79 = .ok (.istore_n 3, 1) := by decide +kernel
theorem dX8_stepLeads_80 : decode cX8_stepLeads 80 = .ok (.iinc 4 1, 3) := by decide +kernel
theorem dX8_stepLeads_83 : decode cX8_stepLeads 83 = .ok (.goto (-78), 3) := by decide +kernel
theorem dX8_stepLeads_86 : decode cX8_stepLeads 86 = .ok (.iload_n 3, 1) := by decide +kernel
theorem dX8_stepLeads_87 : decode cX8_stepLeads 87 = .ok (.ireturn, 1) := by decide +kernel
theorem dX8_outlook_0 : decode cX8_outlook 0 = .ok (.iconst 2, 1) := by decide +kernel
theorem dX8_outlook_1 : decode cX8_outlook 1 = .ok (.istore_n 3, 1) := by decide +kernel
theorem dX8_outlook_2 : decode cX8_outlook 2 = .ok (.iconst 0, 1) := by decide +kernel
theorem dX8_outlook_3 : decode cX8_outlook 3 = .ok (.istore 4, 2) := by decide +kernel
theorem dX8_outlook_5 : decode cX8_outlook 5 = .ok (.iload 4, 2) := by decide +kernel
theorem dX8_outlook_7 : decode cX8_outlook 7 = .ok (.aload_n 0, 1) := by decide +kernel
theorem dX8_outlook_8 : decode cX8_outlook 8 = .ok (.getfield 24, 3) := by decide +kernel
theorem dX8_outlook_11 : decode cX8_outlook 11 = .ok (.getfield 111, 3) := by decide +kernel
theorem dX8_outlook_14 : decode cX8_outlook 14 = .ok (.if_icmp .ge 100, 3) := by decide +kernel
theorem dX8_outlook_17 : decode cX8_outlook 17 = .ok (.iload_n 3, 1) := by decide +kernel
theorem dX8_outlook_18 : decode cX8_outlook 18 = .ok (.ifCond .eq 96, 3) := by decide +kernel
theorem dX8_outlook_21 : decode cX8_outlook 21 = .ok (.aload_n 0, 1) := by decide +kernel
theorem dX8_outlook_22 : decode cX8_outlook 22 = .ok (.getfield 24, 3) := by decide +kernel
theorem dX8_outlook_25 : decode cX8_outlook 25 = .ok (.getfield 116, 3) := by decide +kernel
theorem dX8_outlook_28 : decode cX8_outlook 28 = .ok (.iload 4, 2) := by decide +kernel
theorem dX8_outlook_30 : decode cX8_outlook 30 = .ok (.iaload, 1) := by decide +kernel
theorem dX8_outlook_31 : decode cX8_outlook 31 = .ok (.aload_n 0, 1) := by decide +kernel
theorem dX8_outlook_32 : decode cX8_outlook 32 = .ok (.getfield 47, 3) := by decide +kernel
theorem dX8_outlook_35 : decode cX8_outlook 35 = .ok (.if_icmp .eq 32, 3) := by decide +kernel
theorem dX8_outlook_38 : decode cX8_outlook 38 = .ok (.aload_n 1, 1) := by decide +kernel
theorem dX8_outlook_39 : decode cX8_outlook 39 = .ok (.iload 4, 2) := by decide +kernel
theorem dX8_outlook_41 : decode cX8_outlook 41 = .ok (.invokevirtual 118, 3) := by decide +kernel
theorem dX8_outlook_44 : decode cX8_outlook 44 = .ok (.aload_n 0, 1) := by decide +kernel
theorem dX8_outlook_45 : decode cX8_outlook 45 = .ok (.getfield 11, 3) := by decide +kernel
theorem dX8_outlook_48 : decode cX8_outlook 48 = .ok (.iconst 0, 1) := by decide +kernel
theorem dX8_outlook_49 : decode cX8_outlook 49 = .ok (.aaload, 1) := by decide +kernel
theorem dX8_outlook_50 : decode cX8_outlook 50 = .ok (.iload 4, 2) := by decide +kernel
theorem dX8_outlook_52 : decode cX8_outlook 52 = .ok (.invokevirtual 118, 3) := by decide +kernel
theorem dX8_outlook_55 : decode cX8_outlook 55 = .ok (.if_icmp .ne 7, 3) := by decide +kernel
theorem dX8_outlook_58 : decode cX8_outlook 58 = .ok (.iload_n 3, 1) := by decide +kernel
theorem dX8_outlook_59 : decode cX8_outlook 59 = .ok (.goto 4, 3) := by decide +kernel
theorem dX8_outlook_62 : decode cX8_outlook 62 = .ok (.iconst 0, 1) := by decide +kernel
theorem dX8_outlook_63 : decode cX8_outlook 63 = .ok (.istore_n 3, 1) := by decide +kernel
theorem dX8_outlook_64 : decode cX8_outlook 64 = .ok (.goto 44, 3) := by decide +kernel
theorem dX8_outlook_67 : decode cX8_outlook 67 = .ok (.aload_n 1, 1) := by decide +kernel
theorem dX8_outlook_68 : decode cX8_outlook 68 = .ok (.iload 4, 2) := by decide +kernel
theorem dX8_outlook_70 : decode cX8_outlook 70 = .ok (.invokevirtual 121, 3) := by decide +kernel
theorem dX8_outlook_73 : decode cX8_outlook 73 = .ok (.ifCond .eq 23, 3) := by decide +kernel
theorem dX8_outlook_76 : decode cX8_outlook 76 = .ok (.aload_n 0, 1) := by decide +kernel
theorem dX8_outlook_77 : decode cX8_outlook 77 = .ok (.aload_n 1, 1) := by decide +kernel
theorem dX8_outlook_78 : decode cX8_outlook 78 = .ok (.iload 4, 2) := by decide +kernel
theorem dX8_outlook_80 : decode cX8_outlook 80 = .ok (.iload_n 2, 1) := by decide +kernel
theorem dX8_outlook_81 : decode cX8_outlook 81 = .ok (.invokevirtual 124, 3) := by decide +kernel
theorem dX8_outlook_84 : decode cX8_outlook 84 = .ok (.ifCond .eq 7, 3) := by decide +kernel
theorem dX8_outlook_87 : decode cX8_outlook 87 = .ok (.iconst 1, 1) := by decide +kernel
theorem dX8_outlook_88 : decode cX8_outlook 88 = .ok (.goto 4, 3) := by decide +kernel
theorem dX8_outlook_91 : decode cX8_outlook 91 = .ok (.iconst 0, 1) := by decide +kernel
theorem dX8_outlook_92 : decode cX8_outlook 92 = .ok (.istore_n 3, 1) := by decide +kernel
theorem dX8_outlook_93 : decode cX8_outlook 93 = .ok (.goto 15, 3) := by decide +kernel
theorem dX8_outlook_96 : decode cX8_outlook 96 = .ok (.aload_n 1, 1) := by decide +kernel
theorem dX8_outlook_97 : decode cX8_outlook 97 = .ok (.iload 4, 2) := by decide +kernel
theorem dX8_outlook_99 : decode cX8_outlook 99 = .ok (.invokevirtual 118, 3) := by decide +kernel
theorem dX8_outlook_102 : decode cX8_outlook 102 = .ok (.iconst 2, 1) := by decide +kernel
theorem dX8_outlook_103 : decode cX8_outlook 103 = .ok (.if_icmp .ne 5, 3) := by decide +kernel
theorem dX8_outlook_106 : decode cX8_outlook 106 = .ok (.iconst 0, 1) := by decide +kernel
theorem dX8_outlook_107 : decode cX8_outlook 107 = .ok (.istore_n 3, 1) := by decide +kernel
theorem dX8_outlook_108 : decode cX8_outlook 108 = .ok (.iinc 4 1, 3) := by decide +kernel
theorem dX8_outlook_111 : decode cX8_outlook 111 = .ok (.goto (-106), 3) := by decide +kernel
theorem dX8_outlook_114 : decode cX8_outlook 114 = .ok (.iload_n 3, 1) := by decide +kernel
theorem dX8_outlook_115 : decode cX8_outlook 115 = .ok (.ireturn, 1) := by decide +kernel
theorem dX8_canLeave_0 : decode cX8_canLeave 0 = .ok (.aload_n 1, 1) := by decide +kernel
theorem dX8_canLeave_1 : decode cX8_canLeave 1 = .ok (.getfield 128, 3) := by decide +kernel
theorem dX8_canLeave_4 : decode cX8_canLeave 4 = .ok (.iload_n 2, 1) := by decide +kernel
theorem dX8_canLeave_5 : decode cX8_canLeave 5 = .ok (.iaload, 1) := by decide +kernel
theorem dX8_canLeave_6 : decode cX8_canLeave 6 = .ok (.istore 4, 2) := by decide +kernel
theorem dX8_canLeave_8 : decode cX8_canLeave 8 = .ok (.iload 4, 2) := by decide +kernel
theorem dX8_canLeave_10 : decode cX8_canLeave 10 = .ok (.invokestatic 131, 3) := by decide +kernel
theorem dX8_canLeave_13 : decode cX8_canLeave 13 = .ok (.ifCond .eq 13, 3) := by decide +kernel
theorem dX8_canLeave_16 : decode cX8_canLeave 16 = .ok (.aload_n 0, 1) := by decide +kernel
theorem dX8_canLeave_17 : decode cX8_canLeave 17 = .ok (.getfield 21, 3) := by decide +kernel
theorem dX8_canLeave_20 : decode cX8_canLeave 20 = .ok (.iload 4, 2) := by decide +kernel
theorem dX8_canLeave_22 : decode cX8_canLeave 22 = .ok (.iaload, 1) := by decide +kernel
theorem dX8_canLeave_23 : decode cX8_canLeave 23 = .ok (.goto 4, 3) := by decide +kernel
theorem dX8_canLeave_26 : decode cX8_canLeave 26 = .ok (.iconst (-1), 1) := by decide +kernel
theorem dX8_canLeave_27 : decode cX8_canLeave 27 = .ok (.istore 5, 2) := by decide +kernel
theorem dX8_canLeave_29 : decode cX8_canLeave 29 = .ok (.aload_n 1, 1) := by decide +kernel
theorem dX8_canLeave_30 : decode cX8_canLeave 30 = .ok (.getfield 134, 3) := by decide +kernel
theorem dX8_canLeave_33 : decode cX8_canLeave 33 = .ok (.iload_n 2, 1) := by decide +kernel
theorem dX8_canLeave_34 : decode cX8_canLeave 34 = .ok (.iaload, 1) := by decide +kernel
theorem dX8_canLeave_35 : decode cX8_canLeave 35 = .ok (.iconst (-1), 1) := by decide +kernel
theorem dX8_canLeave_36 : decode cX8_canLeave 36 = .ok (.if_icmp .ne 18, 3) := by decide +kernel
theorem dX8_canLeave_39 : decode cX8_canLeave 39 = .ok (.aload_n 0, 1) := by decide +kernel
theorem dX8_canLeave_40 : decode cX8_canLeave 40 = .ok (.getfield 24, 3) := by decide +kernel
theorem dX8_canLeave_43 : decode cX8_canLeave 43 = .ok (.iload_n 2, 1) := by decide +kernel
theorem dX8_canLeave_44 : decode cX8_canLeave 44 = .ok (.aload_n 0, 1) := by decide +kernel
theorem dX8_canLeave_45 : decode cX8_canLeave 45 = .ok (.getfield 50, 3) := by decide +kernel
theorem dX8_canLeave_48 : decode cX8_canLeave 48 = .ok (.invokevirtual 137, 3) := by decide +kernel
theorem dX8_canLeave_51 : decode cX8_canLeave 51 = .ok (.ifCond .eq 7, 3) := by decide +kernel
theorem dX8_canLeave_54 : decode cX8_canLeave 54 = .ok (.iconst 1, 1) := by decide +kernel
theorem dX8_canLeave_55 : decode cX8_canLeave 55 = .ok (.goto 4, 3) := by decide +kernel
theorem dX8_canLeave_58 : decode cX8_canLeave 58 = .ok (.iconst 0, 1) := by decide +kernel
theorem dX8_canLeave_59 : decode cX8_canLeave 59 = .ok (.istore 6, 2) := by decide +kernel
theorem dX8_canLeave_61 : decode cX8_canLeave 61 = .ok (.iload 6, 2) := by decide +kernel
theorem dX8_canLeave_63 : decode cX8_canLeave 63 = .ok (.ifCond .eq 29, 3) := by decide +kernel
theorem dX8_canLeave_66 : decode cX8_canLeave 66 = .ok (.iload 5, 2) := by decide +kernel
theorem dX8_canLeave_68 : decode cX8_canLeave 68 = .ok (.iconst (-1), 1) := by decide +kernel
theorem dX8_canLeave_69 : decode cX8_canLeave 69 = .ok (.if_icmp .eq 23, 3) := by decide +kernel
theorem dX8_canLeave_72 : decode cX8_canLeave 72 = .ok (.iload 5, 2) := by decide +kernel
theorem dX8_canLeave_74 : decode cX8_canLeave 74 = .ok (.iload_n 3, 1) := by decide +kernel
theorem dX8_canLeave_75 : decode cX8_canLeave 75 = .ok (.aload_n 0, 1) := by decide +kernel
theorem dX8_canLeave_76 : decode cX8_canLeave 76 = .ok (.getfield 24, 3) := by decide +kernel
theorem dX8_canLeave_79 : decode cX8_canLeave 79 = .ok (.getfield 140, 3) := by decide +kernel
theorem dX8_canLeave_82 : decode cX8_canLeave 82 = .ok (.iload_n 2, 1) := by decide +kernel
theorem dX8_canLeave_83 : decode cX8_canLeave 83 = .ok (.iaload, 1) := by decide +kernel
theorem dX8_canLeave_84 : decode cX8_canLeave 84 = .ok (.imul, 1) := by decide +kernel
theorem dX8_canLeave_85 : decode cX8_canLeave 85 = .ok (.if_icmp .gt 7, 3) := by decide +kernel
theorem dX8_canLeave_88 : decode cX8_canLeave 88 = .ok (.iconst 1, 1) := by decide +kernel
theorem dX8_canLeave_89 : decode cX8_canLeave 89 = .ok (.goto 4, 3) := by decide +kernel
theorem dX8_canLeave_92 : decode cX8_canLeave 92 = .ok (.iconst 0, 1) := by decide +kernel
theorem dX8_canLeave_93 : decode cX8_canLeave 93 = .ok (.ireturn, 1) := by decide +kernel
theorem dX9_init_0 : decode cX9_init 0 = .ok (.aload_n 0, 1) := by decide +kernel
theorem dX9_init_1 : decode cX9_init 1 = .ok (.invokespecial 3, 3) := by decide +kernel
theorem dX9_init_4 : decode cX9_init 4 = .ok (.aload_n 0, 1) := by decide +kernel
theorem dX9_init_5 : decode cX9_init 5 = .ok (.bipush 42, 2) := by decide +kernel
theorem dX9_init_7 : decode cX9_init 7 = .ok (.newarray .int, 2) := by decide +kernel
theorem dX9_init_9 : decode cX9_init 9 = .ok (.putfield 9, 3) := by decide +kernel
theorem dX9_init_12 : decode cX9_init 12 = .ok (.aload_n 0, 1) := by decide +kernel
theorem dX9_init_13 : decode cX9_init 13 = .ok (.bipush 6, 2) := by decide +kernel
theorem dX9_init_15 : decode cX9_init 15 = .ok (.newarray .int, 2) := by decide +kernel
theorem dX9_init_17 : decode cX9_init 17 = .ok (.putfield 15, 3) := by decide +kernel
theorem dX9_init_20 : decode cX9_init 20 = .ok (.aload_n 0, 1) := by decide +kernel
theorem dX9_init_21 : decode cX9_init 21 = .ok (.bipush 6, 2) := by decide +kernel
theorem dX9_init_23 : decode cX9_init 23 = .ok (.newarray .int, 2) := by decide +kernel
theorem dX9_init_25 : decode cX9_init 25 = .ok (.putfield 18, 3) := by decide +kernel
theorem dX9_init_28 : decode cX9_init 28 = .ok (.aload_n 0, 1) := by decide +kernel
theorem dX9_init_29 : decode cX9_init 29 = .ok (.bipush 6, 2) := by decide +kernel
theorem dX9_init_31 : decode cX9_init 31 = .ok (.newarray .int, 2) := by decide +kernel
theorem dX9_init_33 : decode cX9_init 33 = .ok (.putfield 21, 3) := by decide +kernel
theorem dX9_init_36 : decode cX9_init 36 = .ok (.aload_n 0, 1) := by decide +kernel
theorem dX9_init_37 : decode cX9_init 37 = .ok (.bipush 6, 2) := by decide +kernel
theorem dX9_init_39 : decode cX9_init 39 = .ok (.newarray .int, 2) := by decide +kernel
theorem dX9_init_41 : decode cX9_init 41 = .ok (.putfield 24, 3) := by decide +kernel
theorem dX9_init_44 : decode cX9_init 44 = .ok (.aload_n 0, 1) := by decide +kernel
theorem dX9_init_45 : decode cX9_init 45 = .ok (.bipush 6, 2) := by decide +kernel
theorem dX9_init_47 : decode cX9_init 47 = .ok (.newarray .int, 2) := by decide +kernel
theorem dX9_init_49 : decode cX9_init 49 = .ok (.putfield 27, 3) := by decide +kernel
theorem dX9_init_52 : decode cX9_init 52 = .ok (.aload_n 0, 1) := by decide +kernel
theorem dX9_init_53 : decode cX9_init 53 = .ok (.iconst 3, 1) := by decide +kernel
theorem dX9_init_54 : decode cX9_init 54 = .ok (.newarray .int, 2) := by decide +kernel
theorem dX9_init_56 : decode cX9_init 56 = .ok (.putfield 30, 3) := by decide +kernel
theorem dX9_init_59 : decode cX9_init 59 = .ok (.aload_n 0, 1) := by decide +kernel
theorem dX9_init_60 : decode cX9_init 60 = .ok (.iconst 3, 1) := by decide +kernel
theorem dX9_init_61 : decode cX9_init 61 = .ok (.newarray .int, 2) := by decide +kernel
theorem dX9_init_63 : decode cX9_init 63 = .ok (.putfield 33, 3) := by decide +kernel
theorem dX9_init_66 : decode cX9_init 66 = .ok (.return_, 1) := by decide +kernel
theorem dX9_clear_0 : decode cX9_clear 0 = .ok (.aload_n 0, 1) := by decide +kernel
theorem dX9_clear_1 : decode cX9_clear 1 = .ok (.iconst 0, 1) := by decide +kernel
theorem dX9_clear_2 : decode cX9_clear 2 = .ok (.putfield 36, 3) := by decide +kernel
theorem dX9_clear_5 : decode cX9_clear 5 = .ok (.aload_n 0, 1) := by decide +kernel
theorem dX9_clear_6 : decode cX9_clear 6 = .ok (.iconst 0, 1) := by decide +kernel
theorem dX9_clear_7 : decode cX9_clear 7 = .ok (.putfield 40, 3) := by decide +kernel
theorem dX9_clear_10 : decode cX9_clear 10 = .ok (.aload_n 0, 1) := by decide +kernel
theorem dX9_clear_11 : decode cX9_clear 11 = .ok (.iconst 0, 1) := by decide +kernel
theorem dX9_clear_12 : decode cX9_clear 12 = .ok (.putfield 43, 3) := by decide +kernel
theorem dX9_clear_15 : decode cX9_clear 15 = .ok (.aload_n 0, 1) := by decide +kernel
theorem dX9_clear_16 : decode cX9_clear 16 = .ok (.iconst 0, 1) := by decide +kernel
theorem dX9_clear_17 : decode cX9_clear 17 = .ok (.putfield 46, 3) := by decide +kernel
theorem dX9_clear_20 : decode cX9_clear 20 = .ok (.aload_n 0, 1) := by decide +kernel
theorem dX9_clear_21 : decode cX9_clear 21 = .ok (.iconst 0, 1) := by decide +kernel
theorem dX9_clear_22 : decode cX9_clear 22 = .ok (.putfield 49, 3) := by decide +kernel
theorem dX9_clear_25 : decode cX9_clear 25 = .ok (.aload_n 0, 1) := by decide +kernel
theorem dX9_clear_26 : decode cX9_clear 26 = .ok (.iconst (-1), 1) := by decide +kernel
theorem dX9_clear_27 : decode cX9_clear 27 = .ok (.putfield 52, 3) := by decide +kernel
theorem dX9_clear_30 : decode cX9_clear 30 = .ok (.aload_n 0, 1) := by decide +kernel
theorem dX9_clear_31 : decode cX9_clear 31 = .ok (.iconst 0, 1) := by decide +kernel
theorem dX9_clear_32 : decode cX9_clear 32 = .ok (.putfield 55, 3) := by decide +kernel
theorem dX9_clear_35 : decode cX9_clear 35 = .ok (.aload_n 0, 1) := by decide +kernel
theorem dX9_clear_36 : decode cX9_clear 36 = .ok (.iconst 1, 1) := by decide +kernel
theorem dX9_clear_37 : decode cX9_clear 37 = .ok (.putfield 59, 3) := by decide +kernel
theorem dX9_clear_40 : decode cX9_clear 40 = .ok (.aload_n 0, 1) := by decide +kernel
theorem dX9_clear_41 : decode cX9_clear 41 = .ok (.iconst 1, 1) := by decide +kernel
theorem dX9_clear_42 : decode cX9_clear 42 = .ok (.putfield 62, 3) := by decide +kernel
theorem dX9_clear_45 : decode cX9_clear 45 = .ok (.iconst 0, 1) := by decide +kernel
theorem dX9_clear_46 : decode cX9_clear 46 = .ok (.istore_n 1, 1) := by decide +kernel
theorem dX9_clear_47 : decode cX9_clear 47 = .ok (.iload_n 1, 1) := by decide +kernel
theorem dX9_clear_48 : decode cX9_clear 48 = .ok (.bipush 42, 2) := by decide +kernel
theorem dX9_clear_50 : decode cX9_clear 50 = .ok (.if_icmp .ge 16, 3) := by decide +kernel
theorem dX9_clear_53 : decode cX9_clear 53 = .ok (.aload_n 0, 1) := by decide +kernel
theorem dX9_clear_54 : decode cX9_clear 54 = .ok (.getfield 9, 3) := by decide +kernel
theorem dX9_clear_57 : decode cX9_clear 57 = .ok (.iload_n 1, 1) := by decide +kernel
theorem dX9_clear_58 : decode cX9_clear 58 = .ok (.iconst 0, 1) := by decide +kernel
theorem dX9_clear_59 : decode cX9_clear 59 = .ok (.iastore, 1) := by decide +kernel
theorem dX9_clear_60 : decode cX9_clear 60 = .ok (.iinc 1 1, 3) := by decide +kernel
theorem dX9_clear_63 : decode cX9_clear 63 = .ok (.goto (-16), 3) := by decide +kernel
theorem dX9_clear_66 : decode cX9_clear 66 = .ok (.return_, 1) := by decide +kernel
theorem dX9_followers_0 : decode cX9_followers 0 = .ok (.iload_n 1, 1) := by decide +kernel
theorem dX9_followers_1 : decode cX9_followers 1 = .ok (.ifCond .lt 25, 3) := by decide +kernel
theorem dX9_followers_4 : decode cX9_followers 4 = .ok (.iload_n 1, 1) := by decide +kernel
theorem dX9_followers_5 : decode cX9_followers 5 = .ok (.bipush 6, 2) := by decide +kernel
theorem dX9_followers_7 : decode cX9_followers 7 = .ok (.if_icmp .ge 19, 3) := by decide +kernel
theorem dX9_followers_10 : decode cX9_followers 10 = .ok (.aload_n 0, 1) := by decide +kernel
theorem dX9_followers_11 : decode cX9_followers 11 = .ok (.getfield 21, 3) := by decide +kernel
theorem dX9_followers_14 : decode cX9_followers 14 = .ok (.iload_n 1, 1) := by decide +kernel
theorem dX9_followers_15 : decode cX9_followers 15 = .ok (.iaload, 1) := by decide +kernel
theorem dX9_followers_16 : decode cX9_followers 16 = .ok (.aload_n 0, 1) := by decide +kernel
theorem dX9_followers_17 : decode cX9_followers 17 = .ok (.getfield 27, 3) := by decide +kernel
theorem dX9_followers_20 : decode cX9_followers 20 = .ok (.iload_n 1, 1) := by decide +kernel
theorem dX9_followers_21 : decode cX9_followers 21 = .ok (.iaload, 1) := by decide +kernel
theorem dX9_followers_22 : decode cX9_followers 22 = .ok (.isub, 1) := by decide +kernel
theorem dX9_followers_23 : decode cX9_followers 23 = .ok (.goto 4, 3) := by decide +kernel
theorem dX9_followers_26 : decode cX9_followers 26 = .ok (.iconst 0, 1) := by decide +kernel
theorem dX9_followers_27 : decode cX9_followers 27 = .ok (.ireturn, 1) := by decide +kernel
theorem dX9_isFollower_0 : decode cX9_isFollower 0 = .ok (.iload_n 1, 1) := by decide +kernel
theorem dX9_isFollower_1 : decode cX9_isFollower 1 = .ok (.ifCond .lt 22, 3) := by decide +kernel
theorem dX9_isFollower_4 : decode cX9_isFollower 4 = .ok (.iload_n 1, 1) := by decide +kernel
theorem dX9_isFollower_5 : decode cX9_isFollower 5 = .ok (.bipush 6, 2) := by decide +kernel
theorem dX9_isFollower_7 : decode cX9_isFollower 7 = .ok (.if_icmp .ge 16, 3) := by decide +kernel
theorem dX9_isFollower_10 : decode cX9_isFollower 10 = .ok (.iload_n 2, 1) := by decide +kernel
theorem dX9_isFollower_11 : decode cX9_isFollower 11 = .ok (.ifCond .lt 12, 3) := by decide +kernel
theorem dX9_isFollower_14 : decode cX9_isFollower 14 = .ok (.iload_n 2, 1) := by decide +kernel
theorem dX9_isFollower_15 : decode cX9_isFollower 15 = .ok (.iconst 3, 1) := by decide +kernel
theorem dX9_isFollower_16 : decode cX9_isFollower 16 = .ok (.if_icmp .ge 7, 3) := by decide +kernel
theorem dX9_isFollower_19 : decode cX9_isFollower 19 = .ok (.iconst 1, 1) := by decide +kernel
theorem dX9_isFollower_20 : decode cX9_isFollower 20 = .ok (.goto 4, 3) := by decide +kernel
theorem dX9_isFollower_23 : decode cX9_isFollower 23 = .ok (.iconst 0, 1) := by decide +kernel
theorem dX9_isFollower_24 : decode cX9_isFollower 24 = .ok (.istore_n 3, 1) := by decide +kernel
theorem dX9_isFollower_25 : decode cX9_isFollower 25 = .ok (.iload_n 3, 1) := by decide +kernel
theorem dX9_isFollower_26 : decode cX9_isFollower 26 = .ok (.ifCond .eq 26, 3) := by decide +kernel
theorem dX9_isFollower_29 : decode cX9_isFollower 29 = .ok (.aload_n 0, 1) := by decide +kernel
theorem dX9_isFollower_30 : decode cX9_isFollower 30 = .ok (.getfield 30, 3) := by decide +kernel
theorem dX9_isFollower_33 : decode cX9_isFollower 33 = .ok (.iload_n 2, 1) := by decide +kernel
theorem dX9_isFollower_34 : decode cX9_isFollower 34 = .ok (.iaload, 1) := by decide +kernel
theorem dX9_isFollower_35 : decode cX9_isFollower 35 = .ok (.aload_n 0, 1) := by decide +kernel
theorem dX9_isFollower_36 : decode cX9_isFollower 36 = .ok (.getfield 15, 3) := by decide +kernel
theorem dX9_isFollower_39 : decode cX9_isFollower 39 = .ok (.iload_n 1, 1) := by decide +kernel
theorem dX9_isFollower_40 : decode cX9_isFollower 40 = .ok (.iaload, 1) := by decide +kernel
theorem dX9_isFollower_41 : decode cX9_isFollower 41 = .ok (.ishr, 1) := by decide +kernel
theorem dX9_isFollower_42 : decode cX9_isFollower 42 = .ok (.iconst 1, 1) := by decide +kernel
theorem dX9_isFollower_43 : decode cX9_isFollower 43 = .ok (.iand, 1) := by decide +kernel
theorem dX9_isFollower_44 : decode cX9_isFollower 44 = .ok (.iconst 1, 1) := by decide +kernel
theorem dX9_isFollower_45 : decode cX9_isFollower 45 = .ok (.if_icmp .ne 7, 3) := by decide +kernel
theorem dX9_isFollower_48 : decode cX9_isFollower 48 = .ok (.iconst 1, 1) := by decide +kernel
theorem dX9_isFollower_49 : decode cX9_isFollower 49 = .ok (.goto 4, 3) := by decide +kernel
theorem dX9_isFollower_52 : decode cX9_isFollower 52 = .ok (.iconst 0, 1) := by decide +kernel
theorem dX9_isFollower_53 : decode cX9_isFollower 53 = .ok (.ireturn, 1) := by decide +kernel
theorem dX9_isSpot_0 : decode cX9_isSpot 0 = .ok (.iload_n 1, 1) := by decide +kernel
theorem dX9_isSpot_1 : decode cX9_isSpot 1 = .ok (.invokestatic 65, 3) := by decide +kernel
theorem dX9_isSpot_4 : decode cX9_isSpot 4 = .ok (.ifCond .eq 16, 3) := by decide +kernel
theorem dX9_isSpot_7 : decode cX9_isSpot 7 = .ok (.aload_n 0, 1) := by decide +kernel
theorem dX9_isSpot_8 : decode cX9_isSpot 8 = .ok (.getfield 9, 3) := by decide +kernel
theorem dX9_isSpot_11 : decode cX9_isSpot 11 = .ok (.iload_n 1, 1) := by decide +kernel
theorem dX9_isSpot_12 : decode cX9_isSpot 12 = .ok (.iaload, 1) := by decide +kernel
theorem dX9_isSpot_13 : decode cX9_isSpot 13 = .ok (.ifCond .eq 7, 3) := by decide +kernel
theorem dX9_isSpot_16 : decode cX9_isSpot 16 = .ok (.iconst 1, 1) := by decide +kernel
theorem dX9_isSpot_17 : decode cX9_isSpot 17 = .ok (.goto 4, 3) := by decide +kernel
theorem dX9_isSpot_20 : decode cX9_isSpot 20 = .ok (.iconst 0, 1) := by decide +kernel
theorem dX9_isSpot_21 : decode cX9_isSpot 21 = .ok (.ireturn, 1) := by decide +kernel
theorem dX9_isTaken_0 : decode cX9_isTaken 0 = .ok (.aload_n 0, 1) := by decide +kernel
theorem dX9_isTaken_1 : decode cX9_isTaken 1 = .ok (.iload_n 1, 1) := by decide +kernel
theorem dX9_isTaken_2 : decode cX9_isTaken 2 = .ok (.invokevirtual 71, 3) := by decide +kernel
theorem dX9_isTaken_5 : decode cX9_isTaken 5 = .ok (.ifCond .ne 11, 3) := by decide +kernel
theorem dX9_isTaken_8 : decode cX9_isTaken 8 = .ok (.aload_n 0, 1) := by decide +kernel
theorem dX9_isTaken_9 : decode cX9_isTaken 9 = .ok (.getfield 52, 3) := by decide +kernel
theorem dX9_isTaken_12 : decode cX9_isTaken 12 = .ok (.iload_n 1, 1) := by decide +kernel
theorem dX9_isTaken_13 : decode cX9_isTaken 13 = .ok (.if_icmp .ne 7, 3) := by decide +kernel
theorem dX9_isTaken_16 : decode cX9_isTaken 16 = .ok (.iconst 1, 1) := by decide +kernel
theorem dX9_isTaken_17 : decode cX9_isTaken 17 = .ok (.goto 4, 3) := by decide +kernel
theorem dX9_isTaken_20 : decode cX9_isTaken 20 = .ok (.iconst 0, 1) := by decide +kernel
theorem dX9_isTaken_21 : decode cX9_isTaken 21 = .ok (.istore_n 2, 1) := by decide +kernel
theorem dX9_isTaken_22 : decode cX9_isTaken 22 = .ok (.iconst 0, 1) := by decide +kernel
theorem dX9_isTaken_23 : decode cX9_isTaken 23 = .ok (.istore_n 3, 1) := by decide +kernel
theorem dX9_isTaken_24 : decode cX9_isTaken 24 = .ok (.iload_n 3, 1) := by decide +kernel
theorem dX9_isTaken_25 : decode cX9_isTaken 25 = .ok (.aload_n 0, 1) := by decide +kernel
theorem dX9_isTaken_26 : decode cX9_isTaken 26 = .ok (.getfield 46, 3) := by decide +kernel
theorem dX9_isTaken_29 : decode cX9_isTaken 29 = .ok (.if_icmp .ge 29, 3) := by decide +kernel
theorem dX9_isTaken_32 : decode cX9_isTaken 32 = .ok (.iload_n 2, 1) := by decide +kernel
theorem dX9_isTaken_33 : decode cX9_isTaken 33 = .ok (.ifCond .ne 13, 3) := by decide +kernel
theorem dX9_isTaken_36 : decode cX9_isTaken 36 = .ok (.aload_n 0, 1) := by decide +kernel
theorem dX9_isTaken_37 : decode cX9_isTaken 37 = .ok (.getfield 18, 3) := by decide +kernel
theorem dX9_isTaken_40 : decode cX9_isTaken 40 = .ok (.iload_n 3, 1) := by decide +kernel
theorem dX9_isTaken_41 : decode cX9_isTaken 41 = .ok (.iaload, 1) := by decide +kernel
theorem dX9_isTaken_42 : decode cX9_isTaken 42 = .ok (.iload_n 1, 1) := by decide +kernel
theorem dX9_isTaken_43 : decode cX9_isTaken 43 = .ok (.if_icmp .ne 7, 3) := by decide +kernel
theorem dX9_isTaken_46 : decode cX9_isTaken 46 = .ok (.iconst 1, 1) := by decide +kernel
theorem dX9_isTaken_47 : decode cX9_isTaken 47 = .ok (.goto 4, 3) := by decide +kernel
theorem dX9_isTaken_50 : decode cX9_isTaken 50 = .ok (.iconst 0, 1) := by decide +kernel
theorem dX9_isTaken_51 : decode cX9_isTaken 51 = .ok (.istore_n 2, 1) := by decide +kernel
theorem dX9_isTaken_52 : decode cX9_isTaken 52 = .ok (.iinc 3 1, 3) := by decide +kernel
theorem dX9_isTaken_55 : decode cX9_isTaken 55 = .ok (.goto (-31), 3) := by decide +kernel
theorem dX9_isTaken_58 : decode cX9_isTaken 58 = .ok (.iload_n 2, 1) := by decide +kernel
theorem dX9_isTaken_59 : decode cX9_isTaken 59 = .ok (.ireturn, 1) := by decide +kernel
theorem dX9_addSpot_0 : decode cX9_addSpot 0 = .ok (.iload_n 1, 1) := by decide +kernel
theorem dX9_addSpot_1 : decode cX9_addSpot 1 = .ok (.invokestatic 65, 3) := by decide +kernel
theorem dX9_addSpot_4 : decode cX9_addSpot 4 = .ok (.ifCond .eq 20, 3) := by decide +kernel
theorem dX9_addSpot_7 : decode cX9_addSpot 7 = .ok (.aload_n 0, 1) := by decide +kernel
theorem dX9_addSpot_8 : decode cX9_addSpot 8 = .ok (.getfield 9, 3) := by decide +kernel
theorem dX9_addSpot_11 : decode cX9_addSpot 11 = .ok (.iload_n 1, 1) := by decide +kernel
theorem dX9_addSpot_12 : decode cX9_addSpot 12 = .ok (.iload_n 2, 1) := by decide +kernel
theorem dX9_addSpot_13 : decode cX9_addSpot 13 = .ok (.iastore, 1) := by decide +kernel
theorem dX9_addSpot_14 : decode cX9_addSpot 14 = .ok (.aload_n 0, 1) := by decide +kernel
theorem dX9_addSpot_15 : decode cX9_addSpot 15 = .ok (.dup, 1) := by decide +kernel
theorem dX9_addSpot_16 : decode cX9_addSpot 16 = .ok (.getfield 43, 3) := by decide +kernel
theorem dX9_addSpot_19 : decode cX9_addSpot 19 = .ok (.iconst 1, 1) := by decide +kernel
theorem dX9_addSpot_20 : decode cX9_addSpot 20 = .ok (.iadd, 1) := by decide +kernel
theorem dX9_addSpot_21 : decode cX9_addSpot 21 = .ok (.putfield 43, 3) := by decide +kernel
theorem dX9_addSpot_24 : decode cX9_addSpot 24 = .ok (.return_, 1) := by decide +kernel
theorem dX9_addCrowd_0 : decode cX9_addCrowd 0 = .ok (.aload_n 0, 1) := by decide +kernel
theorem dX9_addCrowd_1 : decode cX9_addCrowd 1 = .ok (.getfield 46, 3) := by decide +kernel
theorem dX9_addCrowd_4 : decode cX9_addCrowd 4 = .ok (.bipush 6, 2) := by decide +kernel
theorem dX9_addCrowd_6 : decode cX9_addCrowd 6 = .ok (.if_icmp .ge 65, 3) := by decide +kernel
theorem dX9_addCrowd_9 : decode cX9_addCrowd 9 = .ok (.aload_n 0, 1) := by decide +kernel
theorem dX9_addCrowd_10 : decode cX9_addCrowd 10 = .ok (.getfield 15, 3) := by decide +kernel
theorem dX9_addCrowd_13 : decode cX9_addCrowd 13 = .ok (.aload_n 0, 1) := by decide +kernel
theorem dX9_addCrowd_14 : decode cX9_addCrowd 14 = .ok (.getfield 46, 3) := by decide +kernel
theorem dX9_addCrowd_17 : decode cX9_addCrowd 17 = .ok (.iload_n 1, 1) := by decide +kernel
theorem dX9_addCrowd_18 : decode cX9_addCrowd 18 = .ok (.iastore, 1) := by decide +kernel
theorem dX9_addCrowd_19 : decode cX9_addCrowd 19 = .ok (.aload_n 0, 1) := by decide +kernel
theorem dX9_addCrowd_20 : decode cX9_addCrowd 20 = .ok (.getfield 18, 3) := by decide +kernel
theorem dX9_addCrowd_23 : decode cX9_addCrowd 23 = .ok (.aload_n 0, 1) := by decide +kernel
theorem dX9_addCrowd_24 : decode cX9_addCrowd 24 = .ok (.getfield 46, 3) := by decide +kernel
theorem dX9_addCrowd_27 : decode cX9_addCrowd 27 = .ok (.iload_n 2, 1) := by decide +kernel
theorem dX9_addCrowd_28 : decode cX9_addCrowd 28 = .ok (.iastore, 1) := by decide +kernel
theorem dX9_addCrowd_29 : decode cX9_addCrowd 29 = .ok (.aload_n 0, 1) := by decide +kernel
theorem dX9_addCrowd_30 : decode cX9_addCrowd 30 = .ok (.getfield 21, 3) := by decide +kernel
theorem dX9_addCrowd_33 : decode cX9_addCrowd 33 = .ok (.aload_n 0, 1) := by decide +kernel
theorem dX9_addCrowd_34 : decode cX9_addCrowd 34 = .ok (.getfield 46, 3) := by decide +kernel
theorem dX9_addCrowd_37 : decode cX9_addCrowd 37 = .ok (.iload_n 3, 1) := by decide +kernel
theorem dX9_addCrowd_38 : decode cX9_addCrowd 38 = .ok (.iastore, 1) := by decide +kernel
theorem dX9_addCrowd_39 : decode cX9_addCrowd 39 = .ok (.aload_n 0, 1) := by decide +kernel
theorem dX9_addCrowd_40 : decode cX9_addCrowd 40 = .ok (.getfield 24, 3) := by decide +kernel
theorem dX9_addCrowd_43 : decode cX9_addCrowd 43 = .ok (.aload_n 0, 1) := by decide +kernel
theorem dX9_addCrowd_44 : decode cX9_addCrowd 44 = .ok (.getfield 46, 3) := by decide +kernel
theorem dX9_addCrowd_47 : decode cX9_addCrowd 47 = .ok (.iload 4, 2) := by decide +kernel
theorem dX9_addCrowd_49 : decode cX9_addCrowd 49 = .ok (.iastore, 1) := by decide +kernel
theorem dX9_addCrowd_50 : decode cX9_addCrowd 50 = .ok (.aload_n 0, 1) := by decide +kernel
theorem dX9_addCrowd_51 : decode cX9_addCrowd 51 = .ok (.getfield 27, 3) := by decide +kernel
theorem dX9_addCrowd_54 : decode cX9_addCrowd 54 = .ok (.aload_n 0, 1) := by decide +kernel
theorem dX9_addCrowd_55 : decode cX9_addCrowd 55 = .ok (.getfield 46, 3) := by decide +kernel
theorem dX9_addCrowd_58 : decode cX9_addCrowd 58 = .ok (.iload 5, 2) := by decide +kernel
theorem dX9_addCrowd_60 : decode cX9_addCrowd 60 = .ok (.iastore, 1) := by decide +kernel
theorem dX9_addCrowd_61 : decode cX9_addCrowd 61 = .ok (.aload_n 0, 1) := by decide +kernel
theorem dX9_addCrowd_62 : decode cX9_addCrowd 62 = .ok (.dup, 1) := by decide +kernel
theorem dX9_addCrowd_63 : decode cX9_addCrowd 63 = .ok (.getfield 46, 3) := by decide +kernel
theorem dX9_addCrowd_66 : decode cX9_addCrowd 66 = .ok (.iconst 1, 1) := by decide +kernel
theorem dX9_addCrowd_67 : decode cX9_addCrowd 67 = .ok (.iadd, 1) := by decide +kernel
theorem dX9_addCrowd_68 : decode cX9_addCrowd 68 = .ok (.putfield 46, 3) := by decide +kernel
theorem dX9_addCrowd_71 : decode cX9_addCrowd 71 = .ok (.return_, 1) := by decide +kernel
theorem dX9_addTune_0 : decode cX9_addTune 0 = .ok (.aload_n 0, 1) := by decide +kernel
theorem dX9_addTune_1 : decode cX9_addTune 1 = .ok (.getfield 49, 3) := by decide +kernel
theorem dX9_addTune_4 : decode cX9_addTune 4 = .ok (.iconst 3, 1) := by decide +kernel
theorem dX9_addTune_5 : decode cX9_addTune 5 = .ok (.if_icmp .ge 33, 3) := by decide +kernel
theorem dX9_addTune_8 : decode cX9_addTune 8 = .ok (.aload_n 0, 1) := by decide +kernel
theorem dX9_addTune_9 : decode cX9_addTune 9 = .ok (.getfield 30, 3) := by decide +kernel
theorem dX9_addTune_12 : decode cX9_addTune 12 = .ok (.aload_n 0, 1) := by decide +kernel
theorem dX9_addTune_13 : decode cX9_addTune 13 = .ok (.getfield 49, 3) := by decide +kernel
theorem dX9_addTune_16 : decode cX9_addTune 16 = .ok (.iload_n 1, 1) := by decide +kernel
theorem dX9_addTune_17 : decode cX9_addTune 17 = .ok (.iastore, 1) := by decide +kernel
theorem dX9_addTune_18 : decode cX9_addTune 18 = .ok (.aload_n 0, 1) := by decide +kernel
theorem dX9_addTune_19 : decode cX9_addTune 19 = .ok (.getfield 33, 3) := by decide +kernel
theorem dX9_addTune_22 : decode cX9_addTune 22 = .ok (.aload_n 0, 1) := by decide +kernel
theorem dX9_addTune_23 : decode cX9_addTune 23 = .ok (.getfield 49, 3) := by decide +kernel
theorem dX9_addTune_26 : decode cX9_addTune 26 = .ok (.iload_n 2, 1) := by decide +kernel
theorem dX9_addTune_27 : decode cX9_addTune 27 = .ok (.iastore, 1) := by decide +kernel
theorem dX9_addTune_28 : decode cX9_addTune 28 = .ok (.aload_n 0, 1) := by decide +kernel
theorem dX9_addTune_29 : decode cX9_addTune 29 = .ok (.dup, 1) := by decide +kernel
theorem dX9_addTune_30 : decode cX9_addTune 30 = .ok (.getfield 49, 3) := by decide +kernel
theorem dX9_addTune_33 : decode cX9_addTune 33 = .ok (.iconst 1, 1) := by decide +kernel
theorem dX9_addTune_34 : decode cX9_addTune 34 = .ok (.iadd, 1) := by decide +kernel
theorem dX9_addTune_35 : decode cX9_addTune 35 = .ok (.putfield 49, 3) := by decide +kernel
theorem dX9_addTune_38 : decode cX9_addTune 38 = .ok (.return_, 1) := by decide +kernel
theorem dX9_placePiperIfUntold_0 : decode cX9_placePiperIfUntold 0 = .ok (.iconst 0, 1) := by decide +kernel
theorem dX9_placePiperIfUntold_1 : decode cX9_placePiperIfUntold 1 = .ok (.istore_n 1, 1) := by decide +kernel
theorem dX9_placePiperIfUntold_2 : decode cX9_placePiperIfUntold 2 = .ok (.iload_n 1, 1) := by decide +kernel
theorem dX9_placePiperIfUntold_3 : decode cX9_placePiperIfUntold 3 = .ok (.aload_n 0, 1) := by decide +kernel
theorem dX9_placePiperIfUntold_4 : decode cX9_placePiperIfUntold 4 = .ok (.getfield 36, 3) := by decide +kernel
theorem dX9_placePiperIfUntold_7 : decode cX9_placePiperIfUntold 7 = .ok (.aload_n 0, 1) := by decide +kernel
theorem dX9_placePiperIfUntold_8 : decode cX9_placePiperIfUntold 8 = .ok (.getfield 40, 3) := by decide +kernel
theorem dX9_placePiperIfUntold_11 : decode cX9_placePiperIfUntold 11 = .ok (.imul, 1) := by decide +kernel
theorem dX9_placePiperIfUntold_12 : decode cX9_placePiperIfUntold 12 = .ok (.if_icmp .ge 30, 3) := by decide +kernel
theorem dX9_placePiperIfUntold_15 : decode cX9_placePiperIfUntold 15 = .ok (.aload_n 0, 1) := by decide +kernel
theorem dX9_placePiperIfUntold_16 : decode cX9_placePiperIfUntold 16 = .ok (.getfield 52, 3) := by decide +kernel
theorem dX9_placePiperIfUntold_19 : decode cX9_placePiperIfUntold 19 = .ok (.iconst (-1), 1) := by decide +kernel
theorem dX9_placePiperIfUntold_20 : decode cX9_placePiperIfUntold 20 = .ok (.if_icmp .ne 22, 3) := by decide +kernel
theorem dX9_placePiperIfUntold_23 : decode cX9_placePiperIfUntold 23 = .ok (.aload_n 0, 1) := by decide +kernel
theorem dX9_placePiperIfUntold_24 : decode cX9_placePiperIfUntold 24 = .ok (.iload_n 1, 1) := by decide +kernel
theorem dX9_placePiperIfUntold_25 : decode cX9_placePiperIfUntold 25 = .ok (.invokevirtual 71, 3) := by decide +kernel
theorem dX9_placePiperIfUntold_28 : decode cX9_placePiperIfUntold 28 = .ok (.ifCond .ne 8, 3) := by decide +kernel
theorem dX9_placePiperIfUntold_31 : decode cX9_placePiperIfUntold 31 = .ok (.aload_n 0, 1) := by decide +kernel
theorem dX9_placePiperIfUntold_32 : decode cX9_placePiperIfUntold 32 = .ok (.iload_n 1, 1) := by decide +kernel
theorem dX9_placePiperIfUntold_33 : decode cX9_placePiperIfUntold 33 = .ok (.putfield 52, 3) := by decide +kernel
theorem dX9_placePiperIfUntold_36 : decode cX9_placePiperIfUntold 36 = .ok (.iinc 1 1, 3) := by decide +kernel
theorem dX9_placePiperIfUntold_39 : decode cX9_placePiperIfUntold 39 = .ok (.goto (-37), 3) := by decide +kernel
theorem dX9_placePiperIfUntold_42 : decode cX9_placePiperIfUntold 42 = .ok (.aload_n 0, 1) := by decide +kernel
theorem dX9_placePiperIfUntold_43 : decode cX9_placePiperIfUntold 43 = .ok (.aload_n 0, 1) := by decide +kernel
theorem dX9_placePiperIfUntold_44 : decode cX9_placePiperIfUntold 44 = .ok (.getfield 52, 3) := by decide +kernel
theorem dX9_placePiperIfUntold_47 : decode cX9_placePiperIfUntold 47 = .ok (.iconst 0, 1) := by decide +kernel
theorem dX9_placePiperIfUntold_48 : decode cX9_placePiperIfUntold 48 = .ok (.invokestatic 74, 3) := by decide +kernel
theorem dX9_placePiperIfUntold_51 : decode cX9_placePiperIfUntold 51 = .ok (.putfield 52, 3) := by decide +kernel
theorem dX9_placePiperIfUntold_54 : decode cX9_placePiperIfUntold 54 = .ok (.return_, 1) := by decide +kernel
theorem dX10_init_0 : decode cX10_init 0 = .ok (.aload_n 0, 1) := by decide +kernel
theorem dX10_init_1 : decode cX10_init 1 = .ok (.invokespecial 1, 3) := by decide +kernel
theorem dX10_init_4 : decode cX10_init 4 = .ok (.aload_n 0, 1) := by decide +kernel
theorem dX10_init_5 : decode cX10_init 5 = .ok (.new 7, 3) := by decide +kernel
theorem dX10_init_8 : decode cX10_init 8 = .ok (.dup, 1) := by decide +kernel
theorem dX10_init_9 : decode cX10_init 9 = .ok (.invokespecial 9, 3) := by decide +kernel
theorem dX10_init_12 : decode cX10_init 12 = .ok (.putfield 10, 3) := by decide +kernel
theorem dX10_init_15 : decode cX10_init 15 = .ok (.aload_n 0, 1) := by decide +kernel
theorem dX10_init_16 : decode cX10_init 16 = .ok (.new 16, 3) := by decide +kernel
theorem dX10_init_19 : decode cX10_init 19 = .ok (.dup, 1) := by decide +kernel
theorem dX10_init_20 : decode cX10_init 20 = .ok (.invokespecial 18, 3) := by decide +kernel
theorem dX10_init_23 : decode cX10_init 23 = .ok (.putfield 19, 3) := by decide +kernel
theorem dX10_init_26 : decode cX10_init 26 = .ok (.aload_n 0, 1) := by decide +kernel
theorem dX10_init_27 : decode cX10_init 27 = .ok (.new 16, 3) := by decide +kernel
theorem dX10_init_30 : decode cX10_init 30 = .ok (.dup, 1) := by decide +kernel
theorem dX10_init_31 : decode cX10_init 31 = .ok (.invokespecial 18, 3) := by decide +kernel
theorem dX10_init_34 : decode cX10_init 34 = .ok (.putfield 23, 3) := by decide +kernel
theorem dX10_init_37 : decode cX10_init 37 = .ok (.aload_n 0, 1) := by decide +kernel
theorem dX10_init_38 : decode cX10_init 38 = .ok (.new 26, 3) := by decide +kernel
theorem dX10_init_41 : decode cX10_init 41 = .ok (.dup, 1) := by decide +kernel
theorem dX10_init_42 : decode cX10_init 42 = .ok (.invokespecial 28, 3) := by decide +kernel
theorem dX10_init_45 : decode cX10_init 45 = .ok (.putfield 29, 3) := by decide +kernel
theorem dX10_init_48 : decode cX10_init 48 = .ok (.aload_n 0, 1) := by decide +kernel
theorem dX10_init_49 : decode cX10_init 49 = .ok (.new 26, 3) := by decide +kernel
theorem dX10_init_52 : decode cX10_init 52 = .ok (.dup, 1) := by decide +kernel
theorem dX10_init_53 : decode cX10_init 53 = .ok (.invokespecial 28, 3) := by decide +kernel
theorem dX10_init_56 : decode cX10_init 56 = .ok (.putfield 33, 3) := by decide +kernel
theorem dX10_init_59 : decode cX10_init 59 = .ok (.aload_n 0, 1) := by decide +kernel
theorem dX10_init_60 : decode cX10_init 60 = .ok (.new 36, 3) := by decide +kernel
theorem dX10_init_63 : decode cX10_init 63 = .ok (.dup, 1) := by decide +kernel
theorem dX10_init_64 : decode cX10_init 64 = .ok (.aload_n 0, 1) := by decide +kernel
theorem dX10_init_65 : decode cX10_init 65 = .ok (.getfield 19, 3) := by decide +kernel
theorem dX10_init_68 : decode cX10_init 68 = .ok (.aload_n 0, 1) := by decide +kernel
theorem dX10_init_69 : decode cX10_init 69 = .ok (.getfield 29, 3) := by decide +kernel
theorem dX10_init_72 : decode cX10_init 72 = .ok (.invokespecial 38, 3) := by decide +kernel
theorem dX10_init_75 : decode cX10_init 75 = .ok (.putfield 41, 3) := by decide +kernel
theorem dX10_init_78 : decode cX10_init 78 = .ok (.aload_n 0, 1) := by decide +kernel
theorem dX10_init_79 : decode cX10_init 79 = .ok (.new 36, 3) := by decide +kernel
theorem dX10_init_82 : decode cX10_init 82 = .ok (.dup, 1) := by decide +kernel
theorem dX10_init_83 : decode cX10_init 83 = .ok (.aload_n 0, 1) := by decide +kernel
theorem dX10_init_84 : decode cX10_init 84 = .ok (.getfield 19, 3) := by decide +kernel
theorem dX10_init_87 : decode cX10_init 87 = .ok (.aload_n 0, 1) := by decide +kernel
theorem dX10_init_88 : decode cX10_init 88 = .ok (.getfield 29, 3) := by decide +kernel
theorem dX10_init_91 : decode cX10_init 91 = .ok (.invokespecial 38, 3) := by decide +kernel
theorem dX10_init_94 : decode cX10_init 94 = .ok (.putfield 45, 3) := by decide +kernel
theorem dX10_init_97 : decode cX10_init 97 = .ok (.aload_n 0, 1) := by decide +kernel
theorem dX10_init_98 : decode cX10_init 98 = .ok (.new 36, 3) := by decide +kernel
theorem dX10_init_101 : decode cX10_init 101 = .ok (.dup, 1) := by decide +kernel
theorem dX10_init_102 : decode cX10_init 102 = .ok (.aload_n 0, 1) := by decide +kernel
theorem dX10_init_103 : decode cX10_init 103 = .ok (.getfield 19, 3) := by decide +kernel
theorem dX10_init_106 : decode cX10_init 106 = .ok (.aload_n 0, 1) := by decide +kernel
theorem dX10_init_107 : decode cX10_init 107 = .ok (.getfield 33, 3) := by decide +kernel
theorem dX10_init_110 : decode cX10_init 110 = .ok (.invokespecial 38, 3) := by decide +kernel
theorem dX10_init_113 : decode cX10_init 113 = .ok (.putfield 48, 3) := by decide +kernel
theorem dX10_init_116 : decode cX10_init 116 = .ok (.aload_n 0, 1) := by decide +kernel
theorem dX10_init_117 : decode cX10_init 117 = .ok (.new 51, 3) := by decide +kernel
theorem dX10_init_120 : decode cX10_init 120 = .ok (.dup, 1) := by decide +kernel
theorem dX10_init_121 : decode cX10_init 121 = .ok (.invokespecial 53, 3) := by decide +kernel
theorem dX10_init_124 : decode cX10_init 124 = .ok (.putfield 54, 3) := by decide +kernel
theorem dX10_init_127 : decode cX10_init 127 = .ok (.aload_n 0, 1) := by decide +kernel
theorem dX10_init_128 : decode cX10_init 128 = .ok (.new 58, 3) := by decide +kernel
theorem dX10_init_131 : decode cX10_init 131 = .ok (.dup, 1) := by decide +kernel
theorem dX10_init_132 : decode cX10_init 132 = .ok (.invokespecial 60, 3) := by decide +kernel
theorem dX10_init_135 : decode cX10_init 135 = .ok (.putfield 61, 3) := by decide +kernel
theorem dX10_init_138 : decode cX10_init 138 = .ok (.aload_n 0, 1) := by decide +kernel
theorem dX10_init_139 : decode cX10_init 139 = .ok (.new 65, 3) := by decide +kernel
theorem dX10_init_142 : decode cX10_init 142 = .ok (.dup, 1) := by decide +kernel
theorem dX10_init_143 : decode cX10_init 143 = .ok (.invokespecial 67, 3) := by decide +kernel
theorem dX10_init_146 : decode cX10_init 146 = .ok (.putfield 68, 3) := by decide +kernel
theorem dX10_init_149 : decode cX10_init 149 = .ok (.aload_n 0, 1) := by decide +kernel
theorem dX10_init_150 : decode cX10_init 150 = .ok (.new 72, 3) := by decide +kernel
theorem dX10_init_153 : decode cX10_init 153 = .ok (.dup, 1) := by decide +kernel
theorem dX10_init_154 : decode cX10_init 154 = .ok (.aload_n 0, 1) := by decide +kernel
theorem dX10_init_155 : decode cX10_init 155 = .ok (.getfield 19, 3) := by decide +kernel
theorem dX10_init_158 : decode cX10_init 158 = .ok (.aload_n 0, 1) := by decide +kernel
theorem dX10_init_159 : decode cX10_init 159 = .ok (.getfield 29, 3) := by decide +kernel
theorem dX10_init_162 : decode cX10_init 162 = .ok (.aload_n 0, 1) := by decide +kernel
theorem dX10_init_163 : decode cX10_init 163 = .ok (.getfield 68, 3) := by decide +kernel
theorem dX10_init_166 : decode cX10_init 166 = .ok (.invokespecial 74, 3) := by decide +kernel
theorem dX10_init_169 : decode cX10_init 169 = .ok (.putfield 77, 3) := by decide +kernel
theorem dX10_init_172 : decode cX10_init 172 = .ok (.aload_n 0, 1) := by decide +kernel
theorem dX10_init_173 : decode cX10_init 173 = .ok (.new 81, 3) := by decide +kernel
theorem dX10_init_176 : decode cX10_init 176 = .ok (.dup, 1) := by decide +kernel
theorem dX10_init_177 : decode cX10_init 177 = .ok (.aload_n 0, 1) := by decide +kernel
theorem dX10_init_178 : decode cX10_init 178 = .ok (.getfield 19, 3) := by decide +kernel
theorem dX10_init_181 : decode cX10_init 181 = .ok (.aload_n 0, 1) := by decide +kernel
theorem dX10_init_182 : decode cX10_init 182 = .ok (.getfield 29, 3) := by decide +kernel
theorem dX10_init_185 : decode cX10_init 185 = .ok (.aload_n 0, 1) := by decide +kernel
theorem dX10_init_186 : decode cX10_init 186 = .ok (.getfield 61, 3) := by decide +kernel
theorem dX10_init_189 : decode cX10_init 189 = .ok (.aload_n 0, 1) := by decide +kernel
theorem dX10_init_190 : decode cX10_init 190 = .ok (.getfield 68, 3) := by decide +kernel
theorem dX10_init_193 : decode cX10_init 193 = .ok (.invokespecial 83, 3) := by decide +kernel
theorem dX10_init_196 : decode cX10_init 196 = .ok (.putfield 86, 3) := by decide +kernel
theorem dX10_init_199 : decode cX10_init 199 = .ok (.aload_n 0, 1) := by decide +kernel
theorem dX10_init_200 : decode cX10_init 200 = .ok (.iconst 2, 1) := by decide +kernel
theorem dX10_init_201 : decode cX10_init 201 = .ok (.anewarray 90, 3) := by decide +kernel
theorem dX10_init_204 : decode cX10_init 204 = .ok (.putfield 92, 3) := by decide +kernel
theorem dX10_init_207 : decode cX10_init 207 = .ok (.iconst 0, 1) := by decide +kernel
theorem dX10_init_208 : decode cX10_init 208 = .ok (.istore_n 1, 1) := by decide +kernel
theorem dX10_init_209 : decode cX10_init 209 = .ok (.iload_n 1, 1) := by decide +kernel
theorem dX10_init_210 : decode cX10_init 210 = .ok (.iconst 2, 1) := by decide +kernel
theorem dX10_init_211 : decode cX10_init 211 = .ok (.if_icmp .ge 30, 3) := by decide +kernel
theorem dX10_init_214 : decode cX10_init 214 = .ok (.aload_n 0, 1) := by decide +kernel
theorem dX10_init_215 : decode cX10_init 215 = .ok (.getfield 92, 3) := by decide +kernel
theorem dX10_init_218 : decode cX10_init 218 = .ok (.iload_n 1, 1) := by decide +kernel
theorem dX10_init_219 : decode cX10_init 219 = .ok (.new 90, 3) := by decide +kernel
theorem dX10_init_222 : decode cX10_init 222 = .ok (.dup, 1) := by decide +kernel
theorem dX10_init_223 : decode cX10_init 223 = .ok (.aload_n 0, 1) := by decide +kernel
theorem dX10_init_224 : decode cX10_init 224 = .ok (.getfield 19, 3) := by decide +kernel
theorem dX10_init_227 : decode cX10_init 227 = .ok (.aload_n 0, 1) := by decide +kernel
theorem dX10_init_228 : decode cX10_init 228 = .ok (.getfield 29, 3) := by decide +kernel
theorem dX10_init_231 : decode cX10_init 231 = .ok (.invokespecial 96, 3) := by decide +kernel
theorem dX10_init_234 : decode cX10_init 234 = .ok (.aastore, 1) := by decide +kernel
theorem dX10_init_235 : decode cX10_init 235 = .ok (.iinc 1 1, 3) := by decide +kernel
theorem dX10_init_238 : decode cX10_init 238 = .ok (.goto (-29), 3) := by decide +kernel
theorem dX10_init_241 : decode cX10_init 241 = .ok (.aload_n 0, 1) := by decide +kernel
theorem dX10_init_242 : decode cX10_init 242 = .ok (.invokevirtual 97, 3) := by decide +kernel
theorem dX10_init_245 : decode cX10_init 245 = .ok (.return_, 1) := by decide +kernel
theorem dX10_feed_0 : decode cX10_feed 0 = .ok (.iload_n 1, 1) := by decide +kernel
theorem dX10_feed_1 : decode cX10_feed 1 = .ok (.iconst 1, 1) := by decide +kernel
theorem dX10_feed_2 : decode cX10_feed 2 = .ok (.if_icmp .lt 9, 3) := by decide +kernel
theorem dX10_feed_5 : decode cX10_feed 5 = .ok (.iload_n 1, 1) := by decide +kernel
theorem dX10_feed_6 : decode cX10_feed 6 = .ok (.bipush 8, 2) := by decide +kernel
theorem dX10_feed_8 : decode cX10_feed 8 = .ok (.if_icmp .le 6, 3) := by decide +kernel
theorem dX10_feed_11 : decode cX10_feed 11 = .ok (.ldc 100, 2) := by decide +kernel
theorem dX10_feed_13 : decode cX10_feed 13 = .ok (.ireturn, 1) := by decide +kernel
theorem dX10_feed_14 : decode cX10_feed 14 = .ok (.aload_n 0, 1) := by decide +kernel
theorem dX10_feed_15 : decode cX10_feed 15 = .ok (.getfield 10, 3) := by decide +kernel
theorem dX10_feed_18 : decode cX10_feed 18 = .ok (.getfield 101, 3) := by decide +kernel
theorem dX10_feed_21 : decode cX10_feed 21 = .ok (.iload_n 1, 1) := by decide +kernel
theorem dX10_feed_22 : decode cX10_feed 22 = .ok (.iadd, 1) := by decide +kernel
theorem dX10_feed_23 : decode cX10_feed 23 = .ok (.sipush 500, 3) := by decide +kernel
theorem dX10_feed_26 : decode cX10_feed 26 = .ok (.if_icmp .le 6, 3) := by decide +kernel
theorem dX10_feed_29 : decode cX10_feed 29 = .ok (.ldc 105, 2) := by decide +kernel
theorem dX10_feed_31 : decode cX10_feed 31 = .ok (.ireturn, 1) := by decide +kernel
theorem dX10_feed_32 : decode cX10_feed 32 = .ok (.iload_n 1, 1) := by decide +kernel
theorem dX10_feed_33 : decode cX10_feed 33 = .ok (.iconst 1, 1) := by decide +kernel
theorem dX10_feed_34 : decode cX10_feed 34 = .ok (.isub, 1) := by decide +kernel
theorem dX10_feed_35 : decode cX10_feed 35 = .ok (.istore 4, 2) := by decide +kernel
theorem dX10_feed_37 : decode cX10_feed 37 = .ok (.iload 4, 2) := by decide +kernel
theorem dX10_feed_39 : decode cX10_feed 39 = .ok (.ifCond .lt 28, 3) := by decide +kernel
theorem dX10_feed_42 : decode cX10_feed 42 = .ok (.aload_n 0, 1) := by decide +kernel
theorem dX10_feed_43 : decode cX10_feed 43 = .ok (.getfield 10, 3) := by decide +kernel
theorem dX10_feed_46 : decode cX10_feed 46 = .ok (.lload_n 2, 1) := by decide +kernel
theorem dX10_feed_47 : decode cX10_feed 47 = .ok (.bipush 8, 2) := by decide +kernel
theorem dX10_feed_49 : decode cX10_feed 49 = .ok (.iload 4, 2) := by decide +kernel
theorem dX10_feed_51 : decode cX10_feed 51 = .ok (.imul, 1) := by decide +kernel
theorem dX10_feed_52 : decode cX10_feed 52 = .ok (.lushr, 1) := by decide +kernel
theorem dX10_feed_53 : decode cX10_feed 53 = .ok (.l2i, 1) := by decide +kernel
theorem dX10_feed_54 : decode cX10_feed 54 = .ok (.sipush 255, 3) := by decide +kernel
theorem dX10_feed_57 : decode cX10_feed 57 = .ok (.iand, 1) := by decide +kernel
theorem dX10_feed_58 : decode cX10_feed 58 = .ok (.invokevirtual 106, 3) := by decide +kernel
theorem dX10_feed_61 : decode cX10_feed 61 = .ok (.iinc 4 (-1), 3) := by decide +kernel
theorem dX10_feed_64 : decode cX10_feed 64 = .ok (.goto (-27), 3) := by decide +kernel
theorem dX10_feed_67 : decode cX10_feed 67 = .ok (.aload_n 0, 1) := by decide +kernel
theorem dX10_feed_68 : decode cX10_feed 68 = .ok (.getfield 10, 3) := by decide +kernel
theorem dX10_feed_71 : decode cX10_feed 71 = .ok (.getfield 101, 3) := by decide +kernel
theorem dX10_feed_74 : decode cX10_feed 74 = .ok (.ireturn, 1) := by decide +kernel
theorem dX10_town_0 : decode cX10_town 0 = .ok (.aload_n 0, 1) := by decide +kernel
theorem dX10_town_1 : decode cX10_town 1 = .ok (.getfield 10, 3) := by decide +kernel
theorem dX10_town_4 : decode cX10_town 4 = .ok (.aload_n 0, 1) := by decide +kernel
theorem dX10_town_5 : decode cX10_town 5 = .ok (.getfield 23, 3) := by decide +kernel
theorem dX10_town_8 : decode cX10_town 8 = .ok (.invokevirtual 110, 3) := by decide +kernel
theorem dX10_town_11 : decode cX10_town 11 = .ok (.istore_n 1, 1) := by decide +kernel
theorem dX10_town_12 : decode cX10_town 12 = .ok (.iload_n 1, 1) := by decide +kernel
theorem dX10_town_13 : decode cX10_town 13 = .ok (.ifCond .eq 19, 3) := by decide +kernel
theorem dX10_town_16 : decode cX10_town 16 = .ok (.aload_n 0, 1) := by decide +kernel
theorem dX10_town_17 : decode cX10_town 17 = .ok (.getfield 10, 3) := by decide +kernel
theorem dX10_town_20 : decode cX10_town 20 = .ok (.aload_n 0, 1) := by decide +kernel
theorem dX10_town_21 : decode cX10_town 21 = .ok (.getfield 19, 3) := by decide +kernel
theorem dX10_town_24 : decode cX10_town 24 = .ok (.invokevirtual 110, 3) := by decide +kernel
theorem dX10_town_27 : decode cX10_town 27 = .ok (.pop, 1) := by decide +kernel
theorem dX10_town_28 : decode cX10_town 28 = .ok (.aload_n 0, 1) := by decide +kernel
theorem dX10_town_29 : decode cX10_town 29 = .ok (.invokevirtual 97, 3) := by decide +kernel
theorem dX10_town_32 : decode cX10_town 32 = .ok (.aload_n 0, 1) := by decide +kernel
theorem dX10_town_33 : decode cX10_town 33 = .ok (.getfield 10, 3) := by decide +kernel
theorem dX10_town_36 : decode cX10_town 36 = .ok (.iconst 0, 1) := by decide +kernel
theorem dX10_town_37 : decode cX10_town 37 = .ok (.putfield 101, 3) := by decide +kernel
theorem dX10_town_40 : decode cX10_town 40 = .ok (.iload_n 1, 1) := by decide +kernel
theorem dX10_town_41 : decode cX10_town 41 = .ok (.ifCond .eq 13, 3) := by decide +kernel
theorem dX10_town_44 : decode cX10_town 44 = .ok (.aload_n 0, 1) := by decide +kernel
theorem dX10_town_45 : decode cX10_town 45 = .ok (.getfield 29, 3) := by decide +kernel
theorem dX10_town_48 : decode cX10_town 48 = .ok (.getfield 114, 3) := by decide +kernel
theorem dX10_town_51 : decode cX10_town 51 = .ok (.goto 13, 3) := by decide +kernel
theorem dX10_town_54 : decode cX10_town 54 = .ok (.bipush (-10), 2) := by decide +kernel
theorem dX10_town_56 : decode cX10_town 56 = .ok (.aload_n 0, 1) := by decide +kernel
theorem dX10_town_57 : decode cX10_town 57 = .ok (.getfield 10, 3) := by decide +kernel
theorem dX10_town_60 : decode cX10_town 60 = .ok (.getfield 117, 3) := by decide +kernel
theorem dX10_town_63 : decode cX10_town 63 = .ok (.isub, 1) := by decide +kernel
theorem dX10_town_64 : decode cX10_town 64 = .ok (.ireturn, 1) := by decide +kernel
theorem dX10_fault_0 : decode cX10_fault 0 = .ok (.aload_n 0, 1) := by decide +kernel
theorem dX10_fault_1 : decode cX10_fault 1 = .ok (.getfield 10, 3) := by decide +kernel
theorem dX10_fault_4 : decode cX10_fault 4 = .ok (.getfield 120, 3) := by decide +kernel
theorem dX10_fault_7 : decode cX10_fault 7 = .ok (.ireturn, 1) := by decide +kernel
theorem dX10_told_0 : decode cX10_told 0 = .ok (.iload_n 1, 1) := by decide +kernel
theorem dX10_told_1 : decode cX10_told 1 = .ok (.tableswitch 196 0 12 #[67, 75, 83, 91, 99, 107, 115, 144, 154, 164, 172, 180, 188], 67) := by decide +kernel
theorem dX10_told_68 : decode cX10_told 68 = .ok (.aload_n 0, 1) := by decide +kernel
theorem dX10_told_69 : decode cX10_told 69 = .ok (.getfield 19, 3) := by decide +kernel
theorem dX10_told_72 : decode cX10_told 72 = .ok (.getfield 123, 3) := by decide +kernel
theorem dX10_told_75 : decode cX10_told 75 = .ok (.ireturn, 1) := by decide +kernel
theorem dX10_told_76 : decode cX10_told 76 = .ok (.aload_n 0, 1) := by decide +kernel
theorem dX10_told_77 : decode cX10_told 77 = .ok (.getfield 19, 3) := by decide +kernel
theorem dX10_told_80 : decode cX10_told 80 = .ok (.getfield 126, 3) := by decide +kernel
theorem dX10_told_83 : decode cX10_told 83 = .ok (.ireturn, 1) := by decide +kernel
theorem dX10_told_84 : decode cX10_told 84 = .ok (.aload_n 0, 1) := by decide +kernel
theorem dX10_told_85 : decode cX10_told 85 = .ok (.getfield 19, 3) := by decide +kernel
theorem dX10_told_88 : decode cX10_told 88 = .ok (.getfield 129, 3) := by decide +kernel
theorem dX10_told_91 : decode cX10_told 91 = .ok (.ireturn, 1) := by decide +kernel
theorem dX10_told_92 : decode cX10_told 92 = .ok (.aload_n 0, 1) := by decide +kernel
theorem dX10_told_93 : decode cX10_told 93 = .ok (.getfield 19, 3) := by decide +kernel
theorem dX10_told_96 : decode cX10_told 96 = .ok (.getfield 132, 3) := by decide +kernel
theorem dX10_told_99 : decode cX10_told 99 = .ok (.ireturn, 1) := by decide +kernel
theorem dX10_told_100 : decode cX10_told 100 = .ok (.aload_n 0, 1) := by decide +kernel
theorem dX10_told_101 : decode cX10_told 101 = .ok (.getfield 10, 3) := by decide +kernel
theorem dX10_told_104 : decode cX10_told 104 = .ok (.getfield 101, 3) := by decide +kernel
theorem dX10_told_107 : decode cX10_told 107 = .ok (.ireturn, 1) := by decide +kernel
theorem dX10_told_108 : decode cX10_told 108 = .ok (.aload_n 0, 1) := by decide +kernel
theorem dX10_told_109 : decode cX10_told 109 = .ok (.getfield 41, 3) := by decide +kernel
theorem dX10_told_112 : decode cX10_told 112 = .ok (.getfield 135, 3) := by decide +kernel
theorem dX10_told_115 : decode cX10_told 115 = .ok (.ireturn, 1) := by decide +kernel
theorem dX10_told_116 : decode cX10_told 116 = .ok (.aload_n 0, 1) := by decide +kernel
theorem dX10_told_117 : decode cX10_told 117 = .ok (.getfield 29, 3) := by decide +kernel
theorem dX10_told_120 : decode cX10_told 120 = .ok (.getfield 114, 3) := by decide +kernel
theorem dX10_told_123 : decode cX10_told 123 = .ok (.ifCond .ne 7, 3) := by decide +kernel
theorem dX10_told_126 : decode cX10_told 126 = .ok (.iconst 0, 1) := by decide +kernel
theorem dX10_told_127 : decode cX10_told 127 = .ok (.goto 17, 3) := by decide +kernel
theorem dX10_told_130 : decode cX10_told 130 = .ok (.aload_n 0, 1) := by decide +kernel
theorem dX10_told_131 : decode cX10_told 131 = .ok (.getfield 29, 3) := by decide +kernel
theorem dX10_told_134 : decode cX10_told 134 = .ok (.aload_n 0, 1) := by decide +kernel
theorem dX10_told_135 : decode cX10_told 135 = .ok (.getfield 41, 3) := by decide +kernel
theorem dX10_told_138 : decode cX10_told 138 = .ok (.getfield 138, 3) := by decide +kernel
theorem dX10_told_141 : decode cX10_told 141 = .ok (.invokevirtual 141, 3) := by decide +kernel
theorem dX10_told_144 : decode cX10_told 144 = .ok (.ireturn, 1) := by decide +kernel
theorem dX10_told_145 : decode cX10_told 145 = .ok (.aload_n 0, 1) := by decide +kernel
theorem dX10_told_146 : decode cX10_told 146 = .ok (.getfield 41, 3) := by decide +kernel
theorem dX10_told_149 : decode cX10_told 149 = .ok (.iconst (-1), 1) := by decide +kernel
theorem dX10_told_150 : decode cX10_told 150 = .ok (.iconst 1, 1) := by decide +kernel
theorem dX10_told_151 : decode cX10_told 151 = .ok (.invokevirtual 145, 3) := by decide +kernel
theorem dX10_told_154 : decode cX10_told 154 = .ok (.ireturn, 1) := by decide +kernel
theorem dX10_told_155 : decode cX10_told 155 = .ok (.aload_n 0, 1) := by decide +kernel
theorem dX10_told_156 : decode cX10_told 156 = .ok (.getfield 41, 3) := by decide +kernel
theorem dX10_told_159 : decode cX10_told 159 = .ok (.iconst (-1), 1) := by decide +kernel
theorem dX10_told_160 : decode cX10_told 160 = .ok (.iconst 2, 1) := by decide +kernel
theorem dX10_told_161 : decode cX10_told 161 = .ok (.invokevirtual 145, 3) := by decide +kernel
theorem dX10_told_164 : decode cX10_told 164 = .ok (.ireturn, 1) := by decide +kernel
theorem dX10_told_165 : decode cX10_told 165 = .ok (.aload_n 0, 1) := by decide +kernel
theorem dX10_told_166 : decode cX10_told 166 = .ok (.getfield 41, 3) := by decide +kernel
theorem dX10_told_169 : decode cX10_told 169 = .ok (.invokevirtual 149, 3) := by decide +kernel
theorem dX10_told_172 : decode cX10_told 172 = .ok (.ireturn, 1) := by decide +kernel
theorem dX10_told_173 : decode cX10_told 173 = .ok (.aload_n 0, 1) := by decide +kernel
theorem dX10_told_174 : decode cX10_told 174 = .ok (.getfield 41, 3) := by decide +kernel
theorem dX10_told_177 : decode cX10_told 177 = .ok (.invokevirtual 153, 3) := by decide +kernel
theorem dX10_told_180 : decode cX10_told 180 = .ok (.ireturn, 1) := by decide +kernel
theorem dX10_told_181 : decode cX10_told 181 = .ok (.aload_n 0, 1) := by decide +kernel
theorem dX10_told_182 : decode cX10_told 182 = .ok (.getfield 54, 3) := by decide +kernel
theorem dX10_told_185 : decode cX10_told 185 = .ok (.getfield 156, 3) := by decide +kernel
theorem dX10_told_188 : decode cX10_told 188 = .ok (.ireturn, 1) := by decide +kernel
theorem dX10_told_189 : decode cX10_told 189 = .ok (.aload_n 0, 1) := by decide +kernel
theorem dX10_told_190 : decode cX10_told 190 = .ok (.getfield 61, 3) := by decide +kernel
theorem dX10_told_193 : decode cX10_told 193 = .ok (.getfield 157, 3) := by decide +kernel
theorem dX10_told_196 : decode cX10_told 196 = .ok (.ireturn, 1) := by decide +kernel
theorem dX10_told_197 : decode cX10_told 197 = .ok (.ldc 100, 2) := by decide +kernel
theorem dX10_told_199 : decode cX10_told 199 = .ok (.ireturn, 1) := by decide +kernel
theorem dX10_cell_0 : decode cX10_cell 0 = .ok (.aload_n 0, 1) := by decide +kernel
theorem dX10_cell_1 : decode cX10_cell 1 = .ok (.getfield 29, 3) := by decide +kernel
theorem dX10_cell_4 : decode cX10_cell 4 = .ok (.iload_n 1, 1) := by decide +kernel
theorem dX10_cell_5 : decode cX10_cell 5 = .ok (.iload_n 2, 1) := by decide +kernel
theorem dX10_cell_6 : decode cX10_cell 6 = .ok (.invokevirtual 158, 3) := by decide +kernel
theorem dX10_cell_9 : decode cX10_cell 9 = .ok (.istore_n 3, 1) := by decide +kernel
theorem dX10_cell_10 : decode cX10_cell 10 = .ok (.iload_n 3, 1) := by decide +kernel
theorem dX10_cell_11 : decode cX10_cell 11 = .ok (.iconst (-1), 1) := by decide +kernel
theorem dX10_cell_12 : decode cX10_cell 12 = .ok (.if_icmp .ne 8, 3) := by decide +kernel
theorem dX10_cell_15 : decode cX10_cell 15 = .ok (.ldc 161, 2) := by decide +kernel
theorem dX10_cell_17 : decode cX10_cell 17 = .ok (.goto 11, 3) := by decide +kernel
theorem dX10_cell_20 : decode cX10_cell 20 = .ok (.aload_n 0, 1) := by decide +kernel
theorem dX10_cell_21 : decode cX10_cell 21 = .ok (.getfield 29, 3) := by decide +kernel
theorem dX10_cell_24 : decode cX10_cell 24 = .ok (.iload_n 3, 1) := by decide +kernel
theorem dX10_cell_25 : decode cX10_cell 25 = .ok (.invokevirtual 162, 3) := by decide +kernel
theorem dX10_cell_28 : decode cX10_cell 28 = .ok (.ireturn, 1) := by decide +kernel
theorem dX10_crowd_0 : decode cX10_crowd 0 = .ok (.aload_n 0, 1) := by decide +kernel
theorem dX10_crowd_1 : decode cX10_crowd 1 = .ok (.iload_n 1, 1) := by decide +kernel
theorem dX10_crowd_2 : decode cX10_crowd 2 = .ok (.invokevirtual 165, 3) := by decide +kernel
theorem dX10_crowd_5 : decode cX10_crowd 5 = .ok (.ifCond .ne 6, 3) := by decide +kernel
theorem dX10_crowd_8 : decode cX10_crowd 8 = .ok (.ldc 161, 2) := by decide +kernel
theorem dX10_crowd_10 : decode cX10_crowd 10 = .ok (.ireturn, 1) := by decide +kernel
theorem dX10_crowd_11 : decode cX10_crowd 11 = .ok (.iload_n 2, 1) := by decide +kernel
theorem dX10_crowd_12 : decode cX10_crowd 12 = .ok (.tableswitch 127 0 6 #[44, 54, 64, 74, 84, 101, 118], 44) := by decide +kernel
theorem dX10_crowd_56 : decode cX10_crowd 56 = .ok (.aload_n 0, 1) := by decide +kernel
theorem dX10_crowd_57 : decode cX10_crowd 57 = .ok (.getfield 19, 3) := by decide +kernel
theorem dX10_crowd_60 : decode cX10_crowd 60 = .ok (.getfield 169, 3) := by decide +kernel
theorem dX10_crowd_63 : decode cX10_crowd 63 = .ok (.iload_n 1, 1) := by decide +kernel
theorem dX10_crowd_64 : decode cX10_crowd 64 = .ok (.iaload, 1) := by decide +kernel
theorem dX10_crowd_65 : decode cX10_crowd 65 = .ok (.ireturn, 1) := by decide +kernel
theorem dX10_crowd_66 : decode cX10_crowd 66 = .ok (.aload_n 0, 1) := by decide +kernel
theorem dX10_crowd_67 : decode cX10_crowd 67 = .ok (.getfield 19, 3) := by decide +kernel
theorem dX10_crowd_70 : decode cX10_crowd 70 = .ok (.getfield 173, 3) := by decide +kernel
theorem dX10_crowd_73 : decode cX10_crowd 73 = .ok (.iload_n 1, 1) := by decide +kernel
theorem dX10_crowd_74 : decode cX10_crowd 74 = .ok (.iaload, 1) := by decide +kernel
theorem dX10_crowd_75 : decode cX10_crowd 75 = .ok (.ireturn, 1) := by decide +kernel
theorem dX10_crowd_76 : decode cX10_crowd 76 = .ok (.aload_n 0, 1) := by decide +kernel
theorem dX10_crowd_77 : decode cX10_crowd 77 = .ok (.getfield 19, 3) := by decide +kernel
theorem dX10_crowd_80 : decode cX10_crowd 80 = .ok (.getfield 175, 3) := by decide +kernel
theorem dX10_crowd_83 : decode cX10_crowd 83 = .ok (.iload_n 1, 1) := by decide +kernel
theorem dX10_crowd_84 : decode cX10_crowd 84 = .ok (.iaload, 1) := by decide +kernel
theorem dX10_crowd_85 : decode cX10_crowd 85 = .ok (.ireturn, 1) := by decide +kernel
theorem dX10_crowd_86 : decode cX10_crowd 86 = .ok (.aload_n 0, 1) := by decide +kernel
theorem dX10_crowd_87 : decode cX10_crowd 87 = .ok (.getfield 19, 3) := by decide +kernel
theorem dX10_crowd_90 : decode cX10_crowd 90 = .ok (.getfield 178, 3) := by decide +kernel
theorem dX10_crowd_93 : decode cX10_crowd 93 = .ok (.iload_n 1, 1) := by decide +kernel
theorem dX10_crowd_94 : decode cX10_crowd 94 = .ok (.iaload, 1) := by decide +kernel
theorem dX10_crowd_95 : decode cX10_crowd 95 = .ok (.ireturn, 1) := by decide +kernel
theorem dX10_crowd_96 : decode cX10_crowd 96 = .ok (.aload_n 0, 1) := by decide +kernel
theorem dX10_crowd_97 : decode cX10_crowd 97 = .ok (.getfield 29, 3) := by decide +kernel
theorem dX10_crowd_100 : decode cX10_crowd 100 = .ok (.aload_n 0, 1) := by decide +kernel
theorem dX10_crowd_101 : decode cX10_crowd 101 = .ok (.getfield 41, 3) := by decide +kernel
theorem dX10_crowd_104 : decode cX10_crowd 104 = .ok (.getfield 181, 3) := by decide +kernel
theorem dX10_crowd_107 : decode cX10_crowd 107 = .ok (.iload_n 1, 1) := by decide +kernel
theorem dX10_crowd_108 : decode cX10_crowd 108 = .ok (.iaload, 1) := by decide +kernel
theorem dX10_crowd_109 : decode cX10_crowd 109 = .ok (.invokevirtual 141, 3) := by decide +kernel
theorem dX10_crowd_112 : decode cX10_crowd 112 = .ok (.ireturn, 1) := by decide +kernel
theorem dX10_crowd_113 : decode cX10_crowd 113 = .ok (.aload_n 0, 1) := by decide +kernel
theorem dX10_crowd_114 : decode cX10_crowd 114 = .ok (.getfield 29, 3) := by decide +kernel
theorem dX10_crowd_117 : decode cX10_crowd 117 = .ok (.aload_n 0, 1) := by decide +kernel
theorem dX10_crowd_118 : decode cX10_crowd 118 = .ok (.getfield 41, 3) := by decide +kernel
theorem dX10_crowd_121 : decode cX10_crowd 121 = .ok (.getfield 184, 3) := by decide +kernel
theorem dX10_crowd_124 : decode cX10_crowd 124 = .ok (.iload_n 1, 1) := by decide +kernel
theorem dX10_crowd_125 : decode cX10_crowd 125 = .ok (.iaload, 1) := by decide +kernel
theorem dX10_crowd_126 : decode cX10_crowd 126 = .ok (.invokevirtual 141, 3) := by decide +kernel
theorem dX10_crowd_129 : decode cX10_crowd 129 = .ok (.ireturn, 1) := by decide +kernel
theorem dX10_crowd_130 : decode cX10_crowd 130 = .ok (.aload_n 0, 1) := by decide +kernel
theorem dX10_crowd_131 : decode cX10_crowd 131 = .ok (.getfield 41, 3) := by decide +kernel
theorem dX10_crowd_134 : decode cX10_crowd 134 = .ok (.iload_n 1, 1) := by decide +kernel
theorem dX10_crowd_135 : decode cX10_crowd 135 = .ok (.invokevirtual 187, 3) := by decide +kernel
theorem dX10_crowd_138 : decode cX10_crowd 138 = .ok (.ireturn, 1) := by decide +kernel
theorem dX10_crowd_139 : decode cX10_crowd 139 = .ok (.ldc 100, 2) := by decide +kernel
theorem dX10_crowd_141 : decode cX10_crowd 141 = .ok (.ireturn, 1) := by decide +kernel
theorem dX10_tune_0 : decode cX10_tune 0 = .ok (.aload_n 0, 1) := by decide +kernel
theorem dX10_tune_1 : decode cX10_tune 1 = .ok (.iload_n 1, 1) := by decide +kernel
theorem dX10_tune_2 : decode cX10_tune 2 = .ok (.invokevirtual 190, 3) := by decide +kernel
theorem dX10_tune_5 : decode cX10_tune 5 = .ok (.ifCond .ne 6, 3) := by decide +kernel
theorem dX10_tune_8 : decode cX10_tune 8 = .ok (.ldc 161, 2) := by decide +kernel
theorem dX10_tune_10 : decode cX10_tune 10 = .ok (.ireturn, 1) := by decide +kernel
theorem dX10_tune_11 : decode cX10_tune 11 = .ok (.iload_n 2, 1) := by decide +kernel
theorem dX10_tune_12 : decode cX10_tune 12 = .ok (.tableswitch 57 0 2 #[28, 38, 48], 28) := by decide +kernel
theorem dX10_tune_40 : decode cX10_tune 40 = .ok (.aload_n 0, 1) := by decide +kernel
theorem dX10_tune_41 : decode cX10_tune 41 = .ok (.getfield 19, 3) := by decide +kernel
theorem dX10_tune_44 : decode cX10_tune 44 = .ok (.getfield 193, 3) := by decide +kernel
theorem dX10_tune_47 : decode cX10_tune 47 = .ok (.iload_n 1, 1) := by decide +kernel
theorem dX10_tune_48 : decode cX10_tune 48 = .ok (.iaload, 1) := by decide +kernel
theorem dX10_tune_49 : decode cX10_tune 49 = .ok (.ireturn, 1) := by decide +kernel
theorem dX10_tune_50 : decode cX10_tune 50 = .ok (.aload_n 0, 1) := by decide +kernel
theorem dX10_tune_51 : decode cX10_tune 51 = .ok (.getfield 19, 3) := by decide +kernel
theorem dX10_tune_54 : decode cX10_tune 54 = .ok (.getfield 196, 3) := by decide +kernel
theorem dX10_tune_57 : decode cX10_tune 57 = .ok (.iload_n 1, 1) := by decide +kernel
theorem dX10_tune_58 : decode cX10_tune 58 = .ok (.iaload, 1) := by decide +kernel
theorem dX10_tune_59 : decode cX10_tune 59 = .ok (.ireturn, 1) := by decide +kernel
theorem dX10_tune_60 : decode cX10_tune 60 = .ok (.aload_n 0, 1) := by decide +kernel
theorem dX10_tune_61 : decode cX10_tune 61 = .ok (.getfield 41, 3) := by decide +kernel
theorem dX10_tune_64 : decode cX10_tune 64 = .ok (.iload_n 1, 1) := by decide +kernel
theorem dX10_tune_65 : decode cX10_tune 65 = .ok (.invokevirtual 199, 3) := by decide +kernel
theorem dX10_tune_68 : decode cX10_tune 68 = .ok (.ireturn, 1) := by decide +kernel
theorem dX10_tune_69 : decode cX10_tune 69 = .ok (.ldc 100, 2) := by decide +kernel
theorem dX10_tune_71 : decode cX10_tune 71 = .ok (.ireturn, 1) := by decide +kernel
theorem dX10_far_0 : decode cX10_far 0 = .ok (.aload_n 0, 1) := by decide +kernel
theorem dX10_far_1 : decode cX10_far 1 = .ok (.getfield 29, 3) := by decide +kernel
theorem dX10_far_4 : decode cX10_far 4 = .ok (.iload_n 1, 1) := by decide +kernel
theorem dX10_far_5 : decode cX10_far 5 = .ok (.iload_n 2, 1) := by decide +kernel
theorem dX10_far_6 : decode cX10_far 6 = .ok (.invokevirtual 158, 3) := by decide +kernel
theorem dX10_far_9 : decode cX10_far 9 = .ok (.istore 5, 2) := by decide +kernel
theorem dX10_far_11 : decode cX10_far 11 = .ok (.aload_n 0, 1) := by decide +kernel
theorem dX10_far_12 : decode cX10_far 12 = .ok (.getfield 29, 3) := by decide +kernel
theorem dX10_far_15 : decode cX10_far 15 = .ok (.iload_n 3, 1) := by decide +kernel
theorem dX10_far_16 : decode cX10_far 16 = .ok (.iload 4, 2) := by decide +kernel
theorem dX10_far_18 : decode cX10_far 18 = .ok (.invokevirtual 158, 3) := by decide +kernel
theorem dX10_far_21 : decode cX10_far 21 = .ok (.istore 6, 2) := by decide +kernel
theorem dX10_far_23 : decode cX10_far 23 = .ok (.iload 5, 2) := by decide +kernel
theorem dX10_far_25 : decode cX10_far 25 = .ok (.iconst (-1), 1) := by decide +kernel
theorem dX10_far_26 : decode cX10_far 26 = .ok (.if_icmp .eq 9, 3) := by decide +kernel
theorem dX10_far_29 : decode cX10_far 29 = .ok (.iload 6, 2) := by decide +kernel
theorem dX10_far_31 : decode cX10_far 31 = .ok (.iconst (-1), 1) := by decide +kernel
theorem dX10_far_32 : decode cX10_far 32 = .ok (.if_icmp .ne 8, 3) := by decide +kernel
theorem dX10_far_35 : decode cX10_far 35 = .ok (.ldc 161, 2) := by decide +kernel
theorem dX10_far_37 : decode cX10_far 37 = .ok (.goto 14, 3) := by decide +kernel
theorem dX10_far_40 : decode cX10_far 40 = .ok (.aload_n 0, 1) := by decide +kernel
theorem dX10_far_41 : decode cX10_far 41 = .ok (.getfield 29, 3) := by decide +kernel
theorem dX10_far_44 : decode cX10_far 44 = .ok (.iload 5, 2) := by decide +kernel
theorem dX10_far_46 : decode cX10_far 46 = .ok (.iload 6, 2) := by decide +kernel
theorem dX10_far_48 : decode cX10_far 48 = .ok (.invokevirtual 202, 3) := by decide +kernel
theorem dX10_far_51 : decode cX10_far 51 = .ok (.ireturn, 1) := by decide +kernel
theorem dX10_minute_0 : decode cX10_minute 0 = .ok (.aload_n 0, 1) := by decide +kernel
theorem dX10_minute_1 : decode cX10_minute 1 = .ok (.iload_n 2, 1) := by decide +kernel
theorem dX10_minute_2 : decode cX10_minute 2 = .ok (.invokevirtual 205, 3) := by decide +kernel
theorem dX10_minute_5 : decode cX10_minute 5 = .ok (.ifCond .ne 6, 3) := by decide +kernel
theorem dX10_minute_8 : decode cX10_minute 8 = .ok (.ldc 161, 2) := by decide +kernel
theorem dX10_minute_10 : decode cX10_minute 10 = .ok (.ireturn, 1) := by decide +kernel
theorem dX10_minute_11 : decode cX10_minute 11 = .ok (.iload_n 1, 1) := by decide +kernel
theorem dX10_minute_12 : decode cX10_minute 12 = .ok (.invokestatic 208, 3) := by decide +kernel
theorem dX10_minute_15 : decode cX10_minute 15 = .ok (.ifCond .ne 6, 3) := by decide +kernel
theorem dX10_minute_18 : decode cX10_minute 18 = .ok (.ldc 100, 2) := by decide +kernel
theorem dX10_minute_20 : decode cX10_minute 20 = .ok (.ireturn, 1) := by decide +kernel
theorem dX10_minute_21 : decode cX10_minute 21 = .ok (.aload_n 0, 1) := by decide +kernel
theorem dX10_minute_22 : decode cX10_minute 22 = .ok (.getfield 41, 3) := by decide +kernel
theorem dX10_minute_25 : decode cX10_minute 25 = .ok (.iload_n 1, 1) := by decide +kernel
theorem dX10_minute_26 : decode cX10_minute 26 = .ok (.invokevirtual 211, 3) := by decide +kernel
theorem dX10_minute_29 : decode cX10_minute 29 = .ok (.ifCond .ne 6, 3) := by decide +kernel
theorem dX10_minute_32 : decode cX10_minute 32 = .ok (.ldc 214, 2) := by decide +kernel
theorem dX10_minute_34 : decode cX10_minute 34 = .ok (.ireturn, 1) := by decide +kernel
theorem dX10_minute_35 : decode cX10_minute 35 = .ok (.aload_n 0, 1) := by decide +kernel
theorem dX10_minute_36 : decode cX10_minute 36 = .ok (.getfield 41, 3) := by decide +kernel
theorem dX10_minute_39 : decode cX10_minute 39 = .ok (.iload_n 1, 1) := by decide +kernel
theorem dX10_minute_40 : decode cX10_minute 40 = .ok (.iload_n 2, 1) := by decide +kernel
theorem dX10_minute_41 : decode cX10_minute 41 = .ok (.invokevirtual 215, 3) := by decide +kernel
theorem dX10_minute_44 : decode cX10_minute 44 = .ok (.aload_n 0, 1) := by decide +kernel
theorem dX10_minute_45 : decode cX10_minute 45 = .ok (.getfield 77, 3) := by decide +kernel
theorem dX10_minute_48 : decode cX10_minute 48 = .ok (.invokevirtual 219, 3) := by decide +kernel
theorem dX10_minute_51 : decode cX10_minute 51 = .ok (.aload_n 0, 1) := by decide +kernel
theorem dX10_minute_52 : decode cX10_minute 52 = .ok (.getfield 29, 3) := by decide +kernel
theorem dX10_minute_55 : decode cX10_minute 55 = .ok (.aload_n 0, 1) := by decide +kernel
theorem dX10_minute_56 : decode cX10_minute 56 = .ok (.getfield 41, 3) := by decide +kernel
theorem dX10_minute_59 : decode cX10_minute 59 = .ok (.getfield 138, 3) := by decide +kernel
theorem dX10_minute_62 : decode cX10_minute 62 = .ok (.invokevirtual 141, 3) := by decide +kernel
theorem dX10_minute_65 : decode cX10_minute 65 = .ok (.ireturn, 1) := by decide +kernel
theorem dX10_wall_0 : decode cX10_wall 0 = .ok (.aload_n 0, 1) := by decide +kernel
theorem dX10_wall_1 : decode cX10_wall 1 = .ok (.getfield 29, 3) := by decide +kernel
theorem dX10_wall_4 : decode cX10_wall 4 = .ok (.iload_n 1, 1) := by decide +kernel
theorem dX10_wall_5 : decode cX10_wall 5 = .ok (.iload_n 2, 1) := by decide +kernel
theorem dX10_wall_6 : decode cX10_wall 6 = .ok (.invokevirtual 158, 3) := by decide +kernel
theorem dX10_wall_9 : decode cX10_wall 9 = .ok (.istore 4, 2) := by decide +kernel
theorem dX10_wall_11 : decode cX10_wall 11 = .ok (.iload 4, 2) := by decide +kernel
theorem dX10_wall_13 : decode cX10_wall 13 = .ok (.iconst (-1), 1) := by decide +kernel
theorem dX10_wall_14 : decode cX10_wall 14 = .ok (.if_icmp .ne 6, 3) := by decide +kernel
theorem dX10_wall_17 : decode cX10_wall 17 = .ok (.ldc 161, 2) := by decide +kernel
theorem dX10_wall_19 : decode cX10_wall 19 = .ok (.ireturn, 1) := by decide +kernel
theorem dX10_wall_20 : decode cX10_wall 20 = .ok (.aload_n 0, 1) := by decide +kernel
theorem dX10_wall_21 : decode cX10_wall 21 = .ok (.getfield 29, 3) := by decide +kernel
theorem dX10_wall_24 : decode cX10_wall 24 = .ok (.iload 4, 2) := by decide +kernel
theorem dX10_wall_26 : decode cX10_wall 26 = .ok (.invokevirtual 162, 3) := by decide +kernel
theorem dX10_wall_29 : decode cX10_wall 29 = .ok (.istore 5, 2) := by decide +kernel
theorem dX10_wall_31 : decode cX10_wall 31 = .ok (.iload 5, 2) := by decide +kernel
theorem dX10_wall_33 : decode cX10_wall 33 = .ok (.iconst 2, 1) := by decide +kernel
theorem dX10_wall_34 : decode cX10_wall 34 = .ok (.if_icmp .eq 21, 3) := by decide +kernel
theorem dX10_wall_37 : decode cX10_wall 37 = .ok (.iload 5, 2) := by decide +kernel
theorem dX10_wall_39 : decode cX10_wall 39 = .ok (.iconst 3, 1) := by decide +kernel
theorem dX10_wall_40 : decode cX10_wall 40 = .ok (.if_icmp .eq 15, 3) := by decide +kernel
theorem dX10_wall_43 : decode cX10_wall 43 = .ok (.aload_n 0, 1) := by decide +kernel
theorem dX10_wall_44 : decode cX10_wall 44 = .ok (.getfield 41, 3) := by decide +kernel
theorem dX10_wall_47 : decode cX10_wall 47 = .ok (.iload 4, 2) := by decide +kernel
theorem dX10_wall_49 : decode cX10_wall 49 = .ok (.invokevirtual 222, 3) := by decide +kernel
theorem dX10_wall_52 : decode cX10_wall 52 = .ok (.ifCond .eq 6, 3) := by decide +kernel
theorem dX10_wall_55 : decode cX10_wall 55 = .ok (.ldc 214, 2) := by decide +kernel
theorem dX10_wall_57 : decode cX10_wall 57 = .ok (.ireturn, 1) := by decide +kernel
theorem dX10_wall_58 : decode cX10_wall 58 = .ok (.iload_n 3, 1) := by decide +kernel
theorem dX10_wall_59 : decode cX10_wall 59 = .ok (.iload 5, 2) := by decide +kernel
theorem dX10_wall_61 : decode cX10_wall 61 = .ok (.iconst 1, 1) := by decide +kernel
theorem dX10_wall_62 : decode cX10_wall 62 = .ok (.if_icmp .ne 7, 3) := by decide +kernel
theorem dX10_wall_65 : decode cX10_wall 65 = .ok (.iconst 1, 1) := by decide +kernel
theorem dX10_wall_66 : decode cX10_wall 66 = .ok (.goto 4, 3) := by decide +kernel
theorem dX10_wall_69 : decode cX10_wall 69 = .ok (.iconst 0, 1) := by decide +kernel
theorem dX10_wall_70 : decode cX10_wall 70 = .ok (.if_icmp .eq 28, 3) := by decide +kernel
theorem dX10_wall_73 : decode cX10_wall 73 = .ok (.aload_n 0, 1) := by decide +kernel
theorem dX10_wall_74 : decode cX10_wall 74 = .ok (.getfield 29, 3) := by decide +kernel
theorem dX10_wall_77 : decode cX10_wall 77 = .ok (.iload 4, 2) := by decide +kernel
theorem dX10_wall_79 : decode cX10_wall 79 = .ok (.iload_n 3, 1) := by decide +kernel
theorem dX10_wall_80 : decode cX10_wall 80 = .ok (.ifCond .eq 7, 3) := by decide +kernel
theorem dX10_wall_83 : decode cX10_wall 83 = .ok (.iconst 1, 1) := by decide +kernel
theorem dX10_wall_84 : decode cX10_wall 84 = .ok (.goto 4, 3) := by decide +kernel
theorem dX10_wall_87 : decode cX10_wall 87 = .ok (.iconst 0, 1) := by decide +kernel
theorem dX10_wall_88 : decode cX10_wall 88 = .ok (.invokevirtual 225, 3) := by decide +kernel
theorem dX10_wall_91 : decode cX10_wall 91 = .ok (.aload_n 0, 1) := by decide +kernel
theorem dX10_wall_92 : decode cX10_wall 92 = .ok (.getfield 77, 3) := by decide +kernel
theorem dX10_wall_95 : decode cX10_wall 95 = .ok (.invokevirtual 219, 3) := by decide +kernel
theorem dX10_wall_98 : decode cX10_wall 98 = .ok (.iload 5, 2) := by decide +kernel
theorem dX10_wall_100 : decode cX10_wall 100 = .ok (.iconst 1, 1) := by decide +kernel
theorem dX10_wall_101 : decode cX10_wall 101 = .ok (.if_icmp .ne 7, 3) := by decide +kernel
theorem dX10_wall_104 : decode cX10_wall 104 = .ok (.iconst 1, 1) := by decide +kernel
theorem dX10_wall_105 : decode cX10_wall 105 = .ok (.goto 4, 3) := by decide +kernel
theorem dX10_wall_108 : decode cX10_wall 108 = .ok (.iconst 0, 1) := by decide +kernel
theorem dX10_wall_109 : decode cX10_wall 109 = .ok (.ireturn, 1) := by decide +kernel
theorem dX10_drift_0 : decode cX10_drift 0 = .ok (.iload_n 1, 1) := by decide +kernel
theorem dX10_drift_1 : decode cX10_drift 1 = .ok (.iconst 1, 1) := by decide +kernel
theorem dX10_drift_2 : decode cX10_drift 2 = .ok (.if_icmp .lt 9, 3) := by decide +kernel
theorem dX10_drift_5 : decode cX10_drift 5 = .ok (.iload_n 1, 1) := by decide +kernel
theorem dX10_drift_6 : decode cX10_drift 6 = .ok (.bipush 99, 2) := by decide +kernel
theorem dX10_drift_8 : decode cX10_drift 8 = .ok (.if_icmp .le 6, 3) := by decide +kernel
theorem dX10_drift_11 : decode cX10_drift 11 = .ok (.ldc 100, 2) := by decide +kernel
theorem dX10_drift_13 : decode cX10_drift 13 = .ok (.ireturn, 1) := by decide +kernel
theorem dX10_drift_14 : decode cX10_drift 14 = .ok (.aload_n 0, 1) := by decide +kernel
theorem dX10_drift_15 : decode cX10_drift 15 = .ok (.getfield 29, 3) := by decide +kernel
theorem dX10_drift_18 : decode cX10_drift 18 = .ok (.getfield 114, 3) := by decide +kernel
theorem dX10_drift_21 : decode cX10_drift 21 = .ok (.ifCond .ne 6, 3) := by decide +kernel
theorem dX10_drift_24 : decode cX10_drift 24 = .ok (.ldc 214, 2) := by decide +kernel
theorem dX10_drift_26 : decode cX10_drift 26 = .ok (.ireturn, 1) := by decide +kernel
theorem dX10_drift_27 : decode cX10_drift 27 = .ok (.iconst 0, 1) := by decide +kernel
theorem dX10_drift_28 : decode cX10_drift 28 = .ok (.istore_n 2, 1) := by decide +kernel
theorem dX10_drift_29 : decode cX10_drift 29 = .ok (.iload_n 2, 1) := by decide +kernel
theorem dX10_drift_30 : decode cX10_drift 30 = .ok (.iload_n 1, 1) := by decide +kernel
theorem dX10_drift_31 : decode cX10_drift 31 = .ok (.if_icmp .ge 71, 3) := by decide +kernel
theorem dX10_drift_34 : decode cX10_drift 34 = .ok (.aload_n 0, 1) := by decide +kernel
theorem dX10_drift_35 : decode cX10_drift 35 = .ok (.iconst 5, 1) := by decide +kernel
theorem dX10_drift_36 : decode cX10_drift 36 = .ok (.invokevirtual 228, 3) := by decide +kernel
theorem dX10_drift_39 : decode cX10_drift 39 = .ok (.istore_n 3, 1) := by decide +kernel
theorem dX10_drift_40 : decode cX10_drift 40 = .ok (.aload_n 0, 1) := by decide +kernel
theorem dX10_drift_41 : decode cX10_drift 41 = .ok (.aload_n 0, 1) := by decide +kernel
theorem dX10_drift_42 : decode cX10_drift 42 = .ok (.getfield 19, 3) := by decide +kernel
theorem dX10_drift_45 : decode cX10_drift 45 = .ok (.getfield 132, 3) := by decide +kernel
theorem dX10_drift_48 : decode cX10_drift 48 = .ok (.iconst 1, 1) := by decide +kernel
theorem dX10_drift_49 : decode cX10_drift 49 = .ok (.iadd, 1) := by decide +kernel
theorem dX10_drift_50 : decode cX10_drift 50 = .ok (.invokevirtual 228, 3) := by decide +kernel
theorem dX10_drift_53 : decode cX10_drift 53 = .ok (.istore 4, 2) := by decide +kernel
theorem dX10_drift_55 : decode cX10_drift 55 = .ok (.aload_n 0, 1) := by decide +kernel
theorem dX10_drift_56 : decode cX10_drift 56 = .ok (.getfield 41, 3) := by decide +kernel
theorem dX10_drift_59 : decode cX10_drift 59 = .ok (.aload_n 0, 1) := by decide +kernel
theorem dX10_drift_60 : decode cX10_drift 60 = .ok (.getfield 41, 3) := by decide +kernel
theorem dX10_drift_63 : decode cX10_drift 63 = .ok (.iload_n 3, 1) := by decide +kernel
theorem dX10_drift_64 : decode cX10_drift 64 = .ok (.invokevirtual 211, 3) := by decide +kernel
theorem dX10_drift_67 : decode cX10_drift 67 = .ok (.ifCond .eq 7, 3) := by decide +kernel
theorem dX10_drift_70 : decode cX10_drift 70 = .ok (.iload_n 3, 1) := by decide +kernel
theorem dX10_drift_71 : decode cX10_drift 71 = .ok (.goto 4, 3) := by decide +kernel
theorem dX10_drift_74 : decode cX10_drift 74 = .ok (.iconst 0, 1) := by decide +kernel
theorem dX10_drift_75 : decode cX10_drift 75 = .ok (.iload 4, 2) := by decide +kernel
theorem dX10_drift_77 : decode cX10_drift 77 = .ok (.aload_n 0, 1) := by decide +kernel
theorem dX10_drift_78 : decode cX10_drift 78 = .ok (.getfield 19, 3) := by decide +kernel
theorem dX10_drift_81 : decode cX10_drift 81 = .ok (.getfield 132, 3) := by decide +kernel
theorem dX10_drift_84 : decode cX10_drift 84 = .ok (.if_icmp .ge 8, 3) := by decide +kernel
theorem dX10_drift_87 : decode cX10_drift 87 = .ok (.iload 4, 2) := by decide +kernel
theorem dX10_drift_89 : decode cX10_drift 89 = .ok (.goto 4, 3) := by decide +kernel
theorem dX10_drift_92 : decode cX10_drift 92 = .ok (.iconst (-1), 1) := by decide +kernel
theorem dX10_drift_93 : decode cX10_drift 93 = .ok (.invokevirtual 215, 3) := by decide +kernel
theorem dX10_drift_96 : decode cX10_drift 96 = .ok (.iinc 2 1, 3) := by decide +kernel
theorem dX10_drift_99 : decode cX10_drift 99 = .ok (.goto (-70), 3) := by decide +kernel
theorem dX10_drift_102 : decode cX10_drift 102 = .ok (.aload_n 0, 1) := by decide +kernel
theorem dX10_drift_103 : decode cX10_drift 103 = .ok (.getfield 77, 3) := by decide +kernel
theorem dX10_drift_106 : decode cX10_drift 106 = .ok (.invokevirtual 219, 3) := by decide +kernel
theorem dX10_drift_109 : decode cX10_drift 109 = .ok (.aload_n 0, 1) := by decide +kernel
theorem dX10_drift_110 : decode cX10_drift 110 = .ok (.getfield 41, 3) := by decide +kernel
theorem dX10_drift_113 : decode cX10_drift 113 = .ok (.invokevirtual 149, 3) := by decide +kernel
theorem dX10_drift_116 : decode cX10_drift 116 = .ok (.ireturn, 1) := by decide +kernel
theorem dX10_plan_0 : decode cX10_plan 0 = .ok (.aload_n 0, 1) := by decide +kernel
theorem dX10_plan_1 : decode cX10_plan 1 = .ok (.iload_n 2, 1) := by decide +kernel
theorem dX10_plan_2 : decode cX10_plan 2 = .ok (.invokevirtual 205, 3) := by decide +kernel
theorem dX10_plan_5 : decode cX10_plan 5 = .ok (.ifCond .ne 6, 3) := by decide +kernel
theorem dX10_plan_8 : decode cX10_plan 8 = .ok (.ldc 161, 2) := by decide +kernel
theorem dX10_plan_10 : decode cX10_plan 10 = .ok (.ireturn, 1) := by decide +kernel
theorem dX10_plan_11 : decode cX10_plan 11 = .ok (.iload_n 1, 1) := by decide +kernel
theorem dX10_plan_12 : decode cX10_plan 12 = .ok (.invokestatic 208, 3) := by decide +kernel
theorem dX10_plan_15 : decode cX10_plan 15 = .ok (.ifCond .ne 6, 3) := by decide +kernel
theorem dX10_plan_18 : decode cX10_plan 18 = .ok (.ldc 100, 2) := by decide +kernel
theorem dX10_plan_20 : decode cX10_plan 20 = .ok (.ireturn, 1) := by decide +kernel
theorem dX10_plan_21 : decode cX10_plan 21 = .ok (.aload_n 0, 1) := by decide +kernel
theorem dX10_plan_22 : decode cX10_plan 22 = .ok (.getfield 54, 3) := by decide +kernel
theorem dX10_plan_25 : decode cX10_plan 25 = .ok (.getfield 156, 3) := by decide +kernel
theorem dX10_plan_28 : decode cX10_plan 28 = .ok (.bipush 30, 2) := by decide +kernel
theorem dX10_plan_30 : decode cX10_plan 30 = .ok (.if_icmp .lt 6, 3) := by decide +kernel
theorem dX10_plan_33 : decode cX10_plan 33 = .ok (.ldc 105, 2) := by decide +kernel
theorem dX10_plan_35 : decode cX10_plan 35 = .ok (.ireturn, 1) := by decide +kernel
theorem dX10_plan_36 : decode cX10_plan 36 = .ok (.aload_n 0, 1) := by decide +kernel
theorem dX10_plan_37 : decode cX10_plan 37 = .ok (.getfield 54, 3) := by decide +kernel
theorem dX10_plan_40 : decode cX10_plan 40 = .ok (.iload_n 1, 1) := by decide +kernel
theorem dX10_plan_41 : decode cX10_plan 41 = .ok (.iload_n 2, 1) := by decide +kernel
theorem dX10_plan_42 : decode cX10_plan 42 = .ok (.invokevirtual 231, 3) := by decide +kernel
theorem dX10_plan_45 : decode cX10_plan 45 = .ok (.aload_n 0, 1) := by decide +kernel
theorem dX10_plan_46 : decode cX10_plan 46 = .ok (.getfield 54, 3) := by decide +kernel
theorem dX10_plan_49 : decode cX10_plan 49 = .ok (.getfield 156, 3) := by decide +kernel
theorem dX10_plan_52 : decode cX10_plan 52 = .ok (.ireturn, 1) := by decide +kernel
theorem dX10_drop_0 : decode cX10_drop 0 = .ok (.aload_n 0, 1) := by decide +kernel
theorem dX10_drop_1 : decode cX10_drop 1 = .ok (.getfield 54, 3) := by decide +kernel
theorem dX10_drop_4 : decode cX10_drop 4 = .ok (.getfield 156, 3) := by decide +kernel
theorem dX10_drop_7 : decode cX10_drop 7 = .ok (.istore_n 1, 1) := by decide +kernel
theorem dX10_drop_8 : decode cX10_drop 8 = .ok (.aload_n 0, 1) := by decide +kernel
theorem dX10_drop_9 : decode cX10_drop 9 = .ok (.getfield 54, 3) := by decide +kernel
theorem dX10_drop_12 : decode cX10_drop 12 = .ok (.iconst 0, 1) := by decide +kernel
theorem dX10_drop_13 : decode cX10_drop 13 = .ok (.putfield 156, 3) := by decide +kernel
theorem dX10_drop_16 : decode cX10_drop 16 = .ok (.iload_n 1, 1) := by decide +kernel
theorem dX10_drop_17 : decode cX10_drop 17 = .ok (.ireturn, 1) := by decide +kernel
theorem dX10_judge_0 : decode cX10_judge 0 = .ok (.aload_n 0, 1) := by decide +kernel
theorem dX10_judge_1 : decode cX10_judge 1 = .ok (.bipush 30, 2) := by decide +kernel
theorem dX10_judge_3 : decode cX10_judge 3 = .ok (.invokevirtual 233, 3) := by decide +kernel
theorem dX10_judge_6 : decode cX10_judge 6 = .ok (.istore_n 1, 1) := by decide +kernel
theorem dX10_judge_7 : decode cX10_judge 7 = .ok (.iload_n 1, 1) := by decide +kernel
theorem dX10_judge_8 : decode cX10_judge 8 = .ok (.aload_n 0, 1) := by decide +kernel
theorem dX10_judge_9 : decode cX10_judge 9 = .ok (.getfield 54, 3) := by decide +kernel
theorem dX10_judge_12 : decode cX10_judge 12 = .ok (.getfield 156, 3) := by decide +kernel
theorem dX10_judge_15 : decode cX10_judge 15 = .ok (.if_icmp .ge 7, 3) := by decide +kernel
theorem dX10_judge_18 : decode cX10_judge 18 = .ok (.iload_n 1, 1) := by decide +kernel
theorem dX10_judge_19 : decode cX10_judge 19 = .ok (.goto 4, 3) := by decide +kernel
theorem dX10_judge_22 : decode cX10_judge 22 = .ok (.iconst (-1), 1) := by decide +kernel
theorem dX10_judge_23 : decode cX10_judge 23 = .ok (.ireturn, 1) := by decide +kernel
theorem dX10_tried_0 : decode cX10_tried 0 = .ok (.iload_n 1, 1) := by decide +kernel
theorem dX10_tried_1 : decode cX10_tried 1 = .ok (.iconst (-1), 1) := by decide +kernel
theorem dX10_tried_2 : decode cX10_tried 2 = .ok (.if_icmp .eq 13, 3) := by decide +kernel
theorem dX10_tried_5 : decode cX10_tried 5 = .ok (.iload_n 1, 1) := by decide +kernel
theorem dX10_tried_6 : decode cX10_tried 6 = .ok (.invokestatic 236, 3) := by decide +kernel
theorem dX10_tried_9 : decode cX10_tried 9 = .ok (.ifCond .ne 6, 3) := by decide +kernel
theorem dX10_tried_12 : decode cX10_tried 12 = .ok (.ldc 161, 2) := by decide +kernel
theorem dX10_tried_14 : decode cX10_tried 14 = .ok (.ireturn, 1) := by decide +kernel
theorem dX10_tried_15 : decode cX10_tried 15 = .ok (.iload_n 1, 1) := by decide +kernel
theorem dX10_tried_16 : decode cX10_tried 16 = .ok (.iconst (-1), 1) := by decide +kernel
theorem dX10_tried_17 : decode cX10_tried 17 = .ok (.if_icmp .eq 15, 3) := by decide +kernel
theorem dX10_tried_20 : decode cX10_tried 20 = .ok (.iload_n 2, 1) := by decide +kernel
theorem dX10_tried_21 : decode cX10_tried 21 = .ok (.ifCond .lt 8, 3) := by decide +kernel
theorem dX10_tried_24 : decode cX10_tried 24 = .ok (.iload_n 2, 1) := by decide +kernel
theorem dX10_tried_25 : decode cX10_tried 25 = .ok (.iconst 1, 1) := by decide +kernel
theorem dX10_tried_26 : decode cX10_tried 26 = .ok (.if_icmp .le 6, 3) := by decide +kernel
theorem dX10_tried_29 : decode cX10_tried 29 = .ok (.ldc 100, 2) := by decide +kernel
theorem dX10_tried_31 : decode cX10_tried 31 = .ok (.ireturn, 1) := by decide +kernel
theorem dX10_tried_32 : decode cX10_tried 32 = .ok (.aload_n 0, 1) := by decide +kernel
theorem dX10_tried_33 : decode cX10_tried 33 = .ok (.bipush 30, 2) := by decide +kernel
theorem dX10_tried_35 : decode cX10_tried 35 = .ok (.invokevirtual 233, 3) := by decide +kernel
theorem dX10_tried_38 : decode cX10_tried 38 = .ok (.pop, 1) := by decide +kernel
theorem dX10_tried_39 : decode cX10_tried 39 = .ok (.iload_n 1, 1) := by decide +kernel
theorem dX10_tried_40 : decode cX10_tried 40 = .ok (.iconst (-1), 1) := by decide +kernel
theorem dX10_tried_41 : decode cX10_tried 41 = .ok (.if_icmp .ne 13, 3) := by decide +kernel
theorem dX10_tried_44 : decode cX10_tried 44 = .ok (.aload_n 0, 1) := by decide +kernel
theorem dX10_tried_45 : decode cX10_tried 45 = .ok (.getfield 45, 3) := by decide +kernel
theorem dX10_tried_48 : decode cX10_tried 48 = .ok (.invokevirtual 153, 3) := by decide +kernel
theorem dX10_tried_51 : decode cX10_tried 51 = .ok (.goto 20, 3) := by decide +kernel
theorem dX10_tried_54 : decode cX10_tried 54 = .ok (.aload_n 0, 1) := by decide +kernel
theorem dX10_tried_55 : decode cX10_tried 55 = .ok (.getfield 45, 3) := by decide +kernel
theorem dX10_tried_58 : decode cX10_tried 58 = .ok (.iload_n 1, 1) := by decide +kernel
theorem dX10_tried_59 : decode cX10_tried 59 = .ok (.iload_n 2, 1) := by decide +kernel
theorem dX10_tried_60 : decode cX10_tried 60 = .ok (.ifCond .ne 7, 3) := by decide +kernel
theorem dX10_tried_63 : decode cX10_tried 63 = .ok (.iconst 1, 1) := by decide +kernel
theorem dX10_tried_64 : decode cX10_tried 64 = .ok (.goto 4, 3) := by decide +kernel
theorem dX10_tried_67 : decode cX10_tried 67 = .ok (.iconst 2, 1) := by decide +kernel
theorem dX10_tried_68 : decode cX10_tried 68 = .ok (.invokevirtual 145, 3) := by decide +kernel
theorem dX10_tried_71 : decode cX10_tried 71 = .ok (.ireturn, 1) := by decide +kernel
theorem dX10_where_0 : decode cX10_where 0 = .ok (.aload_n 0, 1) := by decide +kernel
theorem dX10_where_1 : decode cX10_where 1 = .ok (.iload_n 1, 1) := by decide +kernel
theorem dX10_where_2 : decode cX10_where 2 = .ok (.invokevirtual 165, 3) := by decide +kernel
theorem dX10_where_5 : decode cX10_where 5 = .ok (.ifCond .ne 6, 3) := by decide +kernel
theorem dX10_where_8 : decode cX10_where 8 = .ok (.ldc 161, 2) := by decide +kernel
theorem dX10_where_10 : decode cX10_where 10 = .ok (.ireturn, 1) := by decide +kernel
theorem dX10_where_11 : decode cX10_where 11 = .ok (.iload_n 2, 1) := by decide +kernel
theorem dX10_where_12 : decode cX10_where 12 = .ok (.ifCond .lt 9, 3) := by decide +kernel
theorem dX10_where_15 : decode cX10_where 15 = .ok (.iload_n 2, 1) := by decide +kernel
theorem dX10_where_16 : decode cX10_where 16 = .ok (.bipush 30, 2) := by decide +kernel
theorem dX10_where_18 : decode cX10_where 18 = .ok (.if_icmp .le 6, 3) := by decide +kernel
theorem dX10_where_21 : decode cX10_where 21 = .ok (.ldc 100, 2) := by decide +kernel
theorem dX10_where_23 : decode cX10_where 23 = .ok (.ireturn, 1) := by decide +kernel
theorem dX10_where_24 : decode cX10_where 24 = .ok (.aload_n 0, 1) := by decide +kernel
theorem dX10_where_25 : decode cX10_where 25 = .ok (.iload_n 2, 1) := by decide +kernel
theorem dX10_where_26 : decode cX10_where 26 = .ok (.invokevirtual 233, 3) := by decide +kernel
theorem dX10_where_29 : decode cX10_where 29 = .ok (.pop, 1) := by decide +kernel
theorem dX10_where_30 : decode cX10_where 30 = .ok (.aload_n 0, 1) := by decide +kernel
theorem dX10_where_31 : decode cX10_where 31 = .ok (.getfield 29, 3) := by decide +kernel
theorem dX10_where_34 : decode cX10_where 34 = .ok (.aload_n 0, 1) := by decide +kernel
theorem dX10_where_35 : decode cX10_where 35 = .ok (.getfield 45, 3) := by decide +kernel
theorem dX10_where_38 : decode cX10_where 38 = .ok (.getfield 181, 3) := by decide +kernel
theorem dX10_where_41 : decode cX10_where 41 = .ok (.iload_n 1, 1) := by decide +kernel
theorem dX10_where_42 : decode cX10_where 42 = .ok (.iaload, 1) := by decide +kernel
theorem dX10_where_43 : decode cX10_where 43 = .ok (.invokevirtual 141, 3) := by decide +kernel
theorem dX10_where_46 : decode cX10_where 46 = .ok (.ireturn, 1) := by decide +kernel
theorem dX10_soonest_0 : decode cX10_soonest 0 = .ok (.iload_n 1, 1) := by decide +kernel
theorem dX10_soonest_1 : decode cX10_soonest 1 = .ok (.invokestatic 236, 3) := by decide +kernel
theorem dX10_soonest_4 : decode cX10_soonest 4 = .ok (.ifCond .eq 11, 3) := by decide +kernel
theorem dX10_soonest_7 : decode cX10_soonest 7 = .ok (.aload_n 0, 1) := by decide +kernel
theorem dX10_soonest_8 : decode cX10_soonest 8 = .ok (.iload_n 2, 1) := by decide +kernel
theorem dX10_soonest_9 : decode cX10_soonest 9 = .ok (.invokevirtual 190, 3) := by decide +kernel
theorem dX10_soonest_12 : decode cX10_soonest 12 = .ok (.ifCond .ne 6, 3) := by decide +kernel
theorem dX10_soonest_15 : decode cX10_soonest 15 = .ok (.ldc 161, 2) := by decide +kernel
theorem dX10_soonest_17 : decode cX10_soonest 17 = .ok (.ireturn, 1) := by decide +kernel
theorem dX10_soonest_18 : decode cX10_soonest 18 = .ok (.aload_n 0, 1) := by decide +kernel
theorem dX10_soonest_19 : decode cX10_soonest 19 = .ok (.getfield 77, 3) := by decide +kernel
theorem dX10_soonest_22 : decode cX10_soonest 22 = .ok (.aload_n 0, 1) := by decide +kernel
theorem dX10_soonest_23 : decode cX10_soonest 23 = .ok (.getfield 41, 3) := by decide +kernel
theorem dX10_soonest_26 : decode cX10_soonest 26 = .ok (.iload_n 1, 1) := by decide +kernel
theorem dX10_soonest_27 : decode cX10_soonest 27 = .ok (.iload_n 2, 1) := by decide +kernel
theorem dX10_soonest_28 : decode cX10_soonest 28 = .ok (.invokevirtual 239, 3) := by decide +kernel
theorem dX10_soonest_31 : decode cX10_soonest 31 = .ok (.iload_n 3, 1) := by decide +kernel
theorem dX10_soonest_32 : decode cX10_soonest 32 = .ok (.iconst (-1), 1) := by decide +kernel
theorem dX10_soonest_33 : decode cX10_soonest 33 = .ok (.if_icmp .ne 13, 3) := by decide +kernel
theorem dX10_soonest_36 : decode cX10_soonest 36 = .ok (.aload_n 0, 1) := by decide +kernel
theorem dX10_soonest_37 : decode cX10_soonest 37 = .ok (.getfield 77, 3) := by decide +kernel
theorem dX10_soonest_40 : decode cX10_soonest 40 = .ok (.getfield 243, 3) := by decide +kernel
theorem dX10_soonest_43 : decode cX10_soonest 43 = .ok (.goto 11, 3) := by decide +kernel
theorem dX10_soonest_46 : decode cX10_soonest 46 = .ok (.aload_n 0, 1) := by decide +kernel
theorem dX10_soonest_47 : decode cX10_soonest 47 = .ok (.getfield 77, 3) := by decide +kernel
theorem dX10_soonest_50 : decode cX10_soonest 50 = .ok (.iload_n 3, 1) := by decide +kernel
theorem dX10_soonest_51 : decode cX10_soonest 51 = .ok (.invokevirtual 244, 3) := by decide +kernel
theorem dX10_soonest_54 : decode cX10_soonest 54 = .ok (.ireturn, 1) := by decide +kernel
theorem dX10_bestWall_0 : decode cX10_bestWall 0 = .ok (.iload_n 1, 1) := by decide +kernel
theorem dX10_bestWall_1 : decode cX10_bestWall 1 = .ok (.invokestatic 236, 3) := by decide +kernel
theorem dX10_bestWall_4 : decode cX10_bestWall 4 = .ok (.ifCond .ne 6, 3) := by decide +kernel
theorem dX10_bestWall_7 : decode cX10_bestWall 7 = .ok (.ldc 161, 2) := by decide +kernel
theorem dX10_bestWall_9 : decode cX10_bestWall 9 = .ok (.ireturn, 1) := by decide +kernel
theorem dX10_bestWall_10 : decode cX10_bestWall 10 = .ok (.iload_n 2, 1) := by decide +kernel
theorem dX10_bestWall_11 : decode cX10_bestWall 11 = .ok (.ifCond .lt 8, 3) := by decide +kernel
theorem dX10_bestWall_14 : decode cX10_bestWall 14 = .ok (.iload_n 2, 1) := by decide +kernel
theorem dX10_bestWall_15 : decode cX10_bestWall 15 = .ok (.iconst 1, 1) := by decide +kernel
theorem dX10_bestWall_16 : decode cX10_bestWall 16 = .ok (.if_icmp .le 6, 3) := by decide +kernel
theorem dX10_bestWall_19 : decode cX10_bestWall 19 = .ok (.ldc 100, 2) := by decide +kernel
theorem dX10_bestWall_21 : decode cX10_bestWall 21 = .ok (.ireturn, 1) := by decide +kernel
theorem dX10_bestWall_22 : decode cX10_bestWall 22 = .ok (.iconst (-1), 1) := by decide +kernel
theorem dX10_bestWall_23 : decode cX10_bestWall 23 = .ok (.istore_n 3, 1) := by decide +kernel
theorem dX10_bestWall_24 : decode cX10_bestWall 24 = .ok (.iconst 0, 1) := by decide +kernel
theorem dX10_bestWall_25 : decode cX10_bestWall 25 = .ok (.istore 4, 2) := by decide +kernel
theorem dX10_bestWall_27 : decode cX10_bestWall 27 = .ok (.aload_n 0, 1) := by decide +kernel
theorem dX10_bestWall_28 : decode cX10_bestWall 28 = .ok (.getfield 41, 3) := by decide +kernel
theorem dX10_bestWall_31 : decode cX10_bestWall 31 = .ok (.iload_n 1, 1) := by decide +kernel
theorem dX10_bestWall_32 : decode cX10_bestWall 32 = .ok (.iconst 1, 1) := by decide +kernel
theorem dX10_bestWall_33 : decode cX10_bestWall 33 = .ok (.invokevirtual 145, 3) := by decide +kernel
theorem dX10_bestWall_36 : decode cX10_bestWall 36 = .ok (.istore 5, 2) := by decide +kernel
theorem dX10_bestWall_38 : decode cX10_bestWall 38 = .ok (.aload_n 0, 1) := by decide +kernel
theorem dX10_bestWall_39 : decode cX10_bestWall 39 = .ok (.getfield 33, 3) := by decide +kernel
theorem dX10_bestWall_42 : decode cX10_bestWall 42 = .ok (.aload_n 0, 1) := by decide +kernel
theorem dX10_bestWall_43 : decode cX10_bestWall 43 = .ok (.getfield 29, 3) := by decide +kernel
theorem dX10_bestWall_46 : decode cX10_bestWall 46 = .ok (.invokevirtual 247, 3) := by decide +kernel
theorem dX10_bestWall_49 : decode cX10_bestWall 49 = .ok (.iconst 0, 1) := by decide +kernel
theorem dX10_bestWall_50 : decode cX10_bestWall 50 = .ok (.istore 6, 2) := by decide +kernel
theorem dX10_bestWall_52 : decode cX10_bestWall 52 = .ok (.iload 6, 2) := by decide +kernel
theorem dX10_bestWall_54 : decode cX10_bestWall 54 = .ok (.aload_n 0, 1) := by decide +kernel
theorem dX10_bestWall_55 : decode cX10_bestWall 55 = .ok (.getfield 29, 3) := by decide +kernel
theorem dX10_bestWall_58 : decode cX10_bestWall 58 = .ok (.getfield 114, 3) := by decide +kernel
theorem dX10_bestWall_61 : decode cX10_bestWall 61 = .ok (.if_icmp .ge 73, 3) := by decide +kernel
theorem dX10_bestWall_64 : decode cX10_bestWall 64 = .ok (.iload_n 3, 1) := by decide +kernel
theorem dX10_bestWall_65 : decode cX10_bestWall 65 = .ok (.iconst (-1), 1) := by decide +kernel
theorem dX10_bestWall_66 : decode cX10_bestWall 66 = .ok (.if_icmp .eq 10, 3) := by decide +kernel
theorem dX10_bestWall_69 : decode cX10_bestWall 69 = .ok (.iload 4, 2) := by decide +kernel
theorem dX10_bestWall_71 : decode cX10_bestWall 71 = .ok (.iload 5, 2) := by decide +kernel
theorem dX10_bestWall_73 : decode cX10_bestWall 73 = .ok (.if_icmp .le 61, 3) := by decide +kernel
theorem dX10_bestWall_76 : decode cX10_bestWall 76 = .ok (.aload_n 0, 1) := by decide +kernel
theorem dX10_bestWall_77 : decode cX10_bestWall 77 = .ok (.getfield 29, 3) := by decide +kernel
theorem dX10_bestWall_80 : decode cX10_bestWall 80 = .ok (.iload 6, 2) := by decide +kernel
theorem dX10_bestWall_82 : decode cX10_bestWall 82 = .ok (.invokevirtual 162, 3) := by decide +kernel
theorem dX10_bestWall_85 : decode cX10_bestWall 85 = .ok (.ifCond .ne 43, 3) := by decide +kernel
theorem dX10_bestWall_88 : decode cX10_bestWall 88 = .ok (.aload_n 0, 1) := by decide +kernel
theorem dX10_bestWall_89 : decode cX10_bestWall 89 = .ok (.getfield 41, 3) := by decide +kernel
theorem dX10_bestWall_92 : decode cX10_bestWall 92 = .ok (.iload 6, 2) := by decide +kernel
theorem dX10_bestWall_94 : decode cX10_bestWall 94 = .ok (.invokevirtual 222, 3) := by decide +kernel
theorem dX10_bestWall_97 : decode cX10_bestWall 97 = .ok (.ifCond .ne 31, 3) := by decide +kernel
theorem dX10_bestWall_100 : decode cX10_bestWall 100 = .ok (.aload_n 0, 1) := by decide +kernel
theorem dX10_bestWall_101 : decode cX10_bestWall 101 = .ok (.iload 6, 2) := by decide +kernel
theorem dX10_bestWall_103 : decode cX10_bestWall 103 = .ok (.iload_n 1, 1) := by decide +kernel
theorem dX10_bestWall_104 : decode cX10_bestWall 104 = .ok (.invokevirtual 251, 3) := by decide +kernel
theorem dX10_bestWall_107 : decode cX10_bestWall 107 = .ok (.istore 7, 2) := by decide +kernel
theorem dX10_bestWall_109 : decode cX10_bestWall 109 = .ok (.iload_n 3, 1) := by decide +kernel
theorem dX10_bestWall_110 : decode cX10_bestWall 110 = .ok (.iconst (-1), 1) := by decide +kernel
theorem dX10_bestWall_111 : decode cX10_bestWall 111 = .ok (.if_icmp .eq 10, 3) := by decide +kernel
theorem dX10_bestWall_114 : decode cX10_bestWall 114 = .ok (.iload 7, 2) := by decide +kernel
theorem dX10_bestWall_116 : decode cX10_bestWall 116 = .ok (.iload 4, 2) := by decide +kernel
theorem dX10_bestWall_118 : decode cX10_bestWall 118 = .ok (.if_icmp .ge 10, 3) := by decide +kernel
theorem dX10_bestWall_121 : decode cX10_bestWall 121 = .ok (.iload 6, 2) := by decide +kernel
theorem dX10_bestWall_123 : decode cX10_bestWall 123 = .ok (.istore_n 3, 1) := by decide +kernel
theorem dX10_bestWall_124 : decode cX10_bestWall 124 = .ok (.iload 7, 2) := by decide +kernel
theorem dX10_bestWall_126 : decode cX10_bestWall 126 = .ok (.istore 4, 2) := by decide +kernel
theorem dX10_bestWall_128 : decode cX10_bestWall 128 = .ok (.iinc 6 1, 3) := by decide +kernel
theorem dX10_bestWall_131 : decode cX10_bestWall 131 = .ok (.goto (-79), 3) := by decide +kernel
theorem dX10_bestWall_134 : decode cX10_bestWall 134 = .ok (.iload_n 3, 1) := by decide +kernel
theorem dX10_bestWall_135 : decode cX10_bestWall 135 = .ok (.iconst (-1), 1) := by decide +kernel
theorem dX10_bestWall_136 : decode cX10_bestWall 136 = .ok (.if_icmp .eq 7, 3) := by decide +kernel
theorem dX10_bestWall_139 : decode cX10_bestWall 139 = .ok (.iload_n 2, 1) := by decide +kernel
theorem dX10_bestWall_140 : decode cX10_bestWall 140 = .ok (.ifCond .ne 14, 3) := by decide +kernel
theorem dX10_bestWall_143 : decode cX10_bestWall 143 = .ok (.aload_n 0, 1) := by decide +kernel
theorem dX10_bestWall_144 : decode cX10_bestWall 144 = .ok (.getfield 29, 3) := by decide +kernel
theorem dX10_bestWall_147 : decode cX10_bestWall 147 = .ok (.iload_n 3, 1) := by decide +kernel
theorem dX10_bestWall_148 : decode cX10_bestWall 148 = .ok (.invokevirtual 141, 3) := by decide +kernel
theorem dX10_bestWall_151 : decode cX10_bestWall 151 = .ok (.goto 5, 3) := by decide +kernel
theorem dX10_bestWall_154 : decode cX10_bestWall 154 = .ok (.iload 4, 2) := by decide +kernel
theorem dX10_bestWall_156 : decode cX10_bestWall 156 = .ok (.ireturn, 1) := by decide +kernel
theorem dX10_wax_0 : decode cX10_wax 0 = .ok (.iload_n 1, 1) := by decide +kernel
theorem dX10_wax_1 : decode cX10_wax 1 = .ok (.invokestatic 236, 3) := by decide +kernel
theorem dX10_wax_4 : decode cX10_wax 4 = .ok (.ifCond .ne 6, 3) := by decide +kernel
theorem dX10_wax_7 : decode cX10_wax 7 = .ok (.ldc 161, 2) := by decide +kernel
theorem dX10_wax_9 : decode cX10_wax 9 = .ok (.ireturn, 1) := by decide +kernel
theorem dX10_wax_10 : decode cX10_wax 10 = .ok (.aload_n 0, 1) := by decide +kernel
theorem dX10_wax_11 : decode cX10_wax 11 = .ok (.bipush 30, 2) := by decide +kernel
theorem dX10_wax_13 : decode cX10_wax 13 = .ok (.invokevirtual 233, 3) := by decide +kernel
theorem dX10_wax_16 : decode cX10_wax 16 = .ok (.pop, 1) := by decide +kernel
theorem dX10_wax_17 : decode cX10_wax 17 = .ok (.iconst 0, 1) := by decide +kernel
theorem dX10_wax_18 : decode cX10_wax 18 = .ok (.istore_n 2, 1) := by decide +kernel
theorem dX10_wax_19 : decode cX10_wax 19 = .ok (.iconst 0, 1) := by decide +kernel
theorem dX10_wax_20 : decode cX10_wax 20 = .ok (.istore_n 3, 1) := by decide +kernel
theorem dX10_wax_21 : decode cX10_wax 21 = .ok (.iload_n 3, 1) := by decide +kernel
theorem dX10_wax_22 : decode cX10_wax 22 = .ok (.aload_n 0, 1) := by decide +kernel
theorem dX10_wax_23 : decode cX10_wax 23 = .ok (.getfield 19, 3) := by decide +kernel
theorem dX10_wax_26 : decode cX10_wax 26 = .ok (.getfield 129, 3) := by decide +kernel
theorem dX10_wax_29 : decode cX10_wax 29 = .ok (.if_icmp .ge 47, 3) := by decide +kernel
theorem dX10_wax_32 : decode cX10_wax 32 = .ok (.aload_n 0, 1) := by decide +kernel
theorem dX10_wax_33 : decode cX10_wax 33 = .ok (.getfield 19, 3) := by decide +kernel
theorem dX10_wax_36 : decode cX10_wax 36 = .ok (.getfield 169, 3) := by decide +kernel
theorem dX10_wax_39 : decode cX10_wax 39 = .ok (.iload_n 3, 1) := by decide +kernel
theorem dX10_wax_40 : decode cX10_wax 40 = .ok (.iaload, 1) := by decide +kernel
theorem dX10_wax_41 : decode cX10_wax 41 = .ok (.iload_n 1, 1) := by decide +kernel
theorem dX10_wax_42 : decode cX10_wax 42 = .ok (.if_icmp .ne 28, 3) := by decide +kernel
theorem dX10_wax_45 : decode cX10_wax 45 = .ok (.aload_n 0, 1) := by decide +kernel
theorem dX10_wax_46 : decode cX10_wax 46 = .ok (.getfield 45, 3) := by decide +kernel
theorem dX10_wax_49 : decode cX10_wax 49 = .ok (.iload_n 3, 1) := by decide +kernel
theorem dX10_wax_50 : decode cX10_wax 50 = .ok (.invokevirtual 187, 3) := by decide +kernel
theorem dX10_wax_53 : decode cX10_wax 53 = .ok (.aload_n 0, 1) := by decide +kernel
theorem dX10_wax_54 : decode cX10_wax 54 = .ok (.getfield 41, 3) := by decide +kernel
theorem dX10_wax_57 : decode cX10_wax 57 = .ok (.iload_n 3, 1) := by decide +kernel
theorem dX10_wax_58 : decode cX10_wax 58 = .ok (.invokevirtual 187, 3) := by decide +kernel
theorem dX10_wax_61 : decode cX10_wax 61 = .ok (.if_icmp .eq 9, 3) := by decide +kernel
theorem dX10_wax_64 : decode cX10_wax 64 = .ok (.iload_n 2, 1) := by decide +kernel
theorem dX10_wax_65 : decode cX10_wax 65 = .ok (.iconst 1, 1) := by decide +kernel
theorem dX10_wax_66 : decode cX10_wax 66 = .ok (.iload_n 3, 1) := by decide +kernel
theorem dX10_wax_67 : decode cX10_wax 67 = .ok (.ishl, 1) := by decide +kernel
theorem dX10_wax_68 : decode cX10_wax 68 = .ok (.ior, 1) := by decide +kernel
theorem dX10_wax_69 : decode cX10_wax 69 = .ok (.istore_n 2, 1) := by decide +kernel
theorem dX10_wax_70 : decode cX10_wax 70 = .ok (.iinc 3 1, 3) := by decide +kernel
theorem dX10_wax_73 : decode cX10_wax 73 = .ok (.goto (-52), 3) := by decide +kernel
theorem dX10_wax_76 : decode cX10_wax 76 = .ok (.iload_n 2, 1) := by decide +kernel
theorem dX10_wax_77 : decode cX10_wax 77 = .ok (.ireturn, 1) := by decide +kernel
theorem dX10_see_0 : decode cX10_see 0 = .ok (.aload_n 0, 1) := by decide +kernel
theorem dX10_see_1 : decode cX10_see 1 = .ok (.getfield 29, 3) := by decide +kernel
theorem dX10_see_4 : decode cX10_see 4 = .ok (.iload_n 3, 1) := by decide +kernel
theorem dX10_see_5 : decode cX10_see 5 = .ok (.iload 4, 2) := by decide +kernel
theorem dX10_see_7 : decode cX10_see 7 = .ok (.invokevirtual 158, 3) := by decide +kernel
theorem dX10_see_10 : decode cX10_see 10 = .ok (.istore 5, 2) := by decide +kernel
theorem dX10_see_12 : decode cX10_see 12 = .ok (.aload_n 0, 1) := by decide +kernel
theorem dX10_see_13 : decode cX10_see 13 = .ok (.iload_n 1, 1) := by decide +kernel
theorem dX10_see_14 : decode cX10_see 14 = .ok (.invokevirtual 165, 3) := by decide +kernel
theorem dX10_see_17 : decode cX10_see 17 = .ok (.ifCond .eq 9, 3) := by decide +kernel
theorem dX10_see_20 : decode cX10_see 20 = .ok (.iload 5, 2) := by decide +kernel
theorem dX10_see_22 : decode cX10_see 22 = .ok (.iconst (-1), 1) := by decide +kernel
theorem dX10_see_23 : decode cX10_see 23 = .ok (.if_icmp .ne 6, 3) := by decide +kernel
theorem dX10_see_26 : decode cX10_see 26 = .ok (.ldc 161, 2) := by decide +kernel
theorem dX10_see_28 : decode cX10_see 28 = .ok (.ireturn, 1) := by decide +kernel
theorem dX10_see_29 : decode cX10_see 29 = .ok (.iload_n 2, 1) := by decide +kernel
theorem dX10_see_30 : decode cX10_see 30 = .ok (.iconst 1, 1) := by decide +kernel
theorem dX10_see_31 : decode cX10_see 31 = .ok (.if_icmp .lt 8, 3) := by decide +kernel
theorem dX10_see_34 : decode cX10_see 34 = .ok (.iload_n 2, 1) := by decide +kernel
theorem dX10_see_35 : decode cX10_see 35 = .ok (.iconst 5, 1) := by decide +kernel
theorem dX10_see_36 : decode cX10_see 36 = .ok (.if_icmp .le 6, 3) := by decide +kernel
theorem dX10_see_39 : decode cX10_see 39 = .ok (.ldc 100, 2) := by decide +kernel
theorem dX10_see_41 : decode cX10_see 41 = .ok (.ireturn, 1) := by decide +kernel
theorem dX10_see_42 : decode cX10_see 42 = .ok (.aload_n 0, 1) := by decide +kernel
theorem dX10_see_43 : decode cX10_see 43 = .ok (.getfield 61, 3) := by decide +kernel
theorem dX10_see_46 : decode cX10_see 46 = .ok (.getfield 157, 3) := by decide +kernel
theorem dX10_see_49 : decode cX10_see 49 = .ok (.bipush 10, 2) := by decide +kernel
theorem dX10_see_51 : decode cX10_see 51 = .ok (.if_icmp .lt 6, 3) := by decide +kernel
theorem dX10_see_54 : decode cX10_see 54 = .ok (.ldc 105, 2) := by decide +kernel
theorem dX10_see_56 : decode cX10_see 56 = .ok (.ireturn, 1) := by decide +kernel
theorem dX10_see_57 : decode cX10_see 57 = .ok (.aload_n 0, 1) := by decide +kernel
theorem dX10_see_58 : decode cX10_see 58 = .ok (.getfield 61, 3) := by decide +kernel
theorem dX10_see_61 : decode cX10_see 61 = .ok (.iload_n 1, 1) := by decide +kernel
theorem dX10_see_62 : decode cX10_see 62 = .ok (.iload_n 2, 1) := by decide +kernel
theorem dX10_see_63 : decode cX10_see 63 = .ok (.iload 5, 2) := by decide +kernel
theorem dX10_see_65 : decode cX10_see 65 = .ok (.invokevirtual 254, 3) := by decide +kernel
theorem dX10_see_68 : decode cX10_see 68 = .ok (.aload_n 0, 1) := by decide +kernel
theorem dX10_see_69 : decode cX10_see 69 = .ok (.getfield 61, 3) := by decide +kernel
theorem dX10_see_72 : decode cX10_see 72 = .ok (.getfield 157, 3) := by decide +kernel
theorem dX10_see_75 : decode cX10_see 75 = .ok (.ireturn, 1) := by decide +kernel
theorem dX10_walks_0 : decode cX10_walks 0 = .ok (.aload_n 0, 1) := by decide +kernel
theorem dX10_walks_1 : decode cX10_walks 1 = .ok (.iload_n 2, 1) := by decide +kernel
theorem dX10_walks_2 : decode cX10_walks 2 = .ok (.invokevirtual 190, 3) := by decide +kernel
theorem dX10_walks_5 : decode cX10_walks 5 = .ok (.ifCond .ne 6, 3) := by decide +kernel
theorem dX10_walks_8 : decode cX10_walks 8 = .ok (.ldc 161, 2) := by decide +kernel
theorem dX10_walks_10 : decode cX10_walks 10 = .ok (.ireturn, 1) := by decide +kernel
theorem dX10_walks_11 : decode cX10_walks 11 = .ok (.iload_n 1, 1) := by decide +kernel
theorem dX10_walks_12 : decode cX10_walks 12 = .ok (.iconst 1, 1) := by decide +kernel
theorem dX10_walks_13 : decode cX10_walks 13 = .ok (.if_icmp .lt 8, 3) := by decide +kernel
theorem dX10_walks_16 : decode cX10_walks 16 = .ok (.iload_n 1, 1) := by decide +kernel
theorem dX10_walks_17 : decode cX10_walks 17 = .ok (.iconst 5, 1) := by decide +kernel
theorem dX10_walks_18 : decode cX10_walks 18 = .ok (.if_icmp .le 6, 3) := by decide +kernel
theorem dX10_walks_21 : decode cX10_walks 21 = .ok (.ldc 100, 2) := by decide +kernel
theorem dX10_walks_23 : decode cX10_walks 23 = .ok (.ireturn, 1) := by decide +kernel
theorem dX10_walks_24 : decode cX10_walks 24 = .ok (.aload_n 0, 1) := by decide +kernel
theorem dX10_walks_25 : decode cX10_walks 25 = .ok (.getfield 86, 3) := by decide +kernel
theorem dX10_walks_28 : decode cX10_walks 28 = .ok (.aload_n 0, 1) := by decide +kernel
theorem dX10_walks_29 : decode cX10_walks 29 = .ok (.getfield 41, 3) := by decide +kernel
theorem dX10_walks_32 : decode cX10_walks 32 = .ok (.iload_n 1, 1) := by decide +kernel
theorem dX10_walks_33 : decode cX10_walks 33 = .ok (.iload_n 2, 1) := by decide +kernel
theorem dX10_walks_34 : decode cX10_walks 34 = .ok (.invokevirtual 257, 3) := by decide +kernel
theorem dX10_walks_37 : decode cX10_walks 37 = .ok (.iload_n 3, 1) := by decide +kernel
theorem dX10_walks_38 : decode cX10_walks 38 = .ok (.iconst (-1), 1) := by decide +kernel
theorem dX10_walks_39 : decode cX10_walks 39 = .ok (.if_icmp .ne 13, 3) := by decide +kernel
theorem dX10_walks_42 : decode cX10_walks 42 = .ok (.aload_n 0, 1) := by decide +kernel
theorem dX10_walks_43 : decode cX10_walks 43 = .ok (.getfield 86, 3) := by decide +kernel
theorem dX10_walks_46 : decode cX10_walks 46 = .ok (.getfield 258, 3) := by decide +kernel
theorem dX10_walks_49 : decode cX10_walks 49 = .ok (.goto 11, 3) := by decide +kernel
theorem dX10_walks_52 : decode cX10_walks 52 = .ok (.aload_n 0, 1) := by decide +kernel
theorem dX10_walks_53 : decode cX10_walks 53 = .ok (.getfield 86, 3) := by decide +kernel
theorem dX10_walks_56 : decode cX10_walks 56 = .ok (.iload_n 3, 1) := by decide +kernel
theorem dX10_walks_57 : decode cX10_walks 57 = .ok (.invokevirtual 259, 3) := by decide +kernel
theorem dX10_walks_60 : decode cX10_walks 60 = .ok (.ireturn, 1) := by decide +kernel
theorem dX10_tear_0 : decode cX10_tear 0 = .ok (.aload_n 0, 1) := by decide +kernel
theorem dX10_tear_1 : decode cX10_tear 1 = .ok (.getfield 61, 3) := by decide +kernel
theorem dX10_tear_4 : decode cX10_tear 4 = .ok (.getfield 157, 3) := by decide +kernel
theorem dX10_tear_7 : decode cX10_tear 7 = .ok (.istore_n 1, 1) := by decide +kernel
theorem dX10_tear_8 : decode cX10_tear 8 = .ok (.aload_n 0, 1) := by decide +kernel
theorem dX10_tear_9 : decode cX10_tear 9 = .ok (.getfield 61, 3) := by decide +kernel
theorem dX10_tear_12 : decode cX10_tear 12 = .ok (.iconst 0, 1) := by decide +kernel
theorem dX10_tear_13 : decode cX10_tear 13 = .ok (.putfield 157, 3) := by decide +kernel
theorem dX10_tear_16 : decode cX10_tear 16 = .ok (.iload_n 1, 1) := by decide +kernel
theorem dX10_tear_17 : decode cX10_tear 17 = .ok (.ireturn, 1) := by decide +kernel
theorem dX10_seed_0 : decode cX10_seed 0 = .ok (.iload_n 1, 1) := by decide +kernel
theorem dX10_seed_1 : decode cX10_seed 1 = .ok (.ifCond .ge 6, 3) := by decide +kernel
theorem dX10_seed_4 : decode cX10_seed 4 = .ok (.ldc 100, 2) := by decide +kernel
theorem dX10_seed_6 : decode cX10_seed 6 = .ok (.ireturn, 1) := by decide +kernel
theorem dX10_seed_7 : decode cX10_seed 7 = .ok (.aload_n 0, 1) := by decide +kernel
theorem dX10_seed_8 : decode cX10_seed 8 = .ok (.getfield 260, 3) := by decide +kernel
theorem dX10_seed_11 : decode cX10_seed 11 = .ok (.istore_n 2, 1) := by decide +kernel
theorem dX10_seed_12 : decode cX10_seed 12 = .ok (.aload_n 0, 1) := by decide +kernel
theorem dX10_seed_13 : decode cX10_seed 13 = .ok (.iload_n 1, 1) := by decide +kernel
theorem dX10_seed_14 : decode cX10_seed 14 = .ok (.putfield 260, 3) := by decide +kernel
theorem dX10_seed_17 : decode cX10_seed 17 = .ok (.iload_n 2, 1) := by decide +kernel
theorem dX10_seed_18 : decode cX10_seed 18 = .ok (.ireturn, 1) := by decide +kernel
theorem dX10_keep_0 : decode cX10_keep 0 = .ok (.iload_n 1, 1) := by decide +kernel
theorem dX10_keep_1 : decode cX10_keep 1 = .ok (.invokestatic 263, 3) := by decide +kernel
theorem dX10_keep_4 : decode cX10_keep 4 = .ok (.ifCond .ne 6, 3) := by decide +kernel
theorem dX10_keep_7 : decode cX10_keep 7 = .ok (.ldc 161, 2) := by decide +kernel
theorem dX10_keep_9 : decode cX10_keep 9 = .ok (.ireturn, 1) := by decide +kernel
theorem dX10_keep_10 : decode cX10_keep 10 = .ok (.aload_n 0, 1) := by decide +kernel
theorem dX10_keep_11 : decode cX10_keep 11 = .ok (.getfield 92, 3) := by decide +kernel
theorem dX10_keep_14 : decode cX10_keep 14 = .ok (.iload_n 1, 1) := by decide +kernel
theorem dX10_keep_15 : decode cX10_keep 15 = .ok (.aaload, 1) := by decide +kernel
theorem dX10_keep_16 : decode cX10_keep 16 = .ok (.aload_n 0, 1) := by decide +kernel
theorem dX10_keep_17 : decode cX10_keep 17 = .ok (.getfield 41, 3) := by decide +kernel
theorem dX10_keep_20 : decode cX10_keep 20 = .ok (.aload_n 0, 1) := by decide +kernel
theorem dX10_keep_21 : decode cX10_keep 21 = .ok (.getfield 29, 3) := by decide +kernel
theorem dX10_keep_24 : decode cX10_keep 24 = .ok (.aload_n 0, 1) := by decide +kernel
theorem dX10_keep_25 : decode cX10_keep 25 = .ok (.getfield 260, 3) := by decide +kernel
theorem dX10_keep_28 : decode cX10_keep 28 = .ok (.invokevirtual 266, 3) := by decide +kernel
theorem dX10_keep_31 : decode cX10_keep 31 = .ok (.iconst 1, 1) := by decide +kernel
theorem dX10_keep_32 : decode cX10_keep 32 = .ok (.ireturn, 1) := by decide +kernel
theorem dX10_goBack_0 : decode cX10_goBack 0 = .ok (.iload_n 1, 1) := by decide +kernel
theorem dX10_goBack_1 : decode cX10_goBack 1 = .ok (.invokestatic 263, 3) := by decide +kernel
theorem dX10_goBack_4 : decode cX10_goBack 4 = .ok (.ifCond .ne 6, 3) := by decide +kernel
theorem dX10_goBack_7 : decode cX10_goBack 7 = .ok (.ldc 161, 2) := by decide +kernel
theorem dX10_goBack_9 : decode cX10_goBack 9 = .ok (.ireturn, 1) := by decide +kernel
theorem dX10_goBack_10 : decode cX10_goBack 10 = .ok (.aload_n 0, 1) := by decide +kernel
theorem dX10_goBack_11 : decode cX10_goBack 11 = .ok (.getfield 92, 3) := by decide +kernel
theorem dX10_goBack_14 : decode cX10_goBack 14 = .ok (.iload_n 1, 1) := by decide +kernel
theorem dX10_goBack_15 : decode cX10_goBack 15 = .ok (.aaload, 1) := by decide +kernel
theorem dX10_goBack_16 : decode cX10_goBack 16 = .ok (.getfield 270, 3) := by decide +kernel
theorem dX10_goBack_19 : decode cX10_goBack 19 = .ok (.ifCond .ne 6, 3) := by decide +kernel
theorem dX10_goBack_22 : decode cX10_goBack 22 = .ok (.ldc 214, 2) := by decide +kernel
theorem dX10_goBack_24 : decode cX10_goBack 24 = .ok (.ireturn, 1) := by decide +kernel
theorem dX10_goBack_25 : decode cX10_goBack 25 = .ok (.aload_n 0, 1) := by decide +kernel
theorem dX10_goBack_26 : decode cX10_goBack 26 = .ok (.getfield 92, 3) := by decide +kernel
theorem dX10_goBack_29 : decode cX10_goBack 29 = .ok (.iload_n 1, 1) := by decide +kernel
theorem dX10_goBack_30 : decode cX10_goBack 30 = .ok (.aaload, 1) := by decide +kernel
theorem dX10_goBack_31 : decode cX10_goBack 31 = .ok (.aload_n 0, 1) := by decide +kernel
theorem dX10_goBack_32 : decode cX10_goBack 32 = .ok (.getfield 41, 3) := by decide +kernel
theorem dX10_goBack_35 : decode cX10_goBack 35 = .ok (.aload_n 0, 1) := by decide +kernel
theorem dX10_goBack_36 : decode cX10_goBack 36 = .ok (.getfield 29, 3) := by decide +kernel
theorem dX10_goBack_39 : decode cX10_goBack 39 = .ok (.invokevirtual 274, 3) := by decide +kernel
theorem dX10_goBack_42 : decode cX10_goBack 42 = .ok (.aload_n 0, 1) := by decide +kernel
theorem dX10_goBack_43 : decode cX10_goBack 43 = .ok (.aload_n 0, 1) := by decide +kernel
theorem dX10_goBack_44 : decode cX10_goBack 44 = .ok (.getfield 92, 3) := by decide +kernel
theorem dX10_goBack_47 : decode cX10_goBack 47 = .ok (.iload_n 1, 1) := by decide +kernel
theorem dX10_goBack_48 : decode cX10_goBack 48 = .ok (.aaload, 1) := by decide +kernel
theorem dX10_goBack_49 : decode cX10_goBack 49 = .ok (.getfield 278, 3) := by decide +kernel
theorem dX10_goBack_52 : decode cX10_goBack 52 = .ok (.putfield 260, 3) := by decide +kernel
theorem dX10_goBack_55 : decode cX10_goBack 55 = .ok (.aload_n 0, 1) := by decide +kernel
theorem dX10_goBack_56 : decode cX10_goBack 56 = .ok (.getfield 77, 3) := by decide +kernel
theorem dX10_goBack_59 : decode cX10_goBack 59 = .ok (.invokevirtual 219, 3) := by decide +kernel
theorem dX10_goBack_62 : decode cX10_goBack 62 = .ok (.iconst 1, 1) := by decide +kernel
theorem dX10_goBack_63 : decode cX10_goBack 63 = .ok (.ireturn, 1) := by decide +kernel
theorem dX10_isKind_0 : decode cX10_isKind 0 = .ok (.iload_n 0, 1) := by decide +kernel
theorem dX10_isKind_1 : decode cX10_isKind 1 = .ok (.ifCond .lt 12, 3) := by decide +kernel
theorem dX10_isKind_4 : decode cX10_isKind 4 = .ok (.iload_n 0, 1) := by decide +kernel
theorem dX10_isKind_5 : decode cX10_isKind 5 = .ok (.iconst 3, 1) := by decide +kernel
theorem dX10_isKind_6 : decode cX10_isKind 6 = .ok (.if_icmp .ge 7, 3) := by decide +kernel
theorem dX10_isKind_9 : decode cX10_isKind 9 = .ok (.iconst 1, 1) := by decide +kernel
theorem dX10_isKind_10 : decode cX10_isKind 10 = .ok (.goto 4, 3) := by decide +kernel
theorem dX10_isKind_13 : decode cX10_isKind 13 = .ok (.iconst 0, 1) := by decide +kernel
theorem dX10_isKind_14 : decode cX10_isKind 14 = .ok (.ireturn, 1) := by decide +kernel
theorem dX10_isStep_0 : decode cX10_isStep 0 = .ok (.iload_n 0, 1) := by decide +kernel
theorem dX10_isStep_1 : decode cX10_isStep 1 = .ok (.ifCond .lt 12, 3) := by decide +kernel
theorem dX10_isStep_4 : decode cX10_isStep 4 = .ok (.iload_n 0, 1) := by decide +kernel
theorem dX10_isStep_5 : decode cX10_isStep 5 = .ok (.iconst 4, 1) := by decide +kernel
theorem dX10_isStep_6 : decode cX10_isStep 6 = .ok (.if_icmp .gt 7, 3) := by decide +kernel
theorem dX10_isStep_9 : decode cX10_isStep 9 = .ok (.iconst 1, 1) := by decide +kernel
theorem dX10_isStep_10 : decode cX10_isStep 10 = .ok (.goto 4, 3) := by decide +kernel
theorem dX10_isStep_13 : decode cX10_isStep 13 = .ok (.iconst 0, 1) := by decide +kernel
theorem dX10_isStep_14 : decode cX10_isStep 14 = .ok (.ireturn, 1) := by decide +kernel
theorem dX10_isImage_0 : decode cX10_isImage 0 = .ok (.iload_n 0, 1) := by decide +kernel
theorem dX10_isImage_1 : decode cX10_isImage 1 = .ok (.ifCond .lt 12, 3) := by decide +kernel
theorem dX10_isImage_4 : decode cX10_isImage 4 = .ok (.iload_n 0, 1) := by decide +kernel
theorem dX10_isImage_5 : decode cX10_isImage 5 = .ok (.iconst 2, 1) := by decide +kernel
theorem dX10_isImage_6 : decode cX10_isImage 6 = .ok (.if_icmp .ge 7, 3) := by decide +kernel
theorem dX10_isImage_9 : decode cX10_isImage 9 = .ok (.iconst 1, 1) := by decide +kernel
theorem dX10_isImage_10 : decode cX10_isImage 10 = .ok (.goto 4, 3) := by decide +kernel
theorem dX10_isImage_13 : decode cX10_isImage 13 = .ok (.iconst 0, 1) := by decide +kernel
theorem dX10_isImage_14 : decode cX10_isImage 14 = .ok (.ireturn, 1) := by decide +kernel
theorem dX10_isCrowd_0 : decode cX10_isCrowd 0 = .ok (.iload_n 1, 1) := by decide +kernel
theorem dX10_isCrowd_1 : decode cX10_isCrowd 1 = .ok (.ifCond .lt 18, 3) := by decide +kernel
theorem dX10_isCrowd_4 : decode cX10_isCrowd 4 = .ok (.iload_n 1, 1) := by decide +kernel
theorem dX10_isCrowd_5 : decode cX10_isCrowd 5 = .ok (.aload_n 0, 1) := by decide +kernel
theorem dX10_isCrowd_6 : decode cX10_isCrowd 6 = .ok (.getfield 19, 3) := by decide +kernel
theorem dX10_isCrowd_9 : decode cX10_isCrowd 9 = .ok (.getfield 129, 3) := by decide +kernel
theorem dX10_isCrowd_12 : decode cX10_isCrowd 12 = .ok (.if_icmp .ge 7, 3) := by decide +kernel
theorem dX10_isCrowd_15 : decode cX10_isCrowd 15 = .ok (.iconst 1, 1) := by decide +kernel
theorem dX10_isCrowd_16 : decode cX10_isCrowd 16 = .ok (.goto 4, 3) := by decide +kernel
theorem dX10_isCrowd_19 : decode cX10_isCrowd 19 = .ok (.iconst 0, 1) := by decide +kernel
theorem dX10_isCrowd_20 : decode cX10_isCrowd 20 = .ok (.ireturn, 1) := by decide +kernel
theorem dX10_isTune_0 : decode cX10_isTune 0 = .ok (.iload_n 1, 1) := by decide +kernel
theorem dX10_isTune_1 : decode cX10_isTune 1 = .ok (.ifCond .lt 18, 3) := by decide +kernel
theorem dX10_isTune_4 : decode cX10_isTune 4 = .ok (.iload_n 1, 1) := by decide +kernel
theorem dX10_isTune_5 : decode cX10_isTune 5 = .ok (.aload_n 0, 1) := by decide +kernel
theorem dX10_isTune_6 : decode cX10_isTune 6 = .ok (.getfield 19, 3) := by decide +kernel
theorem dX10_isTune_9 : decode cX10_isTune 9 = .ok (.getfield 132, 3) := by decide +kernel
theorem dX10_isTune_12 : decode cX10_isTune 12 = .ok (.if_icmp .ge 7, 3) := by decide +kernel
theorem dX10_isTune_15 : decode cX10_isTune 15 = .ok (.iconst 1, 1) := by decide +kernel
theorem dX10_isTune_16 : decode cX10_isTune 16 = .ok (.goto 4, 3) := by decide +kernel
theorem dX10_isTune_19 : decode cX10_isTune 19 = .ok (.iconst 0, 1) := by decide +kernel
theorem dX10_isTune_20 : decode cX10_isTune 20 = .ok (.ireturn, 1) := by decide +kernel
theorem dX10_isTuneOrNone_0 : decode cX10_isTuneOrNone 0 = .ok (.iload_n 1, 1) := by decide +kernel
theorem dX10_isTuneOrNone_1 : decode cX10_isTuneOrNone 1 = .ok (.iconst (-1), 1) := by decide +kernel
theorem dX10_isTuneOrNone_2 : decode cX10_isTuneOrNone 2 = .ok (.if_icmp .eq 11, 3) := by decide +kernel
theorem dX10_isTuneOrNone_5 : decode cX10_isTuneOrNone 5 = .ok (.aload_n 0, 1) := by decide +kernel
theorem dX10_isTuneOrNone_6 : decode cX10_isTuneOrNone 6 = .ok (.iload_n 1, 1) := by decide +kernel
theorem dX10_isTuneOrNone_7 : decode cX10_isTuneOrNone 7 = .ok (.invokevirtual 190, 3) := by decide +kernel
theorem dX10_isTuneOrNone_10 : decode cX10_isTuneOrNone 10 = .ok (.ifCond .eq 7, 3) := by decide +kernel
theorem dX10_isTuneOrNone_13 : decode cX10_isTuneOrNone 13 = .ok (.iconst 1, 1) := by decide +kernel
theorem dX10_isTuneOrNone_14 : decode cX10_isTuneOrNone 14 = .ok (.goto 4, 3) := by decide +kernel
theorem dX10_isTuneOrNone_17 : decode cX10_isTuneOrNone 17 = .ok (.iconst 0, 1) := by decide +kernel
theorem dX10_isTuneOrNone_18 : decode cX10_isTuneOrNone 18 = .ok (.ireturn, 1) := by decide +kernel
theorem dX10_begin_0 : decode cX10_begin 0 = .ok (.aload_n 0, 1) := by decide +kernel
theorem dX10_begin_1 : decode cX10_begin 1 = .ok (.getfield 29, 3) := by decide +kernel
theorem dX10_begin_4 : decode cX10_begin 4 = .ok (.aload_n 0, 1) := by decide +kernel
theorem dX10_begin_5 : decode cX10_begin 5 = .ok (.getfield 19, 3) := by decide +kernel
theorem dX10_begin_8 : decode cX10_begin 8 = .ok (.invokevirtual 279, 3) := by decide +kernel
theorem dX10_begin_11 : decode cX10_begin 11 = .ok (.aload_n 0, 1) := by decide +kernel
theorem dX10_begin_12 : decode cX10_begin 12 = .ok (.getfield 33, 3) := by decide +kernel
theorem dX10_begin_15 : decode cX10_begin 15 = .ok (.aload_n 0, 1) := by decide +kernel
theorem dX10_begin_16 : decode cX10_begin 16 = .ok (.getfield 19, 3) := by decide +kernel
theorem dX10_begin_19 : decode cX10_begin 19 = .ok (.invokevirtual 279, 3) := by decide +kernel
theorem dX10_begin_22 : decode cX10_begin 22 = .ok (.aload_n 0, 1) := by decide +kernel
theorem dX10_begin_23 : decode cX10_begin 23 = .ok (.getfield 41, 3) := by decide +kernel
theorem dX10_begin_26 : decode cX10_begin 26 = .ok (.invokevirtual 283, 3) := by decide +kernel
theorem dX10_begin_29 : decode cX10_begin 29 = .ok (.aload_n 0, 1) := by decide +kernel
theorem dX10_begin_30 : decode cX10_begin 30 = .ok (.getfield 54, 3) := by decide +kernel
theorem dX10_begin_33 : decode cX10_begin 33 = .ok (.iconst 0, 1) := by decide +kernel
theorem dX10_begin_34 : decode cX10_begin 34 = .ok (.putfield 156, 3) := by decide +kernel
theorem dX10_begin_37 : decode cX10_begin 37 = .ok (.aload_n 0, 1) := by decide +kernel
theorem dX10_begin_38 : decode cX10_begin 38 = .ok (.getfield 61, 3) := by decide +kernel
theorem dX10_begin_41 : decode cX10_begin 41 = .ok (.iconst 0, 1) := by decide +kernel
theorem dX10_begin_42 : decode cX10_begin 42 = .ok (.putfield 157, 3) := by decide +kernel
theorem dX10_begin_45 : decode cX10_begin 45 = .ok (.aload_n 0, 1) := by decide +kernel
theorem dX10_begin_46 : decode cX10_begin 46 = .ok (.getfield 77, 3) := by decide +kernel
theorem dX10_begin_49 : decode cX10_begin 49 = .ok (.invokevirtual 219, 3) := by decide +kernel
theorem dX10_begin_52 : decode cX10_begin 52 = .ok (.iconst 0, 1) := by decide +kernel
theorem dX10_begin_53 : decode cX10_begin 53 = .ok (.istore_n 1, 1) := by decide +kernel
theorem dX10_begin_54 : decode cX10_begin 54 = .ok (.iload_n 1, 1) := by decide +kernel
theorem dX10_begin_55 : decode cX10_begin 55 = .ok (.iconst 2, 1) := by decide +kernel
theorem dX10_begin_56 : decode cX10_begin 56 = .ok (.if_icmp .ge 19, 3) := by decide +kernel
theorem dX10_begin_59 : decode cX10_begin 59 = .ok (.aload_n 0, 1) := by decide +kernel
theorem dX10_begin_60 : decode cX10_begin 60 = .ok (.getfield 92, 3) := by decide +kernel
theorem dX10_begin_63 : decode cX10_begin 63 = .ok (.iload_n 1, 1) := by decide +kernel
theorem dX10_begin_64 : decode cX10_begin 64 = .ok (.aaload, 1) := by decide +kernel
theorem dX10_begin_65 : decode cX10_begin 65 = .ok (.iconst 0, 1) := by decide +kernel
theorem dX10_begin_66 : decode cX10_begin 66 = .ok (.putfield 270, 3) := by decide +kernel
theorem dX10_begin_69 : decode cX10_begin 69 = .ok (.iinc 1 1, 3) := by decide +kernel
theorem dX10_begin_72 : decode cX10_begin 72 = .ok (.goto (-18), 3) := by decide +kernel
theorem dX10_begin_75 : decode cX10_begin 75 = .ok (.return_, 1) := by decide +kernel
theorem dX10_draw_0 : decode cX10_draw 0 = .ok (.aload_n 0, 1) := by decide +kernel
theorem dX10_draw_1 : decode cX10_draw 1 = .ok (.aload_n 0, 1) := by decide +kernel
theorem dX10_draw_2 : decode cX10_draw 2 = .ok (.getfield 260, 3) := by decide +kernel
theorem dX10_draw_5 : decode cX10_draw 5 = .ok (.i2l, 1) := by decide +kernel
theorem dX10_draw_6 : decode cX10_draw 6 = .ok (.ldc2_w 284, 3) := by decide +kernel
theorem dX10_draw_9 : decode cX10_draw 9 = .ok (.lmul, 1) := by decide +kernel
theorem dX10_draw_10 : decode cX10_draw 10 = .ok (.ldc2_w 286, 3) := by decide +kernel
theorem dX10_draw_13 : decode cX10_draw 13 = .ok (.ladd, 1) := by decide +kernel
theorem dX10_draw_14 : decode cX10_draw 14 = .ok (.ldc2_w 288, 3) := by decide +kernel
theorem dX10_draw_17 : decode cX10_draw 17 = .ok (.land, 1) := by decide +kernel
theorem dX10_draw_18 : decode cX10_draw 18 = .ok (.l2i, 1) := by decide +kernel
theorem dX10_draw_19 : decode cX10_draw 19 = .ok (.putfield 260, 3) := by decide +kernel
theorem dX10_draw_22 : decode cX10_draw 22 = .ok (.iload_n 1, 1) := by decide +kernel
theorem dX10_draw_23 : decode cX10_draw 23 = .ok (.ifCond .le 16, 3) := by decide +kernel
theorem dX10_draw_26 : decode cX10_draw 26 = .ok (.aload_n 0, 1) := by decide +kernel
theorem dX10_draw_27 : decode cX10_draw 27 = .ok (.getfield 260, 3) := by decide +kernel
theorem dX10_draw_30 : decode cX10_draw 30 = .ok (.ldc_w 290, 3) := by decide +kernel
theorem dX10_draw_33 : decode cX10_draw 33 = .ok (.idiv, 1) := by decide +kernel
theorem dX10_draw_34 : decode cX10_draw 34 = .ok (.iload_n 1, 1) := by decide +kernel
theorem dX10_draw_35 : decode cX10_draw 35 = .ok (.irem, 1) := by decide +kernel
theorem dX10_draw_36 : decode cX10_draw 36 = .ok (.goto 4, 3) := by decide +kernel
theorem dX10_draw_39 : decode cX10_draw 39 = .ok (.iconst 0, 1) := by decide +kernel
theorem dX10_draw_40 : decode cX10_draw 40 = .ok (.ireturn, 1) := by decide +kernel
theorem dX10_tryPlan_0 : decode cX10_tryPlan 0 = .ok (.aload_n 0, 1) := by decide +kernel
theorem dX10_tryPlan_1 : decode cX10_tryPlan 1 = .ok (.getfield 45, 3) := by decide +kernel
theorem dX10_tryPlan_4 : decode cX10_tryPlan 4 = .ok (.aload_n 0, 1) := by decide +kernel
theorem dX10_tryPlan_5 : decode cX10_tryPlan 5 = .ok (.getfield 41, 3) := by decide +kernel
theorem dX10_tryPlan_8 : decode cX10_tryPlan 8 = .ok (.invokevirtual 291, 3) := by decide +kernel
theorem dX10_tryPlan_11 : decode cX10_tryPlan 11 = .ok (.aload_n 0, 1) := by decide +kernel
theorem dX10_tryPlan_12 : decode cX10_tryPlan 12 = .ok (.getfield 54, 3) := by decide +kernel
theorem dX10_tryPlan_15 : decode cX10_tryPlan 15 = .ok (.aload_n 0, 1) := by decide +kernel
theorem dX10_tryPlan_16 : decode cX10_tryPlan 16 = .ok (.getfield 45, 3) := by decide +kernel
theorem dX10_tryPlan_19 : decode cX10_tryPlan 19 = .ok (.iload_n 1, 1) := by decide +kernel
theorem dX10_tryPlan_20 : decode cX10_tryPlan 20 = .ok (.invokevirtual 294, 3) := by decide +kernel
theorem dX10_tryPlan_23 : decode cX10_tryPlan 23 = .ok (.ireturn, 1) := by decide +kernel
theorem dX10_outBehindWall_0 : decode cX10_outBehindWall 0 = .ok (.aload_n 0, 1) := by decide +kernel
theorem dX10_outBehindWall_1 : decode cX10_outBehindWall 1 = .ok (.getfield 33, 3) := by decide +kernel
theorem dX10_outBehindWall_4 : decode cX10_outBehindWall 4 = .ok (.iload_n 1, 1) := by decide +kernel
theorem dX10_outBehindWall_5 : decode cX10_outBehindWall 5 = .ok (.iconst 1, 1) := by decide +kernel
theorem dX10_outBehindWall_6 : decode cX10_outBehindWall 6 = .ok (.invokevirtual 225, 3) := by decide +kernel
theorem dX10_outBehindWall_9 : decode cX10_outBehindWall 9 = .ok (.aload_n 0, 1) := by decide +kernel
theorem dX10_outBehindWall_10 : decode cX10_outBehindWall 10 = .ok (.getfield 48, 3) := by decide +kernel
theorem dX10_outBehindWall_13 : decode cX10_outBehindWall 13 = .ok (.aload_n 0, 1) := by decide +kernel
theorem dX10_outBehindWall_14 : decode cX10_outBehindWall 14 = .ok (.getfield 41, 3) := by decide +kernel
theorem dX10_outBehindWall_17 : decode cX10_outBehindWall 17 = .ok (.invokevirtual 291, 3) := by decide +kernel
theorem dX10_outBehindWall_20 : decode cX10_outBehindWall 20 = .ok (.aload_n 0, 1) := by decide +kernel
theorem dX10_outBehindWall_21 : decode cX10_outBehindWall 21 = .ok (.getfield 54, 3) := by decide +kernel
theorem dX10_outBehindWall_24 : decode cX10_outBehindWall 24 = .ok (.aload_n 0, 1) := by decide +kernel
theorem dX10_outBehindWall_25 : decode cX10_outBehindWall 25 = .ok (.getfield 48, 3) := by decide +kernel
theorem dX10_outBehindWall_28 : decode cX10_outBehindWall 28 = .ok (.bipush 30, 2) := by decide +kernel
theorem dX10_outBehindWall_30 : decode cX10_outBehindWall 30 = .ok (.invokevirtual 294, 3) := by decide +kernel
theorem dX10_outBehindWall_33 : decode cX10_outBehindWall 33 = .ok (.pop, 1) := by decide +kernel
theorem dX10_outBehindWall_34 : decode cX10_outBehindWall 34 = .ok (.aload_n 0, 1) := by decide +kernel
theorem dX10_outBehindWall_35 : decode cX10_outBehindWall 35 = .ok (.getfield 33, 3) := by decide +kernel
theorem dX10_outBehindWall_38 : decode cX10_outBehindWall 38 = .ok (.iload_n 1, 1) := by decide +kernel
theorem dX10_outBehindWall_39 : decode cX10_outBehindWall 39 = .ok (.iconst 0, 1) := by decide +kernel
theorem dX10_outBehindWall_40 : decode cX10_outBehindWall 40 = .ok (.invokevirtual 225, 3) := by decide +kernel
theorem dX10_outBehindWall_43 : decode cX10_outBehindWall 43 = .ok (.aload_n 0, 1) := by decide +kernel
theorem dX10_outBehindWall_44 : decode cX10_outBehindWall 44 = .ok (.getfield 48, 3) := by decide +kernel
theorem dX10_outBehindWall_47 : decode cX10_outBehindWall 47 = .ok (.iload_n 2, 1) := by decide +kernel
theorem dX10_outBehindWall_48 : decode cX10_outBehindWall 48 = .ok (.iconst 1, 1) := by decide +kernel
theorem dX10_outBehindWall_49 : decode cX10_outBehindWall 49 = .ok (.invokevirtual 145, 3) := by decide +kernel
theorem dX10_outBehindWall_52 : decode cX10_outBehindWall 52 = .ok (.ireturn, 1) := by decide +kernel
theorem dX11_init_0 : decode cX11_init 0 = .ok (.aload_n 0, 1) := by decide +kernel
theorem dX11_init_1 : decode cX11_init 1 = .ok (.invokespecial 1, 3) := by decide +kernel
theorem dX11_init_4 : decode cX11_init 4 = .ok (.aload_n 0, 1) := by decide +kernel
theorem dX11_init_5 : decode cX11_init 5 = .ok (.bipush 42, 2) := by decide +kernel
theorem dX11_init_7 : decode cX11_init 7 = .ok (.newarray .int, 2) := by decide +kernel
theorem dX11_init_9 : decode cX11_init 9 = .ok (.putfield 7, 3) := by decide +kernel
theorem dX11_init_12 : decode cX11_init 12 = .ok (.aload_n 0, 1) := by decide +kernel
theorem dX11_init_13 : decode cX11_init 13 = .ok (.bipush 6, 2) := by decide +kernel
theorem dX11_init_15 : decode cX11_init 15 = .ok (.newarray .int, 2) := by decide +kernel
theorem dX11_init_17 : decode cX11_init 17 = .ok (.putfield 13, 3) := by decide +kernel
theorem dX11_init_20 : decode cX11_init 20 = .ok (.aload_n 0, 1) := by decide +kernel
theorem dX11_init_21 : decode cX11_init 21 = .ok (.bipush 6, 2) := by decide +kernel
theorem dX11_init_23 : decode cX11_init 23 = .ok (.newarray .int, 2) := by decide +kernel
theorem dX11_init_25 : decode cX11_init 25 = .ok (.putfield 16, 3) := by decide +kernel
theorem dX11_init_28 : decode cX11_init 28 = .ok (.aload_n 0, 1) := by decide +kernel
theorem dX11_init_29 : decode cX11_init 29 = .ok (.bipush 6, 2) := by decide +kernel
theorem dX11_init_31 : decode cX11_init 31 = .ok (.newarray .int, 2) := by decide +kernel
theorem dX11_init_33 : decode cX11_init 33 = .ok (.putfield 19, 3) := by decide +kernel
theorem dX11_init_36 : decode cX11_init 36 = .ok (.aload_n 0, 1) := by decide +kernel
theorem dX11_init_37 : decode cX11_init 37 = .ok (.bipush 6, 2) := by decide +kernel
theorem dX11_init_39 : decode cX11_init 39 = .ok (.newarray .int, 2) := by decide +kernel
theorem dX11_init_41 : decode cX11_init 41 = .ok (.putfield 22, 3) := by decide +kernel
theorem dX11_init_44 : decode cX11_init 44 = .ok (.aload_n 0, 1) := by decide +kernel
theorem dX11_init_45 : decode cX11_init 45 = .ok (.iconst 3, 1) := by decide +kernel
theorem dX11_init_46 : decode cX11_init 46 = .ok (.newarray .int, 2) := by decide +kernel
theorem dX11_init_48 : decode cX11_init 48 = .ok (.putfield 25, 3) := by decide +kernel
theorem dX11_init_51 : decode cX11_init 51 = .ok (.aload_n 0, 1) := by decide +kernel
theorem dX11_init_52 : decode cX11_init 52 = .ok (.iconst 3, 1) := by decide +kernel
theorem dX11_init_53 : decode cX11_init 53 = .ok (.newarray .int, 2) := by decide +kernel
theorem dX11_init_55 : decode cX11_init 55 = .ok (.putfield 28, 3) := by decide +kernel
theorem dX11_init_58 : decode cX11_init 58 = .ok (.aload_n 0, 1) := by decide +kernel
theorem dX11_init_59 : decode cX11_init 59 = .ok (.iconst 1, 1) := by decide +kernel
theorem dX11_init_60 : decode cX11_init 60 = .ok (.putfield 31, 3) := by decide +kernel
theorem dX11_init_63 : decode cX11_init 63 = .ok (.aload_n 0, 1) := by decide +kernel
theorem dX11_init_64 : decode cX11_init 64 = .ok (.iconst 1, 1) := by decide +kernel
theorem dX11_init_65 : decode cX11_init 65 = .ok (.putfield 35, 3) := by decide +kernel
theorem dX11_init_68 : decode cX11_init 68 = .ok (.aload_n 0, 1) := by decide +kernel
theorem dX11_init_69 : decode cX11_init 69 = .ok (.bipush 6, 2) := by decide +kernel
theorem dX11_init_71 : decode cX11_init 71 = .ok (.newarray .int, 2) := by decide +kernel
theorem dX11_init_73 : decode cX11_init 73 = .ok (.putfield 38, 3) := by decide +kernel
theorem dX11_init_76 : decode cX11_init 76 = .ok (.aload_n 0, 1) := by decide +kernel
theorem dX11_init_77 : decode cX11_init 77 = .ok (.bipush 6, 2) := by decide +kernel
theorem dX11_init_79 : decode cX11_init 79 = .ok (.newarray .int, 2) := by decide +kernel
theorem dX11_init_81 : decode cX11_init 81 = .ok (.putfield 41, 3) := by decide +kernel
theorem dX11_init_84 : decode cX11_init 84 = .ok (.aload_n 0, 1) := by decide +kernel
theorem dX11_init_85 : decode cX11_init 85 = .ok (.bipush 6, 2) := by decide +kernel
theorem dX11_init_87 : decode cX11_init 87 = .ok (.newarray .int, 2) := by decide +kernel
theorem dX11_init_89 : decode cX11_init 89 = .ok (.putfield 44, 3) := by decide +kernel
theorem dX11_init_92 : decode cX11_init 92 = .ok (.aload_n 0, 1) := by decide +kernel
theorem dX11_init_93 : decode cX11_init 93 = .ok (.sipush 500, 3) := by decide +kernel
theorem dX11_init_96 : decode cX11_init 96 = .ok (.newarray .int, 2) := by decide +kernel
theorem dX11_init_98 : decode cX11_init 98 = .ok (.putfield 47, 3) := by decide +kernel
theorem dX11_init_101 : decode cX11_init 101 = .ok (.aload_n 0, 1) := by decide +kernel
theorem dX11_init_102 : decode cX11_init 102 = .ok (.iconst (-1), 1) := by decide +kernel
theorem dX11_init_103 : decode cX11_init 103 = .ok (.putfield 50, 3) := by decide +kernel
theorem dX11_init_106 : decode cX11_init 106 = .ok (.aload_n 0, 1) := by decide +kernel
theorem dX11_init_107 : decode cX11_init 107 = .ok (.bipush 42, 2) := by decide +kernel
