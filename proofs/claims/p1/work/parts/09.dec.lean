theorem dX10_isCrowd_0 : decode cX10_isCrowd 0 = .ok (.iload_n 1, 1) := by decide +kernel
theorem dX10_isCrowd_1 : decode cX10_isCrowd 1 = .ok (.ifCond .lt 18, 3) := by decide +kernel
theorem dX10_isCrowd_4 : decode cX10_isCrowd 4 = .ok (.iload_n 1, 1) := by decide +kernel
theorem dX10_isCrowd_5 : decode cX10_isCrowd 5 = .ok (.aload_n 0, 1) := by decide +kernel
theorem dX10_isCrowd_6 : decode cX10_isCrowd 6 = .ok (.getfield 19, 3) := by decide +kernel
theorem dX10_isCrowd_9 : decode cX10_isCrowd 9 = .ok (.getfield 129, 3) := by decide +kernel
theorem dX10_isCrowd_12 : decode cX10_isCrowd 12 = .ok (.if_icmp .ge 7, 3) := by decide +kernel
theorem dX10_isCrowd_15 : decode cX10_isCrowd 15 = .ok (.iconst 1, 1) := by decide +kernel
theorem dX10_isCrowd_16 : decode cX10_isCrowd 16 = .ok (.goto 4, 3) := by decide +kernel
theorem dX10_isCrowd_19 : decode cX10_isCrowd 19 = .ok (.iconst 0, 1) := by decide +kernel
theorem dX10_isCrowd_20 : decode cX10_isCrowd 20 = .ok (.ireturn, 1) := by decide +kernel
theorem dX10_isImage_0 : decode cX10_isImage 0 = .ok (.iload_n 0, 1) := by decide +kernel
theorem dX10_isImage_1 : decode cX10_isImage 1 = .ok (.ifCond .lt 12, 3) := by decide +kernel
theorem dX10_isImage_4 : decode cX10_isImage 4 = .ok (.iload_n 0, 1) := by decide +kernel
theorem dX10_isImage_5 : decode cX10_isImage 5 = .ok (.iconst 2, 1) := by decide +kernel
theorem dX10_isImage_6 : decode cX10_isImage 6 = .ok (.if_icmp .ge 7, 3) := by decide +kernel
theorem dX10_isImage_9 : decode cX10_isImage 9 = .ok (.iconst 1, 1) := by decide +kernel
theorem dX10_isImage_10 : decode cX10_isImage 10 = .ok (.goto 4, 3) := by decide +kernel
theorem dX10_isImage_13 : decode cX10_isImage 13 = .ok (.iconst 0, 1) := by decide +kernel
theorem dX10_isImage_14 : decode cX10_isImage 14 = .ok (.ireturn, 1) := by decide +kernel
theorem dX10_isKind_0 : decode cX10_isKind 0 = .ok (.iload_n 0, 1) := by decide +kernel
theorem dX10_isKind_1 : decode cX10_isKind 1 = .ok (.ifCond .lt 12, 3) := by decide +kernel
theorem dX10_isKind_4 : decode cX10_isKind 4 = .ok (.iload_n 0, 1) := by decide +kernel
theorem dX10_isKind_5 : decode cX10_isKind 5 = .ok (.iconst 3, 1) := by decide +kernel
theorem dX10_isKind_6 : decode cX10_isKind 6 = .ok (.if_icmp .ge 7, 3) := by decide +kernel
theorem dX10_isKind_9 : decode cX10_isKind 9 = .ok (.iconst 1, 1) := by decide +kernel
theorem dX10_isKind_10 : decode cX10_isKind 10 = .ok (.goto 4, 3) := by decide +kernel
theorem dX10_isKind_13 : decode cX10_isKind 13 = .ok (.iconst 0, 1) := by decide +kernel
theorem dX10_isKind_14 : decode cX10_isKind 14 = .ok (.ireturn, 1) := by decide +kernel
theorem dX10_isStep_0 : decode cX10_isStep 0 = .ok (.iload_n 0, 1) := by decide +kernel
theorem dX10_isStep_1 : decode cX10_isStep 1 = .ok (.ifCond .lt 12, 3) := by decide +kernel
theorem dX10_isStep_4 : decode cX10_isStep 4 = .ok (.iload_n 0, 1) := by decide +kernel
theorem dX10_isStep_5 : decode cX10_isStep 5 = .ok (.iconst 4, 1) := by decide +kernel
theorem dX10_isStep_6 : decode cX10_isStep 6 = .ok (.if_icmp .gt 7, 3) := by decide +kernel
theorem dX10_isStep_9 : decode cX10_isStep 9 = .ok (.iconst 1, 1) := by decide +kernel
theorem dX10_isStep_10 : decode cX10_isStep 10 = .ok (.goto 4, 3) := by decide +kernel
theorem dX10_isStep_13 : decode cX10_isStep 13 = .ok (.iconst 0, 1) := by decide +kernel
theorem dX10_isStep_14 : decode cX10_isStep 14 = .ok (.ireturn, 1) := by decide +kernel
theorem dX10_isTune_0 : decode cX10_isTune 0 = .ok (.iload_n 1, 1) := by decide +kernel
theorem dX10_isTune_1 : decode cX10_isTune 1 = .ok (.ifCond .lt 18, 3) := by decide +kernel
theorem dX10_isTune_4 : decode cX10_isTune 4 = .ok (.iload_n 1, 1) := by decide +kernel
theorem dX10_isTune_5 : decode cX10_isTune 5 = .ok (.aload_n 0, 1) := by decide +kernel
theorem dX10_isTune_6 : decode cX10_isTune 6 = .ok (.getfield 19, 3) := by decide +kernel
theorem dX10_isTune_9 : decode cX10_isTune 9 = .ok (.getfield 132, 3) := by decide +kernel
theorem dX10_isTune_12 : decode cX10_isTune 12 = .ok (.if_icmp .ge 7, 3) := by decide +kernel
theorem dX10_isTune_15 : decode cX10_isTune 15 = .ok (.iconst 1, 1) := by decide +kernel
theorem dX10_isTune_16 : decode cX10_isTune 16 = .ok (.goto 4, 3) := by decide +kernel
theorem dX10_isTune_19 : decode cX10_isTune 19 = .ok (.iconst 0, 1) := by decide +kernel
theorem dX10_isTune_20 : decode cX10_isTune 20 = .ok (.ireturn, 1) := by decide +kernel
theorem dX10_isTuneOrNone_0 : decode cX10_isTuneOrNone 0 = .ok (.iload_n 1, 1) := by decide +kernel
theorem dX10_isTuneOrNone_1 : decode cX10_isTuneOrNone 1 = .ok (.iconst (-1), 1) := by decide +kernel
theorem dX10_isTuneOrNone_2 : decode cX10_isTuneOrNone 2 = .ok (.if_icmp .eq 11, 3) := by decide +kernel
theorem dX10_isTuneOrNone_5 : decode cX10_isTuneOrNone 5 = .ok (.aload_n 0, 1) := by decide +kernel
theorem dX10_isTuneOrNone_6 : decode cX10_isTuneOrNone 6 = .ok (.iload_n 1, 1) := by decide +kernel
theorem dX10_isTuneOrNone_7 : decode cX10_isTuneOrNone 7 = .ok (.invokevirtual 190, 3) := by decide +kernel
theorem dX10_isTuneOrNone_10 : decode cX10_isTuneOrNone 10 = .ok (.ifCond .eq 7, 3) := by decide +kernel
theorem dX10_isTuneOrNone_13 : decode cX10_isTuneOrNone 13 = .ok (.iconst 1, 1) := by decide +kernel
theorem dX10_isTuneOrNone_14 : decode cX10_isTuneOrNone 14 = .ok (.goto 4, 3) := by decide +kernel
theorem dX10_isTuneOrNone_17 : decode cX10_isTuneOrNone 17 = .ok (.iconst 0, 1) := by decide +kernel
theorem dX10_isTuneOrNone_18 : decode cX10_isTuneOrNone 18 = .ok (.ireturn, 1) := by decide +kernel
theorem dX1_cellAt_0 : decode cX1_cellAt 0 = .ok (.iload_n 1, 1) := by decide +kernel
theorem dX1_cellAt_1 : decode cX1_cellAt 1 = .ok (.ifCond .lt 34, 3) := by decide +kernel
theorem dX1_cellAt_4 : decode cX1_cellAt 4 = .ok (.iload_n 1, 1) := by decide +kernel
theorem dX1_cellAt_5 : decode cX1_cellAt 5 = .ok (.aload_n 0, 1) := by decide +kernel
theorem dX1_cellAt_6 : decode cX1_cellAt 6 = .ok (.getfield 37, 3) := by decide +kernel
theorem dX1_cellAt_9 : decode cX1_cellAt 9 = .ok (.if_icmp .ge 26, 3) := by decide +kernel
theorem dX1_cellAt_12 : decode cX1_cellAt 12 = .ok (.iload_n 2, 1) := by decide +kernel
theorem dX1_cellAt_13 : decode cX1_cellAt 13 = .ok (.ifCond .lt 22, 3) := by decide +kernel
theorem dX1_cellAt_16 : decode cX1_cellAt 16 = .ok (.iload_n 2, 1) := by decide +kernel
theorem dX1_cellAt_17 : decode cX1_cellAt 17 = .ok (.aload_n 0, 1) := by decide +kernel
theorem dX1_cellAt_18 : decode cX1_cellAt 18 = .ok (.getfield 41, 3) := by decide +kernel
theorem dX1_cellAt_21 : decode cX1_cellAt 21 = .ok (.if_icmp .ge 14, 3) := by decide +kernel
theorem dX1_cellAt_24 : decode cX1_cellAt 24 = .ok (.iload_n 2, 1) := by decide +kernel
theorem dX1_cellAt_25 : decode cX1_cellAt 25 = .ok (.aload_n 0, 1) := by decide +kernel
theorem dX1_cellAt_26 : decode cX1_cellAt 26 = .ok (.getfield 37, 3) := by decide +kernel
theorem dX1_cellAt_29 : decode cX1_cellAt 29 = .ok (.imul, 1) := by decide +kernel
theorem dX1_cellAt_30 : decode cX1_cellAt 30 = .ok (.iload_n 1, 1) := by decide +kernel
theorem dX1_cellAt_31 : decode cX1_cellAt 31 = .ok (.iadd, 1) := by decide +kernel
theorem dX1_cellAt_32 : decode cX1_cellAt 32 = .ok (.goto 4, 3) := by decide +kernel
theorem dX1_cellAt_35 : decode cX1_cellAt 35 = .ok (.iconst (-1), 1) := by decide +kernel
theorem dX1_cellAt_36 : decode cX1_cellAt 36 = .ok (.ireturn, 1) := by decide +kernel
theorem dX1_code_0 : decode cX1_code 0 = .ok (.iload_n 1, 1) := by decide +kernel
theorem dX1_code_1 : decode cX1_code 1 = .ok (.invokestatic 65, 3) := by decide +kernel
theorem dX1_code_4 : decode cX1_code 4 = .ok (.ifCond .eq 12, 3) := by decide +kernel
theorem dX1_code_7 : decode cX1_code 7 = .ok (.aload_n 0, 1) := by decide +kernel
theorem dX1_code_8 : decode cX1_code 8 = .ok (.getfield 15, 3) := by decide +kernel
theorem dX1_code_11 : decode cX1_code 11 = .ok (.iload_n 1, 1) := by decide +kernel
theorem dX1_code_12 : decode cX1_code 12 = .ok (.iaload, 1) := by decide +kernel
theorem dX1_code_13 : decode cX1_code 13 = .ok (.goto 4, 3) := by decide +kernel
theorem dX1_code_16 : decode cX1_code 16 = .ok (.iconst (-1), 1) := by decide +kernel
theorem dX1_code_17 : decode cX1_code 17 = .ok (.ireturn, 1) := by decide +kernel
theorem dX1_forgetWays_0 : decode cX1_forgetWays 0 = .ok (.iconst 0, 1) := by decide +kernel
theorem dX1_forgetWays_1 : decode cX1_forgetWays 1 = .ok (.istore_n 1, 1) := by decide +kernel
theorem dX1_forgetWays_2 : decode cX1_forgetWays 2 = .ok (.iload_n 1, 1) := by decide +kernel
theorem dX1_forgetWays_3 : decode cX1_forgetWays 3 = .ok (.bipush 42, 2) := by decide +kernel
theorem dX1_forgetWays_5 : decode cX1_forgetWays 5 = .ok (.if_icmp .ge 16, 3) := by decide +kernel
theorem dX1_forgetWays_8 : decode cX1_forgetWays 8 = .ok (.aload_n 0, 1) := by decide +kernel
theorem dX1_forgetWays_9 : decode cX1_forgetWays 9 = .ok (.getfield 24, 3) := by decide +kernel
theorem dX1_forgetWays_12 : decode cX1_forgetWays 12 = .ok (.iload_n 1, 1) := by decide +kernel
theorem dX1_forgetWays_13 : decode cX1_forgetWays 13 = .ok (.iconst 0, 1) := by decide +kernel
theorem dX1_forgetWays_14 : decode cX1_forgetWays 14 = .ok (.bastore, 1) := by decide +kernel
theorem dX1_forgetWays_15 : decode cX1_forgetWays 15 = .ok (.iinc 1 1, 3) := by decide +kernel
theorem dX1_forgetWays_18 : decode cX1_forgetWays 18 = .ok (.goto (-16), 3) := by decide +kernel
theorem dX1_forgetWays_21 : decode cX1_forgetWays 21 = .ok (.return_, 1) := by decide +kernel
theorem dX1_isCell_0 : decode cX1_isCell 0 = .ok (.iload_n 0, 1) := by decide +kernel
theorem dX1_isCell_1 : decode cX1_isCell 1 = .ok (.ifCond .lt 13, 3) := by decide +kernel
theorem dX1_isCell_4 : decode cX1_isCell 4 = .ok (.iload_n 0, 1) := by decide +kernel
theorem dX1_isCell_5 : decode cX1_isCell 5 = .ok (.bipush 42, 2) := by decide +kernel
theorem dX1_isCell_7 : decode cX1_isCell 7 = .ok (.if_icmp .ge 7, 3) := by decide +kernel
theorem dX1_isCell_10 : decode cX1_isCell 10 = .ok (.iconst 1, 1) := by decide +kernel
theorem dX1_isCell_11 : decode cX1_isCell 11 = .ok (.goto 4, 3) := by decide +kernel
theorem dX1_isCell_14 : decode cX1_isCell 14 = .ok (.iconst 0, 1) := by decide +kernel
theorem dX1_isCell_15 : decode cX1_isCell 15 = .ok (.ireturn, 1) := by decide +kernel
