theorem dX12_lowest_0 : decode cX12_lowest 0 = .ok (.lload_n 0, 1) := by decide +kernel
theorem dX12_lowest_1 : decode cX12_lowest 1 = .ok (.lstore 5, 2) := by decide +kernel
theorem dX12_lowest_3 : decode cX12_lowest 3 = .ok (.lload_n 2, 1) := by decide +kernel
theorem dX12_lowest_4 : decode cX12_lowest 4 = .ok (.lstore 7, 2) := by decide +kernel
theorem dX12_lowest_6 : decode cX12_lowest 6 = .ok (.lload 7, 2) := by decide +kernel
theorem dX12_lowest_8 : decode cX12_lowest 8 = .ok (.lconst 0, 1) := by decide +kernel
theorem dX12_lowest_9 : decode cX12_lowest 9 = .ok (.lcmp, 1) := by decide +kernel
theorem dX12_lowest_10 : decode cX12_lowest 10 = .ok (.ifCond .eq 21, 3) := by decide +kernel
theorem dX12_lowest_13 : decode cX12_lowest 13 = .ok (.lload 5, 2) := by decide +kernel
theorem dX12_lowest_15 : decode cX12_lowest 15 = .ok (.lload 7, 2) := by decide +kernel
theorem dX12_lowest_17 : decode cX12_lowest 17 = .ok (.lrem, 1) := by decide +kernel
theorem dX12_lowest_18 : decode cX12_lowest 18 = .ok (.lstore 9, 2) := by decide +kernel
theorem dX12_lowest_20 : decode cX12_lowest 20 = .ok (.lload 7, 2) := by decide +kernel
theorem dX12_lowest_22 : decode cX12_lowest 22 = .ok (.lstore 5, 2) := by decide +kernel
theorem dX12_lowest_24 : decode cX12_lowest 24 = .ok (.lload 9, 2) := by decide +kernel
theorem dX12_lowest_26 : decode cX12_lowest 26 = .ok (.lstore 7, 2) := by decide +kernel
theorem dX12_lowest_28 : decode cX12_lowest 28 = .ok (.goto (-22), 3) := by decide +kernel
theorem dX12_lowest_31 : decode cX12_lowest 31 = .ok (.iload 4, 2) := by decide +kernel
theorem dX12_lowest_33 : decode cX12_lowest 33 = .ok (.ifCond .ne 7, 3) := by decide +kernel
theorem dX12_lowest_36 : decode cX12_lowest 36 = .ok (.lload_n 0, 1) := by decide +kernel
theorem dX12_lowest_37 : decode cX12_lowest 37 = .ok (.goto 4, 3) := by decide +kernel
theorem dX12_lowest_40 : decode cX12_lowest 40 = .ok (.lload_n 2, 1) := by decide +kernel
theorem dX12_lowest_41 : decode cX12_lowest 41 = .ok (.lload 5, 2) := by decide +kernel
theorem dX12_lowest_43 : decode cX12_lowest 43 = .ok (.ldiv, 1) := by decide +kernel
theorem dX12_lowest_44 : decode cX12_lowest 44 = .ok (.lreturn, 1) := by decide +kernel
theorem dX12_sumBy_0 : decode cX12_sumBy 0 = .ok (.aload_n 0, 1) := by decide +kernel
theorem dX12_sumBy_1 : decode cX12_sumBy 1 = .ok (.iload_n 1, 1) := by decide +kernel
theorem dX12_sumBy_2 : decode cX12_sumBy 2 = .ok (.iload_n 2, 1) := by decide +kernel
theorem dX12_sumBy_3 : decode cX12_sumBy 3 = .ok (.iconst 0, 1) := by decide +kernel
theorem dX12_sumBy_4 : decode cX12_sumBy 4 = .ok (.invokevirtual 156, 3) := by decide +kernel
theorem dX12_sumBy_7 : decode cX12_sumBy 7 = .ok (.istore 4, 2) := by decide +kernel
theorem dX12_sumBy_9 : decode cX12_sumBy 9 = .ok (.iconst 0, 1) := by decide +kernel
theorem dX12_sumBy_10 : decode cX12_sumBy 10 = .ok (.istore 5, 2) := by decide +kernel
theorem dX12_sumBy_12 : decode cX12_sumBy 12 = .ok (.iconst 0, 1) := by decide +kernel
theorem dX12_sumBy_13 : decode cX12_sumBy 13 = .ok (.istore 6, 2) := by decide +kernel
theorem dX12_sumBy_15 : decode cX12_sumBy 15 = .ok (.iload 6, 2) := by decide +kernel
theorem dX12_sumBy_17 : decode cX12_sumBy 17 = .ok (.bipush 10, 2) := by decide +kernel
theorem dX12_sumBy_19 : decode cX12_sumBy 19 = .ok (.if_icmp .ge 25, 3) := by decide +kernel
theorem dX12_sumBy_22 : decode cX12_sumBy 22 = .ok (.iload 5, 2) := by decide +kernel
theorem dX12_sumBy_24 : decode cX12_sumBy 24 = .ok (.aload_n 0, 1) := by decide +kernel
theorem dX12_sumBy_25 : decode cX12_sumBy 25 = .ok (.iload_n 1, 1) := by decide +kernel
theorem dX12_sumBy_26 : decode cX12_sumBy 26 = .ok (.iload_n 2, 1) := by decide +kernel
theorem dX12_sumBy_27 : decode cX12_sumBy 27 = .ok (.iload_n 3, 1) := by decide +kernel
theorem dX12_sumBy_28 : decode cX12_sumBy 28 = .ok (.iload 6, 2) := by decide +kernel
theorem dX12_sumBy_30 : decode cX12_sumBy 30 = .ok (.iload 4, 2) := by decide +kernel
theorem dX12_sumBy_32 : decode cX12_sumBy 32 = .ok (.invokevirtual 159, 3) := by decide +kernel
theorem dX12_sumBy_35 : decode cX12_sumBy 35 = .ok (.iadd, 1) := by decide +kernel
theorem dX12_sumBy_36 : decode cX12_sumBy 36 = .ok (.istore 5, 2) := by decide +kernel
theorem dX12_sumBy_38 : decode cX12_sumBy 38 = .ok (.iinc 6 1, 3) := by decide +kernel
theorem dX12_sumBy_41 : decode cX12_sumBy 41 = .ok (.goto (-26), 3) := by decide +kernel
theorem dX12_sumBy_44 : decode cX12_sumBy 44 = .ok (.iload 5, 2) := by decide +kernel
theorem dX12_sumBy_46 : decode cX12_sumBy 46 = .ok (.ireturn, 1) := by decide +kernel
theorem dX12_mean_0 : decode cX12_mean 0 = .ok (.aload_n 0, 1) := by decide +kernel
theorem dX12_mean_1 : decode cX12_mean 1 = .ok (.iload_n 1, 1) := by decide +kernel
theorem dX12_mean_2 : decode cX12_mean 2 = .ok (.invokevirtual 136, 3) := by decide +kernel
theorem dX12_mean_5 : decode cX12_mean 5 = .ok (.ifCond .eq 21, 3) := by decide +kernel
theorem dX12_mean_8 : decode cX12_mean 8 = .ok (.iload_n 2, 1) := by decide +kernel
theorem dX12_mean_9 : decode cX12_mean 9 = .ok (.iload_n 3, 1) := by decide +kernel
theorem dX12_mean_10 : decode cX12_mean 10 = .ok (.invokestatic 148, 3) := by decide +kernel
theorem dX12_mean_13 : decode cX12_mean 13 = .ok (.ifCond .eq 13, 3) := by decide +kernel
theorem dX12_mean_16 : decode cX12_mean 16 = .ok (.iload 4, 2) := by decide +kernel
theorem dX12_mean_18 : decode cX12_mean 18 = .ok (.iconst 0, 1) := by decide +kernel
theorem dX12_mean_19 : decode cX12_mean 19 = .ok (.iconst 1, 1) := by decide +kernel
theorem dX12_mean_20 : decode cX12_mean 20 = .ok (.invokestatic 41, 3) := by decide +kernel
theorem dX12_mean_23 : decode cX12_mean 23 = .ok (.ifCond .ne 7, 3) := by decide +kernel
theorem dX12_mean_26 : decode cX12_mean 26 = .ok (.ldc2_w 173, 3) := by decide +kernel
theorem dX12_mean_29 : decode cX12_mean 29 = .ok (.lreturn, 1) := by decide +kernel
theorem dX12_mean_30 : decode cX12_mean 30 = .ok (.aload_n 0, 1) := by decide +kernel
theorem dX12_mean_31 : decode cX12_mean 31 = .ok (.iload_n 1, 1) := by decide +kernel
theorem dX12_mean_32 : decode cX12_mean 32 = .ok (.iload_n 2, 1) := by decide +kernel
theorem dX12_mean_33 : decode cX12_mean 33 = .ok (.iload_n 3, 1) := by decide +kernel
theorem dX12_mean_34 : decode cX12_mean 34 = .ok (.invokevirtual 175, 3) := by decide +kernel
theorem dX12_mean_37 : decode cX12_mean 37 = .ok (.i2l, 1) := by decide +kernel
theorem dX12_mean_38 : decode cX12_mean 38 = .ok (.ldc2_w 178, 3) := by decide +kernel
theorem dX12_mean_41 : decode cX12_mean 41 = .ok (.iload 4, 2) := by decide +kernel
theorem dX12_mean_43 : decode cX12_mean 43 = .ok (.invokestatic 180, 3) := by decide +kernel
theorem dX12_mean_46 : decode cX12_mean 46 = .ok (.lreturn, 1) := by decide +kernel
theorem dX12_bestOf_0 : decode cX12_bestOf 0 = .ok (.aload_n 0, 1) := by decide +kernel
theorem dX12_bestOf_1 : decode cX12_bestOf 1 = .ok (.iload_n 1, 1) := by decide +kernel
theorem dX12_bestOf_2 : decode cX12_bestOf 2 = .ok (.iload_n 2, 1) := by decide +kernel
theorem dX12_bestOf_3 : decode cX12_bestOf 3 = .ok (.iconst 0, 1) := by decide +kernel
theorem dX12_bestOf_4 : decode cX12_bestOf 4 = .ok (.invokevirtual 156, 3) := by decide +kernel
theorem dX12_bestOf_7 : decode cX12_bestOf 7 = .ok (.istore_n 3, 1) := by decide +kernel
theorem dX12_bestOf_8 : decode cX12_bestOf 8 = .ok (.iconst (-1), 1) := by decide +kernel
theorem dX12_bestOf_9 : decode cX12_bestOf 9 = .ok (.istore 4, 2) := by decide +kernel
theorem dX12_bestOf_11 : decode cX12_bestOf 11 = .ok (.iconst 0, 1) := by decide +kernel
theorem dX12_bestOf_12 : decode cX12_bestOf 12 = .ok (.istore 5, 2) := by decide +kernel
theorem dX12_bestOf_14 : decode cX12_bestOf 14 = .ok (.iload 5, 2) := by decide +kernel
theorem dX12_bestOf_16 : decode cX12_bestOf 16 = .ok (.bipush 20, 2) := by decide +kernel
theorem dX12_bestOf_18 : decode cX12_bestOf 18 = .ok (.if_icmp .gt 56, 3) := by decide +kernel
theorem dX12_bestOf_21 : decode cX12_bestOf 21 = .ok (.aload_n 0, 1) := by decide +kernel
theorem dX12_bestOf_22 : decode cX12_bestOf 22 = .ok (.iload_n 1, 1) := by decide +kernel
theorem dX12_bestOf_23 : decode cX12_bestOf 23 = .ok (.iload_n 2, 1) := by decide +kernel
theorem dX12_bestOf_24 : decode cX12_bestOf 24 = .ok (.iload 5, 2) := by decide +kernel
theorem dX12_bestOf_26 : decode cX12_bestOf 26 = .ok (.iload_n 3, 1) := by decide +kernel
theorem dX12_bestOf_27 : decode cX12_bestOf 27 = .ok (.invokevirtual 170, 3) := by decide +kernel
theorem dX12_bestOf_30 : decode cX12_bestOf 30 = .ok (.istore 6, 2) := by decide +kernel
theorem dX12_bestOf_32 : decode cX12_bestOf 32 = .ok (.aload_n 0, 1) := by decide +kernel
theorem dX12_bestOf_33 : decode cX12_bestOf 33 = .ok (.iload 6, 2) := by decide +kernel
theorem dX12_bestOf_35 : decode cX12_bestOf 35 = .ok (.iload 4, 2) := by decide +kernel
theorem dX12_bestOf_37 : decode cX12_bestOf 37 = .ok (.if_icmp .le 8, 3) := by decide +kernel
theorem dX12_bestOf_40 : decode cX12_bestOf 40 = .ok (.iload 5, 2) := by decide +kernel
theorem dX12_bestOf_42 : decode cX12_bestOf 42 = .ok (.goto 7, 3) := by decide +kernel
theorem dX12_bestOf_45 : decode cX12_bestOf 45 = .ok (.aload_n 0, 1) := by decide +kernel
theorem dX12_bestOf_46 : decode cX12_bestOf 46 = .ok (.getfield 184, 3) := by decide +kernel
theorem dX12_bestOf_49 : decode cX12_bestOf 49 = .ok (.putfield 184, 3) := by decide +kernel
theorem dX12_bestOf_52 : decode cX12_bestOf 52 = .ok (.iload 6, 2) := by decide +kernel
theorem dX12_bestOf_54 : decode cX12_bestOf 54 = .ok (.iload 4, 2) := by decide +kernel
theorem dX12_bestOf_56 : decode cX12_bestOf 56 = .ok (.if_icmp .le 8, 3) := by decide +kernel
theorem dX12_bestOf_59 : decode cX12_bestOf 59 = .ok (.iload 6, 2) := by decide +kernel
theorem dX12_bestOf_61 : decode cX12_bestOf 61 = .ok (.goto 5, 3) := by decide +kernel
theorem dX12_bestOf_64 : decode cX12_bestOf 64 = .ok (.iload 4, 2) := by decide +kernel
theorem dX12_bestOf_66 : decode cX12_bestOf 66 = .ok (.istore 4, 2) := by decide +kernel
theorem dX12_bestOf_68 : decode cX12_bestOf 68 = .ok (.iinc 5 1, 3) := by decide +kernel
theorem dX12_bestOf_71 : decode cX12_bestOf 71 = .ok (.goto (-57), 3) := by decide +kernel
theorem dX12_bestOf_74 : decode cX12_bestOf 74 = .ok (.iload 4, 2) := by decide +kernel
theorem dX12_bestOf_76 : decode cX12_bestOf 76 = .ok (.ireturn, 1) := by decide +kernel
theorem dX12_best_0 : decode cX12_best 0 = .ok (.aload_n 0, 1) := by decide +kernel
theorem dX12_best_1 : decode cX12_best 1 = .ok (.iload_n 1, 1) := by decide +kernel
theorem dX12_best_2 : decode cX12_best 2 = .ok (.invokevirtual 136, 3) := by decide +kernel
theorem dX12_best_5 : decode cX12_best 5 = .ok (.ifCond .eq 12, 3) := by decide +kernel
theorem dX12_best_8 : decode cX12_best 8 = .ok (.iload_n 3, 1) := by decide +kernel
theorem dX12_best_9 : decode cX12_best 9 = .ok (.iconst 0, 1) := by decide +kernel
theorem dX12_best_10 : decode cX12_best 10 = .ok (.iconst 1, 1) := by decide +kernel
theorem dX12_best_11 : decode cX12_best 11 = .ok (.invokestatic 41, 3) := by decide +kernel
theorem dX12_best_14 : decode cX12_best 14 = .ok (.ifCond .ne 5, 3) := by decide +kernel
theorem dX12_best_17 : decode cX12_best 17 = .ok (.iconst (-1), 1) := by decide +kernel
theorem dX12_best_18 : decode cX12_best 18 = .ok (.ireturn, 1) := by decide +kernel
theorem dX12_best_19 : decode cX12_best 19 = .ok (.iload_n 2, 1) := by decide +kernel
theorem dX12_best_20 : decode cX12_best 20 = .ok (.iconst 1, 1) := by decide +kernel
theorem dX12_best_21 : decode cX12_best 21 = .ok (.bipush 99, 2) := by decide +kernel
theorem dX12_best_23 : decode cX12_best 23 = .ok (.invokestatic 41, 3) := by decide +kernel
theorem dX12_best_26 : decode cX12_best 26 = .ok (.ifCond .ne 6, 3) := by decide +kernel
theorem dX12_best_29 : decode cX12_best 29 = .ok (.bipush (-2), 2) := by decide +kernel
theorem dX12_best_31 : decode cX12_best 31 = .ok (.ireturn, 1) := by decide +kernel
theorem dX12_best_32 : decode cX12_best 32 = .ok (.aload_n 0, 1) := by decide +kernel
theorem dX12_best_33 : decode cX12_best 33 = .ok (.iload_n 1, 1) := by decide +kernel
theorem dX12_best_34 : decode cX12_best 34 = .ok (.iload_n 2, 1) := by decide +kernel
theorem dX12_best_35 : decode cX12_best 35 = .ok (.invokevirtual 187, 3) := by decide +kernel
theorem dX12_best_38 : decode cX12_best 38 = .ok (.istore 4, 2) := by decide +kernel
theorem dX12_best_40 : decode cX12_best 40 = .ok (.iload_n 3, 1) := by decide +kernel
theorem dX12_best_41 : decode cX12_best 41 = .ok (.ifCond .ne 10, 3) := by decide +kernel
theorem dX12_best_44 : decode cX12_best 44 = .ok (.aload_n 0, 1) := by decide +kernel
theorem dX12_best_45 : decode cX12_best 45 = .ok (.getfield 184, 3) := by decide +kernel
theorem dX12_best_48 : decode cX12_best 48 = .ok (.goto 5, 3) := by decide +kernel
theorem dX12_best_51 : decode cX12_best 51 = .ok (.iload 4, 2) := by decide +kernel
theorem dX12_best_53 : decode cX12_best 53 = .ok (.ireturn, 1) := by decide +kernel
theorem dX12_mostOf_0 : decode cX12_mostOf 0 = .ok (.bipush 99, 2) := by decide +kernel
theorem dX12_mostOf_2 : decode cX12_mostOf 2 = .ok (.istore_n 2, 1) := by decide +kernel
theorem dX12_mostOf_3 : decode cX12_mostOf 3 = .ok (.iload_n 2, 1) := by decide +kernel
theorem dX12_mostOf_4 : decode cX12_mostOf 4 = .ok (.ifCond .le 21, 3) := by decide +kernel
theorem dX12_mostOf_7 : decode cX12_mostOf 7 = .ok (.aload_n 0, 1) := by decide +kernel
theorem dX12_mostOf_8 : decode cX12_mostOf 8 = .ok (.iload_n 1, 1) := by decide +kernel
theorem dX12_mostOf_9 : decode cX12_mostOf 9 = .ok (.iload_n 2, 1) := by decide +kernel
theorem dX12_mostOf_10 : decode cX12_mostOf 10 = .ok (.invokevirtual 187, 3) := by decide +kernel
theorem dX12_mostOf_13 : decode cX12_mostOf 13 = .ok (.iconst 5, 1) := by decide +kernel
theorem dX12_mostOf_14 : decode cX12_mostOf 14 = .ok (.if_icmp .lt 5, 3) := by decide +kernel
theorem dX12_mostOf_17 : decode cX12_mostOf 17 = .ok (.iload_n 2, 1) := by decide +kernel
theorem dX12_mostOf_18 : decode cX12_mostOf 18 = .ok (.ireturn, 1) := by decide +kernel
theorem dX12_mostOf_19 : decode cX12_mostOf 19 = .ok (.iinc 2 (-1), 3) := by decide +kernel
theorem dX12_mostOf_22 : decode cX12_mostOf 22 = .ok (.goto (-19), 3) := by decide +kernel
theorem dX12_mostOf_25 : decode cX12_mostOf 25 = .ok (.iconst 0, 1) := by decide +kernel
theorem dX12_mostOf_26 : decode cX12_mostOf 26 = .ok (.ireturn, 1) := by decide +kernel
theorem dX12_most_0 : decode cX12_most 0 = .ok (.aload_n 0, 1) := by decide +kernel
theorem dX12_most_1 : decode cX12_most 1 = .ok (.iload_n 1, 1) := by decide +kernel
theorem dX12_most_2 : decode cX12_most 2 = .ok (.invokevirtual 136, 3) := by decide +kernel
theorem dX12_most_5 : decode cX12_most 5 = .ok (.ifCond .eq 11, 3) := by decide +kernel
theorem dX12_most_8 : decode cX12_most 8 = .ok (.aload_n 0, 1) := by decide +kernel
theorem dX12_most_9 : decode cX12_most 9 = .ok (.iload_n 1, 1) := by decide +kernel
theorem dX12_most_10 : decode cX12_most 10 = .ok (.invokevirtual 190, 3) := by decide +kernel
theorem dX12_most_13 : decode cX12_most 13 = .ok (.goto 4, 3) := by decide +kernel
theorem dX12_most_16 : decode cX12_most 16 = .ok (.iconst (-1), 1) := by decide +kernel
theorem dX12_most_17 : decode cX12_most 17 = .ok (.ireturn, 1) := by decide +kernel
theorem dX12_learns_0 : decode cX12_learns 0 = .ok (.aload_n 0, 1) := by decide +kernel
theorem dX12_learns_1 : decode cX12_learns 1 = .ok (.iload_n 1, 1) := by decide +kernel
theorem dX12_learns_2 : decode cX12_learns 2 = .ok (.invokevirtual 136, 3) := by decide +kernel
theorem dX12_learns_5 : decode cX12_learns 5 = .ok (.ifCond .ne 5, 3) := by decide +kernel
theorem dX12_learns_8 : decode cX12_learns 8 = .ok (.iconst (-1), 1) := by decide +kernel
theorem dX12_learns_9 : decode cX12_learns 9 = .ok (.ireturn, 1) := by decide +kernel
theorem dX12_learns_10 : decode cX12_learns 10 = .ok (.iconst 0, 1) := by decide +kernel
theorem dX12_learns_11 : decode cX12_learns 11 = .ok (.istore_n 2, 1) := by decide +kernel
theorem dX12_learns_12 : decode cX12_learns 12 = .ok (.iconst (-1), 1) := by decide +kernel
theorem dX12_learns_13 : decode cX12_learns 13 = .ok (.istore_n 3, 1) := by decide +kernel
theorem dX12_learns_14 : decode cX12_learns 14 = .ok (.aload_n 0, 1) := by decide +kernel
theorem dX12_learns_15 : decode cX12_learns 15 = .ok (.getfield 9, 3) := by decide +kernel
theorem dX12_learns_18 : decode cX12_learns 18 = .ok (.bipush 37, 2) := by decide +kernel
theorem dX12_learns_20 : decode cX12_learns 20 = .ok (.iload_n 1, 1) := by decide +kernel
theorem dX12_learns_21 : decode cX12_learns 21 = .ok (.iadd, 1) := by decide +kernel
theorem dX12_learns_22 : decode cX12_learns 22 = .ok (.iaload, 1) := by decide +kernel
theorem dX12_learns_23 : decode cX12_learns 23 = .ok (.iconst 5, 1) := by decide +kernel
theorem dX12_learns_24 : decode cX12_learns 24 = .ok (.isub, 1) := by decide +kernel
theorem dX12_learns_25 : decode cX12_learns 25 = .ok (.istore 4, 2) := by decide +kernel
theorem dX12_learns_27 : decode cX12_learns 27 = .ok (.iload 4, 2) := by decide +kernel
theorem dX12_learns_29 : decode cX12_learns 29 = .ok (.aload_n 0, 1) := by decide +kernel
theorem dX12_learns_30 : decode cX12_learns 30 = .ok (.getfield 9, 3) := by decide +kernel
theorem dX12_learns_33 : decode cX12_learns 33 = .ok (.bipush 37, 2) := by decide +kernel
theorem dX12_learns_35 : decode cX12_learns 35 = .ok (.iload_n 1, 1) := by decide +kernel
theorem dX12_learns_36 : decode cX12_learns 36 = .ok (.iadd, 1) := by decide +kernel
theorem dX12_learns_37 : decode cX12_learns 37 = .ok (.iaload, 1) := by decide +kernel
theorem dX12_learns_38 : decode cX12_learns 38 = .ok (.iconst 5, 1) := by decide +kernel
theorem dX12_learns_39 : decode cX12_learns 39 = .ok (.iadd, 1) := by decide +kernel
theorem dX12_learns_40 : decode cX12_learns 40 = .ok (.if_icmp .gt 65, 3) := by decide +kernel
theorem dX12_learns_43 : decode cX12_learns 43 = .ok (.iload 4, 2) := by decide +kernel
theorem dX12_learns_45 : decode cX12_learns 45 = .ok (.iconst 1, 1) := by decide +kernel
theorem dX12_learns_46 : decode cX12_learns 46 = .ok (.bipush 99, 2) := by decide +kernel
theorem dX12_learns_48 : decode cX12_learns 48 = .ok (.invokestatic 41, 3) := by decide +kernel
theorem dX12_learns_51 : decode cX12_learns 51 = .ok (.ifCond .eq 13, 3) := by decide +kernel
theorem dX12_learns_54 : decode cX12_learns 54 = .ok (.aload_n 0, 1) := by decide +kernel
theorem dX12_learns_55 : decode cX12_learns 55 = .ok (.iload_n 1, 1) := by decide +kernel
theorem dX12_learns_56 : decode cX12_learns 56 = .ok (.iload 4, 2) := by decide +kernel
theorem dX12_learns_58 : decode cX12_learns 58 = .ok (.invokevirtual 187, 3) := by decide +kernel
theorem dX12_learns_61 : decode cX12_learns 61 = .ok (.goto 4, 3) := by decide +kernel
theorem dX12_learns_64 : decode cX12_learns 64 = .ok (.iconst (-1), 1) := by decide +kernel
theorem dX12_learns_65 : decode cX12_learns 65 = .ok (.istore 5, 2) := by decide +kernel
theorem dX12_learns_67 : decode cX12_learns 67 = .ok (.iload 5, 2) := by decide +kernel
theorem dX12_learns_69 : decode cX12_learns 69 = .ok (.iload_n 3, 1) := by decide +kernel
theorem dX12_learns_70 : decode cX12_learns 70 = .ok (.if_icmp .lt 14, 3) := by decide +kernel
theorem dX12_learns_73 : decode cX12_learns 73 = .ok (.iload 5, 2) := by decide +kernel
theorem dX12_learns_75 : decode cX12_learns 75 = .ok (.iconst (-1), 1) := by decide +kernel
theorem dX12_learns_76 : decode cX12_learns 76 = .ok (.if_icmp .eq 8, 3) := by decide +kernel
theorem dX12_learns_79 : decode cX12_learns 79 = .ok (.iload 4, 2) := by decide +kernel
theorem dX12_learns_81 : decode cX12_learns 81 = .ok (.goto 4, 3) := by decide +kernel
theorem dX12_learns_84 : decode cX12_learns 84 = .ok (.iload_n 2, 1) := by decide +kernel
theorem dX12_learns_85 : decode cX12_learns 85 = .ok (.istore_n 2, 1) := by decide +kernel
theorem dX12_learns_86 : decode cX12_learns 86 = .ok (.iload 5, 2) := by decide +kernel
theorem dX12_learns_88 : decode cX12_learns 88 = .ok (.iload_n 3, 1) := by decide +kernel
theorem dX12_learns_89 : decode cX12_learns 89 = .ok (.if_icmp .le 8, 3) := by decide +kernel
theorem dX12_learns_92 : decode cX12_learns 92 = .ok (.iload 5, 2) := by decide +kernel
theorem dX12_learns_94 : decode cX12_learns 94 = .ok (.goto 4, 3) := by decide +kernel
theorem dX12_learns_97 : decode cX12_learns 97 = .ok (.iload_n 3, 1) := by decide +kernel
theorem dX12_learns_98 : decode cX12_learns 98 = .ok (.istore_n 3, 1) := by decide +kernel
theorem dX12_learns_99 : decode cX12_learns 99 = .ok (.iinc 4 1, 3) := by decide +kernel
theorem dX12_learns_102 : decode cX12_learns 102 = .ok (.goto (-75), 3) := by decide +kernel
theorem dX12_learns_105 : decode cX12_learns 105 = .ok (.iload_n 2, 1) := by decide +kernel
theorem dX12_learns_106 : decode cX12_learns 106 = .ok (.ireturn, 1) := by decide +kernel
theorem dX12_planOdds_0 : decode cX12_planOdds 0 = .ok (.bipush 12, 2) := by decide +kernel
theorem dX12_planOdds_2 : decode cX12_planOdds 2 = .ok (.aload_n 0, 1) := by decide +kernel
theorem dX12_planOdds_3 : decode cX12_planOdds 3 = .ok (.getfield 9, 3) := by decide +kernel
theorem dX12_planOdds_6 : decode cX12_planOdds 6 = .ok (.bipush 19, 2) := by decide +kernel
theorem dX12_planOdds_8 : decode cX12_planOdds 8 = .ok (.iload_n 1, 1) := by decide +kernel
theorem dX12_planOdds_9 : decode cX12_planOdds 9 = .ok (.iadd, 1) := by decide +kernel
theorem dX12_planOdds_10 : decode cX12_planOdds 10 = .ok (.iaload, 1) := by decide +kernel
theorem dX12_planOdds_11 : decode cX12_planOdds 11 = .ok (.imul, 1) := by decide +kernel
theorem dX12_planOdds_12 : decode cX12_planOdds 12 = .ok (.iload_n 2, 1) := by decide +kernel
theorem dX12_planOdds_13 : decode cX12_planOdds 13 = .ok (.iadd, 1) := by decide +kernel
theorem dX12_planOdds_14 : decode cX12_planOdds 14 = .ok (.istore_n 3, 1) := by decide +kernel
theorem dX12_planOdds_15 : decode cX12_planOdds 15 = .ok (.aload_n 0, 1) := by decide +kernel
theorem dX12_planOdds_16 : decode cX12_planOdds 16 = .ok (.getfield 25, 3) := by decide +kernel
theorem dX12_planOdds_19 : decode cX12_planOdds 19 = .ok (.iload_n 3, 1) := by decide +kernel
theorem dX12_planOdds_20 : decode cX12_planOdds 20 = .ok (.iaload, 1) := by decide +kernel
theorem dX12_planOdds_21 : decode cX12_planOdds 21 = .ok (.iconst (-1), 1) := by decide +kernel
theorem dX12_planOdds_22 : decode cX12_planOdds 22 = .ok (.if_icmp .ne 19, 3) := by decide +kernel
theorem dX12_planOdds_25 : decode cX12_planOdds 25 = .ok (.aload_n 0, 1) := by decide +kernel
theorem dX12_planOdds_26 : decode cX12_planOdds 26 = .ok (.getfield 25, 3) := by decide +kernel
theorem dX12_planOdds_29 : decode cX12_planOdds 29 = .ok (.iload_n 3, 1) := by decide +kernel
theorem dX12_planOdds_30 : decode cX12_planOdds 30 = .ok (.aload_n 0, 1) := by decide +kernel
theorem dX12_planOdds_31 : decode cX12_planOdds 31 = .ok (.iload_n 1, 1) := by decide +kernel
theorem dX12_planOdds_32 : decode cX12_planOdds 32 = .ok (.iconst 5, 1) := by decide +kernel
theorem dX12_planOdds_33 : decode cX12_planOdds 33 = .ok (.iload_n 2, 1) := by decide +kernel
theorem dX12_planOdds_34 : decode cX12_planOdds 34 = .ok (.imul, 1) := by decide +kernel
theorem dX12_planOdds_35 : decode cX12_planOdds 35 = .ok (.iconst 5, 1) := by decide +kernel
theorem dX12_planOdds_36 : decode cX12_planOdds 36 = .ok (.iadd, 1) := by decide +kernel
theorem dX12_planOdds_37 : decode cX12_planOdds 37 = .ok (.invokevirtual 187, 3) := by decide +kernel
theorem dX12_planOdds_40 : decode cX12_planOdds 40 = .ok (.iastore, 1) := by decide +kernel
theorem dX12_planOdds_41 : decode cX12_planOdds 41 = .ok (.aload_n 0, 1) := by decide +kernel
theorem dX12_planOdds_42 : decode cX12_planOdds 42 = .ok (.getfield 25, 3) := by decide +kernel
theorem dX12_planOdds_45 : decode cX12_planOdds 45 = .ok (.iload_n 3, 1) := by decide +kernel
theorem dX12_planOdds_46 : decode cX12_planOdds 46 = .ok (.iaload, 1) := by decide +kernel
theorem dX12_planOdds_47 : decode cX12_planOdds 47 = .ok (.ireturn, 1) := by decide +kernel
theorem dX12_planFor_0 : decode cX12_planFor 0 = .ok (.iload_n 2, 1) := by decide +kernel
theorem dX12_planFor_1 : decode cX12_planFor 1 = .ok (.ifCond .ne 13, 3) := by decide +kernel
theorem dX12_planFor_4 : decode cX12_planFor 4 = .ok (.aload_n 0, 1) := by decide +kernel
theorem dX12_planFor_5 : decode cX12_planFor 5 = .ok (.getfield 9, 3) := by decide +kernel
theorem dX12_planFor_8 : decode cX12_planFor 8 = .ok (.bipush 37, 2) := by decide +kernel
theorem dX12_planFor_10 : decode cX12_planFor 10 = .ok (.iload_n 1, 1) := by decide +kernel
theorem dX12_planFor_11 : decode cX12_planFor 11 = .ok (.iadd, 1) := by decide +kernel
theorem dX12_planFor_12 : decode cX12_planFor 12 = .ok (.iaload, 1) := by decide +kernel
theorem dX12_planFor_13 : decode cX12_planFor 13 = .ok (.ireturn, 1) := by decide +kernel
theorem dX12_planFor_14 : decode cX12_planFor 14 = .ok (.iconst (-1), 1) := by decide +kernel
theorem dX12_planFor_15 : decode cX12_planFor 15 = .ok (.istore_n 3, 1) := by decide +kernel
theorem dX12_planFor_16 : decode cX12_planFor 16 = .ok (.iconst 0, 1) := by decide +kernel
theorem dX12_planFor_17 : decode cX12_planFor 17 = .ok (.istore 4, 2) := by decide +kernel
theorem dX12_planFor_19 : decode cX12_planFor 19 = .ok (.aload_n 0, 1) := by decide +kernel
theorem dX12_planFor_20 : decode cX12_planFor 20 = .ok (.getfield 9, 3) := by decide +kernel
theorem dX12_planFor_23 : decode cX12_planFor 23 = .ok (.bipush 37, 2) := by decide +kernel
theorem dX12_planFor_25 : decode cX12_planFor 25 = .ok (.iload_n 1, 1) := by decide +kernel
theorem dX12_planFor_26 : decode cX12_planFor 26 = .ok (.iadd, 1) := by decide +kernel
theorem dX12_planFor_27 : decode cX12_planFor 27 = .ok (.iaload, 1) := by decide +kernel
theorem dX12_planFor_28 : decode cX12_planFor 28 = .ok (.istore 5, 2) := by decide +kernel
theorem dX12_planFor_30 : decode cX12_planFor 30 = .ok (.aload_n 0, 1) := by decide +kernel
theorem dX12_planFor_31 : decode cX12_planFor 31 = .ok (.getfield 9, 3) := by decide +kernel
theorem dX12_planFor_34 : decode cX12_planFor 34 = .ok (.bipush 19, 2) := by decide +kernel
theorem dX12_planFor_36 : decode cX12_planFor 36 = .ok (.iload_n 1, 1) := by decide +kernel
theorem dX12_planFor_37 : decode cX12_planFor 37 = .ok (.iadd, 1) := by decide +kernel
theorem dX12_planFor_38 : decode cX12_planFor 38 = .ok (.iaload, 1) := by decide +kernel
theorem dX12_planFor_39 : decode cX12_planFor 39 = .ok (.istore 6, 2) := by decide +kernel
theorem dX12_planFor_41 : decode cX12_planFor 41 = .ok (.aload_n 0, 1) := by decide +kernel
theorem dX12_planFor_42 : decode cX12_planFor 42 = .ok (.iload_n 1, 1) := by decide +kernel
theorem dX12_planFor_43 : decode cX12_planFor 43 = .ok (.iload_n 2, 1) := by decide +kernel
theorem dX12_planFor_44 : decode cX12_planFor 44 = .ok (.iconst 1, 1) := by decide +kernel
theorem dX12_planFor_45 : decode cX12_planFor 45 = .ok (.isub, 1) := by decide +kernel
theorem dX12_planFor_46 : decode cX12_planFor 46 = .ok (.invokevirtual 193, 3) := by decide +kernel
theorem dX12_planFor_49 : decode cX12_planFor 49 = .ok (.istore 7, 2) := by decide +kernel
theorem dX12_planFor_51 : decode cX12_planFor 51 = .ok (.iconst 0, 1) := by decide +kernel
theorem dX12_planFor_52 : decode cX12_planFor 52 = .ok (.istore 8, 2) := by decide +kernel
theorem dX12_planFor_54 : decode cX12_planFor 54 = .ok (.iload 8, 2) := by decide +kernel
theorem dX12_planFor_56 : decode cX12_planFor 56 = .ok (.bipush 12, 2) := by decide +kernel
theorem dX12_planFor_58 : decode cX12_planFor 58 = .ok (.if_icmp .ge 109, 3) := by decide +kernel
theorem dX12_planFor_61 : decode cX12_planFor 61 = .ok (.aload_n 0, 1) := by decide +kernel
theorem dX12_planFor_62 : decode cX12_planFor 62 = .ok (.iload_n 1, 1) := by decide +kernel
theorem dX12_planFor_63 : decode cX12_planFor 63 = .ok (.iload 8, 2) := by decide +kernel
theorem dX12_planFor_65 : decode cX12_planFor 65 = .ok (.invokevirtual 196, 3) := by decide +kernel
theorem dX12_planFor_68 : decode cX12_planFor 68 = .ok (.istore 9, 2) := by decide +kernel
theorem dX12_planFor_70 : decode cX12_planFor 70 = .ok (.aload_n 0, 1) := by decide +kernel
theorem dX12_planFor_71 : decode cX12_planFor 71 = .ok (.iload_n 1, 1) := by decide +kernel
theorem dX12_planFor_72 : decode cX12_planFor 72 = .ok (.iconst 5, 1) := by decide +kernel
theorem dX12_planFor_73 : decode cX12_planFor 73 = .ok (.iload 8, 2) := by decide +kernel
theorem dX12_planFor_75 : decode cX12_planFor 75 = .ok (.imul, 1) := by decide +kernel
theorem dX12_planFor_76 : decode cX12_planFor 76 = .ok (.iconst 5, 1) := by decide +kernel
theorem dX12_planFor_77 : decode cX12_planFor 77 = .ok (.iadd, 1) := by decide +kernel
theorem dX12_planFor_78 : decode cX12_planFor 78 = .ok (.invokevirtual 167, 3) := by decide +kernel
theorem dX12_planFor_81 : decode cX12_planFor 81 = .ok (.aload_n 0, 1) := by decide +kernel
theorem dX12_planFor_82 : decode cX12_planFor 82 = .ok (.iload_n 1, 1) := by decide +kernel
theorem dX12_planFor_83 : decode cX12_planFor 83 = .ok (.iload_n 2, 1) := by decide +kernel
theorem dX12_planFor_84 : decode cX12_planFor 84 = .ok (.iconst 1, 1) := by decide +kernel
theorem dX12_planFor_85 : decode cX12_planFor 85 = .ok (.isub, 1) := by decide +kernel
theorem dX12_planFor_86 : decode cX12_planFor 86 = .ok (.invokevirtual 193, 3) := by decide +kernel
theorem dX12_planFor_89 : decode cX12_planFor 89 = .ok (.istore 10, 2) := by decide +kernel
theorem dX12_planFor_91 : decode cX12_planFor 91 = .ok (.aload_n 0, 1) := by decide +kernel
theorem dX12_planFor_92 : decode cX12_planFor 92 = .ok (.getfield 9, 3) := by decide +kernel
theorem dX12_planFor_95 : decode cX12_planFor 95 = .ok (.bipush 37, 2) := by decide +kernel
theorem dX12_planFor_97 : decode cX12_planFor 97 = .ok (.iload_n 1, 1) := by decide +kernel
theorem dX12_planFor_98 : decode cX12_planFor 98 = .ok (.iadd, 1) := by decide +kernel
theorem dX12_planFor_99 : decode cX12_planFor 99 = .ok (.iload 5, 2) := by decide +kernel
theorem dX12_planFor_101 : decode cX12_planFor 101 = .ok (.iastore, 1) := by decide +kernel
theorem dX12_planFor_102 : decode cX12_planFor 102 = .ok (.aload_n 0, 1) := by decide +kernel
theorem dX12_planFor_103 : decode cX12_planFor 103 = .ok (.getfield 9, 3) := by decide +kernel
theorem dX12_planFor_106 : decode cX12_planFor 106 = .ok (.bipush 19, 2) := by decide +kernel
theorem dX12_planFor_108 : decode cX12_planFor 108 = .ok (.iload_n 1, 1) := by decide +kernel
theorem dX12_planFor_109 : decode cX12_planFor 109 = .ok (.iadd, 1) := by decide +kernel
theorem dX12_planFor_110 : decode cX12_planFor 110 = .ok (.iload 6, 2) := by decide +kernel
theorem dX12_planFor_112 : decode cX12_planFor 112 = .ok (.iastore, 1) := by decide +kernel
theorem dX12_planFor_113 : decode cX12_planFor 113 = .ok (.iload 9, 2) := by decide +kernel
theorem dX12_planFor_115 : decode cX12_planFor 115 = .ok (.iload 10, 2) := by decide +kernel
theorem dX12_planFor_117 : decode cX12_planFor 117 = .ok (.imul, 1) := by decide +kernel
theorem dX12_planFor_118 : decode cX12_planFor 118 = .ok (.bipush 10, 2) := by decide +kernel
theorem dX12_planFor_120 : decode cX12_planFor 120 = .ok (.iload 9, 2) := by decide +kernel
theorem dX12_planFor_122 : decode cX12_planFor 122 = .ok (.isub, 1) := by decide +kernel
theorem dX12_planFor_123 : decode cX12_planFor 123 = .ok (.iload 7, 2) := by decide +kernel
theorem dX12_planFor_125 : decode cX12_planFor 125 = .ok (.imul, 1) := by decide +kernel
theorem dX12_planFor_126 : decode cX12_planFor 126 = .ok (.iadd, 1) := by decide +kernel
theorem dX12_planFor_127 : decode cX12_planFor 127 = .ok (.istore 11, 2) := by decide +kernel
theorem dX12_planFor_129 : decode cX12_planFor 129 = .ok (.iload 11, 2) := by decide +kernel
theorem dX12_planFor_131 : decode cX12_planFor 131 = .ok (.iload_n 3, 1) := by decide +kernel
theorem dX12_planFor_132 : decode cX12_planFor 132 = .ok (.if_icmp .le 12, 3) := by decide +kernel
theorem dX12_planFor_135 : decode cX12_planFor 135 = .ok (.iconst 5, 1) := by decide +kernel
theorem dX12_planFor_136 : decode cX12_planFor 136 = .ok (.iload 8, 2) := by decide +kernel
theorem dX12_planFor_138 : decode cX12_planFor 138 = .ok (.imul, 1) := by decide +kernel
theorem dX12_planFor_139 : decode cX12_planFor 139 = .ok (.iconst 5, 1) := by decide +kernel
theorem dX12_planFor_140 : decode cX12_planFor 140 = .ok (.iadd, 1) := by decide +kernel
theorem dX12_planFor_141 : decode cX12_planFor 141 = .ok (.goto 5, 3) := by decide +kernel
theorem dX12_planFor_144 : decode cX12_planFor 144 = .ok (.iload 4, 2) := by decide +kernel
theorem dX12_planFor_146 : decode cX12_planFor 146 = .ok (.istore 4, 2) := by decide +kernel
theorem dX12_planFor_148 : decode cX12_planFor 148 = .ok (.iload 11, 2) := by decide +kernel
theorem dX12_planFor_150 : decode cX12_planFor 150 = .ok (.iload_n 3, 1) := by decide +kernel
theorem dX12_planFor_151 : decode cX12_planFor 151 = .ok (.if_icmp .le 8, 3) := by decide +kernel
theorem dX12_planFor_154 : decode cX12_planFor 154 = .ok (.iload 11, 2) := by decide +kernel
theorem dX12_planFor_156 : decode cX12_planFor 156 = .ok (.goto 4, 3) := by decide +kernel
theorem dX12_planFor_159 : decode cX12_planFor 159 = .ok (.iload_n 3, 1) := by decide +kernel
theorem dX12_planFor_160 : decode cX12_planFor 160 = .ok (.istore_n 3, 1) := by decide +kernel
theorem dX12_planFor_161 : decode cX12_planFor 161 = .ok (.iinc 8 1, 3) := by decide +kernel
theorem dX12_planFor_164 : decode cX12_planFor 164 = .ok (.goto (-110), 3) := by decide +kernel
theorem dX12_planFor_167 : decode cX12_planFor 167 = .ok (.aload_n 0, 1) := by decide +kernel
theorem dX12_planFor_168 : decode cX12_planFor 168 = .ok (.iload 4, 2) := by decide +kernel
theorem dX12_planFor_170 : decode cX12_planFor 170 = .ok (.putfield 199, 3) := by decide +kernel
theorem dX12_planFor_173 : decode cX12_planFor 173 = .ok (.iload_n 3, 1) := by decide +kernel
theorem dX12_planFor_174 : decode cX12_planFor 174 = .ok (.ireturn, 1) := by decide +kernel
theorem dX12_plans_0 : decode cX12_plans 0 = .ok (.iconst 0, 1) := by decide +kernel
theorem dX12_plans_1 : decode cX12_plans 1 = .ok (.istore_n 3, 1) := by decide +kernel
theorem dX12_plans_2 : decode cX12_plans 2 = .ok (.iload_n 3, 1) := by decide +kernel
theorem dX12_plans_3 : decode cX12_plans 3 = .ok (.sipush 252, 3) := by decide +kernel
theorem dX12_plans_6 : decode cX12_plans 6 = .ok (.if_icmp .ge 16, 3) := by decide +kernel
theorem dX12_plans_9 : decode cX12_plans 9 = .ok (.aload_n 0, 1) := by decide +kernel
theorem dX12_plans_10 : decode cX12_plans 10 = .ok (.getfield 25, 3) := by decide +kernel
theorem dX12_plans_13 : decode cX12_plans 13 = .ok (.iload_n 3, 1) := by decide +kernel
theorem dX12_plans_14 : decode cX12_plans 14 = .ok (.iconst (-1), 1) := by decide +kernel
theorem dX12_plans_15 : decode cX12_plans 15 = .ok (.iastore, 1) := by decide +kernel
theorem dX12_plans_16 : decode cX12_plans 16 = .ok (.iinc 3 1, 3) := by decide +kernel
theorem dX12_plans_19 : decode cX12_plans 19 = .ok (.goto (-17), 3) := by decide +kernel
theorem dX12_plans_22 : decode cX12_plans 22 = .ok (.aload_n 0, 1) := by decide +kernel
theorem dX12_plans_23 : decode cX12_plans 23 = .ok (.iload_n 1, 1) := by decide +kernel
theorem dX12_plans_24 : decode cX12_plans 24 = .ok (.iload_n 2, 1) := by decide +kernel
theorem dX12_plans_25 : decode cX12_plans 25 = .ok (.invokevirtual 193, 3) := by decide +kernel
theorem dX12_plans_28 : decode cX12_plans 28 = .ok (.ireturn, 1) := by decide +kernel
theorem dX12_plan_0 : decode cX12_plan 0 = .ok (.aload_n 0, 1) := by decide +kernel
theorem dX12_plan_1 : decode cX12_plan 1 = .ok (.iload_n 1, 1) := by decide +kernel
theorem dX12_plan_2 : decode cX12_plan 2 = .ok (.invokevirtual 136, 3) := by decide +kernel
theorem dX12_plan_5 : decode cX12_plan 5 = .ok (.ifCond .eq 21, 3) := by decide +kernel
theorem dX12_plan_8 : decode cX12_plan 8 = .ok (.iload_n 2, 1) := by decide +kernel
theorem dX12_plan_9 : decode cX12_plan 9 = .ok (.iconst 1, 1) := by decide +kernel
theorem dX12_plan_10 : decode cX12_plan 10 = .ok (.iconst 3, 1) := by decide +kernel
theorem dX12_plan_11 : decode cX12_plan 11 = .ok (.invokestatic 41, 3) := by decide +kernel
theorem dX12_plan_14 : decode cX12_plan 14 = .ok (.ifCond .eq 12, 3) := by decide +kernel
theorem dX12_plan_17 : decode cX12_plan 17 = .ok (.iload_n 3, 1) := by decide +kernel
theorem dX12_plan_18 : decode cX12_plan 18 = .ok (.iconst 0, 1) := by decide +kernel
theorem dX12_plan_19 : decode cX12_plan 19 = .ok (.iconst 1, 1) := by decide +kernel
theorem dX12_plan_20 : decode cX12_plan 20 = .ok (.invokestatic 41, 3) := by decide +kernel
theorem dX12_plan_23 : decode cX12_plan 23 = .ok (.ifCond .ne 7, 3) := by decide +kernel
theorem dX12_plan_26 : decode cX12_plan 26 = .ok (.ldc2_w 173, 3) := by decide +kernel
theorem dX12_plan_29 : decode cX12_plan 29 = .ok (.lreturn, 1) := by decide +kernel
theorem dX12_plan_30 : decode cX12_plan 30 = .ok (.aload_n 0, 1) := by decide +kernel
theorem dX12_plan_31 : decode cX12_plan 31 = .ok (.iload_n 1, 1) := by decide +kernel
theorem dX12_plan_32 : decode cX12_plan 32 = .ok (.iload_n 2, 1) := by decide +kernel
theorem dX12_plan_33 : decode cX12_plan 33 = .ok (.invokevirtual 202, 3) := by decide +kernel
theorem dX12_plan_36 : decode cX12_plan 36 = .ok (.i2l, 1) := by decide +kernel
theorem dX12_plan_37 : decode cX12_plan 37 = .ok (.iload_n 2, 1) := by decide +kernel
theorem dX12_plan_38 : decode cX12_plan 38 = .ok (.iconst 1, 1) := by decide +kernel
theorem dX12_plan_39 : decode cX12_plan 39 = .ok (.if_icmp .ne 9, 3) := by decide +kernel
theorem dX12_plan_42 : decode cX12_plan 42 = .ok (.ldc2_w 178, 3) := by decide +kernel
theorem dX12_plan_45 : decode cX12_plan 45 = .ok (.goto 17, 3) := by decide +kernel
theorem dX12_plan_48 : decode cX12_plan 48 = .ok (.iload_n 2, 1) := by decide +kernel
theorem dX12_plan_49 : decode cX12_plan 49 = .ok (.iconst 2, 1) := by decide +kernel
theorem dX12_plan_50 : decode cX12_plan 50 = .ok (.if_icmp .ne 9, 3) := by decide +kernel
theorem dX12_plan_53 : decode cX12_plan 53 = .ok (.ldc2_w 205, 3) := by decide +kernel
theorem dX12_plan_56 : decode cX12_plan 56 = .ok (.goto 6, 3) := by decide +kernel
theorem dX12_plan_59 : decode cX12_plan 59 = .ok (.ldc2_w 207, 3) := by decide +kernel
theorem dX12_plan_62 : decode cX12_plan 62 = .ok (.iload_n 3, 1) := by decide +kernel
theorem dX12_plan_63 : decode cX12_plan 63 = .ok (.invokestatic 180, 3) := by decide +kernel
theorem dX12_plan_66 : decode cX12_plan 66 = .ok (.lreturn, 1) := by decide +kernel
theorem dX12_first_0 : decode cX12_first 0 = .ok (.aload_n 0, 1) := by decide +kernel
theorem dX12_first_1 : decode cX12_first 1 = .ok (.iload_n 1, 1) := by decide +kernel
theorem dX12_first_2 : decode cX12_first 2 = .ok (.invokevirtual 136, 3) := by decide +kernel
theorem dX12_first_5 : decode cX12_first 5 = .ok (.ifCond .ne 5, 3) := by decide +kernel
theorem dX12_first_8 : decode cX12_first 8 = .ok (.iconst (-1), 1) := by decide +kernel
theorem dX12_first_9 : decode cX12_first 9 = .ok (.ireturn, 1) := by decide +kernel
theorem dX12_first_10 : decode cX12_first 10 = .ok (.iload_n 2, 1) := by decide +kernel
theorem dX12_first_11 : decode cX12_first 11 = .ok (.iconst 1, 1) := by decide +kernel
theorem dX12_first_12 : decode cX12_first 12 = .ok (.iconst 3, 1) := by decide +kernel
theorem dX12_first_13 : decode cX12_first 13 = .ok (.invokestatic 41, 3) := by decide +kernel
theorem dX12_first_16 : decode cX12_first 16 = .ok (.ifCond .ne 6, 3) := by decide +kernel
theorem dX12_first_19 : decode cX12_first 19 = .ok (.bipush (-2), 2) := by decide +kernel
theorem dX12_first_21 : decode cX12_first 21 = .ok (.ireturn, 1) := by decide +kernel
theorem dX12_first_22 : decode cX12_first 22 = .ok (.aload_n 0, 1) := by decide +kernel
theorem dX12_first_23 : decode cX12_first 23 = .ok (.iload_n 1, 1) := by decide +kernel
theorem dX12_first_24 : decode cX12_first 24 = .ok (.iload_n 2, 1) := by decide +kernel
theorem dX12_first_25 : decode cX12_first 25 = .ok (.invokevirtual 202, 3) := by decide +kernel
theorem dX12_first_28 : decode cX12_first 28 = .ok (.pop, 1) := by decide +kernel
theorem dX12_first_29 : decode cX12_first 29 = .ok (.aload_n 0, 1) := by decide +kernel
theorem dX12_first_30 : decode cX12_first 30 = .ok (.getfield 199, 3) := by decide +kernel
theorem dX12_first_33 : decode cX12_first 33 = .ok (.ireturn, 1) := by decide +kernel
theorem dX12_power_0 : decode cX12_power 0 = .ok (.lconst 1, 1) := by decide +kernel
theorem dX12_power_1 : decode cX12_power 1 = .ok (.lstore_n 2, 1) := by decide +kernel
theorem dX12_power_2 : decode cX12_power 2 = .ok (.iconst 0, 1) := by decide +kernel
theorem dX12_power_3 : decode cX12_power 3 = .ok (.istore 4, 2) := by decide +kernel
theorem dX12_power_5 : decode cX12_power 5 = .ok (.iload 4, 2) := by decide +kernel
theorem dX12_power_7 : decode cX12_power 7 = .ok (.iload_n 1, 1) := by decide +kernel
theorem dX12_power_8 : decode cX12_power 8 = .ok (.if_icmp .ge 14, 3) := by decide +kernel
theorem dX12_power_11 : decode cX12_power 11 = .ok (.lload_n 2, 1) := by decide +kernel
theorem dX12_power_12 : decode cX12_power 12 = .ok (.iload_n 0, 1) := by decide +kernel
theorem dX12_power_13 : decode cX12_power 13 = .ok (.i2l, 1) := by decide +kernel
theorem dX12_power_14 : decode cX12_power 14 = .ok (.lmul, 1) := by decide +kernel
theorem dX12_power_15 : decode cX12_power 15 = .ok (.lstore_n 2, 1) := by decide +kernel
theorem dX12_power_16 : decode cX12_power 16 = .ok (.iinc 4 1, 3) := by decide +kernel
theorem dX12_power_19 : decode cX12_power 19 = .ok (.goto (-14), 3) := by decide +kernel
theorem dX12_power_22 : decode cX12_power 22 = .ok (.lload_n 2, 1) := by decide +kernel
theorem dX12_power_23 : decode cX12_power 23 = .ok (.lreturn, 1) := by decide +kernel
theorem dX12_oneMore_0 : decode cX12_oneMore 0 = .ok (.aload_n 0, 1) := by decide +kernel
theorem dX12_oneMore_1 : decode cX12_oneMore 1 = .ok (.getfield 9, 3) := by decide +kernel
theorem dX12_oneMore_4 : decode cX12_oneMore 4 = .ok (.bipush 37, 2) := by decide +kernel
theorem dX12_oneMore_6 : decode cX12_oneMore 6 = .ok (.iload_n 1, 1) := by decide +kernel
theorem dX12_oneMore_7 : decode cX12_oneMore 7 = .ok (.iadd, 1) := by decide +kernel
theorem dX12_oneMore_8 : decode cX12_oneMore 8 = .ok (.iaload, 1) := by decide +kernel
theorem dX12_oneMore_9 : decode cX12_oneMore 9 = .ok (.bipush 99, 2) := by decide +kernel
theorem dX12_oneMore_11 : decode cX12_oneMore 11 = .ok (.if_icmp .ge 17, 3) := by decide +kernel
theorem dX12_oneMore_14 : decode cX12_oneMore 14 = .ok (.aload_n 0, 1) := by decide +kernel
theorem dX12_oneMore_15 : decode cX12_oneMore 15 = .ok (.getfield 9, 3) := by decide +kernel
theorem dX12_oneMore_18 : decode cX12_oneMore 18 = .ok (.bipush 37, 2) := by decide +kernel
theorem dX12_oneMore_20 : decode cX12_oneMore 20 = .ok (.iload_n 1, 1) := by decide +kernel
theorem dX12_oneMore_21 : decode cX12_oneMore 21 = .ok (.iadd, 1) := by decide +kernel
theorem dX12_oneMore_22 : decode cX12_oneMore 22 = .ok (.iaload, 1) := by decide +kernel
theorem dX12_oneMore_23 : decode cX12_oneMore 23 = .ok (.iconst 1, 1) := by decide +kernel
theorem dX12_oneMore_24 : decode cX12_oneMore 24 = .ok (.iadd, 1) := by decide +kernel
theorem dX12_oneMore_25 : decode cX12_oneMore 25 = .ok (.goto 5, 3) := by decide +kernel
theorem dX12_oneMore_28 : decode cX12_oneMore 28 = .ok (.bipush 99, 2) := by decide +kernel
theorem dX12_oneMore_30 : decode cX12_oneMore 30 = .ok (.ireturn, 1) := by decide +kernel
theorem dX12_more_0 : decode cX12_more 0 = .ok (.aload_n 0, 1) := by decide +kernel
theorem dX12_more_1 : decode cX12_more 1 = .ok (.iload_n 1, 1) := by decide +kernel
theorem dX12_more_2 : decode cX12_more 2 = .ok (.invokevirtual 136, 3) := by decide +kernel
theorem dX12_more_5 : decode cX12_more 5 = .ok (.ifCond .eq 36, 3) := by decide +kernel
theorem dX12_more_8 : decode cX12_more 8 = .ok (.aload_n 0, 1) := by decide +kernel
theorem dX12_more_9 : decode cX12_more 9 = .ok (.iload_n 2, 1) := by decide +kernel
theorem dX12_more_10 : decode cX12_more 10 = .ok (.invokevirtual 136, 3) := by decide +kernel
theorem dX12_more_13 : decode cX12_more 13 = .ok (.ifCond .eq 28, 3) := by decide +kernel
theorem dX12_more_16 : decode cX12_more 16 = .ok (.iload_n 1, 1) := by decide +kernel
theorem dX12_more_17 : decode cX12_more 17 = .ok (.iload_n 2, 1) := by decide +kernel
theorem dX12_more_18 : decode cX12_more 18 = .ok (.if_icmp .eq 23, 3) := by decide +kernel
theorem dX12_more_21 : decode cX12_more 21 = .ok (.iload_n 3, 1) := by decide +kernel
theorem dX12_more_22 : decode cX12_more 22 = .ok (.iconst 1, 1) := by decide +kernel
theorem dX12_more_23 : decode cX12_more 23 = .ok (.bipush 6, 2) := by decide +kernel
theorem dX12_more_25 : decode cX12_more 25 = .ok (.invokestatic 41, 3) := by decide +kernel
theorem dX12_more_28 : decode cX12_more 28 = .ok (.ifCond .eq 13, 3) := by decide +kernel
theorem dX12_more_31 : decode cX12_more 31 = .ok (.iload 4, 2) := by decide +kernel
theorem dX12_more_33 : decode cX12_more 33 = .ok (.iconst 0, 1) := by decide +kernel
theorem dX12_more_34 : decode cX12_more 34 = .ok (.iconst 1, 1) := by decide +kernel
theorem dX12_more_35 : decode cX12_more 35 = .ok (.invokestatic 41, 3) := by decide +kernel
theorem dX12_more_38 : decode cX12_more 38 = .ok (.ifCond .ne 7, 3) := by decide +kernel
theorem dX12_more_41 : decode cX12_more 41 = .ok (.ldc2_w 173, 3) := by decide +kernel
theorem dX12_more_44 : decode cX12_more 44 = .ok (.lreturn, 1) := by decide +kernel
theorem dX12_more_45 : decode cX12_more 45 = .ok (.bipush 10, 2) := by decide +kernel
theorem dX12_more_47 : decode cX12_more 47 = .ok (.iload_n 3, 1) := by decide +kernel
theorem dX12_more_48 : decode cX12_more 48 = .ok (.invokestatic 209, 3) := by decide +kernel
theorem dX12_more_51 : decode cX12_more 51 = .ok (.lstore 5, 2) := by decide +kernel
theorem dX12_more_53 : decode cX12_more 53 = .ok (.lload 5, 2) := by decide +kernel
theorem dX12_more_55 : decode cX12_more 55 = .ok (.bipush 10, 2) := by decide +kernel
theorem dX12_more_57 : decode cX12_more 57 = .ok (.aload_n 0, 1) := by decide +kernel
theorem dX12_more_58 : decode cX12_more 58 = .ok (.iload_n 1, 1) := by decide +kernel
theorem dX12_more_59 : decode cX12_more 59 = .ok (.aload_n 0, 1) := by decide +kernel
theorem dX12_more_60 : decode cX12_more 60 = .ok (.iload_n 2, 1) := by decide +kernel
theorem dX12_more_61 : decode cX12_more 61 = .ok (.invokevirtual 213, 3) := by decide +kernel
theorem dX12_more_64 : decode cX12_more 64 = .ok (.invokevirtual 187, 3) := by decide +kernel
theorem dX12_more_67 : decode cX12_more 67 = .ok (.isub, 1) := by decide +kernel
theorem dX12_more_68 : decode cX12_more 68 = .ok (.iload_n 3, 1) := by decide +kernel
theorem dX12_more_69 : decode cX12_more 69 = .ok (.invokestatic 209, 3) := by decide +kernel
theorem dX12_more_72 : decode cX12_more 72 = .ok (.lsub, 1) := by decide +kernel
theorem dX12_more_73 : decode cX12_more 73 = .ok (.lload 5, 2) := by decide +kernel
theorem dX12_more_75 : decode cX12_more 75 = .ok (.iload 4, 2) := by decide +kernel
theorem dX12_more_77 : decode cX12_more 77 = .ok (.invokestatic 180, 3) := by decide +kernel
theorem dX12_more_80 : decode cX12_more 80 = .ok (.lreturn, 1) := by decide +kernel
theorem dX12_record_0 : decode cX12_record 0 = .ok (.aload_n 0, 1) := by decide +kernel
theorem dX12_record_1 : decode cX12_record 1 = .ok (.iload_n 1, 1) := by decide +kernel
theorem dX12_record_2 : decode cX12_record 2 = .ok (.invokevirtual 136, 3) := by decide +kernel
theorem dX12_record_5 : decode cX12_record 5 = .ok (.ifCond .ne 5, 3) := by decide +kernel
theorem dX12_record_8 : decode cX12_record 8 = .ok (.iconst (-1), 1) := by decide +kernel
theorem dX12_record_9 : decode cX12_record 9 = .ok (.ireturn, 1) := by decide +kernel
theorem dX12_record_10 : decode cX12_record 10 = .ok (.iload_n 2, 1) := by decide +kernel
theorem dX12_record_11 : decode cX12_record 11 = .ok (.iconst 1, 1) := by decide +kernel
theorem dX12_record_12 : decode cX12_record 12 = .ok (.bipush 99, 2) := by decide +kernel
theorem dX12_record_14 : decode cX12_record 14 = .ok (.invokestatic 41, 3) := by decide +kernel
theorem dX12_record_17 : decode cX12_record 17 = .ok (.ifCond .ne 6, 3) := by decide +kernel
theorem dX12_record_20 : decode cX12_record 20 = .ok (.bipush (-2), 2) := by decide +kernel
theorem dX12_record_22 : decode cX12_record 22 = .ok (.ireturn, 1) := by decide +kernel
theorem dX12_record_23 : decode cX12_record 23 = .ok (.aload_n 0, 1) := by decide +kernel
theorem dX12_record_24 : decode cX12_record 24 = .ok (.iload_n 1, 1) := by decide +kernel
theorem dX12_record_25 : decode cX12_record 25 = .ok (.iload_n 2, 1) := by decide +kernel
theorem dX12_record_26 : decode cX12_record 26 = .ok (.invokevirtual 187, 3) := by decide +kernel
theorem dX12_record_29 : decode cX12_record 29 = .ok (.istore_n 3, 1) := by decide +kernel
theorem dX12_record_30 : decode cX12_record 30 = .ok (.iload_n 3, 1) := by decide +kernel
theorem dX12_record_31 : decode cX12_record 31 = .ok (.ifCond .ne 6, 3) := by decide +kernel
theorem dX12_record_34 : decode cX12_record 34 = .ok (.bipush (-5), 2) := by decide +kernel
theorem dX12_record_36 : decode cX12_record 36 = .ok (.ireturn, 1) := by decide +kernel
theorem dX12_record_37 : decode cX12_record 37 = .ok (.iconst 1, 1) := by decide +kernel
theorem dX12_record_38 : decode cX12_record 38 = .ok (.istore 4, 2) := by decide +kernel
theorem dX12_record_40 : decode cX12_record 40 = .ok (.ldc2_w 216, 3) := by decide +kernel
theorem dX12_record_43 : decode cX12_record 43 = .ok (.bipush 10, 2) := by decide +kernel
theorem dX12_record_45 : decode cX12_record 45 = .ok (.iload_n 3, 1) := by decide +kernel
theorem dX12_record_46 : decode cX12_record 46 = .ok (.isub, 1) := by decide +kernel
theorem dX12_record_47 : decode cX12_record 47 = .ok (.iload 4, 2) := by decide +kernel
theorem dX12_record_49 : decode cX12_record 49 = .ok (.invokestatic 209, 3) := by decide +kernel
theorem dX12_record_52 : decode cX12_record 52 = .ok (.lmul, 1) := by decide +kernel
theorem dX12_record_53 : decode cX12_record 53 = .ok (.bipush 10, 2) := by decide +kernel
theorem dX12_record_55 : decode cX12_record 55 = .ok (.iload 4, 2) := by decide +kernel
theorem dX12_record_57 : decode cX12_record 57 = .ok (.invokestatic 209, 3) := by decide +kernel
theorem dX12_record_60 : decode cX12_record 60 = .ok (.lcmp, 1) := by decide +kernel
theorem dX12_record_61 : decode cX12_record 61 = .ok (.ifCond .le 9, 3) := by decide +kernel
theorem dX12_record_64 : decode cX12_record 64 = .ok (.iinc 4 1, 3) := by decide +kernel
theorem dX12_record_67 : decode cX12_record 67 = .ok (.goto (-27), 3) := by decide +kernel
theorem dX12_record_70 : decode cX12_record 70 = .ok (.iload 4, 2) := by decide +kernel
theorem dX12_record_72 : decode cX12_record 72 = .ok (.ireturn, 1) := by decide +kernel
theorem dX12_raises_0 : decode cX12_raises 0 = .ok (.aload_n 0, 1) := by decide +kernel
theorem dX12_raises_1 : decode cX12_raises 1 = .ok (.lconst 0, 1) := by decide +kernel
theorem dX12_raises_2 : decode cX12_raises 2 = .ok (.putfield 218, 3) := by decide +kernel
theorem dX12_raises_5 : decode cX12_raises 5 = .ok (.aload_n 0, 1) := by decide +kernel
theorem dX12_raises_6 : decode cX12_raises 6 = .ok (.lconst 1, 1) := by decide +kernel
theorem dX12_raises_7 : decode cX12_raises 7 = .ok (.putfield 222, 3) := by decide +kernel
theorem dX12_raises_10 : decode cX12_raises 10 = .ok (.iconst 0, 1) := by decide +kernel
theorem dX12_raises_11 : decode cX12_raises 11 = .ok (.istore 5, 2) := by decide +kernel
theorem dX12_raises_13 : decode cX12_raises 13 = .ok (.iload 5, 2) := by decide +kernel
theorem dX12_raises_15 : decode cX12_raises 15 = .ok (.iload 4, 2) := by decide +kernel
theorem dX12_raises_17 : decode cX12_raises 17 = .ok (.if_icmp .ge 93, 3) := by decide +kernel
theorem dX12_raises_20 : decode cX12_raises 20 = .ok (.aload_n 0, 1) := by decide +kernel
theorem dX12_raises_21 : decode cX12_raises 21 = .ok (.iload 5, 2) := by decide +kernel
theorem dX12_raises_23 : decode cX12_raises 23 = .ok (.iconst 2, 1) := by decide +kernel
theorem dX12_raises_24 : decode cX12_raises 24 = .ok (.irem, 1) := by decide +kernel
theorem dX12_raises_25 : decode cX12_raises 25 = .ok (.ifCond .ne 7, 3) := by decide +kernel
theorem dX12_raises_28 : decode cX12_raises 28 = .ok (.iload_n 1, 1) := by decide +kernel
theorem dX12_raises_29 : decode cX12_raises 29 = .ok (.goto 4, 3) := by decide +kernel
theorem dX12_raises_32 : decode cX12_raises 32 = .ok (.iload_n 2, 1) := by decide +kernel
theorem dX12_raises_33 : decode cX12_raises 33 = .ok (.iload_n 3, 1) := by decide +kernel
theorem dX12_raises_34 : decode cX12_raises 34 = .ok (.iload 5, 2) := by decide +kernel
theorem dX12_raises_36 : decode cX12_raises 36 = .ok (.iadd, 1) := by decide +kernel
theorem dX12_raises_37 : decode cX12_raises 37 = .ok (.bipush 99, 2) := by decide +kernel
theorem dX12_raises_39 : decode cX12_raises 39 = .ok (.if_icmp .ge 10, 3) := by decide +kernel
theorem dX12_raises_42 : decode cX12_raises 42 = .ok (.iload_n 3, 1) := by decide +kernel
theorem dX12_raises_43 : decode cX12_raises 43 = .ok (.iload 5, 2) := by decide +kernel
theorem dX12_raises_45 : decode cX12_raises 45 = .ok (.iadd, 1) := by decide +kernel
theorem dX12_raises_46 : decode cX12_raises 46 = .ok (.goto 5, 3) := by decide +kernel
theorem dX12_raises_49 : decode cX12_raises 49 = .ok (.bipush 99, 2) := by decide +kernel
theorem dX12_raises_51 : decode cX12_raises 51 = .ok (.invokevirtual 187, 3) := by decide +kernel
theorem dX12_raises_54 : decode cX12_raises 54 = .ok (.istore 6, 2) := by decide +kernel
theorem dX12_raises_56 : decode cX12_raises 56 = .ok (.aload_n 0, 1) := by decide +kernel
theorem dX12_raises_57 : decode cX12_raises 57 = .ok (.ldc2_w 178, 3) := by decide +kernel
theorem dX12_raises_60 : decode cX12_raises 60 = .ok (.aload_n 0, 1) := by decide +kernel
theorem dX12_raises_61 : decode cX12_raises 61 = .ok (.getfield 218, 3) := by decide +kernel
theorem dX12_raises_64 : decode cX12_raises 64 = .ok (.lmul, 1) := by decide +kernel
theorem dX12_raises_65 : decode cX12_raises 65 = .ok (.iload 5, 2) := by decide +kernel
theorem dX12_raises_67 : decode cX12_raises 67 = .ok (.iconst 2, 1) := by decide +kernel
theorem dX12_raises_68 : decode cX12_raises 68 = .ok (.irem, 1) := by decide +kernel
theorem dX12_raises_69 : decode cX12_raises 69 = .ok (.iconst 1, 1) := by decide +kernel
theorem dX12_raises_70 : decode cX12_raises 70 = .ok (.if_icmp .ne 17, 3) := by decide +kernel
theorem dX12_raises_73 : decode cX12_raises 73 = .ok (.aload_n 0, 1) := by decide +kernel
theorem dX12_raises_74 : decode cX12_raises 74 = .ok (.getfield 222, 3) := by decide +kernel
theorem dX12_raises_77 : decode cX12_raises 77 = .ok (.bipush 10, 2) := by decide +kernel
theorem dX12_raises_79 : decode cX12_raises 79 = .ok (.iload 6, 2) := by decide +kernel
theorem dX12_raises_81 : decode cX12_raises 81 = .ok (.isub, 1) := by decide +kernel
theorem dX12_raises_82 : decode cX12_raises 82 = .ok (.i2l, 1) := by decide +kernel
theorem dX12_raises_83 : decode cX12_raises 83 = .ok (.lmul, 1) := by decide +kernel
theorem dX12_raises_84 : decode cX12_raises 84 = .ok (.goto 4, 3) := by decide +kernel
theorem dX12_raises_87 : decode cX12_raises 87 = .ok (.lconst 0, 1) := by decide +kernel
theorem dX12_raises_88 : decode cX12_raises 88 = .ok (.ladd, 1) := by decide +kernel
theorem dX12_raises_89 : decode cX12_raises 89 = .ok (.putfield 218, 3) := by decide +kernel
theorem dX12_raises_92 : decode cX12_raises 92 = .ok (.aload_n 0, 1) := by decide +kernel
theorem dX12_raises_93 : decode cX12_raises 93 = .ok (.dup, 1) := by decide +kernel
theorem dX12_raises_94 : decode cX12_raises 94 = .ok (.getfield 222, 3) := by decide +kernel
theorem dX12_raises_97 : decode cX12_raises 97 = .ok (.iload 6, 2) := by decide +kernel
theorem dX12_raises_99 : decode cX12_raises 99 = .ok (.i2l, 1) := by decide +kernel
theorem dX12_raises_100 : decode cX12_raises 100 = .ok (.lmul, 1) := by decide +kernel
theorem dX12_raises_101 : decode cX12_raises 101 = .ok (.putfield 222, 3) := by decide +kernel
theorem dX12_raises_104 : decode cX12_raises 104 = .ok (.iinc 5 1, 3) := by decide +kernel
theorem dX12_raises_107 : decode cX12_raises 107 = .ok (.goto (-94), 3) := by decide +kernel
theorem dX12_raises_110 : decode cX12_raises 110 = .ok (.return_, 1) := by decide +kernel
theorem dX12_raise_0 : decode cX12_raise 0 = .ok (.aload_n 0, 1) := by decide +kernel
theorem dX12_raise_1 : decode cX12_raise 1 = .ok (.iload_n 1, 1) := by decide +kernel
theorem dX12_raise_2 : decode cX12_raise 2 = .ok (.invokevirtual 136, 3) := by decide +kernel
theorem dX12_raise_5 : decode cX12_raise 5 = .ok (.ifCond .eq 57, 3) := by decide +kernel
theorem dX12_raise_8 : decode cX12_raise 8 = .ok (.aload_n 0, 1) := by decide +kernel
theorem dX12_raise_9 : decode cX12_raise 9 = .ok (.iload_n 2, 1) := by decide +kernel
theorem dX12_raise_10 : decode cX12_raise 10 = .ok (.invokevirtual 136, 3) := by decide +kernel
theorem dX12_raise_13 : decode cX12_raise 13 = .ok (.ifCond .eq 49, 3) := by decide +kernel
theorem dX12_raise_16 : decode cX12_raise 16 = .ok (.iload_n 1, 1) := by decide +kernel
theorem dX12_raise_17 : decode cX12_raise 17 = .ok (.iload_n 2, 1) := by decide +kernel
theorem dX12_raise_18 : decode cX12_raise 18 = .ok (.if_icmp .eq 44, 3) := by decide +kernel
theorem dX12_raise_21 : decode cX12_raise 21 = .ok (.iload_n 3, 1) := by decide +kernel
theorem dX12_raise_22 : decode cX12_raise 22 = .ok (.iconst 1, 1) := by decide +kernel
theorem dX12_raise_23 : decode cX12_raise 23 = .ok (.bipush 99, 2) := by decide +kernel
theorem dX12_raise_25 : decode cX12_raise 25 = .ok (.invokestatic 41, 3) := by decide +kernel
theorem dX12_raise_28 : decode cX12_raise 28 = .ok (.ifCond .eq 34, 3) := by decide +kernel
theorem dX12_raise_31 : decode cX12_raise 31 = .ok (.iload 4, 2) := by decide +kernel
theorem dX12_raise_33 : decode cX12_raise 33 = .ok (.iconst 1, 1) := by decide +kernel
theorem dX12_raise_34 : decode cX12_raise 34 = .ok (.bipush 8, 2) := by decide +kernel
theorem dX12_raise_36 : decode cX12_raise 36 = .ok (.invokestatic 41, 3) := by decide +kernel
theorem dX12_raise_39 : decode cX12_raise 39 = .ok (.ifCond .eq 23, 3) := by decide +kernel
theorem dX12_raise_42 : decode cX12_raise 42 = .ok (.iload 5, 2) := by decide +kernel
theorem dX12_raise_44 : decode cX12_raise 44 = .ok (.iconst 0, 1) := by decide +kernel
theorem dX12_raise_45 : decode cX12_raise 45 = .ok (.iconst 1, 1) := by decide +kernel
theorem dX12_raise_46 : decode cX12_raise 46 = .ok (.invokestatic 41, 3) := by decide +kernel
theorem dX12_raise_49 : decode cX12_raise 49 = .ok (.ifCond .eq 13, 3) := by decide +kernel
theorem dX12_raise_52 : decode cX12_raise 52 = .ok (.iload 6, 2) := by decide +kernel
theorem dX12_raise_54 : decode cX12_raise 54 = .ok (.iconst 0, 1) := by decide +kernel
theorem dX12_raise_55 : decode cX12_raise 55 = .ok (.iconst 1, 1) := by decide +kernel
theorem dX12_raise_56 : decode cX12_raise 56 = .ok (.invokestatic 41, 3) := by decide +kernel
theorem dX12_raise_59 : decode cX12_raise 59 = .ok (.ifCond .ne 7, 3) := by decide +kernel
theorem dX12_raise_62 : decode cX12_raise 62 = .ok (.ldc2_w 173, 3) := by decide +kernel
theorem dX12_raise_65 : decode cX12_raise 65 = .ok (.lreturn, 1) := by decide +kernel
theorem dX12_raise_66 : decode cX12_raise 66 = .ok (.aload_n 0, 1) := by decide +kernel
theorem dX12_raise_67 : decode cX12_raise 67 = .ok (.iload_n 1, 1) := by decide +kernel
theorem dX12_raise_68 : decode cX12_raise 68 = .ok (.iload_n 2, 1) := by decide +kernel
theorem dX12_raise_69 : decode cX12_raise 69 = .ok (.iload_n 3, 1) := by decide +kernel
theorem dX12_raise_70 : decode cX12_raise 70 = .ok (.iload 4, 2) := by decide +kernel
theorem dX12_raise_72 : decode cX12_raise 72 = .ok (.invokevirtual 225, 3) := by decide +kernel
theorem dX12_raise_75 : decode cX12_raise 75 = .ok (.iload 5, 2) := by decide +kernel
theorem dX12_raise_77 : decode cX12_raise 77 = .ok (.ifCond .ne 10, 3) := by decide +kernel
theorem dX12_raise_80 : decode cX12_raise 80 = .ok (.aload_n 0, 1) := by decide +kernel
theorem dX12_raise_81 : decode cX12_raise 81 = .ok (.getfield 218, 3) := by decide +kernel
theorem dX12_raise_84 : decode cX12_raise 84 = .ok (.goto 7, 3) := by decide +kernel
theorem dX12_raise_87 : decode cX12_raise 87 = .ok (.aload_n 0, 1) := by decide +kernel
theorem dX12_raise_88 : decode cX12_raise 88 = .ok (.getfield 222, 3) := by decide +kernel
theorem dX12_raise_91 : decode cX12_raise 91 = .ok (.bipush 10, 2) := by decide +kernel
theorem dX12_raise_93 : decode cX12_raise 93 = .ok (.iload 4, 2) := by decide +kernel
theorem dX12_raise_95 : decode cX12_raise 95 = .ok (.invokestatic 209, 3) := by decide +kernel
theorem dX12_raise_98 : decode cX12_raise 98 = .ok (.iload 6, 2) := by decide +kernel
theorem dX12_raise_100 : decode cX12_raise 100 = .ok (.invokestatic 180, 3) := by decide +kernel
theorem dX12_raise_103 : decode cX12_raise 103 = .ok (.lreturn, 1) := by decide +kernel
theorem dX12_wager_0 : decode cX12_wager 0 = .ok (.aload_n 0, 1) := by decide +kernel
theorem dX12_wager_1 : decode cX12_wager 1 = .ok (.iload_n 1, 1) := by decide +kernel
theorem dX12_wager_2 : decode cX12_wager 2 = .ok (.invokevirtual 136, 3) := by decide +kernel
theorem dX12_wager_5 : decode cX12_wager 5 = .ok (.ifCond .eq 11, 3) := by decide +kernel
theorem dX12_wager_8 : decode cX12_wager 8 = .ok (.aload_n 0, 1) := by decide +kernel
theorem dX12_wager_9 : decode cX12_wager 9 = .ok (.iload_n 2, 1) := by decide +kernel
theorem dX12_wager_10 : decode cX12_wager 10 = .ok (.invokevirtual 136, 3) := by decide +kernel
theorem dX12_wager_13 : decode cX12_wager 13 = .ok (.ifCond .ne 5, 3) := by decide +kernel
theorem dX12_wager_16 : decode cX12_wager 16 = .ok (.iconst (-1), 1) := by decide +kernel
theorem dX12_wager_17 : decode cX12_wager 17 = .ok (.ireturn, 1) := by decide +kernel
theorem dX12_wager_18 : decode cX12_wager 18 = .ok (.iload_n 1, 1) := by decide +kernel
theorem dX12_wager_19 : decode cX12_wager 19 = .ok (.iload_n 2, 1) := by decide +kernel
theorem dX12_wager_20 : decode cX12_wager 20 = .ok (.if_icmp .eq 14, 3) := by decide +kernel
theorem dX12_wager_23 : decode cX12_wager 23 = .ok (.iload_n 3, 1) := by decide +kernel
theorem dX12_wager_24 : decode cX12_wager 24 = .ok (.iconst 0, 1) := by decide +kernel
theorem dX12_wager_25 : decode cX12_wager 25 = .ok (.sipush 999, 3) := by decide +kernel
theorem dX12_wager_28 : decode cX12_wager 28 = .ok (.invokestatic 41, 3) := by decide +kernel
theorem dX12_wager_31 : decode cX12_wager 31 = .ok (.ifCond .ne 6, 3) := by decide +kernel
theorem dX12_wager_34 : decode cX12_wager 34 = .ok (.bipush (-2), 2) := by decide +kernel
theorem dX12_wager_36 : decode cX12_wager 36 = .ok (.ireturn, 1) := by decide +kernel
theorem dX12_wager_37 : decode cX12_wager 37 = .ok (.aload_n 0, 1) := by decide +kernel
theorem dX12_wager_38 : decode cX12_wager 38 = .ok (.getfield 9, 3) := by decide +kernel
theorem dX12_wager_41 : decode cX12_wager 41 = .ok (.bipush 43, 2) := by decide +kernel
theorem dX12_wager_43 : decode cX12_wager 43 = .ok (.iload_n 1, 1) := by decide +kernel
theorem dX12_wager_44 : decode cX12_wager 44 = .ok (.iadd, 1) := by decide +kernel
theorem dX12_wager_45 : decode cX12_wager 45 = .ok (.iaload, 1) := by decide +kernel
theorem dX12_wager_46 : decode cX12_wager 46 = .ok (.iload_n 3, 1) := by decide +kernel
theorem dX12_wager_47 : decode cX12_wager 47 = .ok (.if_icmp .lt 25, 3) := by decide +kernel
theorem dX12_wager_50 : decode cX12_wager 50 = .ok (.iload_n 3, 1) := by decide +kernel
theorem dX12_wager_51 : decode cX12_wager 51 = .ok (.ifCond .le 21, 3) := by decide +kernel
theorem dX12_wager_54 : decode cX12_wager 54 = .ok (.aload_n 0, 1) := by decide +kernel
theorem dX12_wager_55 : decode cX12_wager 55 = .ok (.iload_n 1, 1) := by decide +kernel
theorem dX12_wager_56 : decode cX12_wager 56 = .ok (.aload_n 0, 1) := by decide +kernel
theorem dX12_wager_57 : decode cX12_wager 57 = .ok (.iload_n 2, 1) := by decide +kernel
theorem dX12_wager_58 : decode cX12_wager 58 = .ok (.invokevirtual 213, 3) := by decide +kernel
theorem dX12_wager_61 : decode cX12_wager 61 = .ok (.invokevirtual 187, 3) := by decide +kernel
theorem dX12_wager_64 : decode cX12_wager 64 = .ok (.iconst 5, 1) := by decide +kernel
theorem dX12_wager_65 : decode cX12_wager 65 = .ok (.if_icmp .le 7, 3) := by decide +kernel
theorem dX12_wager_68 : decode cX12_wager 68 = .ok (.iconst 1, 1) := by decide +kernel
theorem dX12_wager_69 : decode cX12_wager 69 = .ok (.goto 4, 3) := by decide +kernel
theorem dX12_wager_72 : decode cX12_wager 72 = .ok (.iconst 0, 1) := by decide +kernel
theorem dX12_wager_73 : decode cX12_wager 73 = .ok (.ireturn, 1) := by decide +kernel
theorem dX12_glass_0 : decode cX12_glass 0 = .ok (.aload_n 0, 1) := by decide +kernel
theorem dX12_glass_1 : decode cX12_glass 1 = .ok (.iload_n 1, 1) := by decide +kernel
theorem dX12_glass_2 : decode cX12_glass 2 = .ok (.invokevirtual 136, 3) := by decide +kernel
theorem dX12_glass_5 : decode cX12_glass 5 = .ok (.ifCond .eq 12, 3) := by decide +kernel
theorem dX12_glass_8 : decode cX12_glass 8 = .ok (.iload_n 2, 1) := by decide +kernel
theorem dX12_glass_9 : decode cX12_glass 9 = .ok (.iconst 0, 1) := by decide +kernel
theorem dX12_glass_10 : decode cX12_glass 10 = .ok (.iconst 1, 1) := by decide +kernel
theorem dX12_glass_11 : decode cX12_glass 11 = .ok (.invokestatic 41, 3) := by decide +kernel
theorem dX12_glass_14 : decode cX12_glass 14 = .ok (.ifCond .ne 5, 3) := by decide +kernel
theorem dX12_glass_17 : decode cX12_glass 17 = .ok (.iconst (-1), 1) := by decide +kernel
theorem dX12_glass_18 : decode cX12_glass 18 = .ok (.ireturn, 1) := by decide +kernel
theorem dX12_glass_19 : decode cX12_glass 19 = .ok (.aload_n 0, 1) := by decide +kernel
theorem dX12_glass_20 : decode cX12_glass 20 = .ok (.getfield 9, 3) := by decide +kernel
theorem dX12_glass_23 : decode cX12_glass 23 = .ok (.bipush 31, 2) := by decide +kernel
theorem dX12_glass_25 : decode cX12_glass 25 = .ok (.iload_n 1, 1) := by decide +kernel
theorem dX12_glass_26 : decode cX12_glass 26 = .ok (.iadd, 1) := by decide +kernel
theorem dX12_glass_27 : decode cX12_glass 27 = .ok (.iaload, 1) := by decide +kernel
theorem dX12_glass_28 : decode cX12_glass 28 = .ok (.istore_n 3, 1) := by decide +kernel
theorem dX12_glass_29 : decode cX12_glass 29 = .ok (.iconst 0, 1) := by decide +kernel
theorem dX12_glass_30 : decode cX12_glass 30 = .ok (.istore 4, 2) := by decide +kernel
theorem dX12_glass_32 : decode cX12_glass 32 = .ok (.iconst (-1), 1) := by decide +kernel
theorem dX12_glass_33 : decode cX12_glass 33 = .ok (.istore 5, 2) := by decide +kernel
theorem dX12_glass_35 : decode cX12_glass 35 = .ok (.iconst 0, 1) := by decide +kernel
theorem dX12_glass_36 : decode cX12_glass 36 = .ok (.istore 6, 2) := by decide +kernel
theorem dX12_glass_38 : decode cX12_glass 38 = .ok (.iload 6, 2) := by decide +kernel
theorem dX12_glass_40 : decode cX12_glass 40 = .ok (.bipush 10, 2) := by decide +kernel
theorem dX12_glass_42 : decode cX12_glass 42 = .ok (.if_icmp .ge 59, 3) := by decide +kernel
theorem dX12_glass_45 : decode cX12_glass 45 = .ok (.aload_n 0, 1) := by decide +kernel
theorem dX12_glass_46 : decode cX12_glass 46 = .ok (.getfield 9, 3) := by decide +kernel
theorem dX12_glass_49 : decode cX12_glass 49 = .ok (.bipush 31, 2) := by decide +kernel
theorem dX12_glass_51 : decode cX12_glass 51 = .ok (.iload_n 1, 1) := by decide +kernel
theorem dX12_glass_52 : decode cX12_glass 52 = .ok (.iadd, 1) := by decide +kernel
theorem dX12_glass_53 : decode cX12_glass 53 = .ok (.iload 6, 2) := by decide +kernel
theorem dX12_glass_55 : decode cX12_glass 55 = .ok (.iastore, 1) := by decide +kernel
theorem dX12_glass_56 : decode cX12_glass 56 = .ok (.aload_n 0, 1) := by decide +kernel
theorem dX12_glass_57 : decode cX12_glass 57 = .ok (.iload_n 1, 1) := by decide +kernel
theorem dX12_glass_58 : decode cX12_glass 58 = .ok (.invokevirtual 190, 3) := by decide +kernel
theorem dX12_glass_61 : decode cX12_glass 61 = .ok (.istore 7, 2) := by decide +kernel
theorem dX12_glass_63 : decode cX12_glass 63 = .ok (.iload 7, 2) := by decide +kernel
theorem dX12_glass_65 : decode cX12_glass 65 = .ok (.iload 5, 2) := by decide +kernel
theorem dX12_glass_67 : decode cX12_glass 67 = .ok (.if_icmp .le 8, 3) := by decide +kernel
theorem dX12_glass_70 : decode cX12_glass 70 = .ok (.iload 6, 2) := by decide +kernel
theorem dX12_glass_72 : decode cX12_glass 72 = .ok (.goto 5, 3) := by decide +kernel
theorem dX12_glass_75 : decode cX12_glass 75 = .ok (.iload 4, 2) := by decide +kernel
theorem dX12_glass_77 : decode cX12_glass 77 = .ok (.istore 4, 2) := by decide +kernel
theorem dX12_glass_79 : decode cX12_glass 79 = .ok (.iload 7, 2) := by decide +kernel
theorem dX12_glass_81 : decode cX12_glass 81 = .ok (.iload 5, 2) := by decide +kernel
theorem dX12_glass_83 : decode cX12_glass 83 = .ok (.if_icmp .le 8, 3) := by decide +kernel
theorem dX12_glass_86 : decode cX12_glass 86 = .ok (.iload 7, 2) := by decide +kernel
theorem dX12_glass_88 : decode cX12_glass 88 = .ok (.goto 5, 3) := by decide +kernel
theorem dX12_glass_91 : decode cX12_glass 91 = .ok (.iload 5, 2) := by decide +kernel
theorem dX12_glass_93 : decode cX12_glass 93 = .ok (.istore 5, 2) := by decide +kernel
theorem dX12_glass_95 : decode cX12_glass 95 = .ok (.iinc 6 1, 3) := by decide +kernel
theorem dX12_glass_98 : decode cX12_glass 98 = .ok (.goto (-60), 3) := by decide +kernel
theorem dX12_glass_101 : decode cX12_glass 101 = .ok (.aload_n 0, 1) := by decide +kernel
theorem dX12_glass_102 : decode cX12_glass 102 = .ok (.getfield 9, 3) := by decide +kernel
theorem dX12_glass_105 : decode cX12_glass 105 = .ok (.bipush 31, 2) := by decide +kernel
theorem dX12_glass_107 : decode cX12_glass 107 = .ok (.iload_n 1, 1) := by decide +kernel
theorem dX12_glass_108 : decode cX12_glass 108 = .ok (.iadd, 1) := by decide +kernel
theorem dX12_glass_109 : decode cX12_glass 109 = .ok (.iload_n 3, 1) := by decide +kernel
theorem dX12_glass_110 : decode cX12_glass 110 = .ok (.iastore, 1) := by decide +kernel
theorem dX12_glass_111 : decode cX12_glass 111 = .ok (.iload_n 2, 1) := by decide +kernel
theorem dX12_glass_112 : decode cX12_glass 112 = .ok (.ifCond .ne 8, 3) := by decide +kernel
theorem dX12_glass_115 : decode cX12_glass 115 = .ok (.iload 4, 2) := by decide +kernel
theorem dX12_glass_117 : decode cX12_glass 117 = .ok (.goto 5, 3) := by decide +kernel
theorem dX12_glass_120 : decode cX12_glass 120 = .ok (.iload 5, 2) := by decide +kernel
theorem dX12_glass_122 : decode cX12_glass 122 = .ok (.ireturn, 1) := by decide +kernel
theorem dX12_stuck_0 : decode cX12_stuck 0 = .ok (.aload_n 0, 1) := by decide +kernel
theorem dX12_stuck_1 : decode cX12_stuck 1 = .ok (.iload_n 1, 1) := by decide +kernel
theorem dX12_stuck_2 : decode cX12_stuck 2 = .ok (.invokevirtual 136, 3) := by decide +kernel
theorem dX12_stuck_5 : decode cX12_stuck 5 = .ok (.ifCond .ne 5, 3) := by decide +kernel
theorem dX12_stuck_8 : decode cX12_stuck 8 = .ok (.iconst (-1), 1) := by decide +kernel
theorem dX12_stuck_9 : decode cX12_stuck 9 = .ok (.ireturn, 1) := by decide +kernel
theorem dX12_stuck_10 : decode cX12_stuck 10 = .ok (.iload_n 2, 1) := by decide +kernel
theorem dX12_stuck_11 : decode cX12_stuck 11 = .ok (.iconst 1, 1) := by decide +kernel
theorem dX12_stuck_12 : decode cX12_stuck 12 = .ok (.bipush 99, 2) := by decide +kernel
theorem dX12_stuck_14 : decode cX12_stuck 14 = .ok (.invokestatic 41, 3) := by decide +kernel
theorem dX12_stuck_17 : decode cX12_stuck 17 = .ok (.ifCond .ne 6, 3) := by decide +kernel
theorem dX12_stuck_20 : decode cX12_stuck 20 = .ok (.bipush (-2), 2) := by decide +kernel
theorem dX12_stuck_22 : decode cX12_stuck 22 = .ok (.ireturn, 1) := by decide +kernel
theorem dX12_stuck_23 : decode cX12_stuck 23 = .ok (.iconst 0, 1) := by decide +kernel
theorem dX12_stuck_24 : decode cX12_stuck 24 = .ok (.istore_n 3, 1) := by decide +kernel
theorem dX12_stuck_25 : decode cX12_stuck 25 = .ok (.iload_n 3, 1) := by decide +kernel
theorem dX12_stuck_26 : decode cX12_stuck 26 = .ok (.bipush 100, 2) := by decide +kernel
theorem dX12_stuck_28 : decode cX12_stuck 28 = .ok (.if_icmp .ge 33, 3) := by decide +kernel
theorem dX12_stuck_31 : decode cX12_stuck 31 = .ok (.aload_n 0, 1) := by decide +kernel
theorem dX12_stuck_32 : decode cX12_stuck 32 = .ok (.iload_n 1, 1) := by decide +kernel
theorem dX12_stuck_33 : decode cX12_stuck 33 = .ok (.iload_n 2, 1) := by decide +kernel
theorem dX12_stuck_34 : decode cX12_stuck 34 = .ok (.iload_n 3, 1) := by decide +kernel
theorem dX12_stuck_35 : decode cX12_stuck 35 = .ok (.invokevirtual 156, 3) := by decide +kernel
theorem dX12_stuck_38 : decode cX12_stuck 38 = .ok (.bipush 10, 2) := by decide +kernel
theorem dX12_stuck_40 : decode cX12_stuck 40 = .ok (.aload_n 0, 1) := by decide +kernel
theorem dX12_stuck_41 : decode cX12_stuck 41 = .ok (.getfield 9, 3) := by decide +kernel
theorem dX12_stuck_44 : decode cX12_stuck 44 = .ok (.bipush 25, 2) := by decide +kernel
theorem dX12_stuck_46 : decode cX12_stuck 46 = .ok (.iload_n 1, 1) := by decide +kernel
theorem dX12_stuck_47 : decode cX12_stuck 47 = .ok (.iadd, 1) := by decide +kernel
theorem dX12_stuck_48 : decode cX12_stuck 48 = .ok (.iaload, 1) := by decide +kernel
theorem dX12_stuck_49 : decode cX12_stuck 49 = .ok (.imul, 1) := by decide +kernel
theorem dX12_stuck_50 : decode cX12_stuck 50 = .ok (.if_icmp .gt 5, 3) := by decide +kernel
theorem dX12_stuck_53 : decode cX12_stuck 53 = .ok (.iload_n 3, 1) := by decide +kernel
theorem dX12_stuck_54 : decode cX12_stuck 54 = .ok (.ireturn, 1) := by decide +kernel
theorem dX12_stuck_55 : decode cX12_stuck 55 = .ok (.iinc 3 1, 3) := by decide +kernel
theorem dX12_stuck_58 : decode cX12_stuck 58 = .ok (.goto (-33), 3) := by decide +kernel
theorem dX12_stuck_61 : decode cX12_stuck 61 = .ok (.bipush (-5), 2) := by decide +kernel
theorem dX12_stuck_63 : decode cX12_stuck 63 = .ok (.ireturn, 1) := by decide +kernel
theorem dX12_floor_0 : decode cX12_floor 0 = .ok (.aload_n 0, 1) := by decide +kernel
theorem dX12_floor_1 : decode cX12_floor 1 = .ok (.iload_n 1, 1) := by decide +kernel
theorem dX12_floor_2 : decode cX12_floor 2 = .ok (.invokevirtual 136, 3) := by decide +kernel
theorem dX12_floor_5 : decode cX12_floor 5 = .ok (.ifCond .eq 21, 3) := by decide +kernel
theorem dX12_floor_8 : decode cX12_floor 8 = .ok (.iload_n 2, 1) := by decide +kernel
theorem dX12_floor_9 : decode cX12_floor 9 = .ok (.iload_n 3, 1) := by decide +kernel
theorem dX12_floor_10 : decode cX12_floor 10 = .ok (.invokestatic 148, 3) := by decide +kernel
theorem dX12_floor_13 : decode cX12_floor 13 = .ok (.ifCond .eq 13, 3) := by decide +kernel
theorem dX12_floor_16 : decode cX12_floor 16 = .ok (.iload 4, 2) := by decide +kernel
theorem dX12_floor_18 : decode cX12_floor 18 = .ok (.iconst 0, 1) := by decide +kernel
theorem dX12_floor_19 : decode cX12_floor 19 = .ok (.iconst 1, 1) := by decide +kernel
theorem dX12_floor_20 : decode cX12_floor 20 = .ok (.invokestatic 41, 3) := by decide +kernel
theorem dX12_floor_23 : decode cX12_floor 23 = .ok (.ifCond .ne 7, 3) := by decide +kernel
theorem dX12_floor_26 : decode cX12_floor 26 = .ok (.ldc2_w 173, 3) := by decide +kernel
theorem dX12_floor_29 : decode cX12_floor 29 = .ok (.lreturn, 1) := by decide +kernel
theorem dX12_floor_30 : decode cX12_floor 30 = .ok (.aload_n 0, 1) := by decide +kernel
theorem dX12_floor_31 : decode cX12_floor 31 = .ok (.sipush 226, 3) := by decide +kernel
theorem dX12_floor_34 : decode cX12_floor 34 = .ok (.iconst 1, 1) := by decide +kernel
theorem dX12_floor_35 : decode cX12_floor 35 = .ok (.invokevirtual 129, 3) := by decide +kernel
theorem dX12_floor_38 : decode cX12_floor 38 = .ok (.i2l, 1) := by decide +kernel
theorem dX12_floor_39 : decode cX12_floor 39 = .ok (.bipush 10, 2) := by decide +kernel
theorem dX12_floor_41 : decode cX12_floor 41 = .ok (.iload_n 2, 1) := by decide +kernel
theorem dX12_floor_42 : decode cX12_floor 42 = .ok (.imul, 1) := by decide +kernel
theorem dX12_floor_43 : decode cX12_floor 43 = .ok (.aload_n 0, 1) := by decide +kernel
theorem dX12_floor_44 : decode cX12_floor 44 = .ok (.iload_n 1, 1) := by decide +kernel
theorem dX12_floor_45 : decode cX12_floor 45 = .ok (.iload_n 2, 1) := by decide +kernel
theorem dX12_floor_46 : decode cX12_floor 46 = .ok (.iload_n 3, 1) := by decide +kernel
theorem dX12_floor_47 : decode cX12_floor 47 = .ok (.invokevirtual 175, 3) := by decide +kernel
theorem dX12_floor_50 : decode cX12_floor 50 = .ok (.isub, 1) := by decide +kernel
theorem dX12_floor_51 : decode cX12_floor 51 = .ok (.i2l, 1) := by decide +kernel
theorem dX12_floor_52 : decode cX12_floor 52 = .ok (.lmul, 1) := by decide +kernel
theorem dX12_floor_53 : decode cX12_floor 53 = .ok (.ldc2_w 178, 3) := by decide +kernel
theorem dX12_floor_56 : decode cX12_floor 56 = .ok (.iload 4, 2) := by decide +kernel
theorem dX12_floor_58 : decode cX12_floor 58 = .ok (.invokestatic 180, 3) := by decide +kernel
theorem dX12_floor_61 : decode cX12_floor 61 = .ok (.lreturn, 1) := by decide +kernel
theorem dX12_looksForMosts_0 : decode cX12_looksForMosts 0 = .ok (.iconst 0, 1) := by decide +kernel
theorem dX12_looksForMosts_1 : decode cX12_looksForMosts 1 = .ok (.istore_n 1, 1) := by decide +kernel
theorem dX12_looksForMosts_2 : decode cX12_looksForMosts 2 = .ok (.iload_n 1, 1) := by decide +kernel
theorem dX12_looksForMosts_3 : decode cX12_looksForMosts 3 = .ok (.aload_n 0, 1) := by decide +kernel
theorem dX12_looksForMosts_4 : decode cX12_looksForMosts 4 = .ok (.getfield 9, 3) := by decide +kernel
theorem dX12_looksForMosts_7 : decode cX12_looksForMosts 7 = .ok (.iconst 0, 1) := by decide +kernel
theorem dX12_looksForMosts_8 : decode cX12_looksForMosts 8 = .ok (.iaload, 1) := by decide +kernel
theorem dX12_looksForMosts_9 : decode cX12_looksForMosts 9 = .ok (.if_icmp .ge 20, 3) := by decide +kernel
theorem dX12_looksForMosts_12 : decode cX12_looksForMosts 12 = .ok (.aload_n 0, 1) := by decide +kernel
theorem dX12_looksForMosts_13 : decode cX12_looksForMosts 13 = .ok (.getfield 28, 3) := by decide +kernel
theorem dX12_looksForMosts_16 : decode cX12_looksForMosts 16 = .ok (.iload_n 1, 1) := by decide +kernel
theorem dX12_looksForMosts_17 : decode cX12_looksForMosts 17 = .ok (.aload_n 0, 1) := by decide +kernel
theorem dX12_looksForMosts_18 : decode cX12_looksForMosts 18 = .ok (.iload_n 1, 1) := by decide +kernel
theorem dX12_looksForMosts_19 : decode cX12_looksForMosts 19 = .ok (.invokevirtual 190, 3) := by decide +kernel
theorem dX12_looksForMosts_22 : decode cX12_looksForMosts 22 = .ok (.iastore, 1) := by decide +kernel
theorem dX12_looksForMosts_23 : decode cX12_looksForMosts 23 = .ok (.iinc 1 1, 3) := by decide +kernel
theorem dX12_looksForMosts_26 : decode cX12_looksForMosts 26 = .ok (.goto (-24), 3) := by decide +kernel
theorem dX12_looksForMosts_29 : decode cX12_looksForMosts 29 = .ok (.return_, 1) := by decide +kernel
theorem dX12_aheadOf_0 : decode cX12_aheadOf 0 = .ok (.iconst 0, 1) := by decide +kernel
theorem dX12_aheadOf_1 : decode cX12_aheadOf 1 = .ok (.istore_n 2, 1) := by decide +kernel
theorem dX12_aheadOf_2 : decode cX12_aheadOf 2 = .ok (.iconst 0, 1) := by decide +kernel
theorem dX12_aheadOf_3 : decode cX12_aheadOf 3 = .ok (.istore_n 3, 1) := by decide +kernel
theorem dX12_aheadOf_4 : decode cX12_aheadOf 4 = .ok (.iload_n 3, 1) := by decide +kernel
theorem dX12_aheadOf_5 : decode cX12_aheadOf 5 = .ok (.aload_n 0, 1) := by decide +kernel
theorem dX12_aheadOf_6 : decode cX12_aheadOf 6 = .ok (.getfield 9, 3) := by decide +kernel
theorem dX12_aheadOf_9 : decode cX12_aheadOf 9 = .ok (.iconst 0, 1) := by decide +kernel
theorem dX12_aheadOf_10 : decode cX12_aheadOf 10 = .ok (.iaload, 1) := by decide +kernel
theorem dX12_aheadOf_11 : decode cX12_aheadOf 11 = .ok (.if_icmp .ge 52, 3) := by decide +kernel
theorem dX12_aheadOf_14 : decode cX12_aheadOf 14 = .ok (.iload_n 2, 1) := by decide +kernel
theorem dX12_aheadOf_15 : decode cX12_aheadOf 15 = .ok (.aload_n 0, 1) := by decide +kernel
theorem dX12_aheadOf_16 : decode cX12_aheadOf 16 = .ok (.getfield 28, 3) := by decide +kernel
theorem dX12_aheadOf_19 : decode cX12_aheadOf 19 = .ok (.iload_n 3, 1) := by decide +kernel
theorem dX12_aheadOf_20 : decode cX12_aheadOf 20 = .ok (.iaload, 1) := by decide +kernel
theorem dX12_aheadOf_21 : decode cX12_aheadOf 21 = .ok (.aload_n 0, 1) := by decide +kernel
theorem dX12_aheadOf_22 : decode cX12_aheadOf 22 = .ok (.getfield 28, 3) := by decide +kernel
theorem dX12_aheadOf_25 : decode cX12_aheadOf 25 = .ok (.iload_n 1, 1) := by decide +kernel
theorem dX12_aheadOf_26 : decode cX12_aheadOf 26 = .ok (.iaload, 1) := by decide +kernel
theorem dX12_aheadOf_27 : decode cX12_aheadOf 27 = .ok (.if_icmp .gt 23, 3) := by decide +kernel
theorem dX12_aheadOf_30 : decode cX12_aheadOf 30 = .ok (.aload_n 0, 1) := by decide +kernel
theorem dX12_aheadOf_31 : decode cX12_aheadOf 31 = .ok (.getfield 28, 3) := by decide +kernel
theorem dX12_aheadOf_34 : decode cX12_aheadOf 34 = .ok (.iload_n 3, 1) := by decide +kernel
theorem dX12_aheadOf_35 : decode cX12_aheadOf 35 = .ok (.iaload, 1) := by decide +kernel
theorem dX12_aheadOf_36 : decode cX12_aheadOf 36 = .ok (.aload_n 0, 1) := by decide +kernel
theorem dX12_aheadOf_37 : decode cX12_aheadOf 37 = .ok (.getfield 28, 3) := by decide +kernel
theorem dX12_aheadOf_40 : decode cX12_aheadOf 40 = .ok (.iload_n 1, 1) := by decide +kernel
theorem dX12_aheadOf_41 : decode cX12_aheadOf 41 = .ok (.iaload, 1) := by decide +kernel
theorem dX12_aheadOf_42 : decode cX12_aheadOf 42 = .ok (.if_icmp .ne 12, 3) := by decide +kernel
theorem dX12_aheadOf_45 : decode cX12_aheadOf 45 = .ok (.iload_n 3, 1) := by decide +kernel
theorem dX12_aheadOf_46 : decode cX12_aheadOf 46 = .ok (.iload_n 1, 1) := by decide +kernel
theorem dX12_aheadOf_47 : decode cX12_aheadOf 47 = .ok (.if_icmp .ge 7, 3) := by decide +kernel
theorem dX12_aheadOf_50 : decode cX12_aheadOf 50 = .ok (.iconst 1, 1) := by decide +kernel
theorem dX12_aheadOf_51 : decode cX12_aheadOf 51 = .ok (.goto 4, 3) := by decide +kernel
theorem dX12_aheadOf_54 : decode cX12_aheadOf 54 = .ok (.iconst 0, 1) := by decide +kernel
theorem dX12_aheadOf_55 : decode cX12_aheadOf 55 = .ok (.iadd, 1) := by decide +kernel
theorem dX12_aheadOf_56 : decode cX12_aheadOf 56 = .ok (.istore_n 2, 1) := by decide +kernel
theorem dX12_aheadOf_57 : decode cX12_aheadOf 57 = .ok (.iinc 3 1, 3) := by decide +kernel
theorem dX12_aheadOf_60 : decode cX12_aheadOf 60 = .ok (.goto (-56), 3) := by decide +kernel
theorem dX12_aheadOf_63 : decode cX12_aheadOf 63 = .ok (.iload_n 2, 1) := by decide +kernel
theorem dX12_aheadOf_64 : decode cX12_aheadOf 64 = .ok (.ireturn, 1) := by decide +kernel
theorem dX12_order_0 : decode cX12_order 0 = .ok (.aload_n 0, 1) := by decide +kernel
theorem dX12_order_1 : decode cX12_order 1 = .ok (.iload_n 1, 1) := by decide +kernel
theorem dX12_order_2 : decode cX12_order 2 = .ok (.invokevirtual 136, 3) := by decide +kernel
theorem dX12_order_5 : decode cX12_order 5 = .ok (.ifCond .ne 5, 3) := by decide +kernel
theorem dX12_order_8 : decode cX12_order 8 = .ok (.iconst (-1), 1) := by decide +kernel
theorem dX12_order_9 : decode cX12_order 9 = .ok (.ireturn, 1) := by decide +kernel
theorem dX12_order_10 : decode cX12_order 10 = .ok (.aload_n 0, 1) := by decide +kernel
theorem dX12_order_11 : decode cX12_order 11 = .ok (.invokevirtual 229, 3) := by decide +kernel
theorem dX12_order_14 : decode cX12_order 14 = .ok (.iconst 0, 1) := by decide +kernel
theorem dX12_order_15 : decode cX12_order 15 = .ok (.istore_n 2, 1) := by decide +kernel
theorem dX12_order_16 : decode cX12_order 16 = .ok (.iconst 0, 1) := by decide +kernel
theorem dX12_order_17 : decode cX12_order 17 = .ok (.istore_n 3, 1) := by decide +kernel
theorem dX12_order_18 : decode cX12_order 18 = .ok (.iload_n 3, 1) := by decide +kernel
theorem dX12_order_19 : decode cX12_order 19 = .ok (.aload_n 0, 1) := by decide +kernel
theorem dX12_order_20 : decode cX12_order 20 = .ok (.getfield 9, 3) := by decide +kernel
theorem dX12_order_23 : decode cX12_order 23 = .ok (.iconst 0, 1) := by decide +kernel
theorem dX12_order_24 : decode cX12_order 24 = .ok (.iaload, 1) := by decide +kernel
theorem dX12_order_25 : decode cX12_order 25 = .ok (.if_icmp .ge 24, 3) := by decide +kernel
theorem dX12_order_28 : decode cX12_order 28 = .ok (.aload_n 0, 1) := by decide +kernel
theorem dX12_order_29 : decode cX12_order 29 = .ok (.iload_n 3, 1) := by decide +kernel
theorem dX12_order_30 : decode cX12_order 30 = .ok (.invokevirtual 232, 3) := by decide +kernel
theorem dX12_order_33 : decode cX12_order 33 = .ok (.iload_n 1, 1) := by decide +kernel
theorem dX12_order_34 : decode cX12_order 34 = .ok (.if_icmp .ne 7, 3) := by decide +kernel
theorem dX12_order_37 : decode cX12_order 37 = .ok (.iload_n 3, 1) := by decide +kernel
theorem dX12_order_38 : decode cX12_order 38 = .ok (.goto 4, 3) := by decide +kernel
theorem dX12_order_41 : decode cX12_order 41 = .ok (.iload_n 2, 1) := by decide +kernel
theorem dX12_order_42 : decode cX12_order 42 = .ok (.istore_n 2, 1) := by decide +kernel
theorem dX12_order_43 : decode cX12_order 43 = .ok (.iinc 3 1, 3) := by decide +kernel
theorem dX12_order_46 : decode cX12_order 46 = .ok (.goto (-28), 3) := by decide +kernel
theorem dX12_order_49 : decode cX12_order 49 = .ok (.iload_n 2, 1) := by decide +kernel
theorem dX12_order_50 : decode cX12_order 50 = .ok (.ireturn, 1) := by decide +kernel
theorem dX12_meets_0 : decode cX12_meets 0 = .ok (.aload_n 0, 1) := by decide +kernel
theorem dX12_meets_1 : decode cX12_meets 1 = .ok (.getfield 28, 3) := by decide +kernel
theorem dX12_meets_4 : decode cX12_meets 4 = .ok (.iload_n 1, 1) := by decide +kernel
theorem dX12_meets_5 : decode cX12_meets 5 = .ok (.iaload, 1) := by decide +kernel
theorem dX12_meets_6 : decode cX12_meets 6 = .ok (.aload_n 0, 1) := by decide +kernel
theorem dX12_meets_7 : decode cX12_meets 7 = .ok (.getfield 28, 3) := by decide +kernel
theorem dX12_meets_10 : decode cX12_meets 10 = .ok (.iload_n 2, 1) := by decide +kernel
theorem dX12_meets_11 : decode cX12_meets 11 = .ok (.iaload, 1) := by decide +kernel
theorem dX12_meets_12 : decode cX12_meets 12 = .ok (.if_icmp .le 12, 3) := by decide +kernel
theorem dX12_meets_15 : decode cX12_meets 15 = .ok (.aload_n 0, 1) := by decide +kernel
theorem dX12_meets_16 : decode cX12_meets 16 = .ok (.getfield 28, 3) := by decide +kernel
theorem dX12_meets_19 : decode cX12_meets 19 = .ok (.iload_n 1, 1) := by decide +kernel
theorem dX12_meets_20 : decode cX12_meets 20 = .ok (.iaload, 1) := by decide +kernel
theorem dX12_meets_21 : decode cX12_meets 21 = .ok (.goto 9, 3) := by decide +kernel
theorem dX12_meets_24 : decode cX12_meets 24 = .ok (.aload_n 0, 1) := by decide +kernel
theorem dX12_meets_25 : decode cX12_meets 25 = .ok (.getfield 28, 3) := by decide +kernel
theorem dX12_meets_28 : decode cX12_meets 28 = .ok (.iload_n 2, 1) := by decide +kernel
theorem dX12_meets_29 : decode cX12_meets 29 = .ok (.iaload, 1) := by decide +kernel
theorem dX12_meets_30 : decode cX12_meets 30 = .ok (.istore_n 3, 1) := by decide +kernel
theorem dX12_meets_31 : decode cX12_meets 31 = .ok (.aload_n 0, 1) := by decide +kernel
theorem dX12_meets_32 : decode cX12_meets 32 = .ok (.iload_n 1, 1) := by decide +kernel
theorem dX12_meets_33 : decode cX12_meets 33 = .ok (.iload_n 2, 1) := by decide +kernel
theorem dX12_meets_34 : decode cX12_meets 34 = .ok (.iload_n 3, 1) := by decide +kernel
theorem dX12_meets_35 : decode cX12_meets 35 = .ok (.iconst 1, 1) := by decide +kernel
theorem dX12_meets_36 : decode cX12_meets 36 = .ok (.if_icmp .ge 7, 3) := by decide +kernel
theorem dX12_meets_39 : decode cX12_meets 39 = .ok (.iconst 1, 1) := by decide +kernel
theorem dX12_meets_40 : decode cX12_meets 40 = .ok (.goto 4, 3) := by decide +kernel
theorem dX12_meets_43 : decode cX12_meets 43 = .ok (.iload_n 3, 1) := by decide +kernel
theorem dX12_meets_44 : decode cX12_meets 44 = .ok (.iconst 4, 1) := by decide +kernel
theorem dX12_meets_45 : decode cX12_meets 45 = .ok (.invokevirtual 225, 3) := by decide +kernel
theorem dX12_meets_48 : decode cX12_meets 48 = .ok (.ldc2_w 235, 3) := by decide +kernel
theorem dX12_meets_51 : decode cX12_meets 51 = .ok (.aload_n 0, 1) := by decide +kernel
theorem dX12_meets_52 : decode cX12_meets 52 = .ok (.getfield 218, 3) := by decide +kernel
theorem dX12_meets_55 : decode cX12_meets 55 = .ok (.lsub, 1) := by decide +kernel
theorem dX12_meets_56 : decode cX12_meets 56 = .ok (.aload_n 0, 1) := by decide +kernel
theorem dX12_meets_57 : decode cX12_meets 57 = .ok (.getfield 222, 3) := by decide +kernel
theorem dX12_meets_60 : decode cX12_meets 60 = .ok (.lsub, 1) := by decide +kernel
theorem dX12_meets_61 : decode cX12_meets 61 = .ok (.lstore 4, 2) := by decide +kernel
theorem dX12_meets_63 : decode cX12_meets 63 = .ok (.aload_n 0, 1) := by decide +kernel
theorem dX12_meets_64 : decode cX12_meets 64 = .ok (.getfield 31, 3) := by decide +kernel
theorem dX12_meets_67 : decode cX12_meets 67 = .ok (.iload_n 1, 1) := by decide +kernel
theorem dX12_meets_68 : decode cX12_meets 68 = .ok (.dup2, 1) := by decide +kernel
theorem dX12_meets_69 : decode cX12_meets 69 = .ok (.iaload, 1) := by decide +kernel
theorem dX12_meets_70 : decode cX12_meets 70 = .ok (.aload_n 0, 1) := by decide +kernel
theorem dX12_meets_71 : decode cX12_meets 71 = .ok (.getfield 218, 3) := by decide +kernel
theorem dX12_meets_74 : decode cX12_meets 74 = .ok (.lload 4, 2) := by decide +kernel
theorem dX12_meets_76 : decode cX12_meets 76 = .ok (.lcmp, 1) := by decide +kernel
theorem dX12_meets_77 : decode cX12_meets 77 = .ok (.ifCond .le 7, 3) := by decide +kernel
theorem dX12_meets_80 : decode cX12_meets 80 = .ok (.iconst 2, 1) := by decide +kernel
theorem dX12_meets_81 : decode cX12_meets 81 = .ok (.goto 18, 3) := by decide +kernel
theorem dX12_meets_84 : decode cX12_meets 84 = .ok (.aload_n 0, 1) := by decide +kernel
theorem dX12_meets_85 : decode cX12_meets 85 = .ok (.getfield 218, 3) := by decide +kernel
theorem dX12_meets_88 : decode cX12_meets 88 = .ok (.lload 4, 2) := by decide +kernel
theorem dX12_meets_90 : decode cX12_meets 90 = .ok (.lcmp, 1) := by decide +kernel
theorem dX12_meets_91 : decode cX12_meets 91 = .ok (.ifCond .ne 7, 3) := by decide +kernel
theorem dX12_meets_94 : decode cX12_meets 94 = .ok (.iconst 1, 1) := by decide +kernel
theorem dX12_meets_95 : decode cX12_meets 95 = .ok (.goto 4, 3) := by decide +kernel
theorem dX12_meets_98 : decode cX12_meets 98 = .ok (.iconst 0, 1) := by decide +kernel
theorem dX12_meets_99 : decode cX12_meets 99 = .ok (.iadd, 1) := by decide +kernel
theorem dX12_meets_100 : decode cX12_meets 100 = .ok (.iastore, 1) := by decide +kernel
theorem dX12_meets_101 : decode cX12_meets 101 = .ok (.aload_n 0, 1) := by decide +kernel
theorem dX12_meets_102 : decode cX12_meets 102 = .ok (.getfield 31, 3) := by decide +kernel
theorem dX12_meets_105 : decode cX12_meets 105 = .ok (.iload_n 2, 1) := by decide +kernel
theorem dX12_meets_106 : decode cX12_meets 106 = .ok (.dup2, 1) := by decide +kernel
theorem dX12_meets_107 : decode cX12_meets 107 = .ok (.iaload, 1) := by decide +kernel
theorem dX12_meets_108 : decode cX12_meets 108 = .ok (.aload_n 0, 1) := by decide +kernel
theorem dX12_meets_109 : decode cX12_meets 109 = .ok (.getfield 218, 3) := by decide +kernel
theorem dX12_meets_112 : decode cX12_meets 112 = .ok (.lload 4, 2) := by decide +kernel
theorem dX12_meets_114 : decode cX12_meets 114 = .ok (.lcmp, 1) := by decide +kernel
theorem dX12_meets_115 : decode cX12_meets 115 = .ok (.ifCond .ge 7, 3) := by decide +kernel
theorem dX12_meets_118 : decode cX12_meets 118 = .ok (.iconst 2, 1) := by decide +kernel
theorem dX12_meets_119 : decode cX12_meets 119 = .ok (.goto 18, 3) := by decide +kernel
theorem dX12_meets_122 : decode cX12_meets 122 = .ok (.aload_n 0, 1) := by decide +kernel
theorem dX12_meets_123 : decode cX12_meets 123 = .ok (.getfield 218, 3) := by decide +kernel
theorem dX12_meets_126 : decode cX12_meets 126 = .ok (.lload 4, 2) := by decide +kernel
theorem dX12_meets_128 : decode cX12_meets 128 = .ok (.lcmp, 1) := by decide +kernel
theorem dX12_meets_129 : decode cX12_meets 129 = .ok (.ifCond .ne 7, 3) := by decide +kernel
theorem dX12_meets_132 : decode cX12_meets 132 = .ok (.iconst 1, 1) := by decide +kernel
theorem dX12_meets_133 : decode cX12_meets 133 = .ok (.goto 4, 3) := by decide +kernel
theorem dX12_meets_136 : decode cX12_meets 136 = .ok (.iconst 0, 1) := by decide +kernel
theorem dX12_meets_137 : decode cX12_meets 137 = .ok (.iadd, 1) := by decide +kernel
theorem dX12_meets_138 : decode cX12_meets 138 = .ok (.iastore, 1) := by decide +kernel
theorem dX12_meets_139 : decode cX12_meets 139 = .ok (.return_, 1) := by decide +kernel
theorem dX12_title_0 : decode cX12_title 0 = .ok (.iload_n 1, 1) := by decide +kernel
theorem dX12_title_1 : decode cX12_title 1 = .ok (.iconst (-1), 1) := by decide +kernel
theorem dX12_title_2 : decode cX12_title 2 = .ok (.if_icmp .eq 13, 3) := by decide +kernel
theorem dX12_title_5 : decode cX12_title 5 = .ok (.aload_n 0, 1) := by decide +kernel
theorem dX12_title_6 : decode cX12_title 6 = .ok (.iload_n 1, 1) := by decide +kernel
theorem dX12_title_7 : decode cX12_title 7 = .ok (.invokevirtual 136, 3) := by decide +kernel
theorem dX12_title_10 : decode cX12_title 10 = .ok (.ifCond .ne 5, 3) := by decide +kernel
theorem dX12_title_13 : decode cX12_title 13 = .ok (.iconst (-1), 1) := by decide +kernel
theorem dX12_title_14 : decode cX12_title 14 = .ok (.ireturn, 1) := by decide +kernel
theorem dX12_title_15 : decode cX12_title 15 = .ok (.aload_n 0, 1) := by decide +kernel
theorem dX12_title_16 : decode cX12_title 16 = .ok (.invokevirtual 229, 3) := by decide +kernel
theorem dX12_title_19 : decode cX12_title 19 = .ok (.iconst 0, 1) := by decide +kernel
theorem dX12_title_20 : decode cX12_title 20 = .ok (.istore_n 2, 1) := by decide +kernel
theorem dX12_title_21 : decode cX12_title 21 = .ok (.iload_n 2, 1) := by decide +kernel
theorem dX12_title_22 : decode cX12_title 22 = .ok (.bipush 6, 2) := by decide +kernel
theorem dX12_title_24 : decode cX12_title 24 = .ok (.if_icmp .ge 16, 3) := by decide +kernel
theorem dX12_title_27 : decode cX12_title 27 = .ok (.aload_n 0, 1) := by decide +kernel
theorem dX12_title_28 : decode cX12_title 28 = .ok (.getfield 31, 3) := by decide +kernel
theorem dX12_title_31 : decode cX12_title 31 = .ok (.iload_n 2, 1) := by decide +kernel
theorem dX12_title_32 : decode cX12_title 32 = .ok (.iconst 0, 1) := by decide +kernel
theorem dX12_title_33 : decode cX12_title 33 = .ok (.iastore, 1) := by decide +kernel
theorem dX12_title_34 : decode cX12_title 34 = .ok (.iinc 2 1, 3) := by decide +kernel
theorem dX12_title_37 : decode cX12_title 37 = .ok (.goto (-16), 3) := by decide +kernel
theorem dX12_title_40 : decode cX12_title 40 = .ok (.iconst 0, 1) := by decide +kernel
theorem dX12_title_41 : decode cX12_title 41 = .ok (.istore_n 2, 1) := by decide +kernel
theorem dX12_title_42 : decode cX12_title 42 = .ok (.iload_n 2, 1) := by decide +kernel
theorem dX12_title_43 : decode cX12_title 43 = .ok (.aload_n 0, 1) := by decide +kernel
theorem dX12_title_44 : decode cX12_title 44 = .ok (.getfield 9, 3) := by decide +kernel
theorem dX12_title_47 : decode cX12_title 47 = .ok (.iconst 0, 1) := by decide +kernel
theorem dX12_title_48 : decode cX12_title 48 = .ok (.iaload, 1) := by decide +kernel
theorem dX12_title_49 : decode cX12_title 49 = .ok (.if_icmp .ge 35, 3) := by decide +kernel
theorem dX12_title_52 : decode cX12_title 52 = .ok (.iload_n 2, 1) := by decide +kernel
theorem dX12_title_53 : decode cX12_title 53 = .ok (.iconst 1, 1) := by decide +kernel
theorem dX12_title_54 : decode cX12_title 54 = .ok (.iadd, 1) := by decide +kernel
theorem dX12_title_55 : decode cX12_title 55 = .ok (.istore_n 3, 1) := by decide +kernel
theorem dX12_title_56 : decode cX12_title 56 = .ok (.iload_n 3, 1) := by decide +kernel
theorem dX12_title_57 : decode cX12_title 57 = .ok (.aload_n 0, 1) := by decide +kernel
theorem dX12_title_58 : decode cX12_title 58 = .ok (.getfield 9, 3) := by decide +kernel
theorem dX12_title_61 : decode cX12_title 61 = .ok (.iconst 0, 1) := by decide +kernel
theorem dX12_title_62 : decode cX12_title 62 = .ok (.iaload, 1) := by decide +kernel
theorem dX12_title_63 : decode cX12_title 63 = .ok (.if_icmp .ge 15, 3) := by decide +kernel
theorem dX12_title_66 : decode cX12_title 66 = .ok (.aload_n 0, 1) := by decide +kernel
theorem dX12_title_67 : decode cX12_title 67 = .ok (.iload_n 2, 1) := by decide +kernel
theorem dX12_title_68 : decode cX12_title 68 = .ok (.iload_n 3, 1) := by decide +kernel
theorem dX12_title_69 : decode cX12_title 69 = .ok (.invokevirtual 237, 3) := by decide +kernel
theorem dX12_title_72 : decode cX12_title 72 = .ok (.iinc 3 1, 3) := by decide +kernel
theorem dX12_title_75 : decode cX12_title 75 = .ok (.goto (-19), 3) := by decide +kernel
theorem dX12_title_78 : decode cX12_title 78 = .ok (.iinc 2 1, 3) := by decide +kernel
theorem dX12_title_81 : decode cX12_title 81 = .ok (.goto (-39), 3) := by decide +kernel
theorem dX12_title_84 : decode cX12_title 84 = .ok (.aload_n 0, 1) := by decide +kernel
theorem dX12_title_85 : decode cX12_title 85 = .ok (.getfield 9, 3) := by decide +kernel
theorem dX12_title_88 : decode cX12_title 88 = .ok (.iconst 0, 1) := by decide +kernel
theorem dX12_title_89 : decode cX12_title 89 = .ok (.iaload, 1) := by decide +kernel
theorem dX12_title_90 : decode cX12_title 90 = .ok (.ifCond .ne 8, 3) := by decide +kernel
theorem dX12_title_93 : decode cX12_title 93 = .ok (.bipush (-5), 2) := by decide +kernel
theorem dX12_title_95 : decode cX12_title 95 = .ok (.goto 4, 3) := by decide +kernel
theorem dX12_title_98 : decode cX12_title 98 = .ok (.iconst 0, 1) := by decide +kernel
theorem dX12_title_99 : decode cX12_title 99 = .ok (.istore_n 2, 1) := by decide +kernel
theorem dX12_title_100 : decode cX12_title 100 = .ok (.iconst 1, 1) := by decide +kernel
theorem dX12_title_101 : decode cX12_title 101 = .ok (.istore_n 3, 1) := by decide +kernel
theorem dX12_title_102 : decode cX12_title 102 = .ok (.iload_n 3, 1) := by decide +kernel
theorem dX12_title_103 : decode cX12_title 103 = .ok (.aload_n 0, 1) := by decide +kernel
theorem dX12_title_104 : decode cX12_title 104 = .ok (.getfield 9, 3) := by decide +kernel
theorem dX12_title_107 : decode cX12_title 107 = .ok (.iconst 0, 1) := by decide +kernel
theorem dX12_title_108 : decode cX12_title 108 = .ok (.iaload, 1) := by decide +kernel
theorem dX12_title_109 : decode cX12_title 109 = .ok (.if_icmp .ge 30, 3) := by decide +kernel
theorem dX12_title_112 : decode cX12_title 112 = .ok (.aload_n 0, 1) := by decide +kernel
theorem dX12_title_113 : decode cX12_title 113 = .ok (.getfield 31, 3) := by decide +kernel
theorem dX12_title_116 : decode cX12_title 116 = .ok (.iload_n 3, 1) := by decide +kernel
theorem dX12_title_117 : decode cX12_title 117 = .ok (.iaload, 1) := by decide +kernel
theorem dX12_title_118 : decode cX12_title 118 = .ok (.aload_n 0, 1) := by decide +kernel
theorem dX12_title_119 : decode cX12_title 119 = .ok (.getfield 31, 3) := by decide +kernel
theorem dX12_title_122 : decode cX12_title 122 = .ok (.iload_n 2, 1) := by decide +kernel
theorem dX12_title_123 : decode cX12_title 123 = .ok (.iaload, 1) := by decide +kernel
theorem dX12_title_124 : decode cX12_title 124 = .ok (.if_icmp .le 7, 3) := by decide +kernel
theorem dX12_title_127 : decode cX12_title 127 = .ok (.iload_n 3, 1) := by decide +kernel
theorem dX12_title_128 : decode cX12_title 128 = .ok (.goto 4, 3) := by decide +kernel
theorem dX12_title_131 : decode cX12_title 131 = .ok (.iload_n 2, 1) := by decide +kernel
theorem dX12_title_132 : decode cX12_title 132 = .ok (.istore_n 2, 1) := by decide +kernel
theorem dX12_title_133 : decode cX12_title 133 = .ok (.iinc 3 1, 3) := by decide +kernel
theorem dX12_title_136 : decode cX12_title 136 = .ok (.goto (-34), 3) := by decide +kernel
theorem dX12_title_139 : decode cX12_title 139 = .ok (.iload_n 1, 1) := by decide +kernel
theorem dX12_title_140 : decode cX12_title 140 = .ok (.iconst (-1), 1) := by decide +kernel
theorem dX12_title_141 : decode cX12_title 141 = .ok (.if_icmp .ne 7, 3) := by decide +kernel
theorem dX12_title_144 : decode cX12_title 144 = .ok (.iload_n 2, 1) := by decide +kernel
theorem dX12_title_145 : decode cX12_title 145 = .ok (.goto 9, 3) := by decide +kernel
theorem dX12_title_148 : decode cX12_title 148 = .ok (.aload_n 0, 1) := by decide +kernel
theorem dX12_title_149 : decode cX12_title 149 = .ok (.getfield 31, 3) := by decide +kernel
theorem dX12_title_152 : decode cX12_title 152 = .ok (.iload_n 1, 1) := by decide +kernel
theorem dX12_title_153 : decode cX12_title 153 = .ok (.iaload, 1) := by decide +kernel
theorem dX12_title_154 : decode cX12_title 154 = .ok (.ireturn, 1) := by decide +kernel
theorem dX12_see_0 : decode cX12_see 0 = .ok (.iload_n 1, 1) := by decide +kernel
theorem dX12_see_1 : decode cX12_see 1 = .ok (.iconst (-1), 1) := by decide +kernel
theorem dX12_see_2 : decode cX12_see 2 = .ok (.if_icmp .ne 12, 3) := by decide +kernel
theorem dX12_see_5 : decode cX12_see 5 = .ok (.aload_n 0, 1) := by decide +kernel
theorem dX12_see_6 : decode cX12_see 6 = .ok (.getfield 9, 3) := by decide +kernel
theorem dX12_see_9 : decode cX12_see 9 = .ok (.iconst 2, 1) := by decide +kernel
theorem dX12_see_10 : decode cX12_see 10 = .ok (.iconst 0, 1) := by decide +kernel
theorem dX12_see_11 : decode cX12_see 11 = .ok (.iastore, 1) := by decide +kernel
theorem dX12_see_12 : decode cX12_see 12 = .ok (.iconst 0, 1) := by decide +kernel
theorem dX12_see_13 : decode cX12_see 13 = .ok (.ireturn, 1) := by decide +kernel
theorem dX12_see_14 : decode cX12_see 14 = .ok (.aload_n 0, 1) := by decide +kernel
theorem dX12_see_15 : decode cX12_see 15 = .ok (.iload_n 1, 1) := by decide +kernel
theorem dX12_see_16 : decode cX12_see 16 = .ok (.invokevirtual 136, 3) := by decide +kernel
theorem dX12_see_19 : decode cX12_see 19 = .ok (.ifCond .ne 5, 3) := by decide +kernel
theorem dX12_see_22 : decode cX12_see 22 = .ok (.iconst (-1), 1) := by decide +kernel
theorem dX12_see_23 : decode cX12_see 23 = .ok (.ireturn, 1) := by decide +kernel
theorem dX12_see_24 : decode cX12_see 24 = .ok (.iload_n 2, 1) := by decide +kernel
theorem dX12_see_25 : decode cX12_see 25 = .ok (.iload_n 3, 1) := by decide +kernel
theorem dX12_see_26 : decode cX12_see 26 = .ok (.invokestatic 148, 3) := by decide +kernel
theorem dX12_see_29 : decode cX12_see 29 = .ok (.ifCond .eq 14, 3) := by decide +kernel
theorem dX12_see_32 : decode cX12_see 32 = .ok (.iload 4, 2) := by decide +kernel
theorem dX12_see_34 : decode cX12_see 34 = .ok (.iconst 0, 1) := by decide +kernel
theorem dX12_see_35 : decode cX12_see 35 = .ok (.bipush 99, 2) := by decide +kernel
theorem dX12_see_37 : decode cX12_see 37 = .ok (.invokestatic 41, 3) := by decide +kernel
theorem dX12_see_40 : decode cX12_see 40 = .ok (.ifCond .ne 6, 3) := by decide +kernel
theorem dX12_see_43 : decode cX12_see 43 = .ok (.bipush (-2), 2) := by decide +kernel
theorem dX12_see_45 : decode cX12_see 45 = .ok (.ireturn, 1) := by decide +kernel
theorem dX12_see_46 : decode cX12_see 46 = .ok (.aload_n 0, 1) := by decide +kernel
theorem dX12_see_47 : decode cX12_see 47 = .ok (.getfield 9, 3) := by decide +kernel
theorem dX12_see_50 : decode cX12_see 50 = .ok (.iconst 2, 1) := by decide +kernel
theorem dX12_see_51 : decode cX12_see 51 = .ok (.iaload, 1) := by decide +kernel
theorem dX12_see_52 : decode cX12_see 52 = .ok (.bipush 8, 2) := by decide +kernel
theorem dX12_see_54 : decode cX12_see 54 = .ok (.if_icmp .ne 6, 3) := by decide +kernel
theorem dX12_see_57 : decode cX12_see 57 = .ok (.bipush (-4), 2) := by decide +kernel
theorem dX12_see_59 : decode cX12_see 59 = .ok (.ireturn, 1) := by decide +kernel
theorem dX12_see_60 : decode cX12_see 60 = .ok (.aload_n 0, 1) := by decide +kernel
theorem dX12_see_61 : decode cX12_see 61 = .ok (.getfield 9, 3) := by decide +kernel
theorem dX12_see_64 : decode cX12_see 64 = .ok (.bipush 73, 2) := by decide +kernel
theorem dX12_see_66 : decode cX12_see 66 = .ok (.aload_n 0, 1) := by decide +kernel
theorem dX12_see_67 : decode cX12_see 67 = .ok (.getfield 9, 3) := by decide +kernel
theorem dX12_see_70 : decode cX12_see 70 = .ok (.iconst 2, 1) := by decide +kernel
theorem dX12_see_71 : decode cX12_see 71 = .ok (.iaload, 1) := by decide +kernel
theorem dX12_see_72 : decode cX12_see 72 = .ok (.iadd, 1) := by decide +kernel
theorem dX12_see_73 : decode cX12_see 73 = .ok (.iload_n 1, 1) := by decide +kernel
theorem dX12_see_74 : decode cX12_see 74 = .ok (.iastore, 1) := by decide +kernel
theorem dX12_see_75 : decode cX12_see 75 = .ok (.aload_n 0, 1) := by decide +kernel
theorem dX12_see_76 : decode cX12_see 76 = .ok (.getfield 9, 3) := by decide +kernel
theorem dX12_see_79 : decode cX12_see 79 = .ok (.bipush 81, 2) := by decide +kernel
theorem dX12_see_81 : decode cX12_see 81 = .ok (.aload_n 0, 1) := by decide +kernel
theorem dX12_see_82 : decode cX12_see 82 = .ok (.getfield 9, 3) := by decide +kernel
theorem dX12_see_85 : decode cX12_see 85 = .ok (.iconst 2, 1) := by decide +kernel
theorem dX12_see_86 : decode cX12_see 86 = .ok (.iaload, 1) := by decide +kernel
theorem dX12_see_87 : decode cX12_see 87 = .ok (.iadd, 1) := by decide +kernel
theorem dX12_see_88 : decode cX12_see 88 = .ok (.iload_n 2, 1) := by decide +kernel
theorem dX12_see_89 : decode cX12_see 89 = .ok (.iastore, 1) := by decide +kernel
theorem dX12_see_90 : decode cX12_see 90 = .ok (.aload_n 0, 1) := by decide +kernel
theorem dX12_see_91 : decode cX12_see 91 = .ok (.getfield 9, 3) := by decide +kernel
theorem dX12_see_94 : decode cX12_see 94 = .ok (.bipush 89, 2) := by decide +kernel
theorem dX12_see_96 : decode cX12_see 96 = .ok (.aload_n 0, 1) := by decide +kernel
theorem dX12_see_97 : decode cX12_see 97 = .ok (.getfield 9, 3) := by decide +kernel
theorem dX12_see_100 : decode cX12_see 100 = .ok (.iconst 2, 1) := by decide +kernel
theorem dX12_see_101 : decode cX12_see 101 = .ok (.iaload, 1) := by decide +kernel
theorem dX12_see_102 : decode cX12_see 102 = .ok (.iadd, 1) := by decide +kernel
theorem dX12_see_103 : decode cX12_see 103 = .ok (.iload_n 3, 1) := by decide +kernel
theorem dX12_see_104 : decode cX12_see 104 = .ok (.iastore, 1) := by decide +kernel
theorem dX12_see_105 : decode cX12_see 105 = .ok (.aload_n 0, 1) := by decide +kernel
theorem dX12_see_106 : decode cX12_see 106 = .ok (.getfield 9, 3) := by decide +kernel
theorem dX12_see_109 : decode cX12_see 109 = .ok (.bipush 97, 2) := by decide +kernel
theorem dX12_see_111 : decode cX12_see 111 = .ok (.aload_n 0, 1) := by decide +kernel
theorem dX12_see_112 : decode cX12_see 112 = .ok (.getfield 9, 3) := by decide +kernel
theorem dX12_see_115 : decode cX12_see 115 = .ok (.iconst 2, 1) := by decide +kernel
theorem dX12_see_116 : decode cX12_see 116 = .ok (.iaload, 1) := by decide +kernel
theorem dX12_see_117 : decode cX12_see 117 = .ok (.iadd, 1) := by decide +kernel
theorem dX12_see_118 : decode cX12_see 118 = .ok (.iload 4, 2) := by decide +kernel
theorem dX12_see_120 : decode cX12_see 120 = .ok (.iastore, 1) := by decide +kernel
theorem dX12_see_121 : decode cX12_see 121 = .ok (.aload_n 0, 1) := by decide +kernel
theorem dX12_see_122 : decode cX12_see 122 = .ok (.getfield 9, 3) := by decide +kernel
theorem dX12_see_125 : decode cX12_see 125 = .ok (.iconst 2, 1) := by decide +kernel
theorem dX12_see_126 : decode cX12_see 126 = .ok (.dup2, 1) := by decide +kernel
theorem dX12_see_127 : decode cX12_see 127 = .ok (.iaload, 1) := by decide +kernel
theorem dX12_see_128 : decode cX12_see 128 = .ok (.iconst 1, 1) := by decide +kernel
theorem dX12_see_129 : decode cX12_see 129 = .ok (.iadd, 1) := by decide +kernel
theorem dX12_see_130 : decode cX12_see 130 = .ok (.iastore, 1) := by decide +kernel
theorem dX12_see_131 : decode cX12_see 131 = .ok (.aload_n 0, 1) := by decide +kernel
theorem dX12_see_132 : decode cX12_see 132 = .ok (.getfield 9, 3) := by decide +kernel
theorem dX12_see_135 : decode cX12_see 135 = .ok (.iconst 2, 1) := by decide +kernel
theorem dX12_see_136 : decode cX12_see 136 = .ok (.iaload, 1) := by decide +kernel
theorem dX12_see_137 : decode cX12_see 137 = .ok (.ireturn, 1) := by decide +kernel
theorem dX12_drawsOf_0 : decode cX12_drawsOf 0 = .ok (.iconst 0, 1) := by decide +kernel
theorem dX12_drawsOf_1 : decode cX12_drawsOf 1 = .ok (.istore_n 2, 1) := by decide +kernel
theorem dX12_drawsOf_2 : decode cX12_drawsOf 2 = .ok (.iconst 0, 1) := by decide +kernel
theorem dX12_drawsOf_3 : decode cX12_drawsOf 3 = .ok (.istore_n 3, 1) := by decide +kernel
theorem dX12_drawsOf_4 : decode cX12_drawsOf 4 = .ok (.iload_n 3, 1) := by decide +kernel
theorem dX12_drawsOf_5 : decode cX12_drawsOf 5 = .ok (.bipush 10, 2) := by decide +kernel
theorem dX12_drawsOf_7 : decode cX12_drawsOf 7 = .ok (.if_icmp .ge 63, 3) := by decide +kernel
theorem dX12_drawsOf_10 : decode cX12_drawsOf 10 = .ok (.iload_n 2, 1) := by decide +kernel
theorem dX12_drawsOf_11 : decode cX12_drawsOf 11 = .ok (.aload_n 0, 1) := by decide +kernel
theorem dX12_drawsOf_12 : decode cX12_drawsOf 12 = .ok (.aload_n 0, 1) := by decide +kernel
theorem dX12_drawsOf_13 : decode cX12_drawsOf 13 = .ok (.getfield 9, 3) := by decide +kernel
theorem dX12_drawsOf_16 : decode cX12_drawsOf 16 = .ok (.bipush 73, 2) := by decide +kernel
theorem dX12_drawsOf_18 : decode cX12_drawsOf 18 = .ok (.iload_n 1, 1) := by decide +kernel
theorem dX12_drawsOf_19 : decode cX12_drawsOf 19 = .ok (.iadd, 1) := by decide +kernel
theorem dX12_drawsOf_20 : decode cX12_drawsOf 20 = .ok (.iaload, 1) := by decide +kernel
theorem dX12_drawsOf_21 : decode cX12_drawsOf 21 = .ok (.aload_n 0, 1) := by decide +kernel
theorem dX12_drawsOf_22 : decode cX12_drawsOf 22 = .ok (.getfield 9, 3) := by decide +kernel
theorem dX12_drawsOf_25 : decode cX12_drawsOf 25 = .ok (.bipush 81, 2) := by decide +kernel
theorem dX12_drawsOf_27 : decode cX12_drawsOf 27 = .ok (.iload_n 1, 1) := by decide +kernel
theorem dX12_drawsOf_28 : decode cX12_drawsOf 28 = .ok (.iadd, 1) := by decide +kernel
theorem dX12_drawsOf_29 : decode cX12_drawsOf 29 = .ok (.iaload, 1) := by decide +kernel
theorem dX12_drawsOf_30 : decode cX12_drawsOf 30 = .ok (.aload_n 0, 1) := by decide +kernel
theorem dX12_drawsOf_31 : decode cX12_drawsOf 31 = .ok (.getfield 9, 3) := by decide +kernel
theorem dX12_drawsOf_34 : decode cX12_drawsOf 34 = .ok (.bipush 89, 2) := by decide +kernel
theorem dX12_drawsOf_36 : decode cX12_drawsOf 36 = .ok (.iload_n 1, 1) := by decide +kernel
theorem dX12_drawsOf_37 : decode cX12_drawsOf 37 = .ok (.iadd, 1) := by decide +kernel
theorem dX12_drawsOf_38 : decode cX12_drawsOf 38 = .ok (.iaload, 1) := by decide +kernel
theorem dX12_drawsOf_39 : decode cX12_drawsOf 39 = .ok (.iload_n 3, 1) := by decide +kernel
theorem dX12_drawsOf_40 : decode cX12_drawsOf 40 = .ok (.invokevirtual 163, 3) := by decide +kernel
theorem dX12_drawsOf_43 : decode cX12_drawsOf 43 = .ok (.aload_n 0, 1) := by decide +kernel
theorem dX12_drawsOf_44 : decode cX12_drawsOf 44 = .ok (.getfield 9, 3) := by decide +kernel
theorem dX12_drawsOf_47 : decode cX12_drawsOf 47 = .ok (.bipush 97, 2) := by decide +kernel
theorem dX12_drawsOf_49 : decode cX12_drawsOf 49 = .ok (.iload_n 1, 1) := by decide +kernel
theorem dX12_drawsOf_50 : decode cX12_drawsOf 50 = .ok (.iadd, 1) := by decide +kernel
theorem dX12_drawsOf_51 : decode cX12_drawsOf 51 = .ok (.iaload, 1) := by decide +kernel
theorem dX12_drawsOf_52 : decode cX12_drawsOf 52 = .ok (.if_icmp .ne 9, 3) := by decide +kernel
theorem dX12_drawsOf_55 : decode cX12_drawsOf 55 = .ok (.iconst 1, 1) := by decide +kernel
theorem dX12_drawsOf_56 : decode cX12_drawsOf 56 = .ok (.iload_n 3, 1) := by decide +kernel
theorem dX12_drawsOf_57 : decode cX12_drawsOf 57 = .ok (.ishl, 1) := by decide +kernel
theorem dX12_drawsOf_58 : decode cX12_drawsOf 58 = .ok (.goto 4, 3) := by decide +kernel
theorem dX12_drawsOf_61 : decode cX12_drawsOf 61 = .ok (.iconst 0, 1) := by decide +kernel
theorem dX12_drawsOf_62 : decode cX12_drawsOf 62 = .ok (.ior, 1) := by decide +kernel
theorem dX12_drawsOf_63 : decode cX12_drawsOf 63 = .ok (.istore_n 2, 1) := by decide +kernel
theorem dX12_drawsOf_64 : decode cX12_drawsOf 64 = .ok (.iinc 3 1, 3) := by decide +kernel
theorem dX12_drawsOf_67 : decode cX12_drawsOf 67 = .ok (.goto (-63), 3) := by decide +kernel
theorem dX12_drawsOf_70 : decode cX12_drawsOf 70 = .ok (.iload_n 2, 1) := by decide +kernel
theorem dX12_drawsOf_71 : decode cX12_drawsOf 71 = .ok (.ireturn, 1) := by decide +kernel
theorem dX12_can_0 : decode cX12_can 0 = .ok (.iload_n 1, 1) := by decide +kernel
theorem dX12_can_1 : decode cX12_can 1 = .ok (.iconst 0, 1) := by decide +kernel
theorem dX12_can_2 : decode cX12_can 2 = .ok (.aload_n 0, 1) := by decide +kernel
theorem dX12_can_3 : decode cX12_can 3 = .ok (.getfield 9, 3) := by decide +kernel
theorem dX12_can_6 : decode cX12_can 6 = .ok (.iconst 2, 1) := by decide +kernel
theorem dX12_can_7 : decode cX12_can 7 = .ok (.iaload, 1) := by decide +kernel
theorem dX12_can_8 : decode cX12_can 8 = .ok (.iconst 1, 1) := by decide +kernel
theorem dX12_can_9 : decode cX12_can 9 = .ok (.isub, 1) := by decide +kernel
theorem dX12_can_10 : decode cX12_can 10 = .ok (.invokestatic 41, 3) := by decide +kernel
theorem dX12_can_13 : decode cX12_can 13 = .ok (.ifCond .eq 11, 3) := by decide +kernel
theorem dX12_can_16 : decode cX12_can 16 = .ok (.aload_n 0, 1) := by decide +kernel
theorem dX12_can_17 : decode cX12_can 17 = .ok (.iload_n 1, 1) := by decide +kernel
theorem dX12_can_18 : decode cX12_can 18 = .ok (.invokevirtual 240, 3) := by decide +kernel
theorem dX12_can_21 : decode cX12_can 21 = .ok (.goto 4, 3) := by decide +kernel
theorem dX12_can_24 : decode cX12_can 24 = .ok (.iconst (-1), 1) := by decide +kernel
theorem dX12_can_25 : decode cX12_can 25 = .ok (.ireturn, 1) := by decide +kernel
theorem dX12_couldAll_0 : decode cX12_couldAll 0 = .ok (.iconst 1, 1) := by decide +kernel
theorem dX12_couldAll_1 : decode cX12_couldAll 1 = .ok (.istore_n 2, 1) := by decide +kernel
theorem dX12_couldAll_2 : decode cX12_couldAll 2 = .ok (.iconst 0, 1) := by decide +kernel
theorem dX12_couldAll_3 : decode cX12_couldAll 3 = .ok (.istore_n 3, 1) := by decide +kernel
theorem dX12_couldAll_4 : decode cX12_couldAll 4 = .ok (.iload_n 3, 1) := by decide +kernel
theorem dX12_couldAll_5 : decode cX12_couldAll 5 = .ok (.aload_n 0, 1) := by decide +kernel
theorem dX12_couldAll_6 : decode cX12_couldAll 6 = .ok (.getfield 9, 3) := by decide +kernel
theorem dX12_couldAll_9 : decode cX12_couldAll 9 = .ok (.iconst 2, 1) := by decide +kernel
theorem dX12_couldAll_10 : decode cX12_couldAll 10 = .ok (.iaload, 1) := by decide +kernel
theorem dX12_couldAll_11 : decode cX12_couldAll 11 = .ok (.if_icmp .ge 40, 3) := by decide +kernel
theorem dX12_couldAll_14 : decode cX12_couldAll 14 = .ok (.iload_n 2, 1) := by decide +kernel
theorem dX12_couldAll_15 : decode cX12_couldAll 15 = .ok (.ifCond .eq 36, 3) := by decide +kernel
theorem dX12_couldAll_18 : decode cX12_couldAll 18 = .ok (.aload_n 0, 1) := by decide +kernel
theorem dX12_couldAll_19 : decode cX12_couldAll 19 = .ok (.getfield 9, 3) := by decide +kernel
theorem dX12_couldAll_22 : decode cX12_couldAll 22 = .ok (.bipush 73, 2) := by decide +kernel
theorem dX12_couldAll_24 : decode cX12_couldAll 24 = .ok (.iload_n 3, 1) := by decide +kernel
theorem dX12_couldAll_25 : decode cX12_couldAll 25 = .ok (.iadd, 1) := by decide +kernel
theorem dX12_couldAll_26 : decode cX12_couldAll 26 = .ok (.iaload, 1) := by decide +kernel
theorem dX12_couldAll_27 : decode cX12_couldAll 27 = .ok (.iload_n 1, 1) := by decide +kernel
theorem dX12_couldAll_28 : decode cX12_couldAll 28 = .ok (.if_icmp .ne 11, 3) := by decide +kernel
theorem dX12_couldAll_31 : decode cX12_couldAll 31 = .ok (.aload_n 0, 1) := by decide +kernel
theorem dX12_couldAll_32 : decode cX12_couldAll 32 = .ok (.iload_n 3, 1) := by decide +kernel
theorem dX12_couldAll_33 : decode cX12_couldAll 33 = .ok (.invokevirtual 240, 3) := by decide +kernel
theorem dX12_couldAll_36 : decode cX12_couldAll 36 = .ok (.ifCond .eq 7, 3) := by decide +kernel
theorem dX12_couldAll_39 : decode cX12_couldAll 39 = .ok (.iconst 1, 1) := by decide +kernel
theorem dX12_couldAll_40 : decode cX12_couldAll 40 = .ok (.goto 4, 3) := by decide +kernel
theorem dX12_couldAll_43 : decode cX12_couldAll 43 = .ok (.iconst 0, 1) := by decide +kernel
theorem dX12_couldAll_44 : decode cX12_couldAll 44 = .ok (.istore_n 2, 1) := by decide +kernel
theorem dX12_couldAll_45 : decode cX12_couldAll 45 = .ok (.iinc 3 1, 3) := by decide +kernel
theorem dX12_couldAll_48 : decode cX12_couldAll 48 = .ok (.goto (-44), 3) := by decide +kernel
theorem dX12_couldAll_51 : decode cX12_couldAll 51 = .ok (.iload_n 2, 1) := by decide +kernel
theorem dX12_couldAll_52 : decode cX12_couldAll 52 = .ok (.ireturn, 1) := by decide +kernel
theorem dX12_skills_0 : decode cX12_skills 0 = .ok (.aload_n 0, 1) := by decide +kernel
theorem dX12_skills_1 : decode cX12_skills 1 = .ok (.iload_n 1, 1) := by decide +kernel
theorem dX12_skills_2 : decode cX12_skills 2 = .ok (.invokevirtual 136, 3) := by decide +kernel
theorem dX12_skills_5 : decode cX12_skills 5 = .ok (.ifCond .ne 5, 3) := by decide +kernel
theorem dX12_skills_8 : decode cX12_skills 8 = .ok (.iconst (-1), 1) := by decide +kernel
theorem dX12_skills_9 : decode cX12_skills 9 = .ok (.ireturn, 1) := by decide +kernel
theorem dX12_skills_10 : decode cX12_skills 10 = .ok (.aload_n 0, 1) := by decide +kernel
theorem dX12_skills_11 : decode cX12_skills 11 = .ok (.getfield 9, 3) := by decide +kernel
theorem dX12_skills_14 : decode cX12_skills 14 = .ok (.bipush 19, 2) := by decide +kernel
theorem dX12_skills_16 : decode cX12_skills 16 = .ok (.iload_n 1, 1) := by decide +kernel
theorem dX12_skills_17 : decode cX12_skills 17 = .ok (.iadd, 1) := by decide +kernel
theorem dX12_skills_18 : decode cX12_skills 18 = .ok (.iaload, 1) := by decide +kernel
theorem dX12_skills_19 : decode cX12_skills 19 = .ok (.istore_n 2, 1) := by decide +kernel
theorem dX12_skills_20 : decode cX12_skills 20 = .ok (.iconst 0, 1) := by decide +kernel
theorem dX12_skills_21 : decode cX12_skills 21 = .ok (.istore_n 3, 1) := by decide +kernel
theorem dX12_skills_22 : decode cX12_skills 22 = .ok (.iconst 0, 1) := by decide +kernel
theorem dX12_skills_23 : decode cX12_skills 23 = .ok (.istore 4, 2) := by decide +kernel
theorem dX12_skills_25 : decode cX12_skills 25 = .ok (.iload 4, 2) := by decide +kernel
theorem dX12_skills_27 : decode cX12_skills 27 = .ok (.bipush 20, 2) := by decide +kernel
theorem dX12_skills_29 : decode cX12_skills 29 = .ok (.if_icmp .gt 39, 3) := by decide +kernel
theorem dX12_skills_32 : decode cX12_skills 32 = .ok (.aload_n 0, 1) := by decide +kernel
theorem dX12_skills_33 : decode cX12_skills 33 = .ok (.getfield 9, 3) := by decide +kernel
theorem dX12_skills_36 : decode cX12_skills 36 = .ok (.bipush 19, 2) := by decide +kernel
theorem dX12_skills_38 : decode cX12_skills 38 = .ok (.iload_n 1, 1) := by decide +kernel
theorem dX12_skills_39 : decode cX12_skills 39 = .ok (.iadd, 1) := by decide +kernel
theorem dX12_skills_40 : decode cX12_skills 40 = .ok (.iload 4, 2) := by decide +kernel
theorem dX12_skills_42 : decode cX12_skills 42 = .ok (.iastore, 1) := by decide +kernel
theorem dX12_skills_43 : decode cX12_skills 43 = .ok (.iload_n 3, 1) := by decide +kernel
theorem dX12_skills_44 : decode cX12_skills 44 = .ok (.aload_n 0, 1) := by decide +kernel
theorem dX12_skills_45 : decode cX12_skills 45 = .ok (.iload_n 1, 1) := by decide +kernel
theorem dX12_skills_46 : decode cX12_skills 46 = .ok (.invokevirtual 243, 3) := by decide +kernel
theorem dX12_skills_49 : decode cX12_skills 49 = .ok (.ifCond .eq 10, 3) := by decide +kernel
theorem dX12_skills_52 : decode cX12_skills 52 = .ok (.iconst 1, 1) := by decide +kernel
theorem dX12_skills_53 : decode cX12_skills 53 = .ok (.iload 4, 2) := by decide +kernel
theorem dX12_skills_55 : decode cX12_skills 55 = .ok (.ishl, 1) := by decide +kernel
theorem dX12_skills_56 : decode cX12_skills 56 = .ok (.goto 4, 3) := by decide +kernel
theorem dX12_skills_59 : decode cX12_skills 59 = .ok (.iconst 0, 1) := by decide +kernel
theorem dX12_skills_60 : decode cX12_skills 60 = .ok (.ior, 1) := by decide +kernel
theorem dX12_skills_61 : decode cX12_skills 61 = .ok (.istore_n 3, 1) := by decide +kernel
theorem dX12_skills_62 : decode cX12_skills 62 = .ok (.iinc 4 1, 3) := by decide +kernel
theorem dX12_skills_65 : decode cX12_skills 65 = .ok (.goto (-40), 3) := by decide +kernel
theorem dX12_skills_68 : decode cX12_skills 68 = .ok (.aload_n 0, 1) := by decide +kernel
theorem dX12_skills_69 : decode cX12_skills 69 = .ok (.getfield 9, 3) := by decide +kernel
theorem dX12_skills_72 : decode cX12_skills 72 = .ok (.bipush 19, 2) := by decide +kernel
theorem dX12_skills_74 : decode cX12_skills 74 = .ok (.iload_n 1, 1) := by decide +kernel
theorem dX12_skills_75 : decode cX12_skills 75 = .ok (.iadd, 1) := by decide +kernel
theorem dX12_skills_76 : decode cX12_skills 76 = .ok (.iload_n 2, 1) := by decide +kernel
theorem dX12_skills_77 : decode cX12_skills 77 = .ok (.iastore, 1) := by decide +kernel
theorem dX12_skills_78 : decode cX12_skills 78 = .ok (.iload_n 3, 1) := by decide +kernel
theorem dX12_skills_79 : decode cX12_skills 79 = .ok (.ireturn, 1) := by decide +kernel
theorem dX12_book_0 : decode cX12_book 0 = .ok (.iload_n 1, 1) := by decide +kernel
theorem dX12_book_1 : decode cX12_book 1 = .ok (.iconst (-1), 1) := by decide +kernel
theorem dX12_book_2 : decode cX12_book 2 = .ok (.if_icmp .ne 12, 3) := by decide +kernel
theorem dX12_book_5 : decode cX12_book 5 = .ok (.aload_n 0, 1) := by decide +kernel
theorem dX12_book_6 : decode cX12_book 6 = .ok (.getfield 9, 3) := by decide +kernel
theorem dX12_book_9 : decode cX12_book 9 = .ok (.iconst 3, 1) := by decide +kernel
theorem dX12_book_10 : decode cX12_book 10 = .ok (.iconst 0, 1) := by decide +kernel
theorem dX12_book_11 : decode cX12_book 11 = .ok (.iastore, 1) := by decide +kernel
theorem dX12_book_12 : decode cX12_book 12 = .ok (.iconst 0, 1) := by decide +kernel
theorem dX12_book_13 : decode cX12_book 13 = .ok (.ireturn, 1) := by decide +kernel
theorem dX12_book_14 : decode cX12_book 14 = .ok (.aload_n 0, 1) := by decide +kernel
theorem dX12_book_15 : decode cX12_book 15 = .ok (.iload_n 1, 1) := by decide +kernel
theorem dX12_book_16 : decode cX12_book 16 = .ok (.invokevirtual 136, 3) := by decide +kernel
theorem dX12_book_19 : decode cX12_book 19 = .ok (.ifCond .ne 5, 3) := by decide +kernel
theorem dX12_book_22 : decode cX12_book 22 = .ok (.iconst (-1), 1) := by decide +kernel
theorem dX12_book_23 : decode cX12_book 23 = .ok (.ireturn, 1) := by decide +kernel
theorem dX12_book_24 : decode cX12_book 24 = .ok (.iload_n 2, 1) := by decide +kernel
theorem dX12_book_25 : decode cX12_book 25 = .ok (.iconst 0, 1) := by decide +kernel
theorem dX12_book_26 : decode cX12_book 26 = .ok (.bipush 99, 2) := by decide +kernel
theorem dX12_book_28 : decode cX12_book 28 = .ok (.invokestatic 41, 3) := by decide +kernel
theorem dX12_book_31 : decode cX12_book 31 = .ok (.ifCond .ne 6, 3) := by decide +kernel
theorem dX12_book_34 : decode cX12_book 34 = .ok (.bipush (-2), 2) := by decide +kernel
theorem dX12_book_36 : decode cX12_book 36 = .ok (.ireturn, 1) := by decide +kernel
theorem dX12_book_37 : decode cX12_book 37 = .ok (.aload_n 0, 1) := by decide +kernel
theorem dX12_book_38 : decode cX12_book 38 = .ok (.getfield 9, 3) := by decide +kernel
theorem dX12_book_41 : decode cX12_book 41 = .ok (.iconst 3, 1) := by decide +kernel
theorem dX12_book_42 : decode cX12_book 42 = .ok (.iaload, 1) := by decide +kernel
theorem dX12_book_43 : decode cX12_book 43 = .ok (.bipush 8, 2) := by decide +kernel
theorem dX12_book_45 : decode cX12_book 45 = .ok (.if_icmp .ne 6, 3) := by decide +kernel
theorem dX12_book_48 : decode cX12_book 48 = .ok (.bipush (-4), 2) := by decide +kernel
theorem dX12_book_50 : decode cX12_book 50 = .ok (.ireturn, 1) := by decide +kernel
theorem dX12_book_51 : decode cX12_book 51 = .ok (.aload_n 0, 1) := by decide +kernel
theorem dX12_book_52 : decode cX12_book 52 = .ok (.getfield 9, 3) := by decide +kernel
theorem dX12_book_55 : decode cX12_book 55 = .ok (.bipush 105, 2) := by decide +kernel
theorem dX12_book_57 : decode cX12_book 57 = .ok (.aload_n 0, 1) := by decide +kernel
theorem dX12_book_58 : decode cX12_book 58 = .ok (.getfield 9, 3) := by decide +kernel
theorem dX12_book_61 : decode cX12_book 61 = .ok (.iconst 3, 1) := by decide +kernel
theorem dX12_book_62 : decode cX12_book 62 = .ok (.iaload, 1) := by decide +kernel
theorem dX12_book_63 : decode cX12_book 63 = .ok (.iadd, 1) := by decide +kernel
theorem dX12_book_64 : decode cX12_book 64 = .ok (.iload_n 1, 1) := by decide +kernel
theorem dX12_book_65 : decode cX12_book 65 = .ok (.iastore, 1) := by decide +kernel
theorem dX12_book_66 : decode cX12_book 66 = .ok (.aload_n 0, 1) := by decide +kernel
theorem dX12_book_67 : decode cX12_book 67 = .ok (.getfield 9, 3) := by decide +kernel
theorem dX12_book_70 : decode cX12_book 70 = .ok (.bipush 113, 2) := by decide +kernel
theorem dX12_book_72 : decode cX12_book 72 = .ok (.aload_n 0, 1) := by decide +kernel
theorem dX12_book_73 : decode cX12_book 73 = .ok (.getfield 9, 3) := by decide +kernel
theorem dX12_book_76 : decode cX12_book 76 = .ok (.iconst 3, 1) := by decide +kernel
theorem dX12_book_77 : decode cX12_book 77 = .ok (.iaload, 1) := by decide +kernel
theorem dX12_book_78 : decode cX12_book 78 = .ok (.iadd, 1) := by decide +kernel
theorem dX12_book_79 : decode cX12_book 79 = .ok (.iload_n 2, 1) := by decide +kernel
theorem dX12_book_80 : decode cX12_book 80 = .ok (.iastore, 1) := by decide +kernel
theorem dX12_book_81 : decode cX12_book 81 = .ok (.aload_n 0, 1) := by decide +kernel
theorem dX12_book_82 : decode cX12_book 82 = .ok (.getfield 9, 3) := by decide +kernel
theorem dX12_book_85 : decode cX12_book 85 = .ok (.iconst 3, 1) := by decide +kernel
theorem dX12_book_86 : decode cX12_book 86 = .ok (.dup2, 1) := by decide +kernel
theorem dX12_book_87 : decode cX12_book 87 = .ok (.iaload, 1) := by decide +kernel
theorem dX12_book_88 : decode cX12_book 88 = .ok (.iconst 1, 1) := by decide +kernel
theorem dX12_book_89 : decode cX12_book 89 = .ok (.iadd, 1) := by decide +kernel
theorem dX12_book_90 : decode cX12_book 90 = .ok (.iastore, 1) := by decide +kernel
theorem dX12_book_91 : decode cX12_book 91 = .ok (.aload_n 0, 1) := by decide +kernel
theorem dX12_book_92 : decode cX12_book 92 = .ok (.getfield 9, 3) := by decide +kernel
theorem dX12_book_95 : decode cX12_book 95 = .ok (.iconst 3, 1) := by decide +kernel
theorem dX12_book_96 : decode cX12_book 96 = .ok (.iaload, 1) := by decide +kernel
theorem dX12_book_97 : decode cX12_book 97 = .ok (.ireturn, 1) := by decide +kernel
theorem dX12_looked_0 : decode cX12_looked 0 = .ok (.iconst 0, 1) := by decide +kernel
theorem dX12_looked_1 : decode cX12_looked 1 = .ok (.istore_n 1, 1) := by decide +kernel
theorem dX12_looked_2 : decode cX12_looked 2 = .ok (.iload_n 1, 1) := by decide +kernel
theorem dX12_looked_3 : decode cX12_looked 3 = .ok (.aload_n 0, 1) := by decide +kernel
theorem dX12_looked_4 : decode cX12_looked 4 = .ok (.getfield 9, 3) := by decide +kernel
theorem dX12_looked_7 : decode cX12_looked 7 = .ok (.iconst 3, 1) := by decide +kernel
theorem dX12_looked_8 : decode cX12_looked 8 = .ok (.iaload, 1) := by decide +kernel
theorem dX12_looked_9 : decode cX12_looked 9 = .ok (.if_icmp .ge 36, 3) := by decide +kernel
theorem dX12_looked_12 : decode cX12_looked 12 = .ok (.aload_n 0, 1) := by decide +kernel
theorem dX12_looked_13 : decode cX12_looked 13 = .ok (.aload_n 0, 1) := by decide +kernel
theorem dX12_looked_14 : decode cX12_looked 14 = .ok (.getfield 9, 3) := by decide +kernel
theorem dX12_looked_17 : decode cX12_looked 17 = .ok (.bipush 105, 2) := by decide +kernel
theorem dX12_looked_19 : decode cX12_looked 19 = .ok (.iload_n 1, 1) := by decide +kernel
theorem dX12_looked_20 : decode cX12_looked 20 = .ok (.iadd, 1) := by decide +kernel
theorem dX12_looked_21 : decode cX12_looked 21 = .ok (.iaload, 1) := by decide +kernel
theorem dX12_looked_22 : decode cX12_looked 22 = .ok (.invokevirtual 190, 3) := by decide +kernel
theorem dX12_looked_25 : decode cX12_looked 25 = .ok (.aload_n 0, 1) := by decide +kernel
theorem dX12_looked_26 : decode cX12_looked 26 = .ok (.getfield 9, 3) := by decide +kernel
theorem dX12_looked_29 : decode cX12_looked 29 = .ok (.bipush 113, 2) := by decide +kernel
theorem dX12_looked_31 : decode cX12_looked 31 = .ok (.iload_n 1, 1) := by decide +kernel
theorem dX12_looked_32 : decode cX12_looked 32 = .ok (.iadd, 1) := by decide +kernel
theorem dX12_looked_33 : decode cX12_looked 33 = .ok (.iaload, 1) := by decide +kernel
theorem dX12_looked_34 : decode cX12_looked 34 = .ok (.if_icmp .eq 5, 3) := by decide +kernel
theorem dX12_looked_37 : decode cX12_looked 37 = .ok (.iload_n 1, 1) := by decide +kernel
theorem dX12_looked_38 : decode cX12_looked 38 = .ok (.ireturn, 1) := by decide +kernel
theorem dX12_looked_39 : decode cX12_looked 39 = .ok (.iinc 1 1, 3) := by decide +kernel
theorem dX12_looked_42 : decode cX12_looked 42 = .ok (.goto (-40), 3) := by decide +kernel
theorem dX12_looked_45 : decode cX12_looked 45 = .ok (.bipush (-5), 2) := by decide +kernel
theorem dX12_looked_47 : decode cX12_looked 47 = .ok (.ireturn, 1) := by decide +kernel
theorem dX12_ranBody_0 : decode cX12_ranBody 0 = .ok (.aload_n 0, 1) := by decide +kernel
theorem dX12_ranBody_1 : decode cX12_ranBody 1 = .ok (.getfield 246, 3) := by decide +kernel
theorem dX12_ranBody_4 : decode cX12_ranBody 4 = .ok (.bipush 20, 2) := by decide +kernel
theorem dX12_ranBody_6 : decode cX12_ranBody 6 = .ok (.if_icmp .ge 13, 3) := by decide +kernel
theorem dX12_ranBody_9 : decode cX12_ranBody 9 = .ok (.aload_n 0, 1) := by decide +kernel
theorem dX12_ranBody_10 : decode cX12_ranBody 10 = .ok (.getfield 34, 3) := by decide +kernel
theorem dX12_ranBody_13 : decode cX12_ranBody 13 = .ok (.aload_n 0, 1) := by decide +kernel
theorem dX12_ranBody_14 : decode cX12_ranBody 14 = .ok (.getfield 246, 3) := by decide +kernel
theorem dX12_ranBody_17 : decode cX12_ranBody 17 = .ok (.iload_n 1, 1) := by decide +kernel
theorem dX12_ranBody_18 : decode cX12_ranBody 18 = .ok (.iastore, 1) := by decide +kernel
theorem dX12_ranBody_19 : decode cX12_ranBody 19 = .ok (.aload_n 0, 1) := by decide +kernel
theorem dX12_ranBody_20 : decode cX12_ranBody 20 = .ok (.dup, 1) := by decide +kernel
theorem dX12_ranBody_21 : decode cX12_ranBody 21 = .ok (.getfield 246, 3) := by decide +kernel
theorem dX12_ranBody_24 : decode cX12_ranBody 24 = .ok (.iconst 1, 1) := by decide +kernel
theorem dX12_ranBody_25 : decode cX12_ranBody 25 = .ok (.iadd, 1) := by decide +kernel
theorem dX12_ranBody_26 : decode cX12_ranBody 26 = .ok (.putfield 246, 3) := by decide +kernel
theorem dX12_ranBody_29 : decode cX12_ranBody 29 = .ok (.return_, 1) := by decide +kernel
theorem dX12_isUnder_0 : decode cX12_isUnder 0 = .ok (.iload_n 1, 1) := by decide +kernel
theorem dX12_isUnder_1 : decode cX12_isUnder 1 = .ok (.ifCond .eq 24, 3) := by decide +kernel
theorem dX12_isUnder_4 : decode cX12_isUnder 4 = .ok (.iload_n 1, 1) := by decide +kernel
theorem dX12_isUnder_5 : decode cX12_isUnder 5 = .ok (.iload_n 0, 1) := by decide +kernel
theorem dX12_isUnder_6 : decode cX12_isUnder 6 = .ok (.if_icmp .eq 19, 3) := by decide +kernel
theorem dX12_isUnder_9 : decode cX12_isUnder 9 = .ok (.iload_n 1, 1) := by decide +kernel
theorem dX12_isUnder_10 : decode cX12_isUnder 10 = .ok (.ifCond .le 19, 3) := by decide +kernel
theorem dX12_isUnder_13 : decode cX12_isUnder 13 = .ok (.iload_n 1, 1) := by decide +kernel
theorem dX12_isUnder_14 : decode cX12_isUnder 14 = .ok (.iconst 4, 1) := by decide +kernel
theorem dX12_isUnder_15 : decode cX12_isUnder 15 = .ok (.if_icmp .ge 14, 3) := by decide +kernel
theorem dX12_isUnder_18 : decode cX12_isUnder 18 = .ok (.iload_n 0, 1) := by decide +kernel
theorem dX12_isUnder_19 : decode cX12_isUnder 19 = .ok (.iload_n 1, 1) := by decide +kernel
theorem dX12_isUnder_20 : decode cX12_isUnder 20 = .ok (.iconst 3, 1) := by decide +kernel
theorem dX12_isUnder_21 : decode cX12_isUnder 21 = .ok (.iadd, 1) := by decide +kernel
theorem dX12_isUnder_22 : decode cX12_isUnder 22 = .ok (.if_icmp .ne 7, 3) := by decide +kernel
theorem dX12_isUnder_25 : decode cX12_isUnder 25 = .ok (.iconst 1, 1) := by decide +kernel
theorem dX12_isUnder_26 : decode cX12_isUnder 26 = .ok (.goto 4, 3) := by decide +kernel
theorem dX12_isUnder_29 : decode cX12_isUnder 29 = .ok (.iconst 0, 1) := by decide +kernel
theorem dX12_isUnder_30 : decode cX12_isUnder 30 = .ok (.ireturn, 1) := by decide +kernel
theorem dX12_plainStrikes_0 : decode cX12_plainStrikes 0 = .ok (.aload_n 0, 1) := by decide +kernel
theorem dX12_plainStrikes_1 : decode cX12_plainStrikes 1 = .ok (.iconst 1, 1) := by decide +kernel
theorem dX12_plainStrikes_2 : decode cX12_plainStrikes 2 = .ok (.invokevirtual 249, 3) := by decide +kernel
theorem dX12_plainStrikes_5 : decode cX12_plainStrikes 5 = .ok (.iload_n 1, 1) := by decide +kernel
theorem dX12_plainStrikes_6 : decode cX12_plainStrikes 6 = .ok (.aload_n 0, 1) := by decide +kernel
theorem dX12_plainStrikes_7 : decode cX12_plainStrikes 7 = .ok (.getfield 252, 3) := by decide +kernel
theorem dX12_plainStrikes_10 : decode cX12_plainStrikes 10 = .ok (.iadd, 1) := by decide +kernel
theorem dX12_plainStrikes_11 : decode cX12_plainStrikes 11 = .ok (.ireturn, 1) := by decide +kernel
theorem dX12_strikesActs_0 : decode cX12_strikesActs 0 = .ok (.aload_n 0, 1) := by decide +kernel
theorem dX12_strikesActs_1 : decode cX12_strikesActs 1 = .ok (.getfield 255, 3) := by decide +kernel
theorem dX12_strikesActs_4 : decode cX12_strikesActs 4 = .ok (.iconst 1, 1) := by decide +kernel
theorem dX12_strikesActs_5 : decode cX12_strikesActs 5 = .ok (.invokestatic 258, 3) := by decide +kernel
theorem dX12_strikesActs_8 : decode cX12_strikesActs 8 = .ok (.ifCond .eq 17, 3) := by decide +kernel
theorem dX12_strikesActs_11 : decode cX12_strikesActs 11 = .ok (.aload_n 0, 1) := by decide +kernel
theorem dX12_strikesActs_12 : decode cX12_strikesActs 12 = .ok (.bipush 11, 2) := by decide +kernel
theorem dX12_strikesActs_14 : decode cX12_strikesActs 14 = .ok (.invokevirtual 249, 3) := by decide +kernel
theorem dX12_strikesActs_17 : decode cX12_strikesActs 17 = .ok (.aload_n 0, 1) := by decide +kernel
theorem dX12_strikesActs_18 : decode cX12_strikesActs 18 = .ok (.iload_n 1, 1) := by decide +kernel
theorem dX12_strikesActs_19 : decode cX12_strikesActs 19 = .ok (.iconst 3, 1) := by decide +kernel
theorem dX12_strikesActs_20 : decode cX12_strikesActs 20 = .ok (.imul, 1) := by decide +kernel
theorem dX12_strikesActs_21 : decode cX12_strikesActs 21 = .ok (.invokevirtual 261, 3) := by decide +kernel
theorem dX12_strikesActs_24 : decode cX12_strikesActs 24 = .ok (.ireturn, 1) := by decide +kernel
theorem dX12_strikesActs_25 : decode cX12_strikesActs 25 = .ok (.aload_n 0, 1) := by decide +kernel
theorem dX12_strikesActs_26 : decode cX12_strikesActs 26 = .ok (.getfield 255, 3) := by decide +kernel
theorem dX12_strikesActs_29 : decode cX12_strikesActs 29 = .ok (.iconst 5, 1) := by decide +kernel
theorem dX12_strikesActs_30 : decode cX12_strikesActs 30 = .ok (.if_icmp .ne 20, 3) := by decide +kernel
theorem dX12_strikesActs_33 : decode cX12_strikesActs 33 = .ok (.aload_n 0, 1) := by decide +kernel
theorem dX12_strikesActs_34 : decode cX12_strikesActs 34 = .ok (.bipush 51, 2) := by decide +kernel
theorem dX12_strikesActs_36 : decode cX12_strikesActs 36 = .ok (.invokevirtual 249, 3) := by decide +kernel
theorem dX12_strikesActs_39 : decode cX12_strikesActs 39 = .ok (.aload_n 0, 1) := by decide +kernel
theorem dX12_strikesActs_40 : decode cX12_strikesActs 40 = .ok (.iload_n 1, 1) := by decide +kernel
theorem dX12_strikesActs_41 : decode cX12_strikesActs 41 = .ok (.invokevirtual 261, 3) := by decide +kernel
theorem dX12_strikesActs_44 : decode cX12_strikesActs 44 = .ok (.aload_n 0, 1) := by decide +kernel
theorem dX12_strikesActs_45 : decode cX12_strikesActs 45 = .ok (.getfield 252, 3) := by decide +kernel
theorem dX12_strikesActs_48 : decode cX12_strikesActs 48 = .ok (.ixor, 1) := by decide +kernel
theorem dX12_strikesActs_49 : decode cX12_strikesActs 49 = .ok (.ireturn, 1) := by decide +kernel
theorem dX12_strikesActs_50 : decode cX12_strikesActs 50 = .ok (.aload_n 0, 1) := by decide +kernel
theorem dX12_strikesActs_51 : decode cX12_strikesActs 51 = .ok (.iload_n 1, 1) := by decide +kernel
theorem dX12_strikesActs_52 : decode cX12_strikesActs 52 = .ok (.invokevirtual 261, 3) := by decide +kernel
theorem dX12_strikesActs_55 : decode cX12_strikesActs 55 = .ok (.ireturn, 1) := by decide +kernel
