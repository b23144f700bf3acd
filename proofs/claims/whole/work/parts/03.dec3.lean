theorem dX12_plainCatches_0 : decode cX12_plainCatches 0 = .ok (.aload_n 0, 1) := by decide +kernel
theorem dX12_plainCatches_1 : decode cX12_plainCatches 1 = .ok (.iconst 2, 1) := by decide +kernel
theorem dX12_plainCatches_2 : decode cX12_plainCatches 2 = .ok (.invokevirtual 249, 3) := by decide +kernel
theorem dX12_plainCatches_5 : decode cX12_plainCatches 5 = .ok (.aload_n 0, 1) := by decide +kernel
theorem dX12_plainCatches_6 : decode cX12_plainCatches 6 = .ok (.iload_n 1, 1) := by decide +kernel
theorem dX12_plainCatches_7 : decode cX12_plainCatches 7 = .ok (.invokevirtual 264, 3) := by decide +kernel
theorem dX12_plainCatches_10 : decode cX12_plainCatches 10 = .ok (.aload_n 0, 1) := by decide +kernel
theorem dX12_plainCatches_11 : decode cX12_plainCatches 11 = .ok (.getfield 267, 3) := by decide +kernel
theorem dX12_plainCatches_14 : decode cX12_plainCatches 14 = .ok (.isub, 1) := by decide +kernel
theorem dX12_plainCatches_15 : decode cX12_plainCatches 15 = .ok (.ireturn, 1) := by decide +kernel
theorem dX12_catchesActs_0 : decode cX12_catchesActs 0 = .ok (.aload_n 0, 1) := by decide +kernel
theorem dX12_catchesActs_1 : decode cX12_catchesActs 1 = .ok (.getfield 255, 3) := by decide +kernel
theorem dX12_catchesActs_4 : decode cX12_catchesActs 4 = .ok (.iconst 2, 1) := by decide +kernel
theorem dX12_catchesActs_5 : decode cX12_catchesActs 5 = .ok (.invokestatic 258, 3) := by decide +kernel
theorem dX12_catchesActs_8 : decode cX12_catchesActs 8 = .ok (.ifCond .eq 16, 3) := by decide +kernel
theorem dX12_catchesActs_11 : decode cX12_catchesActs 11 = .ok (.aload_n 0, 1) := by decide +kernel
theorem dX12_catchesActs_12 : decode cX12_catchesActs 12 = .ok (.bipush 21, 2) := by decide +kernel
theorem dX12_catchesActs_14 : decode cX12_catchesActs 14 = .ok (.invokevirtual 249, 3) := by decide +kernel
theorem dX12_catchesActs_17 : decode cX12_catchesActs 17 = .ok (.aload_n 0, 1) := by decide +kernel
theorem dX12_catchesActs_18 : decode cX12_catchesActs 18 = .ok (.iload_n 1, 1) := by decide +kernel
theorem dX12_catchesActs_19 : decode cX12_catchesActs 19 = .ok (.invokevirtual 270, 3) := by decide +kernel
theorem dX12_catchesActs_22 : decode cX12_catchesActs 22 = .ok (.ineg, 1) := by decide +kernel
theorem dX12_catchesActs_23 : decode cX12_catchesActs 23 = .ok (.ireturn, 1) := by decide +kernel
theorem dX12_catchesActs_24 : decode cX12_catchesActs 24 = .ok (.aload_n 0, 1) := by decide +kernel
theorem dX12_catchesActs_25 : decode cX12_catchesActs 25 = .ok (.getfield 255, 3) := by decide +kernel
theorem dX12_catchesActs_28 : decode cX12_catchesActs 28 = .ok (.bipush 6, 2) := by decide +kernel
theorem dX12_catchesActs_30 : decode cX12_catchesActs 30 = .ok (.if_icmp .ne 20, 3) := by decide +kernel
theorem dX12_catchesActs_33 : decode cX12_catchesActs 33 = .ok (.aload_n 0, 1) := by decide +kernel
theorem dX12_catchesActs_34 : decode cX12_catchesActs 34 = .ok (.bipush 61, 2) := by decide +kernel
theorem dX12_catchesActs_36 : decode cX12_catchesActs 36 = .ok (.invokevirtual 249, 3) := by decide +kernel
theorem dX12_catchesActs_39 : decode cX12_catchesActs 39 = .ok (.aload_n 0, 1) := by decide +kernel
theorem dX12_catchesActs_40 : decode cX12_catchesActs 40 = .ok (.iload_n 1, 1) := by decide +kernel
theorem dX12_catchesActs_41 : decode cX12_catchesActs 41 = .ok (.invokevirtual 270, 3) := by decide +kernel
theorem dX12_catchesActs_44 : decode cX12_catchesActs 44 = .ok (.aload_n 0, 1) := by decide +kernel
theorem dX12_catchesActs_45 : decode cX12_catchesActs 45 = .ok (.getfield 267, 3) := by decide +kernel
theorem dX12_catchesActs_48 : decode cX12_catchesActs 48 = .ok (.iadd, 1) := by decide +kernel
theorem dX12_catchesActs_49 : decode cX12_catchesActs 49 = .ok (.ireturn, 1) := by decide +kernel
theorem dX12_catchesActs_50 : decode cX12_catchesActs 50 = .ok (.aload_n 0, 1) := by decide +kernel
theorem dX12_catchesActs_51 : decode cX12_catchesActs 51 = .ok (.iload_n 1, 1) := by decide +kernel
theorem dX12_catchesActs_52 : decode cX12_catchesActs 52 = .ok (.invokevirtual 270, 3) := by decide +kernel
theorem dX12_catchesActs_55 : decode cX12_catchesActs 55 = .ok (.ireturn, 1) := by decide +kernel
theorem dX12_plainTells_0 : decode cX12_plainTells 0 = .ok (.aload_n 0, 1) := by decide +kernel
theorem dX12_plainTells_1 : decode cX12_plainTells 1 = .ok (.iconst 3, 1) := by decide +kernel
theorem dX12_plainTells_2 : decode cX12_plainTells 2 = .ok (.invokevirtual 249, 3) := by decide +kernel
theorem dX12_plainTells_5 : decode cX12_plainTells 5 = .ok (.aload_n 0, 1) := by decide +kernel
theorem dX12_plainTells_6 : decode cX12_plainTells 6 = .ok (.iload_n 1, 1) := by decide +kernel
theorem dX12_plainTells_7 : decode cX12_plainTells 7 = .ok (.invokevirtual 273, 3) := by decide +kernel
theorem dX12_plainTells_10 : decode cX12_plainTells 10 = .ok (.iconst 2, 1) := by decide +kernel
theorem dX12_plainTells_11 : decode cX12_plainTells 11 = .ok (.imul, 1) := by decide +kernel
theorem dX12_plainTells_12 : decode cX12_plainTells 12 = .ok (.ireturn, 1) := by decide +kernel
theorem dX12_tellsActs_0 : decode cX12_tellsActs 0 = .ok (.aload_n 0, 1) := by decide +kernel
theorem dX12_tellsActs_1 : decode cX12_tellsActs 1 = .ok (.getfield 255, 3) := by decide +kernel
theorem dX12_tellsActs_4 : decode cX12_tellsActs 4 = .ok (.iconst 3, 1) := by decide +kernel
theorem dX12_tellsActs_5 : decode cX12_tellsActs 5 = .ok (.invokestatic 258, 3) := by decide +kernel
theorem dX12_tellsActs_8 : decode cX12_tellsActs 8 = .ok (.ifCond .eq 18, 3) := by decide +kernel
theorem dX12_tellsActs_11 : decode cX12_tellsActs 11 = .ok (.aload_n 0, 1) := by decide +kernel
theorem dX12_tellsActs_12 : decode cX12_tellsActs 12 = .ok (.bipush 31, 2) := by decide +kernel
theorem dX12_tellsActs_14 : decode cX12_tellsActs 14 = .ok (.invokevirtual 249, 3) := by decide +kernel
theorem dX12_tellsActs_17 : decode cX12_tellsActs 17 = .ok (.aload_n 0, 1) := by decide +kernel
theorem dX12_tellsActs_18 : decode cX12_tellsActs 18 = .ok (.iload_n 1, 1) := by decide +kernel
theorem dX12_tellsActs_19 : decode cX12_tellsActs 19 = .ok (.invokevirtual 276, 3) := by decide +kernel
theorem dX12_tellsActs_22 : decode cX12_tellsActs 22 = .ok (.bipush 7, 2) := by decide +kernel
theorem dX12_tellsActs_24 : decode cX12_tellsActs 24 = .ok (.ixor, 1) := by decide +kernel
theorem dX12_tellsActs_25 : decode cX12_tellsActs 25 = .ok (.ireturn, 1) := by decide +kernel
theorem dX12_tellsActs_26 : decode cX12_tellsActs 26 = .ok (.aload_n 0, 1) := by decide +kernel
theorem dX12_tellsActs_27 : decode cX12_tellsActs 27 = .ok (.getfield 255, 3) := by decide +kernel
theorem dX12_tellsActs_30 : decode cX12_tellsActs 30 = .ok (.iconst 4, 1) := by decide +kernel
theorem dX12_tellsActs_31 : decode cX12_tellsActs 31 = .ok (.if_icmp .ne 25, 3) := by decide +kernel
theorem dX12_tellsActs_34 : decode cX12_tellsActs 34 = .ok (.aload_n 0, 1) := by decide +kernel
theorem dX12_tellsActs_35 : decode cX12_tellsActs 35 = .ok (.bipush 41, 2) := by decide +kernel
theorem dX12_tellsActs_37 : decode cX12_tellsActs 37 = .ok (.invokevirtual 249, 3) := by decide +kernel
theorem dX12_tellsActs_40 : decode cX12_tellsActs 40 = .ok (.aload_n 0, 1) := by decide +kernel
theorem dX12_tellsActs_41 : decode cX12_tellsActs 41 = .ok (.iload_n 1, 1) := by decide +kernel
theorem dX12_tellsActs_42 : decode cX12_tellsActs 42 = .ok (.iconst 1, 1) := by decide +kernel
theorem dX12_tellsActs_43 : decode cX12_tellsActs 43 = .ok (.isub, 1) := by decide +kernel
theorem dX12_tellsActs_44 : decode cX12_tellsActs 44 = .ok (.invokevirtual 276, 3) := by decide +kernel
theorem dX12_tellsActs_47 : decode cX12_tellsActs 47 = .ok (.istore_n 2, 1) := by decide +kernel
theorem dX12_tellsActs_48 : decode cX12_tellsActs 48 = .ok (.iload_n 2, 1) := by decide +kernel
theorem dX12_tellsActs_49 : decode cX12_tellsActs 49 = .ok (.aload_n 0, 1) := by decide +kernel
theorem dX12_tellsActs_50 : decode cX12_tellsActs 50 = .ok (.iconst 2, 1) := by decide +kernel
theorem dX12_tellsActs_51 : decode cX12_tellsActs 51 = .ok (.invokevirtual 264, 3) := by decide +kernel
theorem dX12_tellsActs_54 : decode cX12_tellsActs 54 = .ok (.iadd, 1) := by decide +kernel
theorem dX12_tellsActs_55 : decode cX12_tellsActs 55 = .ok (.ireturn, 1) := by decide +kernel
theorem dX12_tellsActs_56 : decode cX12_tellsActs 56 = .ok (.aload_n 0, 1) := by decide +kernel
theorem dX12_tellsActs_57 : decode cX12_tellsActs 57 = .ok (.iload_n 1, 1) := by decide +kernel
theorem dX12_tellsActs_58 : decode cX12_tellsActs 58 = .ok (.invokevirtual 276, 3) := by decide +kernel
theorem dX12_tellsActs_61 : decode cX12_tellsActs 61 = .ok (.ireturn, 1) := by decide +kernel
theorem dX12_act_0 : decode cX12_act 0 = .ok (.aload_n 0, 1) := by decide +kernel
theorem dX12_act_1 : decode cX12_act 1 = .ok (.iconst 0, 1) := by decide +kernel
theorem dX12_act_2 : decode cX12_act 2 = .ok (.putfield 246, 3) := by decide +kernel
theorem dX12_act_5 : decode cX12_act 5 = .ok (.aload_n 0, 1) := by decide +kernel
theorem dX12_act_6 : decode cX12_act 6 = .ok (.iload_n 1, 1) := by decide +kernel
theorem dX12_act_7 : decode cX12_act 7 = .ok (.invokevirtual 136, 3) := by decide +kernel
theorem dX12_act_10 : decode cX12_act 10 = .ok (.ifCond .eq 12, 3) := by decide +kernel
theorem dX12_act_13 : decode cX12_act 13 = .ok (.iload_n 2, 1) := by decide +kernel
theorem dX12_act_14 : decode cX12_act 14 = .ok (.iconst 0, 1) := by decide +kernel
theorem dX12_act_15 : decode cX12_act 15 = .ok (.iconst 2, 1) := by decide +kernel
theorem dX12_act_16 : decode cX12_act 16 = .ok (.invokestatic 41, 3) := by decide +kernel
theorem dX12_act_19 : decode cX12_act 19 = .ok (.ifCond .ne 5, 3) := by decide +kernel
theorem dX12_act_22 : decode cX12_act 22 = .ok (.iconst 0, 1) := by decide +kernel
theorem dX12_act_23 : decode cX12_act 23 = .ok (.ireturn, 1) := by decide +kernel
theorem dX12_act_24 : decode cX12_act 24 = .ok (.aload_n 0, 1) := by decide +kernel
theorem dX12_act_25 : decode cX12_act 25 = .ok (.aload_n 0, 1) := by decide +kernel
theorem dX12_act_26 : decode cX12_act 26 = .ok (.getfield 9, 3) := by decide +kernel
theorem dX12_act_29 : decode cX12_act 29 = .ok (.bipush 7, 2) := by decide +kernel
theorem dX12_act_31 : decode cX12_act 31 = .ok (.iload_n 1, 1) := by decide +kernel
theorem dX12_act_32 : decode cX12_act 32 = .ok (.iadd, 1) := by decide +kernel
theorem dX12_act_33 : decode cX12_act 33 = .ok (.iaload, 1) := by decide +kernel
theorem dX12_act_34 : decode cX12_act 34 = .ok (.putfield 255, 3) := by decide +kernel
theorem dX12_act_37 : decode cX12_act 37 = .ok (.aload_n 0, 1) := by decide +kernel
theorem dX12_act_38 : decode cX12_act 38 = .ok (.iload_n 1, 1) := by decide +kernel
theorem dX12_act_39 : decode cX12_act 39 = .ok (.putfield 252, 3) := by decide +kernel
theorem dX12_act_42 : decode cX12_act 42 = .ok (.aload_n 0, 1) := by decide +kernel
theorem dX12_act_43 : decode cX12_act 43 = .ok (.aload_n 0, 1) := by decide +kernel
theorem dX12_act_44 : decode cX12_act 44 = .ok (.getfield 9, 3) := by decide +kernel
theorem dX12_act_47 : decode cX12_act 47 = .ok (.bipush 13, 2) := by decide +kernel
theorem dX12_act_49 : decode cX12_act 49 = .ok (.iload_n 1, 1) := by decide +kernel
theorem dX12_act_50 : decode cX12_act 50 = .ok (.iadd, 1) := by decide +kernel
theorem dX12_act_51 : decode cX12_act 51 = .ok (.iaload, 1) := by decide +kernel
theorem dX12_act_52 : decode cX12_act 52 = .ok (.putfield 267, 3) := by decide +kernel
theorem dX12_act_55 : decode cX12_act 55 = .ok (.iload_n 2, 1) := by decide +kernel
theorem dX12_act_56 : decode cX12_act 56 = .ok (.ifCond .ne 11, 3) := by decide +kernel
theorem dX12_act_59 : decode cX12_act 59 = .ok (.aload_n 0, 1) := by decide +kernel
theorem dX12_act_60 : decode cX12_act 60 = .ok (.iload_n 3, 1) := by decide +kernel
theorem dX12_act_61 : decode cX12_act 61 = .ok (.invokevirtual 264, 3) := by decide +kernel
theorem dX12_act_64 : decode cX12_act 64 = .ok (.goto 21, 3) := by decide +kernel
theorem dX12_act_67 : decode cX12_act 67 = .ok (.iload_n 2, 1) := by decide +kernel
theorem dX12_act_68 : decode cX12_act 68 = .ok (.iconst 1, 1) := by decide +kernel
theorem dX12_act_69 : decode cX12_act 69 = .ok (.if_icmp .ne 11, 3) := by decide +kernel
theorem dX12_act_72 : decode cX12_act 72 = .ok (.aload_n 0, 1) := by decide +kernel
theorem dX12_act_73 : decode cX12_act 73 = .ok (.iload_n 3, 1) := by decide +kernel
theorem dX12_act_74 : decode cX12_act 74 = .ok (.invokevirtual 273, 3) := by decide +kernel
theorem dX12_act_77 : decode cX12_act 77 = .ok (.goto 8, 3) := by decide +kernel
theorem dX12_act_80 : decode cX12_act 80 = .ok (.aload_n 0, 1) := by decide +kernel
theorem dX12_act_81 : decode cX12_act 81 = .ok (.iload_n 3, 1) := by decide +kernel
theorem dX12_act_82 : decode cX12_act 82 = .ok (.invokevirtual 279, 3) := by decide +kernel
theorem dX12_act_85 : decode cX12_act 85 = .ok (.ireturn, 1) := by decide +kernel
theorem dX12_trace_0 : decode cX12_trace 0 = .ok (.iload_n 1, 1) := by decide +kernel
theorem dX12_trace_1 : decode cX12_trace 1 = .ok (.iconst 0, 1) := by decide +kernel
theorem dX12_trace_2 : decode cX12_trace 2 = .ok (.aload_n 0, 1) := by decide +kernel
theorem dX12_trace_3 : decode cX12_trace 3 = .ok (.getfield 246, 3) := by decide +kernel
theorem dX12_trace_6 : decode cX12_trace 6 = .ok (.bipush 20, 2) := by decide +kernel
theorem dX12_trace_8 : decode cX12_trace 8 = .ok (.if_icmp .ge 10, 3) := by decide +kernel
theorem dX12_trace_11 : decode cX12_trace 11 = .ok (.aload_n 0, 1) := by decide +kernel
theorem dX12_trace_12 : decode cX12_trace 12 = .ok (.getfield 246, 3) := by decide +kernel
theorem dX12_trace_15 : decode cX12_trace 15 = .ok (.goto 5, 3) := by decide +kernel
theorem dX12_trace_18 : decode cX12_trace 18 = .ok (.bipush 20, 2) := by decide +kernel
theorem dX12_trace_20 : decode cX12_trace 20 = .ok (.iconst 1, 1) := by decide +kernel
theorem dX12_trace_21 : decode cX12_trace 21 = .ok (.isub, 1) := by decide +kernel
theorem dX12_trace_22 : decode cX12_trace 22 = .ok (.invokestatic 41, 3) := by decide +kernel
theorem dX12_trace_25 : decode cX12_trace 25 = .ok (.ifCond .eq 12, 3) := by decide +kernel
theorem dX12_trace_28 : decode cX12_trace 28 = .ok (.aload_n 0, 1) := by decide +kernel
theorem dX12_trace_29 : decode cX12_trace 29 = .ok (.getfield 34, 3) := by decide +kernel
theorem dX12_trace_32 : decode cX12_trace 32 = .ok (.iload_n 1, 1) := by decide +kernel
theorem dX12_trace_33 : decode cX12_trace 33 = .ok (.iaload, 1) := by decide +kernel
theorem dX12_trace_34 : decode cX12_trace 34 = .ok (.goto 4, 3) := by decide +kernel
theorem dX12_trace_37 : decode cX12_trace 37 = .ok (.iconst (-1), 1) := by decide +kernel
theorem dX12_trace_38 : decode cX12_trace 38 = .ok (.ireturn, 1) := by decide +kernel
theorem dX12_as_0 : decode cX12_as 0 = .ok (.aload_n 0, 1) := by decide +kernel
theorem dX12_as_1 : decode cX12_as 1 = .ok (.iload_n 1, 1) := by decide +kernel
theorem dX12_as_2 : decode cX12_as 2 = .ok (.invokevirtual 136, 3) := by decide +kernel
theorem dX12_as_5 : decode cX12_as 5 = .ok (.ifCond .eq 13, 3) := by decide +kernel
theorem dX12_as_8 : decode cX12_as 8 = .ok (.iload_n 2, 1) := by decide +kernel
theorem dX12_as_9 : decode cX12_as 9 = .ok (.iconst 0, 1) := by decide +kernel
theorem dX12_as_10 : decode cX12_as 10 = .ok (.bipush 6, 2) := by decide +kernel
theorem dX12_as_12 : decode cX12_as 12 = .ok (.invokestatic 41, 3) := by decide +kernel
theorem dX12_as_15 : decode cX12_as 15 = .ok (.ifCond .ne 5, 3) := by decide +kernel
theorem dX12_as_18 : decode cX12_as 18 = .ok (.iconst (-1), 1) := by decide +kernel
theorem dX12_as_19 : decode cX12_as 19 = .ok (.ireturn, 1) := by decide +kernel
theorem dX12_as_20 : decode cX12_as 20 = .ok (.aload_n 0, 1) := by decide +kernel
theorem dX12_as_21 : decode cX12_as 21 = .ok (.getfield 9, 3) := by decide +kernel
theorem dX12_as_24 : decode cX12_as 24 = .ok (.bipush 7, 2) := by decide +kernel
theorem dX12_as_26 : decode cX12_as 26 = .ok (.iload_n 1, 1) := by decide +kernel
theorem dX12_as_27 : decode cX12_as 27 = .ok (.iadd, 1) := by decide +kernel
theorem dX12_as_28 : decode cX12_as 28 = .ok (.iaload, 1) := by decide +kernel
theorem dX12_as_29 : decode cX12_as 29 = .ok (.iload_n 2, 1) := by decide +kernel
theorem dX12_as_30 : decode cX12_as 30 = .ok (.invokestatic 258, 3) := by decide +kernel
theorem dX12_as_33 : decode cX12_as 33 = .ok (.ifCond .eq 15, 3) := by decide +kernel
theorem dX12_as_36 : decode cX12_as 36 = .ok (.aload_n 0, 1) := by decide +kernel
theorem dX12_as_37 : decode cX12_as 37 = .ok (.getfield 9, 3) := by decide +kernel
theorem dX12_as_40 : decode cX12_as 40 = .ok (.bipush 13, 2) := by decide +kernel
theorem dX12_as_42 : decode cX12_as 42 = .ok (.iload_n 1, 1) := by decide +kernel
theorem dX12_as_43 : decode cX12_as 43 = .ok (.iadd, 1) := by decide +kernel
theorem dX12_as_44 : decode cX12_as 44 = .ok (.iaload, 1) := by decide +kernel
theorem dX12_as_45 : decode cX12_as 45 = .ok (.goto 5, 3) := by decide +kernel
theorem dX12_as_48 : decode cX12_as 48 = .ok (.bipush (-6), 2) := by decide +kernel
theorem dX12_as_50 : decode cX12_as 50 = .ok (.ireturn, 1) := by decide +kernel
theorem dX12_image_0 : decode cX12_image 0 = .ok (.iconst 0, 1) := by decide +kernel
theorem dX12_image_1 : decode cX12_image 1 = .ok (.istore_n 1, 1) := by decide +kernel
theorem dX12_image_2 : decode cX12_image 2 = .ok (.iload_n 1, 1) := by decide +kernel
theorem dX12_image_3 : decode cX12_image 3 = .ok (.sipush 936, 3) := by decide +kernel
theorem dX12_image_6 : decode cX12_image 6 = .ok (.if_icmp .ge 21, 3) := by decide +kernel
theorem dX12_image_9 : decode cX12_image 9 = .ok (.aload_n 0, 1) := by decide +kernel
theorem dX12_image_10 : decode cX12_image 10 = .ok (.getfield 15, 3) := by decide +kernel
theorem dX12_image_13 : decode cX12_image 13 = .ok (.iload_n 1, 1) := by decide +kernel
theorem dX12_image_14 : decode cX12_image 14 = .ok (.aload_n 0, 1) := by decide +kernel
theorem dX12_image_15 : decode cX12_image 15 = .ok (.getfield 9, 3) := by decide +kernel
theorem dX12_image_18 : decode cX12_image 18 = .ok (.iload_n 1, 1) := by decide +kernel
theorem dX12_image_19 : decode cX12_image 19 = .ok (.iaload, 1) := by decide +kernel
theorem dX12_image_20 : decode cX12_image 20 = .ok (.iastore, 1) := by decide +kernel
theorem dX12_image_21 : decode cX12_image 21 = .ok (.iinc 1 1, 3) := by decide +kernel
theorem dX12_image_24 : decode cX12_image 24 = .ok (.goto (-22), 3) := by decide +kernel
theorem dX12_image_27 : decode cX12_image 27 = .ok (.aload_n 0, 1) := by decide +kernel
theorem dX12_image_28 : decode cX12_image 28 = .ok (.iconst 1, 1) := by decide +kernel
theorem dX12_image_29 : decode cX12_image 29 = .ok (.putfield 282, 3) := by decide +kernel
theorem dX12_image_32 : decode cX12_image 32 = .ok (.aload_n 0, 1) := by decide +kernel
theorem dX12_image_33 : decode cX12_image 33 = .ok (.getfield 9, 3) := by decide +kernel
theorem dX12_image_36 : decode cX12_image 36 = .ok (.iconst 0, 1) := by decide +kernel
theorem dX12_image_37 : decode cX12_image 37 = .ok (.iaload, 1) := by decide +kernel
theorem dX12_image_38 : decode cX12_image 38 = .ok (.ireturn, 1) := by decide +kernel
theorem dX12_undo_0 : decode cX12_undo 0 = .ok (.aload_n 0, 1) := by decide +kernel
theorem dX12_undo_1 : decode cX12_undo 1 = .ok (.getfield 282, 3) := by decide +kernel
theorem dX12_undo_4 : decode cX12_undo 4 = .ok (.ifCond .ne 6, 3) := by decide +kernel
theorem dX12_undo_7 : decode cX12_undo 7 = .ok (.bipush (-3), 2) := by decide +kernel
theorem dX12_undo_9 : decode cX12_undo 9 = .ok (.ireturn, 1) := by decide +kernel
theorem dX12_undo_10 : decode cX12_undo 10 = .ok (.iconst 0, 1) := by decide +kernel
theorem dX12_undo_11 : decode cX12_undo 11 = .ok (.istore_n 1, 1) := by decide +kernel
theorem dX12_undo_12 : decode cX12_undo 12 = .ok (.iload_n 1, 1) := by decide +kernel
theorem dX12_undo_13 : decode cX12_undo 13 = .ok (.sipush 936, 3) := by decide +kernel
theorem dX12_undo_16 : decode cX12_undo 16 = .ok (.if_icmp .ge 21, 3) := by decide +kernel
theorem dX12_undo_19 : decode cX12_undo 19 = .ok (.aload_n 0, 1) := by decide +kernel
theorem dX12_undo_20 : decode cX12_undo 20 = .ok (.getfield 9, 3) := by decide +kernel
theorem dX12_undo_23 : decode cX12_undo 23 = .ok (.iload_n 1, 1) := by decide +kernel
theorem dX12_undo_24 : decode cX12_undo 24 = .ok (.aload_n 0, 1) := by decide +kernel
theorem dX12_undo_25 : decode cX12_undo 25 = .ok (.getfield 15, 3) := by decide +kernel
theorem dX12_undo_28 : decode cX12_undo 28 = .ok (.iload_n 1, 1) := by decide +kernel
theorem dX12_undo_29 : decode cX12_undo 29 = .ok (.iaload, 1) := by decide +kernel
theorem dX12_undo_30 : decode cX12_undo 30 = .ok (.iastore, 1) := by decide +kernel
theorem dX12_undo_31 : decode cX12_undo 31 = .ok (.iinc 1 1, 3) := by decide +kernel
theorem dX12_undo_34 : decode cX12_undo 34 = .ok (.goto (-22), 3) := by decide +kernel
theorem dX12_undo_37 : decode cX12_undo 37 = .ok (.aload_n 0, 1) := by decide +kernel
theorem dX12_undo_38 : decode cX12_undo 38 = .ok (.getfield 9, 3) := by decide +kernel
theorem dX12_undo_41 : decode cX12_undo 41 = .ok (.iconst 0, 1) := by decide +kernel
theorem dX12_undo_42 : decode cX12_undo 42 = .ok (.iaload, 1) := by decide +kernel
theorem dX12_undo_43 : decode cX12_undo 43 = .ok (.ireturn, 1) := by decide +kernel
theorem dX12_count_0 : decode cX12_count 0 = .ok (.iload_n 1, 1) := by decide +kernel
theorem dX12_count_1 : decode cX12_count 1 = .ok (.iconst 5, 1) := by decide +kernel
theorem dX12_count_2 : decode cX12_count 2 = .ok (.if_icmp .ne 10, 3) := by decide +kernel
theorem dX12_count_5 : decode cX12_count 5 = .ok (.aload_n 0, 1) := by decide +kernel
theorem dX12_count_6 : decode cX12_count 6 = .ok (.getfield 246, 3) := by decide +kernel
theorem dX12_count_9 : decode cX12_count 9 = .ok (.goto 22, 3) := by decide +kernel
theorem dX12_count_12 : decode cX12_count 12 = .ok (.iload_n 1, 1) := by decide +kernel
theorem dX12_count_13 : decode cX12_count 13 = .ok (.iconst 0, 1) := by decide +kernel
theorem dX12_count_14 : decode cX12_count 14 = .ok (.iconst 4, 1) := by decide +kernel
theorem dX12_count_15 : decode cX12_count 15 = .ok (.invokestatic 41, 3) := by decide +kernel
theorem dX12_count_18 : decode cX12_count 18 = .ok (.ifCond .eq 12, 3) := by decide +kernel
theorem dX12_count_21 : decode cX12_count 21 = .ok (.aload_n 0, 1) := by decide +kernel
theorem dX12_count_22 : decode cX12_count 22 = .ok (.getfield 9, 3) := by decide +kernel
theorem dX12_count_25 : decode cX12_count 25 = .ok (.iload_n 1, 1) := by decide +kernel
theorem dX12_count_26 : decode cX12_count 26 = .ok (.iaload, 1) := by decide +kernel
theorem dX12_count_27 : decode cX12_count 27 = .ok (.goto 4, 3) := by decide +kernel
theorem dX12_count_30 : decode cX12_count 30 = .ok (.iconst (-1), 1) := by decide +kernel
theorem dX12_count_31 : decode cX12_count 31 = .ok (.ireturn, 1) := by decide +kernel
theorem dX11_init_0 : decode cX11_init 0 = .ok (.aload_n 0, 1) := by decide +kernel
theorem dX11_init_1 : decode cX11_init 1 = .ok (.invokespecial 3, 3) := by decide +kernel
theorem dX11_init_4 : decode cX11_init 4 = .ok (.aload_n 0, 1) := by decide +kernel
theorem dX11_init_5 : decode cX11_init 5 = .ok (.new 9, 3) := by decide +kernel
theorem dX11_init_8 : decode cX11_init 8 = .ok (.dup, 1) := by decide +kernel
theorem dX11_init_9 : decode cX11_init 9 = .ok (.invokespecial 11, 3) := by decide +kernel
theorem dX11_init_12 : decode cX11_init 12 = .ok (.putfield 12, 3) := by decide +kernel
theorem dX11_init_15 : decode cX11_init 15 = .ok (.aload_n 0, 1) := by decide +kernel
theorem dX11_init_16 : decode cX11_init 16 = .ok (.new 9, 3) := by decide +kernel
theorem dX11_init_19 : decode cX11_init 19 = .ok (.dup, 1) := by decide +kernel
theorem dX11_init_20 : decode cX11_init 20 = .ok (.invokespecial 11, 3) := by decide +kernel
theorem dX11_init_23 : decode cX11_init 23 = .ok (.putfield 18, 3) := by decide +kernel
theorem dX11_init_26 : decode cX11_init 26 = .ok (.aload_n 0, 1) := by decide +kernel
theorem dX11_init_27 : decode cX11_init 27 = .ok (.new 21, 3) := by decide +kernel
theorem dX11_init_30 : decode cX11_init 30 = .ok (.dup, 1) := by decide +kernel
theorem dX11_init_31 : decode cX11_init 31 = .ok (.invokespecial 23, 3) := by decide +kernel
theorem dX11_init_34 : decode cX11_init 34 = .ok (.putfield 24, 3) := by decide +kernel
theorem dX11_init_37 : decode cX11_init 37 = .ok (.aload_n 0, 1) := by decide +kernel
theorem dX11_init_38 : decode cX11_init 38 = .ok (.bipush 21, 2) := by decide +kernel
theorem dX11_init_40 : decode cX11_init 40 = .ok (.newarray .int, 2) := by decide +kernel
theorem dX11_init_42 : decode cX11_init 42 = .ok (.putfield 28, 3) := by decide +kernel
theorem dX11_init_45 : decode cX11_init 45 = .ok (.aload_n 0, 1) := by decide +kernel
theorem dX11_init_46 : decode cX11_init 46 = .ok (.bipush 6, 2) := by decide +kernel
theorem dX11_init_48 : decode cX11_init 48 = .ok (.newarray .int, 2) := by decide +kernel
theorem dX11_init_50 : decode cX11_init 50 = .ok (.putfield 32, 3) := by decide +kernel
theorem dX11_init_53 : decode cX11_init 53 = .ok (.aload_n 0, 1) := by decide +kernel
theorem dX11_init_54 : decode cX11_init 54 = .ok (.bipush 6, 2) := by decide +kernel
theorem dX11_init_56 : decode cX11_init 56 = .ok (.newarray .int, 2) := by decide +kernel
theorem dX11_init_58 : decode cX11_init 58 = .ok (.putfield 35, 3) := by decide +kernel
theorem dX11_init_61 : decode cX11_init 61 = .ok (.aload_n 0, 1) := by decide +kernel
theorem dX11_init_62 : decode cX11_init 62 = .ok (.bipush 36, 2) := by decide +kernel
theorem dX11_init_64 : decode cX11_init 64 = .ok (.newarray .int, 2) := by decide +kernel
theorem dX11_init_66 : decode cX11_init 66 = .ok (.putfield 38, 3) := by decide +kernel
theorem dX11_init_69 : decode cX11_init 69 = .ok (.return_, 1) := by decide +kernel
theorem dX11_feed_0 : decode cX11_feed 0 = .ok (.iload_n 1, 1) := by decide +kernel
theorem dX11_feed_1 : decode cX11_feed 1 = .ok (.iconst 0, 1) := by decide +kernel
theorem dX11_feed_2 : decode cX11_feed 2 = .ok (.bipush 127, 2) := by decide +kernel
theorem dX11_feed_4 : decode cX11_feed 4 = .ok (.invokestatic 41, 3) := by decide +kernel
theorem dX11_feed_7 : decode cX11_feed 7 = .ok (.ifCond .eq 6, 3) := by decide +kernel
theorem dX11_feed_10 : decode cX11_feed 10 = .ok (.bipush (-2), 2) := by decide +kernel
theorem dX11_feed_12 : decode cX11_feed 12 = .ok (.ireturn, 1) := by decide +kernel
theorem dX11_feed_13 : decode cX11_feed 13 = .ok (.aload_n 0, 1) := by decide +kernel
theorem dX11_feed_14 : decode cX11_feed 14 = .ok (.getfield 12, 3) := by decide +kernel
theorem dX11_feed_17 : decode cX11_feed 17 = .ok (.getfield 45, 3) := by decide +kernel
theorem dX11_feed_20 : decode cX11_feed 20 = .ok (.bipush 100, 2) := by decide +kernel
theorem dX11_feed_22 : decode cX11_feed 22 = .ok (.if_icmp .lt 6, 3) := by decide +kernel
theorem dX11_feed_25 : decode cX11_feed 25 = .ok (.bipush (-4), 2) := by decide +kernel
theorem dX11_feed_27 : decode cX11_feed 27 = .ok (.ireturn, 1) := by decide +kernel
theorem dX11_feed_28 : decode cX11_feed 28 = .ok (.aload_n 0, 1) := by decide +kernel
theorem dX11_feed_29 : decode cX11_feed 29 = .ok (.getfield 12, 3) := by decide +kernel
theorem dX11_feed_32 : decode cX11_feed 32 = .ok (.getfield 49, 3) := by decide +kernel
theorem dX11_feed_35 : decode cX11_feed 35 = .ok (.aload_n 0, 1) := by decide +kernel
theorem dX11_feed_36 : decode cX11_feed 36 = .ok (.getfield 12, 3) := by decide +kernel
theorem dX11_feed_39 : decode cX11_feed 39 = .ok (.getfield 45, 3) := by decide +kernel
theorem dX11_feed_42 : decode cX11_feed 42 = .ok (.iload_n 1, 1) := by decide +kernel
theorem dX11_feed_43 : decode cX11_feed 43 = .ok (.iastore, 1) := by decide +kernel
theorem dX11_feed_44 : decode cX11_feed 44 = .ok (.aload_n 0, 1) := by decide +kernel
theorem dX11_feed_45 : decode cX11_feed 45 = .ok (.getfield 12, 3) := by decide +kernel
theorem dX11_feed_48 : decode cX11_feed 48 = .ok (.dup, 1) := by decide +kernel
theorem dX11_feed_49 : decode cX11_feed 49 = .ok (.getfield 45, 3) := by decide +kernel
theorem dX11_feed_52 : decode cX11_feed 52 = .ok (.iconst 1, 1) := by decide +kernel
theorem dX11_feed_53 : decode cX11_feed 53 = .ok (.iadd, 1) := by decide +kernel
theorem dX11_feed_54 : decode cX11_feed 54 = .ok (.putfield 45, 3) := by decide +kernel
theorem dX11_feed_57 : decode cX11_feed 57 = .ok (.aload_n 0, 1) := by decide +kernel
theorem dX11_feed_58 : decode cX11_feed 58 = .ok (.getfield 12, 3) := by decide +kernel
theorem dX11_feed_61 : decode cX11_feed 61 = .ok (.getfield 45, 3) := by decide +kernel
theorem dX11_feed_64 : decode cX11_feed 64 = .ok (.ireturn, 1) := by decide +kernel
theorem dX11_inn_0 : decode cX11_inn 0 = .ok (.aload_n 0, 1) := by decide +kernel
theorem dX11_inn_1 : decode cX11_inn 1 = .ok (.getfield 12, 3) := by decide +kernel
theorem dX11_inn_4 : decode cX11_inn 4 = .ok (.getfield 52, 3) := by decide +kernel
theorem dX11_inn_7 : decode cX11_inn 7 = .ok (.iconst 5, 1) := by decide +kernel
theorem dX11_inn_8 : decode cX11_inn 8 = .ok (.if_icmp .lt 6, 3) := by decide +kernel
theorem dX11_inn_11 : decode cX11_inn 11 = .ok (.bipush (-4), 2) := by decide +kernel
theorem dX11_inn_13 : decode cX11_inn 13 = .ok (.ireturn, 1) := by decide +kernel
theorem dX11_inn_14 : decode cX11_inn 14 = .ok (.new 55, 3) := by decide +kernel
theorem dX11_inn_17 : decode cX11_inn 17 = .ok (.dup, 1) := by decide +kernel
theorem dX11_inn_18 : decode cX11_inn 18 = .ok (.aload_n 0, 1) := by decide +kernel
theorem dX11_inn_19 : decode cX11_inn 19 = .ok (.getfield 12, 3) := by decide +kernel
theorem dX11_inn_22 : decode cX11_inn 22 = .ok (.getfield 49, 3) := by decide +kernel
theorem dX11_inn_25 : decode cX11_inn 25 = .ok (.aload_n 0, 1) := by decide +kernel
theorem dX11_inn_26 : decode cX11_inn 26 = .ok (.getfield 12, 3) := by decide +kernel
theorem dX11_inn_29 : decode cX11_inn 29 = .ok (.getfield 45, 3) := by decide +kernel
theorem dX11_inn_32 : decode cX11_inn 32 = .ok (.invokespecial 57, 3) := by decide +kernel
theorem dX11_inn_35 : decode cX11_inn 35 = .ok (.astore_n 1, 1) := by decide +kernel
theorem dX11_inn_36 : decode cX11_inn 36 = .ok (.aload_n 1, 1) := by decide +kernel
theorem dX11_inn_37 : decode cX11_inn 37 = .ok (.invokevirtual 60, 3) := by decide +kernel
theorem dX11_inn_40 : decode cX11_inn 40 = .ok (.astore_n 2, 1) := by decide +kernel
theorem dX11_inn_41 : decode cX11_inn 41 = .ok (.aload_n 0, 1) := by decide +kernel
theorem dX11_inn_42 : decode cX11_inn 42 = .ok (.getfield 12, 3) := by decide +kernel
theorem dX11_inn_45 : decode cX11_inn 45 = .ok (.iconst 0, 1) := by decide +kernel
theorem dX11_inn_46 : decode cX11_inn 46 = .ok (.putfield 45, 3) := by decide +kernel
theorem dX11_inn_49 : decode cX11_inn 49 = .ok (.aload_n 2, 1) := by decide +kernel
theorem dX11_inn_50 : decode cX11_inn 50 = .ok (.ifnonnull 11, 3) := by decide +kernel
theorem dX11_inn_53 : decode cX11_inn 53 = .ok (.bipush (-10), 2) := by decide +kernel
theorem dX11_inn_55 : decode cX11_inn 55 = .ok (.aload_n 1, 1) := by decide +kernel
theorem dX11_inn_56 : decode cX11_inn 56 = .ok (.getfield 64, 3) := by decide +kernel
theorem dX11_inn_59 : decode cX11_inn 59 = .ok (.isub, 1) := by decide +kernel
theorem dX11_inn_60 : decode cX11_inn 60 = .ok (.ireturn, 1) := by decide +kernel
theorem dX11_inn_61 : decode cX11_inn 61 = .ok (.aload_n 0, 1) := by decide +kernel
theorem dX11_inn_62 : decode cX11_inn 62 = .ok (.getfield 12, 3) := by decide +kernel
theorem dX11_inn_65 : decode cX11_inn 65 = .ok (.getfield 67, 3) := by decide +kernel
theorem dX11_inn_68 : decode cX11_inn 68 = .ok (.aload_n 0, 1) := by decide +kernel
theorem dX11_inn_69 : decode cX11_inn 69 = .ok (.getfield 12, 3) := by decide +kernel
theorem dX11_inn_72 : decode cX11_inn 72 = .ok (.getfield 52, 3) := by decide +kernel
theorem dX11_inn_75 : decode cX11_inn 75 = .ok (.aload_n 2, 1) := by decide +kernel
theorem dX11_inn_76 : decode cX11_inn 76 = .ok (.aastore, 1) := by decide +kernel
theorem dX11_inn_77 : decode cX11_inn 77 = .ok (.aload_n 0, 1) := by decide +kernel
theorem dX11_inn_78 : decode cX11_inn 78 = .ok (.getfield 12, 3) := by decide +kernel
theorem dX11_inn_81 : decode cX11_inn 81 = .ok (.dup, 1) := by decide +kernel
theorem dX11_inn_82 : decode cX11_inn 82 = .ok (.getfield 52, 3) := by decide +kernel
theorem dX11_inn_85 : decode cX11_inn 85 = .ok (.iconst 1, 1) := by decide +kernel
theorem dX11_inn_86 : decode cX11_inn 86 = .ok (.iadd, 1) := by decide +kernel
theorem dX11_inn_87 : decode cX11_inn 87 = .ok (.putfield 52, 3) := by decide +kernel
theorem dX11_inn_90 : decode cX11_inn 90 = .ok (.aload_n 0, 1) := by decide +kernel
theorem dX11_inn_91 : decode cX11_inn 91 = .ok (.getfield 12, 3) := by decide +kernel
theorem dX11_inn_94 : decode cX11_inn 94 = .ok (.getfield 52, 3) := by decide +kernel
theorem dX11_inn_97 : decode cX11_inn 97 = .ok (.iconst 1, 1) := by decide +kernel
theorem dX11_inn_98 : decode cX11_inn 98 = .ok (.isub, 1) := by decide +kernel
theorem dX11_inn_99 : decode cX11_inn 99 = .ok (.ireturn, 1) := by decide +kernel
theorem dX11_player_0 : decode cX11_player 0 = .ok (.iload_n 1, 1) := by decide +kernel
theorem dX11_player_1 : decode cX11_player 1 = .ok (.iconst 0, 1) := by decide +kernel
theorem dX11_player_2 : decode cX11_player 2 = .ok (.bipush 6, 2) := by decide +kernel
theorem dX11_player_4 : decode cX11_player 4 = .ok (.invokestatic 41, 3) := by decide +kernel
theorem dX11_player_7 : decode cX11_player 7 = .ok (.ifCond .eq 5, 3) := by decide +kernel
theorem dX11_player_10 : decode cX11_player 10 = .ok (.iconst (-1), 1) := by decide +kernel
theorem dX11_player_11 : decode cX11_player 11 = .ok (.ireturn, 1) := by decide +kernel
theorem dX11_player_12 : decode cX11_player 12 = .ok (.iload_n 2, 1) := by decide +kernel
theorem dX11_player_13 : decode cX11_player 13 = .ok (.iconst 0, 1) := by decide +kernel
theorem dX11_player_14 : decode cX11_player 14 = .ok (.bipush 9, 2) := by decide +kernel
theorem dX11_player_16 : decode cX11_player 16 = .ok (.invokestatic 41, 3) := by decide +kernel
theorem dX11_player_19 : decode cX11_player 19 = .ok (.ifCond .ne 36, 3) := by decide +kernel
theorem dX11_player_22 : decode cX11_player 22 = .ok (.iload_n 3, 1) := by decide +kernel
theorem dX11_player_23 : decode cX11_player 23 = .ok (.iconst 0, 1) := by decide +kernel
theorem dX11_player_24 : decode cX11_player 24 = .ok (.bipush 20, 2) := by decide +kernel
theorem dX11_player_26 : decode cX11_player 26 = .ok (.invokestatic 41, 3) := by decide +kernel
theorem dX11_player_29 : decode cX11_player 29 = .ok (.ifCond .ne 26, 3) := by decide +kernel
theorem dX11_player_32 : decode cX11_player 32 = .ok (.iload 4, 2) := by decide +kernel
theorem dX11_player_34 : decode cX11_player 34 = .ok (.iconst 1, 1) := by decide +kernel
theorem dX11_player_35 : decode cX11_player 35 = .ok (.bipush 9, 2) := by decide +kernel
theorem dX11_player_37 : decode cX11_player 37 = .ok (.invokestatic 41, 3) := by decide +kernel
theorem dX11_player_40 : decode cX11_player 40 = .ok (.ifCond .ne 15, 3) := by decide +kernel
theorem dX11_player_43 : decode cX11_player 43 = .ok (.iload 5, 2) := by decide +kernel
theorem dX11_player_45 : decode cX11_player 45 = .ok (.iconst 0, 1) := by decide +kernel
theorem dX11_player_46 : decode cX11_player 46 = .ok (.sipush 9999, 3) := by decide +kernel
theorem dX11_player_49 : decode cX11_player 49 = .ok (.invokestatic 41, 3) := by decide +kernel
theorem dX11_player_52 : decode cX11_player 52 = .ok (.ifCond .eq 6, 3) := by decide +kernel
theorem dX11_player_55 : decode cX11_player 55 = .ok (.bipush (-2), 2) := by decide +kernel
theorem dX11_player_57 : decode cX11_player 57 = .ok (.ireturn, 1) := by decide +kernel
theorem dX11_player_58 : decode cX11_player 58 = .ok (.aload_n 0, 1) := by decide +kernel
theorem dX11_player_59 : decode cX11_player 59 = .ok (.getfield 12, 3) := by decide +kernel
theorem dX11_player_62 : decode cX11_player 62 = .ok (.getfield 71, 3) := by decide +kernel
theorem dX11_player_65 : decode cX11_player 65 = .ok (.bipush 6, 2) := by decide +kernel
theorem dX11_player_67 : decode cX11_player 67 = .ok (.if_icmp .lt 6, 3) := by decide +kernel
theorem dX11_player_70 : decode cX11_player 70 = .ok (.bipush (-4), 2) := by decide +kernel
theorem dX11_player_72 : decode cX11_player 72 = .ok (.ireturn, 1) := by decide +kernel
theorem dX11_player_73 : decode cX11_player 73 = .ok (.iload_n 1, 1) := by decide +kernel
theorem dX11_player_74 : decode cX11_player 74 = .ok (.aload_n 0, 1) := by decide +kernel
theorem dX11_player_75 : decode cX11_player 75 = .ok (.getfield 28, 3) := by decide +kernel
theorem dX11_player_78 : decode cX11_player 78 = .ok (.invokestatic 74, 3) := by decide +kernel
theorem dX11_player_81 : decode cX11_player 81 = .ok (.astore 6, 2) := by decide +kernel
theorem dX11_player_83 : decode cX11_player 83 = .ok (.aload 6, 2) := by decide +kernel
theorem dX11_player_85 : decode cX11_player 85 = .ok (.aload_n 0, 1) := by decide +kernel
theorem dX11_player_86 : decode cX11_player 86 = .ok (.getfield 12, 3) := by decide +kernel
theorem dX11_player_89 : decode cX11_player 89 = .ok (.getfield 71, 3) := by decide +kernel
theorem dX11_player_92 : decode cX11_player 92 = .ok (.putfield 80, 3) := by decide +kernel
theorem dX11_player_95 : decode cX11_player 95 = .ok (.aload 6, 2) := by decide +kernel
theorem dX11_player_97 : decode cX11_player 97 = .ok (.iload_n 2, 1) := by decide +kernel
theorem dX11_player_98 : decode cX11_player 98 = .ok (.putfield 83, 3) := by decide +kernel
theorem dX11_player_101 : decode cX11_player 101 = .ok (.aload 6, 2) := by decide +kernel
theorem dX11_player_103 : decode cX11_player 103 = .ok (.iload_n 3, 1) := by decide +kernel
theorem dX11_player_104 : decode cX11_player 104 = .ok (.putfield 86, 3) := by decide +kernel
theorem dX11_player_107 : decode cX11_player 107 = .ok (.aload 6, 2) := by decide +kernel
theorem dX11_player_109 : decode cX11_player 109 = .ok (.iload 4, 2) := by decide +kernel
theorem dX11_player_111 : decode cX11_player 111 = .ok (.putfield 89, 3) := by decide +kernel
theorem dX11_player_114 : decode cX11_player 114 = .ok (.aload 6, 2) := by decide +kernel
theorem dX11_player_116 : decode cX11_player 116 = .ok (.iload 5, 2) := by decide +kernel
theorem dX11_player_118 : decode cX11_player 118 = .ok (.putfield 92, 3) := by decide +kernel
theorem dX11_player_121 : decode cX11_player 121 = .ok (.aload_n 0, 1) := by decide +kernel
theorem dX11_player_122 : decode cX11_player 122 = .ok (.getfield 12, 3) := by decide +kernel
theorem dX11_player_125 : decode cX11_player 125 = .ok (.getfield 95, 3) := by decide +kernel
theorem dX11_player_128 : decode cX11_player 128 = .ok (.aload_n 0, 1) := by decide +kernel
theorem dX11_player_129 : decode cX11_player 129 = .ok (.getfield 12, 3) := by decide +kernel
theorem dX11_player_132 : decode cX11_player 132 = .ok (.getfield 71, 3) := by decide +kernel
theorem dX11_player_135 : decode cX11_player 135 = .ok (.aload 6, 2) := by decide +kernel
theorem dX11_player_137 : decode cX11_player 137 = .ok (.aastore, 1) := by decide +kernel
theorem dX11_player_138 : decode cX11_player 138 = .ok (.aload_n 0, 1) := by decide +kernel
theorem dX11_player_139 : decode cX11_player 139 = .ok (.getfield 12, 3) := by decide +kernel
theorem dX11_player_142 : decode cX11_player 142 = .ok (.dup, 1) := by decide +kernel
theorem dX11_player_143 : decode cX11_player 143 = .ok (.getfield 71, 3) := by decide +kernel
theorem dX11_player_146 : decode cX11_player 146 = .ok (.iconst 1, 1) := by decide +kernel
theorem dX11_player_147 : decode cX11_player 147 = .ok (.iadd, 1) := by decide +kernel
theorem dX11_player_148 : decode cX11_player 148 = .ok (.putfield 71, 3) := by decide +kernel
theorem dX11_player_151 : decode cX11_player 151 = .ok (.aload 6, 2) := by decide +kernel
theorem dX11_player_153 : decode cX11_player 153 = .ok (.getfield 80, 3) := by decide +kernel
theorem dX11_player_156 : decode cX11_player 156 = .ok (.ireturn, 1) := by decide +kernel
theorem dX11_of_0 : decode cX11_of 0 = .ok (.aload_n 0, 1) := by decide +kernel
theorem dX11_of_1 : decode cX11_of 1 = .ok (.iload_n 1, 1) := by decide +kernel
theorem dX11_of_2 : decode cX11_of 2 = .ok (.invokevirtual 99, 3) := by decide +kernel
theorem dX11_of_5 : decode cX11_of 5 = .ok (.astore_n 3, 1) := by decide +kernel
theorem dX11_of_6 : decode cX11_of 6 = .ok (.aload_n 3, 1) := by decide +kernel
theorem dX11_of_7 : decode cX11_of 7 = .ok (.ifnonnull 5, 3) := by decide +kernel
theorem dX11_of_10 : decode cX11_of 10 = .ok (.iconst (-1), 1) := by decide +kernel
theorem dX11_of_11 : decode cX11_of 11 = .ok (.ireturn, 1) := by decide +kernel
theorem dX11_of_12 : decode cX11_of 12 = .ok (.iload_n 2, 1) := by decide +kernel
theorem dX11_of_13 : decode cX11_of 13 = .ok (.tableswitch 95 0 7 #[47, 52, 57, 62, 67, 72, 77, 82], 47) := by decide +kernel
theorem dX11_of_60 : decode cX11_of 60 = .ok (.aload_n 3, 1) := by decide +kernel
theorem dX11_of_61 : decode cX11_of 61 = .ok (.getfield 103, 3) := by decide +kernel
theorem dX11_of_64 : decode cX11_of 64 = .ok (.ireturn, 1) := by decide +kernel
theorem dX11_of_65 : decode cX11_of 65 = .ok (.aload_n 3, 1) := by decide +kernel
theorem dX11_of_66 : decode cX11_of 66 = .ok (.getfield 83, 3) := by decide +kernel
theorem dX11_of_69 : decode cX11_of 69 = .ok (.ireturn, 1) := by decide +kernel
theorem dX11_of_70 : decode cX11_of 70 = .ok (.aload_n 3, 1) := by decide +kernel
theorem dX11_of_71 : decode cX11_of 71 = .ok (.getfield 86, 3) := by decide +kernel
theorem dX11_of_74 : decode cX11_of 74 = .ok (.ireturn, 1) := by decide +kernel
theorem dX11_of_75 : decode cX11_of 75 = .ok (.aload_n 3, 1) := by decide +kernel
theorem dX11_of_76 : decode cX11_of 76 = .ok (.getfield 89, 3) := by decide +kernel
theorem dX11_of_79 : decode cX11_of 79 = .ok (.ireturn, 1) := by decide +kernel
theorem dX11_of_80 : decode cX11_of 80 = .ok (.aload_n 3, 1) := by decide +kernel
theorem dX11_of_81 : decode cX11_of 81 = .ok (.getfield 106, 3) := by decide +kernel
theorem dX11_of_84 : decode cX11_of 84 = .ok (.ireturn, 1) := by decide +kernel
theorem dX11_of_85 : decode cX11_of 85 = .ok (.aload_n 3, 1) := by decide +kernel
theorem dX11_of_86 : decode cX11_of 86 = .ok (.getfield 109, 3) := by decide +kernel
theorem dX11_of_89 : decode cX11_of 89 = .ok (.ireturn, 1) := by decide +kernel
theorem dX11_of_90 : decode cX11_of 90 = .ok (.aload_n 3, 1) := by decide +kernel
theorem dX11_of_91 : decode cX11_of 91 = .ok (.getfield 92, 3) := by decide +kernel
theorem dX11_of_94 : decode cX11_of 94 = .ok (.ireturn, 1) := by decide +kernel
theorem dX11_of_95 : decode cX11_of 95 = .ok (.aload_n 3, 1) := by decide +kernel
theorem dX11_of_96 : decode cX11_of 96 = .ok (.aload_n 3, 1) := by decide +kernel
theorem dX11_of_97 : decode cX11_of 97 = .ok (.getfield 86, 3) := by decide +kernel
theorem dX11_of_100 : decode cX11_of 100 = .ok (.aload_n 3, 1) := by decide +kernel
theorem dX11_of_101 : decode cX11_of 101 = .ok (.getfield 106, 3) := by decide +kernel
theorem dX11_of_104 : decode cX11_of 104 = .ok (.invokevirtual 112, 3) := by decide +kernel
theorem dX11_of_107 : decode cX11_of 107 = .ok (.ireturn, 1) := by decide +kernel
theorem dX11_of_108 : decode cX11_of 108 = .ok (.iconst (-1), 1) := by decide +kernel
theorem dX11_of_109 : decode cX11_of 109 = .ok (.ireturn, 1) := by decide +kernel
theorem dX11_set_0 : decode cX11_set 0 = .ok (.aload_n 0, 1) := by decide +kernel
theorem dX11_set_1 : decode cX11_set 1 = .ok (.iload_n 1, 1) := by decide +kernel
theorem dX11_set_2 : decode cX11_set 2 = .ok (.invokevirtual 99, 3) := by decide +kernel
theorem dX11_set_5 : decode cX11_set 5 = .ok (.astore 4, 2) := by decide +kernel
theorem dX11_set_7 : decode cX11_set 7 = .ok (.aload 4, 2) := by decide +kernel
theorem dX11_set_9 : decode cX11_set 9 = .ok (.ifnull 12, 3) := by decide +kernel
theorem dX11_set_12 : decode cX11_set 12 = .ok (.iload_n 2, 1) := by decide +kernel
theorem dX11_set_13 : decode cX11_set 13 = .ok (.iconst 0, 1) := by decide +kernel
theorem dX11_set_14 : decode cX11_set 14 = .ok (.iconst 2, 1) := by decide +kernel
theorem dX11_set_15 : decode cX11_set 15 = .ok (.invokestatic 41, 3) := by decide +kernel
theorem dX11_set_18 : decode cX11_set 18 = .ok (.ifCond .eq 5, 3) := by decide +kernel
theorem dX11_set_21 : decode cX11_set 21 = .ok (.iconst (-1), 1) := by decide +kernel
theorem dX11_set_22 : decode cX11_set 22 = .ok (.ireturn, 1) := by decide +kernel
theorem dX11_set_23 : decode cX11_set 23 = .ok (.iload_n 3, 1) := by decide +kernel
theorem dX11_set_24 : decode cX11_set 24 = .ok (.iconst 0, 1) := by decide +kernel
theorem dX11_set_25 : decode cX11_set 25 = .ok (.iload_n 2, 1) := by decide +kernel
theorem dX11_set_26 : decode cX11_set 26 = .ok (.ifCond .ne 8, 3) := by decide +kernel
theorem dX11_set_29 : decode cX11_set 29 = .ok (.bipush 20, 2) := by decide +kernel
theorem dX11_set_31 : decode cX11_set 31 = .ok (.goto 15, 3) := by decide +kernel
theorem dX11_set_34 : decode cX11_set 34 = .ok (.iload_n 2, 1) := by decide +kernel
theorem dX11_set_35 : decode cX11_set 35 = .ok (.iconst 1, 1) := by decide +kernel
theorem dX11_set_36 : decode cX11_set 36 = .ok (.if_icmp .ne 8, 3) := by decide +kernel
theorem dX11_set_39 : decode cX11_set 39 = .ok (.bipush 9, 2) := by decide +kernel
theorem dX11_set_41 : decode cX11_set 41 = .ok (.goto 5, 3) := by decide +kernel
theorem dX11_set_44 : decode cX11_set 44 = .ok (.bipush 99, 2) := by decide +kernel
theorem dX11_set_46 : decode cX11_set 46 = .ok (.invokestatic 41, 3) := by decide +kernel
theorem dX11_set_49 : decode cX11_set 49 = .ok (.ifCond .eq 6, 3) := by decide +kernel
theorem dX11_set_52 : decode cX11_set 52 = .ok (.bipush (-2), 2) := by decide +kernel
theorem dX11_set_54 : decode cX11_set 54 = .ok (.ireturn, 1) := by decide +kernel
theorem dX11_set_55 : decode cX11_set 55 = .ok (.iload_n 2, 1) := by decide +kernel
theorem dX11_set_56 : decode cX11_set 56 = .ok (.ifCond .ne 19, 3) := by decide +kernel
theorem dX11_set_59 : decode cX11_set 59 = .ok (.aload 4, 2) := by decide +kernel
theorem dX11_set_61 : decode cX11_set 61 = .ok (.getfield 86, 3) := by decide +kernel
theorem dX11_set_64 : decode cX11_set 64 = .ok (.istore 5, 2) := by decide +kernel
theorem dX11_set_66 : decode cX11_set 66 = .ok (.aload 4, 2) := by decide +kernel
theorem dX11_set_68 : decode cX11_set 68 = .ok (.iload_n 3, 1) := by decide +kernel
theorem dX11_set_69 : decode cX11_set 69 = .ok (.putfield 86, 3) := by decide +kernel
theorem dX11_set_72 : decode cX11_set 72 = .ok (.goto 37, 3) := by decide +kernel
theorem dX11_set_75 : decode cX11_set 75 = .ok (.iload_n 2, 1) := by decide +kernel
theorem dX11_set_76 : decode cX11_set 76 = .ok (.iconst 1, 1) := by decide +kernel
theorem dX11_set_77 : decode cX11_set 77 = .ok (.if_icmp .ne 19, 3) := by decide +kernel
theorem dX11_set_80 : decode cX11_set 80 = .ok (.aload 4, 2) := by decide +kernel
theorem dX11_set_82 : decode cX11_set 82 = .ok (.getfield 106, 3) := by decide +kernel
theorem dX11_set_85 : decode cX11_set 85 = .ok (.istore 5, 2) := by decide +kernel
theorem dX11_set_87 : decode cX11_set 87 = .ok (.aload 4, 2) := by decide +kernel
theorem dX11_set_89 : decode cX11_set 89 = .ok (.iload_n 3, 1) := by decide +kernel
theorem dX11_set_90 : decode cX11_set 90 = .ok (.putfield 106, 3) := by decide +kernel
theorem dX11_set_93 : decode cX11_set 93 = .ok (.goto 16, 3) := by decide +kernel
theorem dX11_set_96 : decode cX11_set 96 = .ok (.aload 4, 2) := by decide +kernel
theorem dX11_set_98 : decode cX11_set 98 = .ok (.getfield 109, 3) := by decide +kernel
theorem dX11_set_101 : decode cX11_set 101 = .ok (.istore 5, 2) := by decide +kernel
theorem dX11_set_103 : decode cX11_set 103 = .ok (.aload 4, 2) := by decide +kernel
theorem dX11_set_105 : decode cX11_set 105 = .ok (.iload_n 3, 1) := by decide +kernel
theorem dX11_set_106 : decode cX11_set 106 = .ok (.putfield 109, 3) := by decide +kernel
theorem dX11_set_109 : decode cX11_set 109 = .ok (.iload 5, 2) := by decide +kernel
theorem dX11_set_111 : decode cX11_set 111 = .ok (.ireturn, 1) := by decide +kernel
theorem dX11_row_0 : decode cX11_row 0 = .ok (.aload_n 0, 1) := by decide +kernel
theorem dX11_row_1 : decode cX11_row 1 = .ok (.iload_n 1, 1) := by decide +kernel
theorem dX11_row_2 : decode cX11_row 2 = .ok (.invokevirtual 99, 3) := by decide +kernel
theorem dX11_row_5 : decode cX11_row 5 = .ok (.astore 4, 2) := by decide +kernel
theorem dX11_row_7 : decode cX11_row 7 = .ok (.aload 4, 2) := by decide +kernel
theorem dX11_row_9 : decode cX11_row 9 = .ok (.ifnull 12, 3) := by decide +kernel
theorem dX11_row_12 : decode cX11_row 12 = .ok (.iload_n 2, 1) := by decide +kernel
theorem dX11_row_13 : decode cX11_row 13 = .ok (.iconst 0, 1) := by decide +kernel
theorem dX11_row_14 : decode cX11_row 14 = .ok (.iconst 3, 1) := by decide +kernel
theorem dX11_row_15 : decode cX11_row 15 = .ok (.invokestatic 41, 3) := by decide +kernel
theorem dX11_row_18 : decode cX11_row 18 = .ok (.ifCond .eq 5, 3) := by decide +kernel
theorem dX11_row_21 : decode cX11_row 21 = .ok (.iconst (-1), 1) := by decide +kernel
theorem dX11_row_22 : decode cX11_row 22 = .ok (.ireturn, 1) := by decide +kernel
theorem dX11_row_23 : decode cX11_row 23 = .ok (.iload_n 3, 1) := by decide +kernel
theorem dX11_row_24 : decode cX11_row 24 = .ok (.iconst 0, 1) := by decide +kernel
theorem dX11_row_25 : decode cX11_row 25 = .ok (.bipush 9, 2) := by decide +kernel
theorem dX11_row_27 : decode cX11_row 27 = .ok (.invokestatic 41, 3) := by decide +kernel
theorem dX11_row_30 : decode cX11_row 30 = .ok (.ifCond .eq 6, 3) := by decide +kernel
theorem dX11_row_33 : decode cX11_row 33 = .ok (.bipush (-2), 2) := by decide +kernel
theorem dX11_row_35 : decode cX11_row 35 = .ok (.ireturn, 1) := by decide +kernel
theorem dX11_row_36 : decode cX11_row 36 = .ok (.aload 4, 2) := by decide +kernel
theorem dX11_row_38 : decode cX11_row 38 = .ok (.instanceof 116, 3) := by decide +kernel
theorem dX11_row_41 : decode cX11_row 41 = .ok (.ifCond .eq 30, 3) := by decide +kernel
theorem dX11_row_44 : decode cX11_row 44 = .ok (.aload 4, 2) := by decide +kernel
theorem dX11_row_46 : decode cX11_row 46 = .ok (.checkcast 116, 3) := by decide +kernel
theorem dX11_row_49 : decode cX11_row 49 = .ok (.astore 5, 2) := by decide +kernel
theorem dX11_row_51 : decode cX11_row 51 = .ok (.aload 5, 2) := by decide +kernel
theorem dX11_row_53 : decode cX11_row 53 = .ok (.getfield 118, 3) := by decide +kernel
theorem dX11_row_56 : decode cX11_row 56 = .ok (.iload_n 2, 1) := by decide +kernel
theorem dX11_row_57 : decode cX11_row 57 = .ok (.iaload, 1) := by decide +kernel
theorem dX11_row_58 : decode cX11_row 58 = .ok (.istore 6, 2) := by decide +kernel
theorem dX11_row_60 : decode cX11_row 60 = .ok (.aload 5, 2) := by decide +kernel
theorem dX11_row_62 : decode cX11_row 62 = .ok (.getfield 118, 3) := by decide +kernel
theorem dX11_row_65 : decode cX11_row 65 = .ok (.iload_n 2, 1) := by decide +kernel
theorem dX11_row_66 : decode cX11_row 66 = .ok (.iload_n 3, 1) := by decide +kernel
theorem dX11_row_67 : decode cX11_row 67 = .ok (.iastore, 1) := by decide +kernel
theorem dX11_row_68 : decode cX11_row 68 = .ok (.iload 6, 2) := by decide +kernel
theorem dX11_row_70 : decode cX11_row 70 = .ok (.ireturn, 1) := by decide +kernel
theorem dX11_row_71 : decode cX11_row 71 = .ok (.bipush (-3), 2) := by decide +kernel
theorem dX11_row_73 : decode cX11_row 73 = .ok (.ireturn, 1) := by decide +kernel
theorem dX11_told_0 : decode cX11_told 0 = .ok (.iload_n 1, 1) := by decide +kernel
theorem dX11_told_1 : decode cX11_told 1 = .ok (.tableswitch 57 0 2 #[27, 35, 46], 27) := by decide +kernel
theorem dX11_told_28 : decode cX11_told 28 = .ok (.aload_n 0, 1) := by decide +kernel
theorem dX11_told_29 : decode cX11_told 29 = .ok (.getfield 12, 3) := by decide +kernel
theorem dX11_told_32 : decode cX11_told 32 = .ok (.getfield 121, 3) := by decide +kernel
theorem dX11_told_35 : decode cX11_told 35 = .ok (.ireturn, 1) := by decide +kernel
theorem dX11_told_36 : decode cX11_told 36 = .ok (.aload_n 0, 1) := by decide +kernel
theorem dX11_told_37 : decode cX11_told 37 = .ok (.getfield 12, 3) := by decide +kernel
theorem dX11_told_40 : decode cX11_told 40 = .ok (.invokevirtual 124, 3) := by decide +kernel
theorem dX11_told_43 : decode cX11_told 43 = .ok (.getfield 127, 3) := by decide +kernel
theorem dX11_told_46 : decode cX11_told 46 = .ok (.ireturn, 1) := by decide +kernel
theorem dX11_told_47 : decode cX11_told 47 = .ok (.aload_n 0, 1) := by decide +kernel
theorem dX11_told_48 : decode cX11_told 48 = .ok (.getfield 12, 3) := by decide +kernel
theorem dX11_told_51 : decode cX11_told 51 = .ok (.invokevirtual 124, 3) := by decide +kernel
theorem dX11_told_54 : decode cX11_told 54 = .ok (.getfield 132, 3) := by decide +kernel
theorem dX11_told_57 : decode cX11_told 57 = .ok (.ireturn, 1) := by decide +kernel
theorem dX11_told_58 : decode cX11_told 58 = .ok (.iconst (-1), 1) := by decide +kernel
theorem dX11_told_59 : decode cX11_told 59 = .ok (.ireturn, 1) := by decide +kernel
theorem dX11_pile_0 : decode cX11_pile 0 = .ok (.aload_n 0, 1) := by decide +kernel
theorem dX11_pile_1 : decode cX11_pile 1 = .ok (.iload_n 1, 1) := by decide +kernel
theorem dX11_pile_2 : decode cX11_pile 2 = .ok (.invokevirtual 99, 3) := by decide +kernel
theorem dX11_pile_5 : decode cX11_pile 5 = .ok (.astore 5, 2) := by decide +kernel
theorem dX11_pile_7 : decode cX11_pile 7 = .ok (.aload 5, 2) := by decide +kernel
theorem dX11_pile_9 : decode cX11_pile 9 = .ok (.ifnull 13, 3) := by decide +kernel
theorem dX11_pile_12 : decode cX11_pile 12 = .ok (.iload 4, 2) := by decide +kernel
theorem dX11_pile_14 : decode cX11_pile 14 = .ok (.iconst 0, 1) := by decide +kernel
theorem dX11_pile_15 : decode cX11_pile 15 = .ok (.iconst 1, 1) := by decide +kernel
theorem dX11_pile_16 : decode cX11_pile 16 = .ok (.invokestatic 41, 3) := by decide +kernel
theorem dX11_pile_19 : decode cX11_pile 19 = .ok (.ifCond .eq 7, 3) := by decide +kernel
theorem dX11_pile_22 : decode cX11_pile 22 = .ok (.sipush (-1001), 3) := by decide +kernel
theorem dX11_pile_25 : decode cX11_pile 25 = .ok (.ireturn, 1) := by decide +kernel
theorem dX11_pile_26 : decode cX11_pile 26 = .ok (.iload_n 2, 1) := by decide +kernel
theorem dX11_pile_27 : decode cX11_pile 27 = .ok (.invokestatic 135, 3) := by decide +kernel
theorem dX11_pile_30 : decode cX11_pile 30 = .ok (.ifCond .ne 10, 3) := by decide +kernel
theorem dX11_pile_33 : decode cX11_pile 33 = .ok (.iload_n 3, 1) := by decide +kernel
theorem dX11_pile_34 : decode cX11_pile 34 = .ok (.invokestatic 139, 3) := by decide +kernel
theorem dX11_pile_37 : decode cX11_pile 37 = .ok (.ifCond .eq 7, 3) := by decide +kernel
theorem dX11_pile_40 : decode cX11_pile 40 = .ok (.sipush (-1002), 3) := by decide +kernel
theorem dX11_pile_43 : decode cX11_pile 43 = .ok (.ireturn, 1) := by decide +kernel
theorem dX11_pile_44 : decode cX11_pile 44 = .ok (.aload_n 0, 1) := by decide +kernel
theorem dX11_pile_45 : decode cX11_pile 45 = .ok (.aload 5, 2) := by decide +kernel
theorem dX11_pile_47 : decode cX11_pile 47 = .ok (.iload_n 2, 1) := by decide +kernel
theorem dX11_pile_48 : decode cX11_pile 48 = .ok (.invokevirtual 142, 3) := by decide +kernel
theorem dX11_pile_51 : decode cX11_pile 51 = .ok (.iload 4, 2) := by decide +kernel
theorem dX11_pile_53 : decode cX11_pile 53 = .ok (.ifCond .ne 14, 3) := by decide +kernel
theorem dX11_pile_56 : decode cX11_pile 56 = .ok (.aload_n 0, 1) := by decide +kernel
theorem dX11_pile_57 : decode cX11_pile 57 = .ok (.getfield 24, 3) := by decide +kernel
theorem dX11_pile_60 : decode cX11_pile 60 = .ok (.iload_n 3, 1) := by decide +kernel
theorem dX11_pile_61 : decode cX11_pile 61 = .ok (.invokevirtual 146, 3) := by decide +kernel
theorem dX11_pile_64 : decode cX11_pile 64 = .ok (.goto 10, 3) := by decide +kernel
theorem dX11_pile_67 : decode cX11_pile 67 = .ok (.aload_n 0, 1) := by decide +kernel
theorem dX11_pile_68 : decode cX11_pile 68 = .ok (.getfield 24, 3) := by decide +kernel
theorem dX11_pile_71 : decode cX11_pile 71 = .ok (.getfield 150, 3) := by decide +kernel
theorem dX11_pile_74 : decode cX11_pile 74 = .ok (.ireturn, 1) := by decide +kernel
theorem dX11_would_0 : decode cX11_would 0 = .ok (.aload_n 0, 1) := by decide +kernel
theorem dX11_would_1 : decode cX11_would 1 = .ok (.iload_n 1, 1) := by decide +kernel
theorem dX11_would_2 : decode cX11_would 2 = .ok (.invokevirtual 99, 3) := by decide +kernel
theorem dX11_would_5 : decode cX11_would 5 = .ok (.astore 5, 2) := by decide +kernel
theorem dX11_would_7 : decode cX11_would 7 = .ok (.aload 5, 2) := by decide +kernel
theorem dX11_would_9 : decode cX11_would 9 = .ok (.ifnonnull 5, 3) := by decide +kernel
theorem dX11_would_12 : decode cX11_would 12 = .ok (.iconst (-1), 1) := by decide +kernel
theorem dX11_would_13 : decode cX11_would 13 = .ok (.ireturn, 1) := by decide +kernel
theorem dX11_would_14 : decode cX11_would 14 = .ok (.iload_n 2, 1) := by decide +kernel
theorem dX11_would_15 : decode cX11_would 15 = .ok (.invokestatic 135, 3) := by decide +kernel
theorem dX11_would_18 : decode cX11_would 18 = .ok (.ifCond .ne 18, 3) := by decide +kernel
theorem dX11_would_21 : decode cX11_would 21 = .ok (.iload_n 3, 1) := by decide +kernel
theorem dX11_would_22 : decode cX11_would 22 = .ok (.invokestatic 139, 3) := by decide +kernel
theorem dX11_would_25 : decode cX11_would 25 = .ok (.ifCond .ne 11, 3) := by decide +kernel
theorem dX11_would_28 : decode cX11_would 28 = .ok (.iload 4, 2) := by decide +kernel
theorem dX11_would_30 : decode cX11_would 30 = .ok (.invokestatic 153, 3) := by decide +kernel
theorem dX11_would_33 : decode cX11_would 33 = .ok (.ifCond .eq 6, 3) := by decide +kernel
theorem dX11_would_36 : decode cX11_would 36 = .ok (.bipush (-2), 2) := by decide +kernel
theorem dX11_would_38 : decode cX11_would 38 = .ok (.ireturn, 1) := by decide +kernel
theorem dX11_would_39 : decode cX11_would 39 = .ok (.aload_n 0, 1) := by decide +kernel
theorem dX11_would_40 : decode cX11_would 40 = .ok (.aload 5, 2) := by decide +kernel
theorem dX11_would_42 : decode cX11_would 42 = .ok (.iload_n 2, 1) := by decide +kernel
theorem dX11_would_43 : decode cX11_would 43 = .ok (.invokevirtual 142, 3) := by decide +kernel
theorem dX11_would_46 : decode cX11_would 46 = .ok (.aload_n 0, 1) := by decide +kernel
theorem dX11_would_47 : decode cX11_would 47 = .ok (.getfield 24, 3) := by decide +kernel
theorem dX11_would_50 : decode cX11_would 50 = .ok (.iload_n 3, 1) := by decide +kernel
theorem dX11_would_51 : decode cX11_would 51 = .ok (.iload 4, 2) := by decide +kernel
theorem dX11_would_53 : decode cX11_would 53 = .ok (.invokevirtual 156, 3) := by decide +kernel
theorem dX11_would_56 : decode cX11_would 56 = .ok (.ireturn, 1) := by decide +kernel
theorem dX11_go_0 : decode cX11_go 0 = .ok (.aload_n 0, 1) := by decide +kernel
theorem dX11_go_1 : decode cX11_go 1 = .ok (.iload_n 1, 1) := by decide +kernel
theorem dX11_go_2 : decode cX11_go 2 = .ok (.invokevirtual 99, 3) := by decide +kernel
theorem dX11_go_5 : decode cX11_go 5 = .ok (.astore 5, 2) := by decide +kernel
theorem dX11_go_7 : decode cX11_go 7 = .ok (.aload 5, 2) := by decide +kernel
theorem dX11_go_9 : decode cX11_go 9 = .ok (.ifnonnull 5, 3) := by decide +kernel
theorem dX11_go_12 : decode cX11_go 12 = .ok (.iconst (-1), 1) := by decide +kernel
theorem dX11_go_13 : decode cX11_go 13 = .ok (.ireturn, 1) := by decide +kernel
theorem dX11_go_14 : decode cX11_go 14 = .ok (.iload_n 2, 1) := by decide +kernel
theorem dX11_go_15 : decode cX11_go 15 = .ok (.invokestatic 135, 3) := by decide +kernel
theorem dX11_go_18 : decode cX11_go 18 = .ok (.ifCond .ne 18, 3) := by decide +kernel
theorem dX11_go_21 : decode cX11_go 21 = .ok (.iload_n 3, 1) := by decide +kernel
theorem dX11_go_22 : decode cX11_go 22 = .ok (.invokestatic 139, 3) := by decide +kernel
theorem dX11_go_25 : decode cX11_go 25 = .ok (.ifCond .ne 11, 3) := by decide +kernel
theorem dX11_go_28 : decode cX11_go 28 = .ok (.iload 4, 2) := by decide +kernel
theorem dX11_go_30 : decode cX11_go 30 = .ok (.invokestatic 153, 3) := by decide +kernel
theorem dX11_go_33 : decode cX11_go 33 = .ok (.ifCond .eq 6, 3) := by decide +kernel
theorem dX11_go_36 : decode cX11_go 36 = .ok (.bipush (-2), 2) := by decide +kernel
theorem dX11_go_38 : decode cX11_go 38 = .ok (.ireturn, 1) := by decide +kernel
theorem dX11_go_39 : decode cX11_go 39 = .ok (.aload_n 0, 1) := by decide +kernel
theorem dX11_go_40 : decode cX11_go 40 = .ok (.getfield 12, 3) := by decide +kernel
theorem dX11_go_43 : decode cX11_go 43 = .ok (.getfield 121, 3) := by decide +kernel
theorem dX11_go_46 : decode cX11_go 46 = .ok (.sipush 9999, 3) := by decide +kernel
theorem dX11_go_49 : decode cX11_go 49 = .ok (.if_icmp .lt 6, 3) := by decide +kernel
theorem dX11_go_52 : decode cX11_go 52 = .ok (.bipush (-3), 2) := by decide +kernel
theorem dX11_go_54 : decode cX11_go 54 = .ok (.ireturn, 1) := by decide +kernel
theorem dX11_go_55 : decode cX11_go 55 = .ok (.aload_n 0, 1) := by decide +kernel
theorem dX11_go_56 : decode cX11_go 56 = .ok (.aload 5, 2) := by decide +kernel
theorem dX11_go_58 : decode cX11_go 58 = .ok (.iload_n 2, 1) := by decide +kernel
theorem dX11_go_59 : decode cX11_go 59 = .ok (.invokevirtual 142, 3) := by decide +kernel
theorem dX11_go_62 : decode cX11_go 62 = .ok (.aload_n 0, 1) := by decide +kernel
theorem dX11_go_63 : decode cX11_go 63 = .ok (.getfield 24, 3) := by decide +kernel
theorem dX11_go_66 : decode cX11_go 66 = .ok (.iload_n 3, 1) := by decide +kernel
theorem dX11_go_67 : decode cX11_go 67 = .ok (.iload 4, 2) := by decide +kernel
theorem dX11_go_69 : decode cX11_go 69 = .ok (.invokevirtual 156, 3) := by decide +kernel
theorem dX11_go_72 : decode cX11_go 72 = .ok (.istore 6, 2) := by decide +kernel
theorem dX11_go_74 : decode cX11_go 74 = .ok (.aload 5, 2) := by decide +kernel
theorem dX11_go_76 : decode cX11_go 76 = .ok (.iload_n 2, 1) := by decide +kernel
theorem dX11_go_77 : decode cX11_go 77 = .ok (.iload 6, 2) := by decide +kernel
theorem dX11_go_79 : decode cX11_go 79 = .ok (.aload_n 0, 1) := by decide +kernel
theorem dX11_go_80 : decode cX11_go 80 = .ok (.getfield 12, 3) := by decide +kernel
theorem dX11_go_83 : decode cX11_go 83 = .ok (.invokevirtual 124, 3) := by decide +kernel
theorem dX11_go_86 : decode cX11_go 86 = .ok (.getfield 132, 3) := by decide +kernel
theorem dX11_go_89 : decode cX11_go 89 = .ok (.invokevirtual 159, 3) := by decide +kernel
theorem dX11_go_92 : decode cX11_go 92 = .ok (.aload_n 0, 1) := by decide +kernel
theorem dX11_go_93 : decode cX11_go 93 = .ok (.getfield 12, 3) := by decide +kernel
theorem dX11_go_96 : decode cX11_go 96 = .ok (.dup, 1) := by decide +kernel
theorem dX11_go_97 : decode cX11_go 97 = .ok (.getfield 121, 3) := by decide +kernel
theorem dX11_go_100 : decode cX11_go 100 = .ok (.iconst 1, 1) := by decide +kernel
theorem dX11_go_101 : decode cX11_go 101 = .ok (.iadd, 1) := by decide +kernel
theorem dX11_go_102 : decode cX11_go 102 = .ok (.putfield 121, 3) := by decide +kernel
theorem dX11_go_105 : decode cX11_go 105 = .ok (.iload 6, 2) := by decide +kernel
theorem dX11_go_107 : decode cX11_go 107 = .ok (.ireturn, 1) := by decide +kernel
theorem dX11_odds_0 : decode cX11_odds 0 = .ok (.aload_n 0, 1) := by decide +kernel
theorem dX11_odds_1 : decode cX11_odds 1 = .ok (.iload_n 1, 1) := by decide +kernel
theorem dX11_odds_2 : decode cX11_odds 2 = .ok (.invokevirtual 99, 3) := by decide +kernel
theorem dX11_odds_5 : decode cX11_odds 5 = .ok (.astore 4, 2) := by decide +kernel
theorem dX11_odds_7 : decode cX11_odds 7 = .ok (.aload 4, 2) := by decide +kernel
theorem dX11_odds_9 : decode cX11_odds 9 = .ok (.ifnonnull 5, 3) := by decide +kernel
theorem dX11_odds_12 : decode cX11_odds 12 = .ok (.iconst (-1), 1) := by decide +kernel
theorem dX11_odds_13 : decode cX11_odds 13 = .ok (.ireturn, 1) := by decide +kernel
theorem dX11_odds_14 : decode cX11_odds 14 = .ok (.iload_n 2, 1) := by decide +kernel
theorem dX11_odds_15 : decode cX11_odds 15 = .ok (.invokestatic 135, 3) := by decide +kernel
theorem dX11_odds_18 : decode cX11_odds 18 = .ok (.ifCond .ne 10, 3) := by decide +kernel
theorem dX11_odds_21 : decode cX11_odds 21 = .ok (.iload_n 3, 1) := by decide +kernel
theorem dX11_odds_22 : decode cX11_odds 22 = .ok (.invokestatic 139, 3) := by decide +kernel
theorem dX11_odds_25 : decode cX11_odds 25 = .ok (.ifCond .eq 6, 3) := by decide +kernel
theorem dX11_odds_28 : decode cX11_odds 28 = .ok (.bipush (-2), 2) := by decide +kernel
theorem dX11_odds_30 : decode cX11_odds 30 = .ok (.ireturn, 1) := by decide +kernel
theorem dX11_odds_31 : decode cX11_odds 31 = .ok (.aload_n 0, 1) := by decide +kernel
theorem dX11_odds_32 : decode cX11_odds 32 = .ok (.aload 4, 2) := by decide +kernel
theorem dX11_odds_34 : decode cX11_odds 34 = .ok (.iload_n 2, 1) := by decide +kernel
theorem dX11_odds_35 : decode cX11_odds 35 = .ok (.invokevirtual 142, 3) := by decide +kernel
theorem dX11_odds_38 : decode cX11_odds 38 = .ok (.aload_n 0, 1) := by decide +kernel
theorem dX11_odds_39 : decode cX11_odds 39 = .ok (.getfield 24, 3) := by decide +kernel
theorem dX11_odds_42 : decode cX11_odds 42 = .ok (.iload_n 3, 1) := by decide +kernel
theorem dX11_odds_43 : decode cX11_odds 43 = .ok (.invokevirtual 163, 3) := by decide +kernel
theorem dX11_odds_46 : decode cX11_odds 46 = .ok (.ireturn, 1) := by decide +kernel
theorem dX11_mean_0 : decode cX11_mean 0 = .ok (.aload_n 0, 1) := by decide +kernel
theorem dX11_mean_1 : decode cX11_mean 1 = .ok (.iload_n 1, 1) := by decide +kernel
theorem dX11_mean_2 : decode cX11_mean 2 = .ok (.invokevirtual 99, 3) := by decide +kernel
theorem dX11_mean_5 : decode cX11_mean 5 = .ok (.astore 5, 2) := by decide +kernel
theorem dX11_mean_7 : decode cX11_mean 7 = .ok (.aload 5, 2) := by decide +kernel
theorem dX11_mean_9 : decode cX11_mean 9 = .ok (.ifnull 25, 3) := by decide +kernel
theorem dX11_mean_12 : decode cX11_mean 12 = .ok (.iload_n 2, 1) := by decide +kernel
theorem dX11_mean_13 : decode cX11_mean 13 = .ok (.invokestatic 135, 3) := by decide +kernel
theorem dX11_mean_16 : decode cX11_mean 16 = .ok (.ifCond .ne 18, 3) := by decide +kernel
theorem dX11_mean_19 : decode cX11_mean 19 = .ok (.iload_n 3, 1) := by decide +kernel
theorem dX11_mean_20 : decode cX11_mean 20 = .ok (.invokestatic 139, 3) := by decide +kernel
theorem dX11_mean_23 : decode cX11_mean 23 = .ok (.ifCond .ne 11, 3) := by decide +kernel
theorem dX11_mean_26 : decode cX11_mean 26 = .ok (.iload 4, 2) := by decide +kernel
theorem dX11_mean_28 : decode cX11_mean 28 = .ok (.invokestatic 166, 3) := by decide +kernel
theorem dX11_mean_31 : decode cX11_mean 31 = .ok (.ifCond .eq 7, 3) := by decide +kernel
theorem dX11_mean_34 : decode cX11_mean 34 = .ok (.ldc2_w 169, 3) := by decide +kernel
theorem dX11_mean_37 : decode cX11_mean 37 = .ok (.lreturn, 1) := by decide +kernel
theorem dX11_mean_38 : decode cX11_mean 38 = .ok (.aload_n 0, 1) := by decide +kernel
theorem dX11_mean_39 : decode cX11_mean 39 = .ok (.aload 5, 2) := by decide +kernel
theorem dX11_mean_41 : decode cX11_mean 41 = .ok (.iload_n 2, 1) := by decide +kernel
theorem dX11_mean_42 : decode cX11_mean 42 = .ok (.invokevirtual 142, 3) := by decide +kernel
theorem dX11_mean_45 : decode cX11_mean 45 = .ok (.aload_n 0, 1) := by decide +kernel
theorem dX11_mean_46 : decode cX11_mean 46 = .ok (.getfield 24, 3) := by decide +kernel
theorem dX11_mean_49 : decode cX11_mean 49 = .ok (.iload_n 3, 1) := by decide +kernel
theorem dX11_mean_50 : decode cX11_mean 50 = .ok (.invokevirtual 171, 3) := by decide +kernel
theorem dX11_mean_53 : decode cX11_mean 53 = .ok (.i2l, 1) := by decide +kernel
theorem dX11_mean_54 : decode cX11_mean 54 = .ok (.ldc2_w 174, 3) := by decide +kernel
theorem dX11_mean_57 : decode cX11_mean 57 = .ok (.iload 4, 2) := by decide +kernel
theorem dX11_mean_59 : decode cX11_mean 59 = .ok (.invokestatic 176, 3) := by decide +kernel
theorem dX11_mean_62 : decode cX11_mean 62 = .ok (.lreturn, 1) := by decide +kernel
theorem dX11_best_0 : decode cX11_best 0 = .ok (.aload_n 0, 1) := by decide +kernel
theorem dX11_best_1 : decode cX11_best 1 = .ok (.iload_n 1, 1) := by decide +kernel
theorem dX11_best_2 : decode cX11_best 2 = .ok (.invokevirtual 99, 3) := by decide +kernel
theorem dX11_best_5 : decode cX11_best 5 = .ok (.astore 4, 2) := by decide +kernel
theorem dX11_best_7 : decode cX11_best 7 = .ok (.aload 4, 2) := by decide +kernel
theorem dX11_best_9 : decode cX11_best 9 = .ok (.ifnull 12, 3) := by decide +kernel
theorem dX11_best_12 : decode cX11_best 12 = .ok (.iload_n 3, 1) := by decide +kernel
theorem dX11_best_13 : decode cX11_best 13 = .ok (.iconst 0, 1) := by decide +kernel
theorem dX11_best_14 : decode cX11_best 14 = .ok (.iconst 1, 1) := by decide +kernel
theorem dX11_best_15 : decode cX11_best 15 = .ok (.invokestatic 41, 3) := by decide +kernel
theorem dX11_best_18 : decode cX11_best 18 = .ok (.ifCond .eq 5, 3) := by decide +kernel
theorem dX11_best_21 : decode cX11_best 21 = .ok (.iconst (-1), 1) := by decide +kernel
theorem dX11_best_22 : decode cX11_best 22 = .ok (.ireturn, 1) := by decide +kernel
theorem dX11_best_23 : decode cX11_best 23 = .ok (.iload_n 2, 1) := by decide +kernel
theorem dX11_best_24 : decode cX11_best 24 = .ok (.invokestatic 135, 3) := by decide +kernel
theorem dX11_best_27 : decode cX11_best 27 = .ok (.ifCond .eq 6, 3) := by decide +kernel
theorem dX11_best_30 : decode cX11_best 30 = .ok (.bipush (-2), 2) := by decide +kernel
theorem dX11_best_32 : decode cX11_best 32 = .ok (.ireturn, 1) := by decide +kernel
theorem dX11_best_33 : decode cX11_best 33 = .ok (.aload_n 0, 1) := by decide +kernel
theorem dX11_best_34 : decode cX11_best 34 = .ok (.aload 4, 2) := by decide +kernel
theorem dX11_best_36 : decode cX11_best 36 = .ok (.iload_n 2, 1) := by decide +kernel
theorem dX11_best_37 : decode cX11_best 37 = .ok (.invokevirtual 142, 3) := by decide +kernel
theorem dX11_best_40 : decode cX11_best 40 = .ok (.iload_n 3, 1) := by decide +kernel
theorem dX11_best_41 : decode cX11_best 41 = .ok (.ifCond .ne 13, 3) := by decide +kernel
theorem dX11_best_44 : decode cX11_best 44 = .ok (.aload_n 0, 1) := by decide +kernel
theorem dX11_best_45 : decode cX11_best 45 = .ok (.getfield 24, 3) := by decide +kernel
theorem dX11_best_48 : decode cX11_best 48 = .ok (.invokevirtual 180, 3) := by decide +kernel
theorem dX11_best_51 : decode cX11_best 51 = .ok (.goto 10, 3) := by decide +kernel
theorem dX11_best_54 : decode cX11_best 54 = .ok (.aload_n 0, 1) := by decide +kernel
theorem dX11_best_55 : decode cX11_best 55 = .ok (.getfield 24, 3) := by decide +kernel
theorem dX11_best_58 : decode cX11_best 58 = .ok (.invokevirtual 184, 3) := by decide +kernel
theorem dX11_best_61 : decode cX11_best 61 = .ok (.ireturn, 1) := by decide +kernel
theorem dX11_most_0 : decode cX11_most 0 = .ok (.aload_n 0, 1) := by decide +kernel
theorem dX11_most_1 : decode cX11_most 1 = .ok (.iload_n 1, 1) := by decide +kernel
theorem dX11_most_2 : decode cX11_most 2 = .ok (.invokevirtual 99, 3) := by decide +kernel
theorem dX11_most_5 : decode cX11_most 5 = .ok (.astore_n 2, 1) := by decide +kernel
theorem dX11_most_6 : decode cX11_most 6 = .ok (.aload_n 2, 1) := by decide +kernel
theorem dX11_most_7 : decode cX11_most 7 = .ok (.ifnonnull 5, 3) := by decide +kernel
theorem dX11_most_10 : decode cX11_most 10 = .ok (.iconst (-1), 1) := by decide +kernel
theorem dX11_most_11 : decode cX11_most 11 = .ok (.ireturn, 1) := by decide +kernel
theorem dX11_most_12 : decode cX11_most 12 = .ok (.aload_n 0, 1) := by decide +kernel
theorem dX11_most_13 : decode cX11_most 13 = .ok (.aload_n 2, 1) := by decide +kernel
theorem dX11_most_14 : decode cX11_most 14 = .ok (.aload_n 2, 1) := by decide +kernel
theorem dX11_most_15 : decode cX11_most 15 = .ok (.getfield 106, 3) := by decide +kernel
theorem dX11_most_18 : decode cX11_most 18 = .ok (.invokevirtual 187, 3) := by decide +kernel
theorem dX11_most_21 : decode cX11_most 21 = .ok (.ireturn, 1) := by decide +kernel
theorem dX11_learns_0 : decode cX11_learns 0 = .ok (.aload_n 0, 1) := by decide +kernel
theorem dX11_learns_1 : decode cX11_learns 1 = .ok (.iload_n 1, 1) := by decide +kernel
theorem dX11_learns_2 : decode cX11_learns 2 = .ok (.invokevirtual 99, 3) := by decide +kernel
theorem dX11_learns_5 : decode cX11_learns 5 = .ok (.astore_n 2, 1) := by decide +kernel
theorem dX11_learns_6 : decode cX11_learns 6 = .ok (.aload_n 2, 1) := by decide +kernel
theorem dX11_learns_7 : decode cX11_learns 7 = .ok (.ifnonnull 5, 3) := by decide +kernel
theorem dX11_learns_10 : decode cX11_learns 10 = .ok (.iconst (-1), 1) := by decide +kernel
theorem dX11_learns_11 : decode cX11_learns 11 = .ok (.ireturn, 1) := by decide +kernel
theorem dX11_learns_12 : decode cX11_learns 12 = .ok (.iconst (-1), 1) := by decide +kernel
theorem dX11_learns_13 : decode cX11_learns 13 = .ok (.istore_n 3, 1) := by decide +kernel
theorem dX11_learns_14 : decode cX11_learns 14 = .ok (.iconst (-1), 1) := by decide +kernel
theorem dX11_learns_15 : decode cX11_learns 15 = .ok (.istore 4, 2) := by decide +kernel
theorem dX11_learns_17 : decode cX11_learns 17 = .ok (.iconst 1, 1) := by decide +kernel
theorem dX11_learns_18 : decode cX11_learns 18 = .ok (.aload_n 2, 1) := by decide +kernel
theorem dX11_learns_19 : decode cX11_learns 19 = .ok (.getfield 109, 3) := by decide +kernel
theorem dX11_learns_22 : decode cX11_learns 22 = .ok (.iconst 5, 1) := by decide +kernel
theorem dX11_learns_23 : decode cX11_learns 23 = .ok (.isub, 1) := by decide +kernel
theorem dX11_learns_24 : decode cX11_learns 24 = .ok (.invokestatic 191, 3) := by decide +kernel
theorem dX11_learns_27 : decode cX11_learns 27 = .ok (.istore 5, 2) := by decide +kernel
theorem dX11_learns_29 : decode cX11_learns 29 = .ok (.iload 5, 2) := by decide +kernel
theorem dX11_learns_31 : decode cX11_learns 31 = .ok (.bipush 99, 2) := by decide +kernel
theorem dX11_learns_33 : decode cX11_learns 33 = .ok (.aload_n 2, 1) := by decide +kernel
theorem dX11_learns_34 : decode cX11_learns 34 = .ok (.getfield 109, 3) := by decide +kernel
theorem dX11_learns_37 : decode cX11_learns 37 = .ok (.iconst 5, 1) := by decide +kernel
theorem dX11_learns_38 : decode cX11_learns 38 = .ok (.iadd, 1) := by decide +kernel
theorem dX11_learns_39 : decode cX11_learns 39 = .ok (.invokestatic 196, 3) := by decide +kernel
theorem dX11_learns_42 : decode cX11_learns 42 = .ok (.if_icmp .gt 39, 3) := by decide +kernel
theorem dX11_learns_45 : decode cX11_learns 45 = .ok (.aload_n 0, 1) := by decide +kernel
theorem dX11_learns_46 : decode cX11_learns 46 = .ok (.aload_n 2, 1) := by decide +kernel
theorem dX11_learns_47 : decode cX11_learns 47 = .ok (.iload 5, 2) := by decide +kernel
theorem dX11_learns_49 : decode cX11_learns 49 = .ok (.invokevirtual 142, 3) := by decide +kernel
theorem dX11_learns_52 : decode cX11_learns 52 = .ok (.aload_n 0, 1) := by decide +kernel
theorem dX11_learns_53 : decode cX11_learns 53 = .ok (.getfield 24, 3) := by decide +kernel
theorem dX11_learns_56 : decode cX11_learns 56 = .ok (.invokevirtual 184, 3) := by decide +kernel
theorem dX11_learns_59 : decode cX11_learns 59 = .ok (.istore 6, 2) := by decide +kernel
theorem dX11_learns_61 : decode cX11_learns 61 = .ok (.iload 6, 2) := by decide +kernel
theorem dX11_learns_63 : decode cX11_learns 63 = .ok (.iload 4, 2) := by decide +kernel
theorem dX11_learns_65 : decode cX11_learns 65 = .ok (.if_icmp .lt 10, 3) := by decide +kernel
theorem dX11_learns_68 : decode cX11_learns 68 = .ok (.iload 5, 2) := by decide +kernel
theorem dX11_learns_70 : decode cX11_learns 70 = .ok (.istore_n 3, 1) := by decide +kernel
theorem dX11_learns_71 : decode cX11_learns 71 = .ok (.iload 6, 2) := by decide +kernel
theorem dX11_learns_73 : decode cX11_learns 73 = .ok (.istore 4, 2) := by decide +kernel
theorem dX11_learns_75 : decode cX11_learns 75 = .ok (.iinc 5 1, 3) := by decide +kernel
theorem dX11_learns_78 : decode cX11_learns 78 = .ok (.goto (-49), 3) := by decide +kernel
theorem dX11_learns_81 : decode cX11_learns 81 = .ok (.iload_n 3, 1) := by decide +kernel
theorem dX11_learns_82 : decode cX11_learns 82 = .ok (.ireturn, 1) := by decide +kernel
theorem dX11_plan_0 : decode cX11_plan 0 = .ok (.aload_n 0, 1) := by decide +kernel
theorem dX11_plan_1 : decode cX11_plan 1 = .ok (.iload_n 1, 1) := by decide +kernel
theorem dX11_plan_2 : decode cX11_plan 2 = .ok (.invokevirtual 99, 3) := by decide +kernel
theorem dX11_plan_5 : decode cX11_plan 5 = .ok (.astore 4, 2) := by decide +kernel
theorem dX11_plan_7 : decode cX11_plan 7 = .ok (.aload 4, 2) := by decide +kernel
theorem dX11_plan_9 : decode cX11_plan 9 = .ok (.ifnull 19, 3) := by decide +kernel
theorem dX11_plan_12 : decode cX11_plan 12 = .ok (.iload_n 2, 1) := by decide +kernel
theorem dX11_plan_13 : decode cX11_plan 13 = .ok (.iconst 1, 1) := by decide +kernel
theorem dX11_plan_14 : decode cX11_plan 14 = .ok (.iconst 3, 1) := by decide +kernel
theorem dX11_plan_15 : decode cX11_plan 15 = .ok (.invokestatic 41, 3) := by decide +kernel
theorem dX11_plan_18 : decode cX11_plan 18 = .ok (.ifCond .ne 10, 3) := by decide +kernel
theorem dX11_plan_21 : decode cX11_plan 21 = .ok (.iload_n 3, 1) := by decide +kernel
theorem dX11_plan_22 : decode cX11_plan 22 = .ok (.invokestatic 166, 3) := by decide +kernel
theorem dX11_plan_25 : decode cX11_plan 25 = .ok (.ifCond .eq 7, 3) := by decide +kernel
theorem dX11_plan_28 : decode cX11_plan 28 = .ok (.ldc2_w 169, 3) := by decide +kernel
theorem dX11_plan_31 : decode cX11_plan 31 = .ok (.lreturn, 1) := by decide +kernel
theorem dX11_plan_32 : decode cX11_plan 32 = .ok (.aload_n 0, 1) := by decide +kernel
theorem dX11_plan_33 : decode cX11_plan 33 = .ok (.aload 4, 2) := by decide +kernel
theorem dX11_plan_35 : decode cX11_plan 35 = .ok (.iload_n 2, 1) := by decide +kernel
theorem dX11_plan_36 : decode cX11_plan 36 = .ok (.invokevirtual 199, 3) := by decide +kernel
theorem dX11_plan_39 : decode cX11_plan 39 = .ok (.aload_n 0, 1) := by decide +kernel
theorem dX11_plan_40 : decode cX11_plan 40 = .ok (.aload 4, 2) := by decide +kernel
theorem dX11_plan_42 : decode cX11_plan 42 = .ok (.getfield 109, 3) := by decide +kernel
theorem dX11_plan_45 : decode cX11_plan 45 = .ok (.iconst 0, 1) := by decide +kernel
theorem dX11_plan_46 : decode cX11_plan 46 = .ok (.iload_n 2, 1) := by decide +kernel
theorem dX11_plan_47 : decode cX11_plan 47 = .ok (.invokevirtual 202, 3) := by decide +kernel
theorem dX11_plan_50 : decode cX11_plan 50 = .ok (.iload_n 2, 1) := by decide +kernel
theorem dX11_plan_51 : decode cX11_plan 51 = .ok (.invokestatic 206, 3) := by decide +kernel
theorem dX11_plan_54 : decode cX11_plan 54 = .ok (.iload_n 3, 1) := by decide +kernel
theorem dX11_plan_55 : decode cX11_plan 55 = .ok (.invokestatic 176, 3) := by decide +kernel
theorem dX11_plan_58 : decode cX11_plan 58 = .ok (.lreturn, 1) := by decide +kernel
theorem dX11_first_0 : decode cX11_first 0 = .ok (.aload_n 0, 1) := by decide +kernel
theorem dX11_first_1 : decode cX11_first 1 = .ok (.iload_n 1, 1) := by decide +kernel
theorem dX11_first_2 : decode cX11_first 2 = .ok (.invokevirtual 99, 3) := by decide +kernel
theorem dX11_first_5 : decode cX11_first 5 = .ok (.astore_n 3, 1) := by decide +kernel
theorem dX11_first_6 : decode cX11_first 6 = .ok (.aload_n 3, 1) := by decide +kernel
theorem dX11_first_7 : decode cX11_first 7 = .ok (.ifnonnull 5, 3) := by decide +kernel
theorem dX11_first_10 : decode cX11_first 10 = .ok (.iconst (-1), 1) := by decide +kernel
theorem dX11_first_11 : decode cX11_first 11 = .ok (.ireturn, 1) := by decide +kernel
theorem dX11_first_12 : decode cX11_first 12 = .ok (.iload_n 2, 1) := by decide +kernel
theorem dX11_first_13 : decode cX11_first 13 = .ok (.iconst 1, 1) := by decide +kernel
theorem dX11_first_14 : decode cX11_first 14 = .ok (.iconst 3, 1) := by decide +kernel
theorem dX11_first_15 : decode cX11_first 15 = .ok (.invokestatic 41, 3) := by decide +kernel
theorem dX11_first_18 : decode cX11_first 18 = .ok (.ifCond .eq 6, 3) := by decide +kernel
theorem dX11_first_21 : decode cX11_first 21 = .ok (.bipush (-2), 2) := by decide +kernel
theorem dX11_first_23 : decode cX11_first 23 = .ok (.ireturn, 1) := by decide +kernel
theorem dX11_first_24 : decode cX11_first 24 = .ok (.aload_n 0, 1) := by decide +kernel
theorem dX11_first_25 : decode cX11_first 25 = .ok (.aload_n 3, 1) := by decide +kernel
theorem dX11_first_26 : decode cX11_first 26 = .ok (.iload_n 2, 1) := by decide +kernel
theorem dX11_first_27 : decode cX11_first 27 = .ok (.invokevirtual 199, 3) := by decide +kernel
theorem dX11_first_30 : decode cX11_first 30 = .ok (.aload_n 0, 1) := by decide +kernel
theorem dX11_first_31 : decode cX11_first 31 = .ok (.aload_n 3, 1) := by decide +kernel
theorem dX11_first_32 : decode cX11_first 32 = .ok (.getfield 109, 3) := by decide +kernel
theorem dX11_first_35 : decode cX11_first 35 = .ok (.iconst 0, 1) := by decide +kernel
theorem dX11_first_36 : decode cX11_first 36 = .ok (.iload_n 2, 1) := by decide +kernel
theorem dX11_first_37 : decode cX11_first 37 = .ok (.iconst 1, 1) := by decide +kernel
theorem dX11_first_38 : decode cX11_first 38 = .ok (.isub, 1) := by decide +kernel
theorem dX11_first_39 : decode cX11_first 39 = .ok (.invokevirtual 202, 3) := by decide +kernel
theorem dX11_first_42 : decode cX11_first 42 = .ok (.lstore 4, 2) := by decide +kernel
theorem dX11_first_44 : decode cX11_first 44 = .ok (.ldc2_w 210, 3) := by decide +kernel
theorem dX11_first_47 : decode cX11_first 47 = .ok (.lstore 6, 2) := by decide +kernel
theorem dX11_first_49 : decode cX11_first 49 = .ok (.iconst 0, 1) := by decide +kernel
theorem dX11_first_50 : decode cX11_first 50 = .ok (.istore 8, 2) := by decide +kernel
theorem dX11_first_52 : decode cX11_first 52 = .ok (.iconst 0, 1) := by decide +kernel
theorem dX11_first_53 : decode cX11_first 53 = .ok (.istore 9, 2) := by decide +kernel
theorem dX11_first_55 : decode cX11_first 55 = .ok (.iload 9, 2) := by decide +kernel
theorem dX11_first_57 : decode cX11_first 57 = .ok (.bipush 12, 2) := by decide +kernel
theorem dX11_first_59 : decode cX11_first 59 = .ok (.if_icmp .ge 41, 3) := by decide +kernel
theorem dX11_first_62 : decode cX11_first 62 = .ok (.aload_n 0, 1) := by decide +kernel
theorem dX11_first_63 : decode cX11_first 63 = .ok (.iload 9, 2) := by decide +kernel
theorem dX11_first_65 : decode cX11_first 65 = .ok (.aload_n 3, 1) := by decide +kernel
theorem dX11_first_66 : decode cX11_first 66 = .ok (.getfield 109, 3) := by decide +kernel
theorem dX11_first_69 : decode cX11_first 69 = .ok (.iconst 0, 1) := by decide +kernel
theorem dX11_first_70 : decode cX11_first 70 = .ok (.iload_n 2, 1) := by decide +kernel
theorem dX11_first_71 : decode cX11_first 71 = .ok (.lload 4, 2) := by decide +kernel
theorem dX11_first_73 : decode cX11_first 73 = .ok (.invokevirtual 212, 3) := by decide +kernel
theorem dX11_first_76 : decode cX11_first 76 = .ok (.lstore 10, 2) := by decide +kernel
theorem dX11_first_78 : decode cX11_first 78 = .ok (.lload 10, 2) := by decide +kernel
theorem dX11_first_80 : decode cX11_first 80 = .ok (.lload 6, 2) := by decide +kernel
theorem dX11_first_82 : decode cX11_first 82 = .ok (.lcmp, 1) := by decide +kernel
theorem dX11_first_83 : decode cX11_first 83 = .ok (.ifCond .le 11, 3) := by decide +kernel
theorem dX11_first_86 : decode cX11_first 86 = .ok (.lload 10, 2) := by decide +kernel
theorem dX11_first_88 : decode cX11_first 88 = .ok (.lstore 6, 2) := by decide +kernel
theorem dX11_first_90 : decode cX11_first 90 = .ok (.iload 9, 2) := by decide +kernel
theorem dX11_first_92 : decode cX11_first 92 = .ok (.istore 8, 2) := by decide +kernel
theorem dX11_first_94 : decode cX11_first 94 = .ok (.iinc 9 1, 3) := by decide +kernel
theorem dX11_first_97 : decode cX11_first 97 = .ok (.goto (-42), 3) := by decide +kernel
theorem dX11_first_100 : decode cX11_first 100 = .ok (.iload 8, 2) := by decide +kernel
theorem dX11_first_102 : decode cX11_first 102 = .ok (.invokestatic 216, 3) := by decide +kernel
theorem dX11_first_105 : decode cX11_first 105 = .ok (.ireturn, 1) := by decide +kernel
theorem dX11_more_0 : decode cX11_more 0 = .ok (.aload_n 0, 1) := by decide +kernel
theorem dX11_more_1 : decode cX11_more 1 = .ok (.iload_n 1, 1) := by decide +kernel
theorem dX11_more_2 : decode cX11_more 2 = .ok (.invokevirtual 99, 3) := by decide +kernel
theorem dX11_more_5 : decode cX11_more 5 = .ok (.astore 5, 2) := by decide +kernel
theorem dX11_more_7 : decode cX11_more 7 = .ok (.aload_n 0, 1) := by decide +kernel
theorem dX11_more_8 : decode cX11_more 8 = .ok (.iload_n 2, 1) := by decide +kernel
theorem dX11_more_9 : decode cX11_more 9 = .ok (.invokevirtual 99, 3) := by decide +kernel
theorem dX11_more_12 : decode cX11_more 12 = .ok (.astore 6, 2) := by decide +kernel
theorem dX11_more_14 : decode cX11_more 14 = .ok (.aload 5, 2) := by decide +kernel
theorem dX11_more_16 : decode cX11_more 16 = .ok (.ifnull 31, 3) := by decide +kernel
theorem dX11_more_19 : decode cX11_more 19 = .ok (.aload 6, 2) := by decide +kernel
theorem dX11_more_21 : decode cX11_more 21 = .ok (.ifnull 26, 3) := by decide +kernel
theorem dX11_more_24 : decode cX11_more 24 = .ok (.iload_n 1, 1) := by decide +kernel
theorem dX11_more_25 : decode cX11_more 25 = .ok (.iload_n 2, 1) := by decide +kernel
theorem dX11_more_26 : decode cX11_more 26 = .ok (.if_icmp .eq 21, 3) := by decide +kernel
theorem dX11_more_29 : decode cX11_more 29 = .ok (.iload_n 3, 1) := by decide +kernel
theorem dX11_more_30 : decode cX11_more 30 = .ok (.iconst 1, 1) := by decide +kernel
theorem dX11_more_31 : decode cX11_more 31 = .ok (.bipush 6, 2) := by decide +kernel
theorem dX11_more_33 : decode cX11_more 33 = .ok (.invokestatic 41, 3) := by decide +kernel
theorem dX11_more_36 : decode cX11_more 36 = .ok (.ifCond .ne 11, 3) := by decide +kernel
theorem dX11_more_39 : decode cX11_more 39 = .ok (.iload 4, 2) := by decide +kernel
theorem dX11_more_41 : decode cX11_more 41 = .ok (.invokestatic 166, 3) := by decide +kernel
theorem dX11_more_44 : decode cX11_more 44 = .ok (.ifCond .eq 7, 3) := by decide +kernel
theorem dX11_more_47 : decode cX11_more 47 = .ok (.ldc2_w 169, 3) := by decide +kernel
theorem dX11_more_50 : decode cX11_more 50 = .ok (.lreturn, 1) := by decide +kernel
theorem dX11_more_51 : decode cX11_more 51 = .ok (.aload_n 0, 1) := by decide +kernel
theorem dX11_more_52 : decode cX11_more 52 = .ok (.aload 5, 2) := by decide +kernel
theorem dX11_more_54 : decode cX11_more 54 = .ok (.aload 6, 2) := by decide +kernel
theorem dX11_more_56 : decode cX11_more 56 = .ok (.invokestatic 219, 3) := by decide +kernel
theorem dX11_more_59 : decode cX11_more 59 = .ok (.invokevirtual 142, 3) := by decide +kernel
theorem dX11_more_62 : decode cX11_more 62 = .ok (.lconst 1, 1) := by decide +kernel
theorem dX11_more_63 : decode cX11_more 63 = .ok (.lstore 7, 2) := by decide +kernel
theorem dX11_more_65 : decode cX11_more 65 = .ok (.iconst 0, 1) := by decide +kernel
theorem dX11_more_66 : decode cX11_more 66 = .ok (.istore 9, 2) := by decide +kernel
theorem dX11_more_68 : decode cX11_more 68 = .ok (.iload 9, 2) := by decide +kernel
theorem dX11_more_70 : decode cX11_more 70 = .ok (.iload_n 3, 1) := by decide +kernel
theorem dX11_more_71 : decode cX11_more 71 = .ok (.if_icmp .ge 25, 3) := by decide +kernel
theorem dX11_more_74 : decode cX11_more 74 = .ok (.lload 7, 2) := by decide +kernel
theorem dX11_more_76 : decode cX11_more 76 = .ok (.bipush 10, 2) := by decide +kernel
theorem dX11_more_78 : decode cX11_more 78 = .ok (.aload_n 0, 1) := by decide +kernel
theorem dX11_more_79 : decode cX11_more 79 = .ok (.getfield 24, 3) := by decide +kernel
theorem dX11_more_82 : decode cX11_more 82 = .ok (.invokevirtual 184, 3) := by decide +kernel
theorem dX11_more_85 : decode cX11_more 85 = .ok (.isub, 1) := by decide +kernel
theorem dX11_more_86 : decode cX11_more 86 = .ok (.i2l, 1) := by decide +kernel
theorem dX11_more_87 : decode cX11_more 87 = .ok (.lmul, 1) := by decide +kernel
theorem dX11_more_88 : decode cX11_more 88 = .ok (.lstore 7, 2) := by decide +kernel
theorem dX11_more_90 : decode cX11_more 90 = .ok (.iinc 9 1, 3) := by decide +kernel
theorem dX11_more_93 : decode cX11_more 93 = .ok (.goto (-25), 3) := by decide +kernel
theorem dX11_more_96 : decode cX11_more 96 = .ok (.iload_n 3, 1) := by decide +kernel
theorem dX11_more_97 : decode cX11_more 97 = .ok (.invokestatic 206, 3) := by decide +kernel
theorem dX11_more_100 : decode cX11_more 100 = .ok (.lload 7, 2) := by decide +kernel
theorem dX11_more_102 : decode cX11_more 102 = .ok (.lsub, 1) := by decide +kernel
theorem dX11_more_103 : decode cX11_more 103 = .ok (.iload_n 3, 1) := by decide +kernel
theorem dX11_more_104 : decode cX11_more 104 = .ok (.invokestatic 206, 3) := by decide +kernel
theorem dX11_more_107 : decode cX11_more 107 = .ok (.iload 4, 2) := by decide +kernel
theorem dX11_more_109 : decode cX11_more 109 = .ok (.invokestatic 176, 3) := by decide +kernel
theorem dX11_more_112 : decode cX11_more 112 = .ok (.lreturn, 1) := by decide +kernel
theorem dX11_record_0 : decode cX11_record 0 = .ok (.aload_n 0, 1) := by decide +kernel
theorem dX11_record_1 : decode cX11_record 1 = .ok (.iload_n 1, 1) := by decide +kernel
theorem dX11_record_2 : decode cX11_record 2 = .ok (.invokevirtual 99, 3) := by decide +kernel
theorem dX11_record_5 : decode cX11_record 5 = .ok (.astore_n 3, 1) := by decide +kernel
theorem dX11_record_6 : decode cX11_record 6 = .ok (.aload_n 3, 1) := by decide +kernel
theorem dX11_record_7 : decode cX11_record 7 = .ok (.ifnonnull 5, 3) := by decide +kernel
theorem dX11_record_10 : decode cX11_record 10 = .ok (.iconst (-1), 1) := by decide +kernel
theorem dX11_record_11 : decode cX11_record 11 = .ok (.ireturn, 1) := by decide +kernel
theorem dX11_record_12 : decode cX11_record 12 = .ok (.iload_n 2, 1) := by decide +kernel
theorem dX11_record_13 : decode cX11_record 13 = .ok (.invokestatic 135, 3) := by decide +kernel
theorem dX11_record_16 : decode cX11_record 16 = .ok (.ifCond .eq 6, 3) := by decide +kernel
theorem dX11_record_19 : decode cX11_record 19 = .ok (.bipush (-2), 2) := by decide +kernel
theorem dX11_record_21 : decode cX11_record 21 = .ok (.ireturn, 1) := by decide +kernel
theorem dX11_record_22 : decode cX11_record 22 = .ok (.aload_n 0, 1) := by decide +kernel
theorem dX11_record_23 : decode cX11_record 23 = .ok (.aload_n 3, 1) := by decide +kernel
theorem dX11_record_24 : decode cX11_record 24 = .ok (.iload_n 2, 1) := by decide +kernel
theorem dX11_record_25 : decode cX11_record 25 = .ok (.invokevirtual 142, 3) := by decide +kernel
theorem dX11_record_28 : decode cX11_record 28 = .ok (.bipush 10, 2) := by decide +kernel
theorem dX11_record_30 : decode cX11_record 30 = .ok (.aload_n 0, 1) := by decide +kernel
theorem dX11_record_31 : decode cX11_record 31 = .ok (.getfield 24, 3) := by decide +kernel
theorem dX11_record_34 : decode cX11_record 34 = .ok (.invokevirtual 184, 3) := by decide +kernel
theorem dX11_record_37 : decode cX11_record 37 = .ok (.isub, 1) := by decide +kernel
theorem dX11_record_38 : decode cX11_record 38 = .ok (.i2l, 1) := by decide +kernel
theorem dX11_record_39 : decode cX11_record 39 = .ok (.lstore 4, 2) := by decide +kernel
theorem dX11_record_41 : decode cX11_record 41 = .ok (.lconst 1, 1) := by decide +kernel
theorem dX11_record_42 : decode cX11_record 42 = .ok (.lstore 6, 2) := by decide +kernel
theorem dX11_record_44 : decode cX11_record 44 = .ok (.iconst 1, 1) := by decide +kernel
theorem dX11_record_45 : decode cX11_record 45 = .ok (.istore 8, 2) := by decide +kernel
theorem dX11_record_47 : decode cX11_record 47 = .ok (.iload 8, 2) := by decide +kernel
theorem dX11_record_49 : decode cX11_record 49 = .ok (.bipush 9, 2) := by decide +kernel
theorem dX11_record_51 : decode cX11_record 51 = .ok (.if_icmp .gt 34, 3) := by decide +kernel
theorem dX11_record_54 : decode cX11_record 54 = .ok (.lload 6, 2) := by decide +kernel
theorem dX11_record_56 : decode cX11_record 56 = .ok (.lload 4, 2) := by decide +kernel
theorem dX11_record_58 : decode cX11_record 58 = .ok (.lmul, 1) := by decide +kernel
theorem dX11_record_59 : decode cX11_record 59 = .ok (.lstore 6, 2) := by decide +kernel
theorem dX11_record_61 : decode cX11_record 61 = .ok (.ldc2_w 223, 3) := by decide +kernel
theorem dX11_record_64 : decode cX11_record 64 = .ok (.lload 6, 2) := by decide +kernel
theorem dX11_record_66 : decode cX11_record 66 = .ok (.lmul, 1) := by decide +kernel
theorem dX11_record_67 : decode cX11_record 67 = .ok (.iload 8, 2) := by decide +kernel
theorem dX11_record_69 : decode cX11_record 69 = .ok (.invokestatic 206, 3) := by decide +kernel
theorem dX11_record_72 : decode cX11_record 72 = .ok (.lcmp, 1) := by decide +kernel
theorem dX11_record_73 : decode cX11_record 73 = .ok (.ifCond .gt 6, 3) := by decide +kernel
theorem dX11_record_76 : decode cX11_record 76 = .ok (.iload 8, 2) := by decide +kernel
theorem dX11_record_78 : decode cX11_record 78 = .ok (.ireturn, 1) := by decide +kernel
theorem dX11_record_79 : decode cX11_record 79 = .ok (.iinc 8 1, 3) := by decide +kernel
theorem dX11_record_82 : decode cX11_record 82 = .ok (.goto (-35), 3) := by decide +kernel
theorem dX11_record_85 : decode cX11_record 85 = .ok (.bipush (-5), 2) := by decide +kernel
theorem dX11_record_87 : decode cX11_record 87 = .ok (.ireturn, 1) := by decide +kernel
theorem dX11_raise_0 : decode cX11_raise 0 = .ok (.aload_n 0, 1) := by decide +kernel
theorem dX11_raise_1 : decode cX11_raise 1 = .ok (.iload_n 1, 1) := by decide +kernel
theorem dX11_raise_2 : decode cX11_raise 2 = .ok (.invokevirtual 99, 3) := by decide +kernel
theorem dX11_raise_5 : decode cX11_raise 5 = .ok (.astore 7, 2) := by decide +kernel
theorem dX11_raise_7 : decode cX11_raise 7 = .ok (.aload_n 0, 1) := by decide +kernel
theorem dX11_raise_8 : decode cX11_raise 8 = .ok (.iload_n 2, 1) := by decide +kernel
theorem dX11_raise_9 : decode cX11_raise 9 = .ok (.invokevirtual 99, 3) := by decide +kernel
theorem dX11_raise_12 : decode cX11_raise 12 = .ok (.astore 8, 2) := by decide +kernel
theorem dX11_raise_14 : decode cX11_raise 14 = .ok (.aload 7, 2) := by decide +kernel
theorem dX11_raise_16 : decode cX11_raise 16 = .ok (.ifnull 13, 3) := by decide +kernel
theorem dX11_raise_19 : decode cX11_raise 19 = .ok (.aload 8, 2) := by decide +kernel
theorem dX11_raise_21 : decode cX11_raise 21 = .ok (.ifnull 8, 3) := by decide +kernel
theorem dX11_raise_24 : decode cX11_raise 24 = .ok (.iload_n 1, 1) := by decide +kernel
theorem dX11_raise_25 : decode cX11_raise 25 = .ok (.iload_n 2, 1) := by decide +kernel
theorem dX11_raise_26 : decode cX11_raise 26 = .ok (.if_icmp .ne 7, 3) := by decide +kernel
theorem dX11_raise_29 : decode cX11_raise 29 = .ok (.ldc2_w 169, 3) := by decide +kernel
theorem dX11_raise_32 : decode cX11_raise 32 = .ok (.lreturn, 1) := by decide +kernel
theorem dX11_raise_33 : decode cX11_raise 33 = .ok (.iload_n 3, 1) := by decide +kernel
theorem dX11_raise_34 : decode cX11_raise 34 = .ok (.invokestatic 135, 3) := by decide +kernel
theorem dX11_raise_37 : decode cX11_raise 37 = .ok (.ifCond .ne 32, 3) := by decide +kernel
theorem dX11_raise_40 : decode cX11_raise 40 = .ok (.iload 4, 2) := by decide +kernel
theorem dX11_raise_42 : decode cX11_raise 42 = .ok (.iconst 1, 1) := by decide +kernel
theorem dX11_raise_43 : decode cX11_raise 43 = .ok (.bipush 8, 2) := by decide +kernel
theorem dX11_raise_45 : decode cX11_raise 45 = .ok (.invokestatic 41, 3) := by decide +kernel
theorem dX11_raise_48 : decode cX11_raise 48 = .ok (.ifCond .ne 21, 3) := by decide +kernel
theorem dX11_raise_51 : decode cX11_raise 51 = .ok (.iload 5, 2) := by decide +kernel
theorem dX11_raise_53 : decode cX11_raise 53 = .ok (.iconst 0, 1) := by decide +kernel
theorem dX11_raise_54 : decode cX11_raise 54 = .ok (.iconst 1, 1) := by decide +kernel
theorem dX11_raise_55 : decode cX11_raise 55 = .ok (.invokestatic 41, 3) := by decide +kernel
theorem dX11_raise_58 : decode cX11_raise 58 = .ok (.ifCond .ne 11, 3) := by decide +kernel
theorem dX11_raise_61 : decode cX11_raise 61 = .ok (.iload 6, 2) := by decide +kernel
theorem dX11_raise_63 : decode cX11_raise 63 = .ok (.invokestatic 166, 3) := by decide +kernel
theorem dX11_raise_66 : decode cX11_raise 66 = .ok (.ifCond .eq 7, 3) := by decide +kernel
theorem dX11_raise_69 : decode cX11_raise 69 = .ok (.ldc2_w 169, 3) := by decide +kernel
theorem dX11_raise_72 : decode cX11_raise 72 = .ok (.lreturn, 1) := by decide +kernel
theorem dX11_raise_73 : decode cX11_raise 73 = .ok (.aload_n 0, 1) := by decide +kernel
theorem dX11_raise_74 : decode cX11_raise 74 = .ok (.aload 7, 2) := by decide +kernel
theorem dX11_raise_76 : decode cX11_raise 76 = .ok (.aload 8, 2) := by decide +kernel
theorem dX11_raise_78 : decode cX11_raise 78 = .ok (.iload_n 3, 1) := by decide +kernel
theorem dX11_raise_79 : decode cX11_raise 79 = .ok (.iload 4, 2) := by decide +kernel
theorem dX11_raise_81 : decode cX11_raise 81 = .ok (.iload 5, 2) := by decide +kernel
theorem dX11_raise_83 : decode cX11_raise 83 = .ok (.invokevirtual 225, 3) := by decide +kernel
theorem dX11_raise_86 : decode cX11_raise 86 = .ok (.iload 4, 2) := by decide +kernel
theorem dX11_raise_88 : decode cX11_raise 88 = .ok (.invokestatic 206, 3) := by decide +kernel
theorem dX11_raise_91 : decode cX11_raise 91 = .ok (.iload 6, 2) := by decide +kernel
theorem dX11_raise_93 : decode cX11_raise 93 = .ok (.invokestatic 176, 3) := by decide +kernel
theorem dX11_raise_96 : decode cX11_raise 96 = .ok (.lreturn, 1) := by decide +kernel
theorem dX11_wager_0 : decode cX11_wager 0 = .ok (.aload_n 0, 1) := by decide +kernel
theorem dX11_wager_1 : decode cX11_wager 1 = .ok (.iload_n 1, 1) := by decide +kernel
theorem dX11_wager_2 : decode cX11_wager 2 = .ok (.invokevirtual 99, 3) := by decide +kernel
theorem dX11_wager_5 : decode cX11_wager 5 = .ok (.astore 4, 2) := by decide +kernel
theorem dX11_wager_7 : decode cX11_wager 7 = .ok (.aload_n 0, 1) := by decide +kernel
theorem dX11_wager_8 : decode cX11_wager 8 = .ok (.iload_n 2, 1) := by decide +kernel
theorem dX11_wager_9 : decode cX11_wager 9 = .ok (.invokevirtual 99, 3) := by decide +kernel
theorem dX11_wager_12 : decode cX11_wager 12 = .ok (.astore 5, 2) := by decide +kernel
theorem dX11_wager_14 : decode cX11_wager 14 = .ok (.aload 4, 2) := by decide +kernel
theorem dX11_wager_16 : decode cX11_wager 16 = .ok (.ifnull 8, 3) := by decide +kernel
theorem dX11_wager_19 : decode cX11_wager 19 = .ok (.aload 5, 2) := by decide +kernel
theorem dX11_wager_21 : decode cX11_wager 21 = .ok (.ifnonnull 5, 3) := by decide +kernel
theorem dX11_wager_24 : decode cX11_wager 24 = .ok (.iconst (-1), 1) := by decide +kernel
theorem dX11_wager_25 : decode cX11_wager 25 = .ok (.ireturn, 1) := by decide +kernel
theorem dX11_wager_26 : decode cX11_wager 26 = .ok (.iload_n 1, 1) := by decide +kernel
theorem dX11_wager_27 : decode cX11_wager 27 = .ok (.iload_n 2, 1) := by decide +kernel
theorem dX11_wager_28 : decode cX11_wager 28 = .ok (.if_icmp .eq 14, 3) := by decide +kernel
theorem dX11_wager_31 : decode cX11_wager 31 = .ok (.iload_n 3, 1) := by decide +kernel
theorem dX11_wager_32 : decode cX11_wager 32 = .ok (.iconst 0, 1) := by decide +kernel
theorem dX11_wager_33 : decode cX11_wager 33 = .ok (.sipush 999, 3) := by decide +kernel
theorem dX11_wager_36 : decode cX11_wager 36 = .ok (.invokestatic 41, 3) := by decide +kernel
theorem dX11_wager_39 : decode cX11_wager 39 = .ok (.ifCond .eq 6, 3) := by decide +kernel
theorem dX11_wager_42 : decode cX11_wager 42 = .ok (.bipush (-2), 2) := by decide +kernel
theorem dX11_wager_44 : decode cX11_wager 44 = .ok (.ireturn, 1) := by decide +kernel
theorem dX11_wager_45 : decode cX11_wager 45 = .ok (.aload_n 0, 1) := by decide +kernel
theorem dX11_wager_46 : decode cX11_wager 46 = .ok (.aload 4, 2) := by decide +kernel
theorem dX11_wager_48 : decode cX11_wager 48 = .ok (.aload 5, 2) := by decide +kernel
theorem dX11_wager_50 : decode cX11_wager 50 = .ok (.invokestatic 219, 3) := by decide +kernel
theorem dX11_wager_53 : decode cX11_wager 53 = .ok (.invokevirtual 142, 3) := by decide +kernel
theorem dX11_wager_56 : decode cX11_wager 56 = .ok (.aload_n 0, 1) := by decide +kernel
theorem dX11_wager_57 : decode cX11_wager 57 = .ok (.getfield 24, 3) := by decide +kernel
theorem dX11_wager_60 : decode cX11_wager 60 = .ok (.invokevirtual 184, 3) := by decide +kernel
theorem dX11_wager_63 : decode cX11_wager 63 = .ok (.istore 6, 2) := by decide +kernel
theorem dX11_wager_65 : decode cX11_wager 65 = .ok (.iload_n 3, 1) := by decide +kernel
theorem dX11_wager_66 : decode cX11_wager 66 = .ok (.iload 6, 2) := by decide +kernel
theorem dX11_wager_68 : decode cX11_wager 68 = .ok (.imul, 1) := by decide +kernel
theorem dX11_wager_69 : decode cX11_wager 69 = .ok (.iload_n 3, 1) := by decide +kernel
theorem dX11_wager_70 : decode cX11_wager 70 = .ok (.bipush 10, 2) := by decide +kernel
theorem dX11_wager_72 : decode cX11_wager 72 = .ok (.iload 6, 2) := by decide +kernel
theorem dX11_wager_74 : decode cX11_wager 74 = .ok (.isub, 1) := by decide +kernel
theorem dX11_wager_75 : decode cX11_wager 75 = .ok (.imul, 1) := by decide +kernel
theorem dX11_wager_76 : decode cX11_wager 76 = .ok (.isub, 1) := by decide +kernel
theorem dX11_wager_77 : decode cX11_wager 77 = .ok (.istore 7, 2) := by decide +kernel
theorem dX11_wager_79 : decode cX11_wager 79 = .ok (.aload 4, 2) := by decide +kernel
theorem dX11_wager_81 : decode cX11_wager 81 = .ok (.getfield 92, 3) := by decide +kernel
theorem dX11_wager_84 : decode cX11_wager 84 = .ok (.iload_n 3, 1) := by decide +kernel
theorem dX11_wager_85 : decode cX11_wager 85 = .ok (.if_icmp .lt 12, 3) := by decide +kernel
theorem dX11_wager_88 : decode cX11_wager 88 = .ok (.iload 7, 2) := by decide +kernel
theorem dX11_wager_90 : decode cX11_wager 90 = .ok (.ifCond .le 7, 3) := by decide +kernel
theorem dX11_wager_93 : decode cX11_wager 93 = .ok (.iconst 1, 1) := by decide +kernel
theorem dX11_wager_94 : decode cX11_wager 94 = .ok (.goto 4, 3) := by decide +kernel
theorem dX11_wager_97 : decode cX11_wager 97 = .ok (.iconst 0, 1) := by decide +kernel
theorem dX11_wager_98 : decode cX11_wager 98 = .ok (.ireturn, 1) := by decide +kernel
theorem dX11_glass_0 : decode cX11_glass 0 = .ok (.aload_n 0, 1) := by decide +kernel
theorem dX11_glass_1 : decode cX11_glass 1 = .ok (.iload_n 1, 1) := by decide +kernel
theorem dX11_glass_2 : decode cX11_glass 2 = .ok (.invokevirtual 99, 3) := by decide +kernel
theorem dX11_glass_5 : decode cX11_glass 5 = .ok (.astore_n 3, 1) := by decide +kernel
theorem dX11_glass_6 : decode cX11_glass 6 = .ok (.aload_n 3, 1) := by decide +kernel
theorem dX11_glass_7 : decode cX11_glass 7 = .ok (.ifnull 12, 3) := by decide +kernel
theorem dX11_glass_10 : decode cX11_glass 10 = .ok (.iload_n 2, 1) := by decide +kernel
theorem dX11_glass_11 : decode cX11_glass 11 = .ok (.iconst 0, 1) := by decide +kernel
theorem dX11_glass_12 : decode cX11_glass 12 = .ok (.iconst 1, 1) := by decide +kernel
theorem dX11_glass_13 : decode cX11_glass 13 = .ok (.invokestatic 41, 3) := by decide +kernel
theorem dX11_glass_16 : decode cX11_glass 16 = .ok (.ifCond .eq 5, 3) := by decide +kernel
theorem dX11_glass_19 : decode cX11_glass 19 = .ok (.iconst (-1), 1) := by decide +kernel
theorem dX11_glass_20 : decode cX11_glass 20 = .ok (.ireturn, 1) := by decide +kernel
theorem dX11_glass_21 : decode cX11_glass 21 = .ok (.iconst 0, 1) := by decide +kernel
theorem dX11_glass_22 : decode cX11_glass 22 = .ok (.istore 4, 2) := by decide +kernel
theorem dX11_glass_24 : decode cX11_glass 24 = .ok (.iconst (-1), 1) := by decide +kernel
theorem dX11_glass_25 : decode cX11_glass 25 = .ok (.istore 5, 2) := by decide +kernel
theorem dX11_glass_27 : decode cX11_glass 27 = .ok (.iconst 0, 1) := by decide +kernel
theorem dX11_glass_28 : decode cX11_glass 28 = .ok (.istore 6, 2) := by decide +kernel
theorem dX11_glass_30 : decode cX11_glass 30 = .ok (.iload 6, 2) := by decide +kernel
theorem dX11_glass_32 : decode cX11_glass 32 = .ok (.bipush 9, 2) := by decide +kernel
theorem dX11_glass_34 : decode cX11_glass 34 = .ok (.if_icmp .gt 33, 3) := by decide +kernel
theorem dX11_glass_37 : decode cX11_glass 37 = .ok (.aload_n 0, 1) := by decide +kernel
theorem dX11_glass_38 : decode cX11_glass 38 = .ok (.aload_n 3, 1) := by decide +kernel
theorem dX11_glass_39 : decode cX11_glass 39 = .ok (.iload 6, 2) := by decide +kernel
theorem dX11_glass_41 : decode cX11_glass 41 = .ok (.invokevirtual 187, 3) := by decide +kernel
theorem dX11_glass_44 : decode cX11_glass 44 = .ok (.istore 7, 2) := by decide +kernel
theorem dX11_glass_46 : decode cX11_glass 46 = .ok (.iload 7, 2) := by decide +kernel
theorem dX11_glass_48 : decode cX11_glass 48 = .ok (.iload 5, 2) := by decide +kernel
theorem dX11_glass_50 : decode cX11_glass 50 = .ok (.if_icmp .le 11, 3) := by decide +kernel
theorem dX11_glass_53 : decode cX11_glass 53 = .ok (.iload 7, 2) := by decide +kernel
theorem dX11_glass_55 : decode cX11_glass 55 = .ok (.istore 5, 2) := by decide +kernel
theorem dX11_glass_57 : decode cX11_glass 57 = .ok (.iload 6, 2) := by decide +kernel
theorem dX11_glass_59 : decode cX11_glass 59 = .ok (.istore 4, 2) := by decide +kernel
theorem dX11_glass_61 : decode cX11_glass 61 = .ok (.iinc 6 1, 3) := by decide +kernel
theorem dX11_glass_64 : decode cX11_glass 64 = .ok (.goto (-34), 3) := by decide +kernel
theorem dX11_glass_67 : decode cX11_glass 67 = .ok (.iload_n 2, 1) := by decide +kernel
theorem dX11_glass_68 : decode cX11_glass 68 = .ok (.ifCond .ne 8, 3) := by decide +kernel
theorem dX11_glass_71 : decode cX11_glass 71 = .ok (.iload 4, 2) := by decide +kernel
theorem dX11_glass_73 : decode cX11_glass 73 = .ok (.goto 5, 3) := by decide +kernel
theorem dX11_glass_76 : decode cX11_glass 76 = .ok (.iload 5, 2) := by decide +kernel
theorem dX11_glass_78 : decode cX11_glass 78 = .ok (.ireturn, 1) := by decide +kernel
theorem dX11_stuck_0 : decode cX11_stuck 0 = .ok (.aload_n 0, 1) := by decide +kernel
theorem dX11_stuck_1 : decode cX11_stuck 1 = .ok (.iload_n 1, 1) := by decide +kernel
theorem dX11_stuck_2 : decode cX11_stuck 2 = .ok (.invokevirtual 99, 3) := by decide +kernel
theorem dX11_stuck_5 : decode cX11_stuck 5 = .ok (.astore_n 3, 1) := by decide +kernel
theorem dX11_stuck_6 : decode cX11_stuck 6 = .ok (.aload_n 3, 1) := by decide +kernel
theorem dX11_stuck_7 : decode cX11_stuck 7 = .ok (.ifnonnull 5, 3) := by decide +kernel
theorem dX11_stuck_10 : decode cX11_stuck 10 = .ok (.iconst (-1), 1) := by decide +kernel
theorem dX11_stuck_11 : decode cX11_stuck 11 = .ok (.ireturn, 1) := by decide +kernel
theorem dX11_stuck_12 : decode cX11_stuck 12 = .ok (.iload_n 2, 1) := by decide +kernel
theorem dX11_stuck_13 : decode cX11_stuck 13 = .ok (.invokestatic 135, 3) := by decide +kernel
theorem dX11_stuck_16 : decode cX11_stuck 16 = .ok (.ifCond .eq 6, 3) := by decide +kernel
theorem dX11_stuck_19 : decode cX11_stuck 19 = .ok (.bipush (-2), 2) := by decide +kernel
theorem dX11_stuck_21 : decode cX11_stuck 21 = .ok (.ireturn, 1) := by decide +kernel
theorem dX11_stuck_22 : decode cX11_stuck 22 = .ok (.aload_n 0, 1) := by decide +kernel
theorem dX11_stuck_23 : decode cX11_stuck 23 = .ok (.aload_n 3, 1) := by decide +kernel
theorem dX11_stuck_24 : decode cX11_stuck 24 = .ok (.iload_n 2, 1) := by decide +kernel
theorem dX11_stuck_25 : decode cX11_stuck 25 = .ok (.invokevirtual 142, 3) := by decide +kernel
theorem dX11_stuck_28 : decode cX11_stuck 28 = .ok (.iconst 0, 1) := by decide +kernel
theorem dX11_stuck_29 : decode cX11_stuck 29 = .ok (.aload_n 0, 1) := by decide +kernel
theorem dX11_stuck_30 : decode cX11_stuck 30 = .ok (.getfield 24, 3) := by decide +kernel
theorem dX11_stuck_33 : decode cX11_stuck 33 = .ok (.getfield 150, 3) := by decide +kernel
theorem dX11_stuck_36 : decode cX11_stuck 36 = .ok (.bipush 10, 2) := by decide +kernel
theorem dX11_stuck_38 : decode cX11_stuck 38 = .ok (.aload_n 3, 1) := by decide +kernel
theorem dX11_stuck_39 : decode cX11_stuck 39 = .ok (.getfield 89, 3) := by decide +kernel
theorem dX11_stuck_42 : decode cX11_stuck 42 = .ok (.imul, 1) := by decide +kernel
theorem dX11_stuck_43 : decode cX11_stuck 43 = .ok (.isub, 1) := by decide +kernel
theorem dX11_stuck_44 : decode cX11_stuck 44 = .ok (.invokestatic 191, 3) := by decide +kernel
theorem dX11_stuck_47 : decode cX11_stuck 47 = .ok (.istore 4, 2) := by decide +kernel
theorem dX11_stuck_49 : decode cX11_stuck 49 = .ok (.iload 4, 2) := by decide +kernel
theorem dX11_stuck_51 : decode cX11_stuck 51 = .ok (.bipush 99, 2) := by decide +kernel
theorem dX11_stuck_53 : decode cX11_stuck 53 = .ok (.if_icmp .gt 8, 3) := by decide +kernel
theorem dX11_stuck_56 : decode cX11_stuck 56 = .ok (.iload 4, 2) := by decide +kernel
theorem dX11_stuck_58 : decode cX11_stuck 58 = .ok (.goto 5, 3) := by decide +kernel
theorem dX11_stuck_61 : decode cX11_stuck 61 = .ok (.bipush (-5), 2) := by decide +kernel
theorem dX11_stuck_63 : decode cX11_stuck 63 = .ok (.ireturn, 1) := by decide +kernel
theorem dX11_floor_0 : decode cX11_floor 0 = .ok (.aload_n 0, 1) := by decide +kernel
theorem dX11_floor_1 : decode cX11_floor 1 = .ok (.iload_n 1, 1) := by decide +kernel
theorem dX11_floor_2 : decode cX11_floor 2 = .ok (.invokevirtual 99, 3) := by decide +kernel
theorem dX11_floor_5 : decode cX11_floor 5 = .ok (.astore 5, 2) := by decide +kernel
theorem dX11_floor_7 : decode cX11_floor 7 = .ok (.aload 5, 2) := by decide +kernel
theorem dX11_floor_9 : decode cX11_floor 9 = .ok (.ifnull 25, 3) := by decide +kernel
theorem dX11_floor_12 : decode cX11_floor 12 = .ok (.iload_n 2, 1) := by decide +kernel
theorem dX11_floor_13 : decode cX11_floor 13 = .ok (.invokestatic 135, 3) := by decide +kernel
theorem dX11_floor_16 : decode cX11_floor 16 = .ok (.ifCond .ne 18, 3) := by decide +kernel
theorem dX11_floor_19 : decode cX11_floor 19 = .ok (.iload_n 3, 1) := by decide +kernel
theorem dX11_floor_20 : decode cX11_floor 20 = .ok (.invokestatic 139, 3) := by decide +kernel
theorem dX11_floor_23 : decode cX11_floor 23 = .ok (.ifCond .ne 11, 3) := by decide +kernel
theorem dX11_floor_26 : decode cX11_floor 26 = .ok (.iload 4, 2) := by decide +kernel
theorem dX11_floor_28 : decode cX11_floor 28 = .ok (.invokestatic 166, 3) := by decide +kernel
theorem dX11_floor_31 : decode cX11_floor 31 = .ok (.ifCond .eq 7, 3) := by decide +kernel
theorem dX11_floor_34 : decode cX11_floor 34 = .ok (.ldc2_w 169, 3) := by decide +kernel
theorem dX11_floor_37 : decode cX11_floor 37 = .ok (.lreturn, 1) := by decide +kernel
theorem dX11_floor_38 : decode cX11_floor 38 = .ok (.aload_n 0, 1) := by decide +kernel
theorem dX11_floor_39 : decode cX11_floor 39 = .ok (.aload 5, 2) := by decide +kernel
theorem dX11_floor_41 : decode cX11_floor 41 = .ok (.iload_n 2, 1) := by decide +kernel
theorem dX11_floor_42 : decode cX11_floor 42 = .ok (.invokevirtual 142, 3) := by decide +kernel
theorem dX11_floor_45 : decode cX11_floor 45 = .ok (.bipush 10, 2) := by decide +kernel
theorem dX11_floor_47 : decode cX11_floor 47 = .ok (.iload_n 2, 1) := by decide +kernel
theorem dX11_floor_48 : decode cX11_floor 48 = .ok (.imul, 1) := by decide +kernel
theorem dX11_floor_49 : decode cX11_floor 49 = .ok (.aload_n 0, 1) := by decide +kernel
theorem dX11_floor_50 : decode cX11_floor 50 = .ok (.getfield 24, 3) := by decide +kernel
theorem dX11_floor_53 : decode cX11_floor 53 = .ok (.iload_n 3, 1) := by decide +kernel
theorem dX11_floor_54 : decode cX11_floor 54 = .ok (.invokevirtual 171, 3) := by decide +kernel
theorem dX11_floor_57 : decode cX11_floor 57 = .ok (.isub, 1) := by decide +kernel
theorem dX11_floor_58 : decode cX11_floor 58 = .ok (.i2l, 1) := by decide +kernel
theorem dX11_floor_59 : decode cX11_floor 59 = .ok (.lstore 6, 2) := by decide +kernel
theorem dX11_floor_61 : decode cX11_floor 61 = .ok (.aload_n 0, 1) := by decide +kernel
theorem dX11_floor_62 : decode cX11_floor 62 = .ok (.getfield 12, 3) := by decide +kernel
theorem dX11_floor_65 : decode cX11_floor 65 = .ok (.invokevirtual 124, 3) := by decide +kernel
theorem dX11_floor_68 : decode cX11_floor 68 = .ok (.getfield 132, 3) := by decide +kernel
theorem dX11_floor_71 : decode cX11_floor 71 = .ok (.i2l, 1) := by decide +kernel
theorem dX11_floor_72 : decode cX11_floor 72 = .ok (.lload 6, 2) := by decide +kernel
theorem dX11_floor_74 : decode cX11_floor 74 = .ok (.lmul, 1) := by decide +kernel
theorem dX11_floor_75 : decode cX11_floor 75 = .ok (.ldc2_w 174, 3) := by decide +kernel
theorem dX11_floor_78 : decode cX11_floor 78 = .ok (.iload 4, 2) := by decide +kernel
theorem dX11_floor_80 : decode cX11_floor 80 = .ok (.invokestatic 176, 3) := by decide +kernel
theorem dX11_floor_83 : decode cX11_floor 83 = .ok (.lreturn, 1) := by decide +kernel
theorem dX11_order_0 : decode cX11_order 0 = .ok (.iload_n 1, 1) := by decide +kernel
theorem dX11_order_1 : decode cX11_order 1 = .ok (.iconst 0, 1) := by decide +kernel
theorem dX11_order_2 : decode cX11_order 2 = .ok (.aload_n 0, 1) := by decide +kernel
theorem dX11_order_3 : decode cX11_order 3 = .ok (.getfield 12, 3) := by decide +kernel
theorem dX11_order_6 : decode cX11_order 6 = .ok (.getfield 71, 3) := by decide +kernel
theorem dX11_order_9 : decode cX11_order 9 = .ok (.iconst 1, 1) := by decide +kernel
theorem dX11_order_10 : decode cX11_order 10 = .ok (.isub, 1) := by decide +kernel
theorem dX11_order_11 : decode cX11_order 11 = .ok (.invokestatic 41, 3) := by decide +kernel
theorem dX11_order_14 : decode cX11_order 14 = .ok (.ifCond .eq 5, 3) := by decide +kernel
theorem dX11_order_17 : decode cX11_order 17 = .ok (.iconst (-1), 1) := by decide +kernel
theorem dX11_order_18 : decode cX11_order 18 = .ok (.ireturn, 1) := by decide +kernel
theorem dX11_order_19 : decode cX11_order 19 = .ok (.aload_n 0, 1) := by decide +kernel
theorem dX11_order_20 : decode cX11_order 20 = .ok (.invokevirtual 229, 3) := by decide +kernel
theorem dX11_order_23 : decode cX11_order 23 = .ok (.iconst 0, 1) := by decide +kernel
theorem dX11_order_24 : decode cX11_order 24 = .ok (.istore_n 2, 1) := by decide +kernel
theorem dX11_order_25 : decode cX11_order 25 = .ok (.iload_n 2, 1) := by decide +kernel
theorem dX11_order_26 : decode cX11_order 26 = .ok (.aload_n 0, 1) := by decide +kernel
theorem dX11_order_27 : decode cX11_order 27 = .ok (.getfield 12, 3) := by decide +kernel
theorem dX11_order_30 : decode cX11_order 30 = .ok (.getfield 71, 3) := by decide +kernel
theorem dX11_order_33 : decode cX11_order 33 = .ok (.if_icmp .ge 20, 3) := by decide +kernel
theorem dX11_order_36 : decode cX11_order 36 = .ok (.aload_n 0, 1) := by decide +kernel
theorem dX11_order_37 : decode cX11_order 37 = .ok (.iload_n 2, 1) := by decide +kernel
theorem dX11_order_38 : decode cX11_order 38 = .ok (.invokevirtual 232, 3) := by decide +kernel
theorem dX11_order_41 : decode cX11_order 41 = .ok (.iload_n 1, 1) := by decide +kernel
theorem dX11_order_42 : decode cX11_order 42 = .ok (.if_icmp .ne 5, 3) := by decide +kernel
theorem dX11_order_45 : decode cX11_order 45 = .ok (.iload_n 2, 1) := by decide +kernel
theorem dX11_order_46 : decode cX11_order 46 = .ok (.ireturn, 1) := by decide +kernel
theorem dX11_order_47 : decode cX11_order 47 = .ok (.iinc 2 1, 3) := by decide +kernel
theorem dX11_order_50 : decode cX11_order 50 = .ok (.goto (-25), 3) := by decide +kernel
theorem dX11_order_53 : decode cX11_order 53 = .ok (.iconst (-1), 1) := by decide +kernel
theorem dX11_order_54 : decode cX11_order 54 = .ok (.ireturn, 1) := by decide +kernel
theorem dX11_title_0 : decode cX11_title 0 = .ok (.iload_n 1, 1) := by decide +kernel
theorem dX11_title_1 : decode cX11_title 1 = .ok (.iconst (-1), 1) := by decide +kernel
theorem dX11_title_2 : decode cX11_title 2 = .ok (.if_icmp .eq 13, 3) := by decide +kernel
theorem dX11_title_5 : decode cX11_title 5 = .ok (.aload_n 0, 1) := by decide +kernel
theorem dX11_title_6 : decode cX11_title 6 = .ok (.iload_n 1, 1) := by decide +kernel
theorem dX11_title_7 : decode cX11_title 7 = .ok (.invokevirtual 99, 3) := by decide +kernel
theorem dX11_title_10 : decode cX11_title 10 = .ok (.ifnonnull 5, 3) := by decide +kernel
theorem dX11_title_13 : decode cX11_title 13 = .ok (.iconst (-1), 1) := by decide +kernel
theorem dX11_title_14 : decode cX11_title 14 = .ok (.ireturn, 1) := by decide +kernel
theorem dX11_title_15 : decode cX11_title 15 = .ok (.aload_n 0, 1) := by decide +kernel
theorem dX11_title_16 : decode cX11_title 16 = .ok (.getfield 12, 3) := by decide +kernel
theorem dX11_title_19 : decode cX11_title 19 = .ok (.getfield 71, 3) := by decide +kernel
theorem dX11_title_22 : decode cX11_title 22 = .ok (.ifCond .ne 6, 3) := by decide +kernel
theorem dX11_title_25 : decode cX11_title 25 = .ok (.bipush (-5), 2) := by decide +kernel
theorem dX11_title_27 : decode cX11_title 27 = .ok (.ireturn, 1) := by decide +kernel
theorem dX11_title_28 : decode cX11_title 28 = .ok (.aload_n 0, 1) := by decide +kernel
theorem dX11_title_29 : decode cX11_title 29 = .ok (.invokevirtual 229, 3) := by decide +kernel
theorem dX11_title_32 : decode cX11_title 32 = .ok (.aload_n 0, 1) := by decide +kernel
theorem dX11_title_33 : decode cX11_title 33 = .ok (.invokevirtual 235, 3) := by decide +kernel
theorem dX11_title_36 : decode cX11_title 36 = .ok (.iload_n 1, 1) := by decide +kernel
theorem dX11_title_37 : decode cX11_title 37 = .ok (.iconst (-1), 1) := by decide +kernel
theorem dX11_title_38 : decode cX11_title 38 = .ok (.if_icmp .eq 10, 3) := by decide +kernel
theorem dX11_title_41 : decode cX11_title 41 = .ok (.aload_n 0, 1) := by decide +kernel
theorem dX11_title_42 : decode cX11_title 42 = .ok (.getfield 35, 3) := by decide +kernel
theorem dX11_title_45 : decode cX11_title 45 = .ok (.iload_n 1, 1) := by decide +kernel
theorem dX11_title_46 : decode cX11_title 46 = .ok (.iaload, 1) := by decide +kernel
theorem dX11_title_47 : decode cX11_title 47 = .ok (.ireturn, 1) := by decide +kernel
theorem dX11_title_48 : decode cX11_title 48 = .ok (.iconst 0, 1) := by decide +kernel
theorem dX11_title_49 : decode cX11_title 49 = .ok (.istore_n 2, 1) := by decide +kernel
theorem dX11_title_50 : decode cX11_title 50 = .ok (.iconst 1, 1) := by decide +kernel
theorem dX11_title_51 : decode cX11_title 51 = .ok (.istore_n 3, 1) := by decide +kernel
theorem dX11_title_52 : decode cX11_title 52 = .ok (.iload_n 3, 1) := by decide +kernel
theorem dX11_title_53 : decode cX11_title 53 = .ok (.aload_n 0, 1) := by decide +kernel
theorem dX11_title_54 : decode cX11_title 54 = .ok (.getfield 12, 3) := by decide +kernel
theorem dX11_title_57 : decode cX11_title 57 = .ok (.getfield 71, 3) := by decide +kernel
theorem dX11_title_60 : decode cX11_title 60 = .ok (.if_icmp .ge 26, 3) := by decide +kernel
theorem dX11_title_63 : decode cX11_title 63 = .ok (.aload_n 0, 1) := by decide +kernel
theorem dX11_title_64 : decode cX11_title 64 = .ok (.getfield 35, 3) := by decide +kernel
theorem dX11_title_67 : decode cX11_title 67 = .ok (.iload_n 3, 1) := by decide +kernel
theorem dX11_title_68 : decode cX11_title 68 = .ok (.iaload, 1) := by decide +kernel
theorem dX11_title_69 : decode cX11_title 69 = .ok (.aload_n 0, 1) := by decide +kernel
theorem dX11_title_70 : decode cX11_title 70 = .ok (.getfield 35, 3) := by decide +kernel
theorem dX11_title_73 : decode cX11_title 73 = .ok (.iload_n 2, 1) := by decide +kernel
theorem dX11_title_74 : decode cX11_title 74 = .ok (.iaload, 1) := by decide +kernel
theorem dX11_title_75 : decode cX11_title 75 = .ok (.if_icmp .le 5, 3) := by decide +kernel
theorem dX11_title_78 : decode cX11_title 78 = .ok (.iload_n 3, 1) := by decide +kernel
theorem dX11_title_79 : decode cX11_title 79 = .ok (.istore_n 2, 1) := by decide +kernel
theorem dX11_title_80 : decode cX11_title 80 = .ok (.iinc 3 1, 3) := by decide +kernel
theorem dX11_title_83 : decode cX11_title 83 = .ok (.goto (-31), 3) := by decide +kernel
theorem dX11_title_86 : decode cX11_title 86 = .ok (.iload_n 2, 1) := by decide +kernel
theorem dX11_title_87 : decode cX11_title 87 = .ok (.ireturn, 1) := by decide +kernel
theorem dX11_see_0 : decode cX11_see 0 = .ok (.iload_n 1, 1) := by decide +kernel
theorem dX11_see_1 : decode cX11_see 1 = .ok (.iconst (-1), 1) := by decide +kernel
theorem dX11_see_2 : decode cX11_see 2 = .ok (.if_icmp .ne 13, 3) := by decide +kernel
theorem dX11_see_5 : decode cX11_see 5 = .ok (.aload_n 0, 1) := by decide +kernel
theorem dX11_see_6 : decode cX11_see 6 = .ok (.getfield 12, 3) := by decide +kernel
theorem dX11_see_9 : decode cX11_see 9 = .ok (.iconst 0, 1) := by decide +kernel
theorem dX11_see_10 : decode cX11_see 10 = .ok (.putfield 238, 3) := by decide +kernel
theorem dX11_see_13 : decode cX11_see 13 = .ok (.iconst 0, 1) := by decide +kernel
theorem dX11_see_14 : decode cX11_see 14 = .ok (.ireturn, 1) := by decide +kernel
theorem dX11_see_15 : decode cX11_see 15 = .ok (.aload_n 0, 1) := by decide +kernel
theorem dX11_see_16 : decode cX11_see 16 = .ok (.iload_n 1, 1) := by decide +kernel
theorem dX11_see_17 : decode cX11_see 17 = .ok (.invokevirtual 99, 3) := by decide +kernel
theorem dX11_see_20 : decode cX11_see 20 = .ok (.ifnonnull 5, 3) := by decide +kernel
theorem dX11_see_23 : decode cX11_see 23 = .ok (.iconst (-1), 1) := by decide +kernel
theorem dX11_see_24 : decode cX11_see 24 = .ok (.ireturn, 1) := by decide +kernel
theorem dX11_see_25 : decode cX11_see 25 = .ok (.iload_n 2, 1) := by decide +kernel
theorem dX11_see_26 : decode cX11_see 26 = .ok (.invokestatic 135, 3) := by decide +kernel
theorem dX11_see_29 : decode cX11_see 29 = .ok (.ifCond .ne 21, 3) := by decide +kernel
theorem dX11_see_32 : decode cX11_see 32 = .ok (.iload_n 3, 1) := by decide +kernel
theorem dX11_see_33 : decode cX11_see 33 = .ok (.invokestatic 139, 3) := by decide +kernel
theorem dX11_see_36 : decode cX11_see 36 = .ok (.ifCond .ne 14, 3) := by decide +kernel
theorem dX11_see_39 : decode cX11_see 39 = .ok (.iload 4, 2) := by decide +kernel
theorem dX11_see_41 : decode cX11_see 41 = .ok (.iconst 0, 1) := by decide +kernel
theorem dX11_see_42 : decode cX11_see 42 = .ok (.bipush 99, 2) := by decide +kernel
theorem dX11_see_44 : decode cX11_see 44 = .ok (.invokestatic 41, 3) := by decide +kernel
theorem dX11_see_47 : decode cX11_see 47 = .ok (.ifCond .eq 6, 3) := by decide +kernel
theorem dX11_see_50 : decode cX11_see 50 = .ok (.bipush (-2), 2) := by decide +kernel
theorem dX11_see_52 : decode cX11_see 52 = .ok (.ireturn, 1) := by decide +kernel
theorem dX11_see_53 : decode cX11_see 53 = .ok (.aload_n 0, 1) := by decide +kernel
theorem dX11_see_54 : decode cX11_see 54 = .ok (.getfield 12, 3) := by decide +kernel
theorem dX11_see_57 : decode cX11_see 57 = .ok (.getfield 238, 3) := by decide +kernel
theorem dX11_see_60 : decode cX11_see 60 = .ok (.bipush 8, 2) := by decide +kernel
theorem dX11_see_62 : decode cX11_see 62 = .ok (.if_icmp .lt 6, 3) := by decide +kernel
theorem dX11_see_65 : decode cX11_see 65 = .ok (.bipush (-4), 2) := by decide +kernel
theorem dX11_see_67 : decode cX11_see 67 = .ok (.ireturn, 1) := by decide +kernel
theorem dX11_see_68 : decode cX11_see 68 = .ok (.aload_n 0, 1) := by decide +kernel
theorem dX11_see_69 : decode cX11_see 69 = .ok (.getfield 12, 3) := by decide +kernel
theorem dX11_see_72 : decode cX11_see 72 = .ok (.getfield 238, 3) := by decide +kernel
theorem dX11_see_75 : decode cX11_see 75 = .ok (.istore 5, 2) := by decide +kernel
theorem dX11_see_77 : decode cX11_see 77 = .ok (.aload_n 0, 1) := by decide +kernel
theorem dX11_see_78 : decode cX11_see 78 = .ok (.getfield 12, 3) := by decide +kernel
theorem dX11_see_81 : decode cX11_see 81 = .ok (.getfield 241, 3) := by decide +kernel
theorem dX11_see_84 : decode cX11_see 84 = .ok (.iload 5, 2) := by decide +kernel
theorem dX11_see_86 : decode cX11_see 86 = .ok (.iload_n 1, 1) := by decide +kernel
theorem dX11_see_87 : decode cX11_see 87 = .ok (.iastore, 1) := by decide +kernel
theorem dX11_see_88 : decode cX11_see 88 = .ok (.aload_n 0, 1) := by decide +kernel
theorem dX11_see_89 : decode cX11_see 89 = .ok (.getfield 12, 3) := by decide +kernel
theorem dX11_see_92 : decode cX11_see 92 = .ok (.getfield 244, 3) := by decide +kernel
theorem dX11_see_95 : decode cX11_see 95 = .ok (.iload 5, 2) := by decide +kernel
theorem dX11_see_97 : decode cX11_see 97 = .ok (.iload_n 2, 1) := by decide +kernel
theorem dX11_see_98 : decode cX11_see 98 = .ok (.iastore, 1) := by decide +kernel
theorem dX11_see_99 : decode cX11_see 99 = .ok (.aload_n 0, 1) := by decide +kernel
theorem dX11_see_100 : decode cX11_see 100 = .ok (.getfield 12, 3) := by decide +kernel
theorem dX11_see_103 : decode cX11_see 103 = .ok (.getfield 247, 3) := by decide +kernel
theorem dX11_see_106 : decode cX11_see 106 = .ok (.iload 5, 2) := by decide +kernel
theorem dX11_see_108 : decode cX11_see 108 = .ok (.iload_n 3, 1) := by decide +kernel
theorem dX11_see_109 : decode cX11_see 109 = .ok (.iastore, 1) := by decide +kernel
theorem dX11_see_110 : decode cX11_see 110 = .ok (.aload_n 0, 1) := by decide +kernel
theorem dX11_see_111 : decode cX11_see 111 = .ok (.getfield 12, 3) := by decide +kernel
theorem dX11_see_114 : decode cX11_see 114 = .ok (.getfield 250, 3) := by decide +kernel
theorem dX11_see_117 : decode cX11_see 117 = .ok (.iload 5, 2) := by decide +kernel
theorem dX11_see_119 : decode cX11_see 119 = .ok (.iload 4, 2) := by decide +kernel
theorem dX11_see_121 : decode cX11_see 121 = .ok (.iastore, 1) := by decide +kernel
theorem dX11_see_122 : decode cX11_see 122 = .ok (.aload_n 0, 1) := by decide +kernel
theorem dX11_see_123 : decode cX11_see 123 = .ok (.getfield 12, 3) := by decide +kernel
theorem dX11_see_126 : decode cX11_see 126 = .ok (.dup, 1) := by decide +kernel
theorem dX11_see_127 : decode cX11_see 127 = .ok (.getfield 238, 3) := by decide +kernel
theorem dX11_see_130 : decode cX11_see 130 = .ok (.iconst 1, 1) := by decide +kernel
theorem dX11_see_131 : decode cX11_see 131 = .ok (.iadd, 1) := by decide +kernel
theorem dX11_see_132 : decode cX11_see 132 = .ok (.putfield 238, 3) := by decide +kernel
theorem dX11_see_135 : decode cX11_see 135 = .ok (.aload_n 0, 1) := by decide +kernel
theorem dX11_see_136 : decode cX11_see 136 = .ok (.getfield 12, 3) := by decide +kernel
theorem dX11_see_139 : decode cX11_see 139 = .ok (.getfield 238, 3) := by decide +kernel
theorem dX11_see_142 : decode cX11_see 142 = .ok (.ireturn, 1) := by decide +kernel
theorem dX11_can_0 : decode cX11_can 0 = .ok (.iload_n 1, 1) := by decide +kernel
theorem dX11_can_1 : decode cX11_can 1 = .ok (.iconst 0, 1) := by decide +kernel
theorem dX11_can_2 : decode cX11_can 2 = .ok (.aload_n 0, 1) := by decide +kernel
theorem dX11_can_3 : decode cX11_can 3 = .ok (.getfield 12, 3) := by decide +kernel
theorem dX11_can_6 : decode cX11_can 6 = .ok (.getfield 238, 3) := by decide +kernel
theorem dX11_can_9 : decode cX11_can 9 = .ok (.iconst 1, 1) := by decide +kernel
theorem dX11_can_10 : decode cX11_can 10 = .ok (.isub, 1) := by decide +kernel
theorem dX11_can_11 : decode cX11_can 11 = .ok (.invokestatic 41, 3) := by decide +kernel
theorem dX11_can_14 : decode cX11_can 14 = .ok (.ifCond .eq 5, 3) := by decide +kernel
theorem dX11_can_17 : decode cX11_can 17 = .ok (.iconst (-1), 1) := by decide +kernel
theorem dX11_can_18 : decode cX11_can 18 = .ok (.ireturn, 1) := by decide +kernel
theorem dX11_can_19 : decode cX11_can 19 = .ok (.aload_n 0, 1) := by decide +kernel
theorem dX11_can_20 : decode cX11_can 20 = .ok (.aload_n 0, 1) := by decide +kernel
theorem dX11_can_21 : decode cX11_can 21 = .ok (.getfield 12, 3) := by decide +kernel
theorem dX11_can_24 : decode cX11_can 24 = .ok (.getfield 241, 3) := by decide +kernel
theorem dX11_can_27 : decode cX11_can 27 = .ok (.iload_n 1, 1) := by decide +kernel
theorem dX11_can_28 : decode cX11_can 28 = .ok (.iaload, 1) := by decide +kernel
theorem dX11_can_29 : decode cX11_can 29 = .ok (.invokevirtual 99, 3) := by decide +kernel
theorem dX11_can_32 : decode cX11_can 32 = .ok (.astore_n 2, 1) := by decide +kernel
theorem dX11_can_33 : decode cX11_can 33 = .ok (.aload_n 2, 1) := by decide +kernel
theorem dX11_can_34 : decode cX11_can 34 = .ok (.ifnonnull 5, 3) := by decide +kernel
theorem dX11_can_37 : decode cX11_can 37 = .ok (.iconst (-1), 1) := by decide +kernel
theorem dX11_can_38 : decode cX11_can 38 = .ok (.ireturn, 1) := by decide +kernel
theorem dX11_can_39 : decode cX11_can 39 = .ok (.aload_n 0, 1) := by decide +kernel
theorem dX11_can_40 : decode cX11_can 40 = .ok (.iload_n 1, 1) := by decide +kernel
theorem dX11_can_41 : decode cX11_can 41 = .ok (.aload_n 2, 1) := by decide +kernel
theorem dX11_can_42 : decode cX11_can 42 = .ok (.aload_n 2, 1) := by decide +kernel
theorem dX11_can_43 : decode cX11_can 43 = .ok (.getfield 86, 3) := by decide +kernel
theorem dX11_can_46 : decode cX11_can 46 = .ok (.invokevirtual 253, 3) := by decide +kernel
theorem dX11_can_49 : decode cX11_can 49 = .ok (.ireturn, 1) := by decide +kernel
theorem dX11_skills_0 : decode cX11_skills 0 = .ok (.aload_n 0, 1) := by decide +kernel
theorem dX11_skills_1 : decode cX11_skills 1 = .ok (.iload_n 1, 1) := by decide +kernel
theorem dX11_skills_2 : decode cX11_skills 2 = .ok (.invokevirtual 99, 3) := by decide +kernel
theorem dX11_skills_5 : decode cX11_skills 5 = .ok (.astore_n 2, 1) := by decide +kernel
theorem dX11_skills_6 : decode cX11_skills 6 = .ok (.aload_n 2, 1) := by decide +kernel
theorem dX11_skills_7 : decode cX11_skills 7 = .ok (.ifnonnull 5, 3) := by decide +kernel
theorem dX11_skills_10 : decode cX11_skills 10 = .ok (.iconst (-1), 1) := by decide +kernel
theorem dX11_skills_11 : decode cX11_skills 11 = .ok (.ireturn, 1) := by decide +kernel
theorem dX11_skills_12 : decode cX11_skills 12 = .ok (.iconst 0, 1) := by decide +kernel
theorem dX11_skills_13 : decode cX11_skills 13 = .ok (.istore_n 3, 1) := by decide +kernel
theorem dX11_skills_14 : decode cX11_skills 14 = .ok (.iconst 0, 1) := by decide +kernel
theorem dX11_skills_15 : decode cX11_skills 15 = .ok (.istore 4, 2) := by decide +kernel
theorem dX11_skills_17 : decode cX11_skills 17 = .ok (.iload 4, 2) := by decide +kernel
theorem dX11_skills_19 : decode cX11_skills 19 = .ok (.bipush 20, 2) := by decide +kernel
theorem dX11_skills_21 : decode cX11_skills 21 = .ok (.if_icmp .gt 26, 3) := by decide +kernel
theorem dX11_skills_24 : decode cX11_skills 24 = .ok (.aload_n 0, 1) := by decide +kernel
theorem dX11_skills_25 : decode cX11_skills 25 = .ok (.aload_n 2, 1) := by decide +kernel
theorem dX11_skills_26 : decode cX11_skills 26 = .ok (.iload 4, 2) := by decide +kernel
theorem dX11_skills_28 : decode cX11_skills 28 = .ok (.invokevirtual 257, 3) := by decide +kernel
theorem dX11_skills_31 : decode cX11_skills 31 = .ok (.ifCond .eq 10, 3) := by decide +kernel
theorem dX11_skills_34 : decode cX11_skills 34 = .ok (.iload_n 3, 1) := by decide +kernel
theorem dX11_skills_35 : decode cX11_skills 35 = .ok (.iconst 1, 1) := by decide +kernel
theorem dX11_skills_36 : decode cX11_skills 36 = .ok (.iload 4, 2) := by decide +kernel
theorem dX11_skills_38 : decode cX11_skills 38 = .ok (.ishl, 1) := by decide +kernel
theorem dX11_skills_39 : decode cX11_skills 39 = .ok (.ior, 1) := by decide +kernel
theorem dX11_skills_40 : decode cX11_skills 40 = .ok (.istore_n 3, 1) := by decide +kernel
theorem dX11_skills_41 : decode cX11_skills 41 = .ok (.iinc 4 1, 3) := by decide +kernel
theorem dX11_skills_44 : decode cX11_skills 44 = .ok (.goto (-27), 3) := by decide +kernel
theorem dX11_skills_47 : decode cX11_skills 47 = .ok (.iload_n 3, 1) := by decide +kernel
theorem dX11_skills_48 : decode cX11_skills 48 = .ok (.ireturn, 1) := by decide +kernel
theorem dX11_book_0 : decode cX11_book 0 = .ok (.iload_n 1, 1) := by decide +kernel
theorem dX11_book_1 : decode cX11_book 1 = .ok (.iconst (-1), 1) := by decide +kernel
theorem dX11_book_2 : decode cX11_book 2 = .ok (.if_icmp .ne 13, 3) := by decide +kernel
theorem dX11_book_5 : decode cX11_book 5 = .ok (.aload_n 0, 1) := by decide +kernel
theorem dX11_book_6 : decode cX11_book 6 = .ok (.getfield 12, 3) := by decide +kernel
theorem dX11_book_9 : decode cX11_book 9 = .ok (.iconst 0, 1) := by decide +kernel
theorem dX11_book_10 : decode cX11_book 10 = .ok (.putfield 261, 3) := by decide +kernel
theorem dX11_book_13 : decode cX11_book 13 = .ok (.iconst 0, 1) := by decide +kernel
theorem dX11_book_14 : decode cX11_book 14 = .ok (.ireturn, 1) := by decide +kernel
theorem dX11_book_15 : decode cX11_book 15 = .ok (.aload_n 0, 1) := by decide +kernel
theorem dX11_book_16 : decode cX11_book 16 = .ok (.iload_n 1, 1) := by decide +kernel
theorem dX11_book_17 : decode cX11_book 17 = .ok (.invokevirtual 99, 3) := by decide +kernel
theorem dX11_book_20 : decode cX11_book 20 = .ok (.ifnonnull 5, 3) := by decide +kernel
theorem dX11_book_23 : decode cX11_book 23 = .ok (.iconst (-1), 1) := by decide +kernel
theorem dX11_book_24 : decode cX11_book 24 = .ok (.ireturn, 1) := by decide +kernel
theorem dX11_book_25 : decode cX11_book 25 = .ok (.iload_n 2, 1) := by decide +kernel
theorem dX11_book_26 : decode cX11_book 26 = .ok (.iconst 0, 1) := by decide +kernel
theorem dX11_book_27 : decode cX11_book 27 = .ok (.bipush 99, 2) := by decide +kernel
theorem dX11_book_29 : decode cX11_book 29 = .ok (.invokestatic 41, 3) := by decide +kernel
theorem dX11_book_32 : decode cX11_book 32 = .ok (.ifCond .eq 6, 3) := by decide +kernel
theorem dX11_book_35 : decode cX11_book 35 = .ok (.bipush (-2), 2) := by decide +kernel
theorem dX11_book_37 : decode cX11_book 37 = .ok (.ireturn, 1) := by decide +kernel
theorem dX11_book_38 : decode cX11_book 38 = .ok (.aload_n 0, 1) := by decide +kernel
theorem dX11_book_39 : decode cX11_book 39 = .ok (.getfield 12, 3) := by decide +kernel
theorem dX11_book_42 : decode cX11_book 42 = .ok (.getfield 261, 3) := by decide +kernel
theorem dX11_book_45 : decode cX11_book 45 = .ok (.bipush 8, 2) := by decide +kernel
theorem dX11_book_47 : decode cX11_book 47 = .ok (.if_icmp .lt 6, 3) := by decide +kernel
theorem dX11_book_50 : decode cX11_book 50 = .ok (.bipush (-4), 2) := by decide +kernel
theorem dX11_book_52 : decode cX11_book 52 = .ok (.ireturn, 1) := by decide +kernel
theorem dX11_book_53 : decode cX11_book 53 = .ok (.aload_n 0, 1) := by decide +kernel
theorem dX11_book_54 : decode cX11_book 54 = .ok (.getfield 12, 3) := by decide +kernel
theorem dX11_book_57 : decode cX11_book 57 = .ok (.getfield 264, 3) := by decide +kernel
theorem dX11_book_60 : decode cX11_book 60 = .ok (.aload_n 0, 1) := by decide +kernel
theorem dX11_book_61 : decode cX11_book 61 = .ok (.getfield 12, 3) := by decide +kernel
theorem dX11_book_64 : decode cX11_book 64 = .ok (.getfield 261, 3) := by decide +kernel
theorem dX11_book_67 : decode cX11_book 67 = .ok (.iload_n 1, 1) := by decide +kernel
theorem dX11_book_68 : decode cX11_book 68 = .ok (.iastore, 1) := by decide +kernel
theorem dX11_book_69 : decode cX11_book 69 = .ok (.aload_n 0, 1) := by decide +kernel
theorem dX11_book_70 : decode cX11_book 70 = .ok (.getfield 12, 3) := by decide +kernel
theorem dX11_book_73 : decode cX11_book 73 = .ok (.getfield 267, 3) := by decide +kernel
theorem dX11_book_76 : decode cX11_book 76 = .ok (.aload_n 0, 1) := by decide +kernel
theorem dX11_book_77 : decode cX11_book 77 = .ok (.getfield 12, 3) := by decide +kernel
theorem dX11_book_80 : decode cX11_book 80 = .ok (.getfield 261, 3) := by decide +kernel
theorem dX11_book_83 : decode cX11_book 83 = .ok (.iload_n 2, 1) := by decide +kernel
theorem dX11_book_84 : decode cX11_book 84 = .ok (.iastore, 1) := by decide +kernel
theorem dX11_book_85 : decode cX11_book 85 = .ok (.aload_n 0, 1) := by decide +kernel
theorem dX11_book_86 : decode cX11_book 86 = .ok (.getfield 12, 3) := by decide +kernel
theorem dX11_book_89 : decode cX11_book 89 = .ok (.dup, 1) := by decide +kernel
theorem dX11_book_90 : decode cX11_book 90 = .ok (.getfield 261, 3) := by decide +kernel
theorem dX11_book_93 : decode cX11_book 93 = .ok (.iconst 1, 1) := by decide +kernel
theorem dX11_book_94 : decode cX11_book 94 = .ok (.iadd, 1) := by decide +kernel
theorem dX11_book_95 : decode cX11_book 95 = .ok (.putfield 261, 3) := by decide +kernel
theorem dX11_book_98 : decode cX11_book 98 = .ok (.aload_n 0, 1) := by decide +kernel
theorem dX11_book_99 : decode cX11_book 99 = .ok (.getfield 12, 3) := by decide +kernel
theorem dX11_book_102 : decode cX11_book 102 = .ok (.getfield 261, 3) := by decide +kernel
theorem dX11_book_105 : decode cX11_book 105 = .ok (.ireturn, 1) := by decide +kernel
