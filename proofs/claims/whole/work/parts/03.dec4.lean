theorem dX11_looked_0 : decode cX11_looked 0 = .ok (.iconst 0, 1) := by decide +kernel
theorem dX11_looked_1 : decode cX11_looked 1 = .ok (.istore_n 1, 1) := by decide +kernel
theorem dX11_looked_2 : decode cX11_looked 2 = .ok (.iload_n 1, 1) := by decide +kernel
theorem dX11_looked_3 : decode cX11_looked 3 = .ok (.aload_n 0, 1) := by decide +kernel
theorem dX11_looked_4 : decode cX11_looked 4 = .ok (.getfield 12, 3) := by decide +kernel
theorem dX11_looked_7 : decode cX11_looked 7 = .ok (.getfield 261, 3) := by decide +kernel
theorem dX11_looked_10 : decode cX11_looked 10 = .ok (.if_icmp .ge 50, 3) := by decide +kernel
theorem dX11_looked_13 : decode cX11_looked 13 = .ok (.aload_n 0, 1) := by decide +kernel
theorem dX11_looked_14 : decode cX11_looked 14 = .ok (.aload_n 0, 1) := by decide +kernel
theorem dX11_looked_15 : decode cX11_looked 15 = .ok (.getfield 12, 3) := by decide +kernel
theorem dX11_looked_18 : decode cX11_looked 18 = .ok (.getfield 264, 3) := by decide +kernel
theorem dX11_looked_21 : decode cX11_looked 21 = .ok (.iload_n 1, 1) := by decide +kernel
theorem dX11_looked_22 : decode cX11_looked 22 = .ok (.iaload, 1) := by decide +kernel
theorem dX11_looked_23 : decode cX11_looked 23 = .ok (.invokevirtual 99, 3) := by decide +kernel
theorem dX11_looked_26 : decode cX11_looked 26 = .ok (.astore_n 2, 1) := by decide +kernel
theorem dX11_looked_27 : decode cX11_looked 27 = .ok (.aload_n 2, 1) := by decide +kernel
theorem dX11_looked_28 : decode cX11_looked 28 = .ok (.ifnull 26, 3) := by decide +kernel
theorem dX11_looked_31 : decode cX11_looked 31 = .ok (.aload_n 0, 1) := by decide +kernel
theorem dX11_looked_32 : decode cX11_looked 32 = .ok (.aload_n 2, 1) := by decide +kernel
theorem dX11_looked_33 : decode cX11_looked 33 = .ok (.aload_n 2, 1) := by decide +kernel
theorem dX11_looked_34 : decode cX11_looked 34 = .ok (.getfield 106, 3) := by decide +kernel
theorem dX11_looked_37 : decode cX11_looked 37 = .ok (.invokevirtual 187, 3) := by decide +kernel
theorem dX11_looked_40 : decode cX11_looked 40 = .ok (.aload_n 0, 1) := by decide +kernel
theorem dX11_looked_41 : decode cX11_looked 41 = .ok (.getfield 12, 3) := by decide +kernel
theorem dX11_looked_44 : decode cX11_looked 44 = .ok (.getfield 267, 3) := by decide +kernel
theorem dX11_looked_47 : decode cX11_looked 47 = .ok (.iload_n 1, 1) := by decide +kernel
theorem dX11_looked_48 : decode cX11_looked 48 = .ok (.iaload, 1) := by decide +kernel
theorem dX11_looked_49 : decode cX11_looked 49 = .ok (.if_icmp .eq 5, 3) := by decide +kernel
theorem dX11_looked_52 : decode cX11_looked 52 = .ok (.iload_n 1, 1) := by decide +kernel
theorem dX11_looked_53 : decode cX11_looked 53 = .ok (.ireturn, 1) := by decide +kernel
theorem dX11_looked_54 : decode cX11_looked 54 = .ok (.iinc 1 1, 3) := by decide +kernel
theorem dX11_looked_57 : decode cX11_looked 57 = .ok (.goto (-55), 3) := by decide +kernel
theorem dX11_looked_60 : decode cX11_looked 60 = .ok (.bipush (-5), 2) := by decide +kernel
theorem dX11_looked_62 : decode cX11_looked 62 = .ok (.ireturn, 1) := by decide +kernel
theorem dX11_act_0 : decode cX11_act 0 = .ok (.aload_n 0, 1) := by decide +kernel
theorem dX11_act_1 : decode cX11_act 1 = .ok (.getfield 28, 3) := by decide +kernel
theorem dX11_act_4 : decode cX11_act 4 = .ok (.iconst 0, 1) := by decide +kernel
theorem dX11_act_5 : decode cX11_act 5 = .ok (.iconst 0, 1) := by decide +kernel
theorem dX11_act_6 : decode cX11_act 6 = .ok (.iastore, 1) := by decide +kernel
theorem dX11_act_7 : decode cX11_act 7 = .ok (.aload_n 0, 1) := by decide +kernel
theorem dX11_act_8 : decode cX11_act 8 = .ok (.iload_n 1, 1) := by decide +kernel
theorem dX11_act_9 : decode cX11_act 9 = .ok (.invokevirtual 99, 3) := by decide +kernel
theorem dX11_act_12 : decode cX11_act 12 = .ok (.astore 4, 2) := by decide +kernel
theorem dX11_act_14 : decode cX11_act 14 = .ok (.aload 4, 2) := by decide +kernel
theorem dX11_act_16 : decode cX11_act 16 = .ok (.ifnonnull 5, 3) := by decide +kernel
theorem dX11_act_19 : decode cX11_act 19 = .ok (.iconst 0, 1) := by decide +kernel
theorem dX11_act_20 : decode cX11_act 20 = .ok (.ireturn, 1) := by decide +kernel
theorem dX11_act_21 : decode cX11_act 21 = .ok (.iload_n 2, 1) := by decide +kernel
theorem dX11_act_22 : decode cX11_act 22 = .ok (.tableswitch 47 0 2 #[26, 33, 40], 26) := by decide +kernel
theorem dX11_act_48 : decode cX11_act 48 = .ok (.aload 4, 2) := by decide +kernel
theorem dX11_act_50 : decode cX11_act 50 = .ok (.iload_n 3, 1) := by decide +kernel
theorem dX11_act_51 : decode cX11_act 51 = .ok (.invokevirtual 270, 3) := by decide +kernel
theorem dX11_act_54 : decode cX11_act 54 = .ok (.ireturn, 1) := by decide +kernel
theorem dX11_act_55 : decode cX11_act 55 = .ok (.aload 4, 2) := by decide +kernel
theorem dX11_act_57 : decode cX11_act 57 = .ok (.iload_n 3, 1) := by decide +kernel
theorem dX11_act_58 : decode cX11_act 58 = .ok (.invokevirtual 273, 3) := by decide +kernel
theorem dX11_act_61 : decode cX11_act 61 = .ok (.ireturn, 1) := by decide +kernel
theorem dX11_act_62 : decode cX11_act 62 = .ok (.aload 4, 2) := by decide +kernel
theorem dX11_act_64 : decode cX11_act 64 = .ok (.iload_n 3, 1) := by decide +kernel
theorem dX11_act_65 : decode cX11_act 65 = .ok (.invokevirtual 276, 3) := by decide +kernel
theorem dX11_act_68 : decode cX11_act 68 = .ok (.ireturn, 1) := by decide +kernel
theorem dX11_act_69 : decode cX11_act 69 = .ok (.iconst 0, 1) := by decide +kernel
theorem dX11_act_70 : decode cX11_act 70 = .ok (.ireturn, 1) := by decide +kernel
theorem dX11_trace_0 : decode cX11_trace 0 = .ok (.iload_n 1, 1) := by decide +kernel
theorem dX11_trace_1 : decode cX11_trace 1 = .ok (.iconst 0, 1) := by decide +kernel
theorem dX11_trace_2 : decode cX11_trace 2 = .ok (.aload_n 0, 1) := by decide +kernel
theorem dX11_trace_3 : decode cX11_trace 3 = .ok (.getfield 28, 3) := by decide +kernel
theorem dX11_trace_6 : decode cX11_trace 6 = .ok (.iconst 0, 1) := by decide +kernel
theorem dX11_trace_7 : decode cX11_trace 7 = .ok (.iaload, 1) := by decide +kernel
theorem dX11_trace_8 : decode cX11_trace 8 = .ok (.bipush 20, 2) := by decide +kernel
theorem dX11_trace_10 : decode cX11_trace 10 = .ok (.invokestatic 196, 3) := by decide +kernel
theorem dX11_trace_13 : decode cX11_trace 13 = .ok (.iconst 1, 1) := by decide +kernel
theorem dX11_trace_14 : decode cX11_trace 14 = .ok (.isub, 1) := by decide +kernel
theorem dX11_trace_15 : decode cX11_trace 15 = .ok (.invokestatic 41, 3) := by decide +kernel
theorem dX11_trace_18 : decode cX11_trace 18 = .ok (.ifCond .eq 5, 3) := by decide +kernel
theorem dX11_trace_21 : decode cX11_trace 21 = .ok (.iconst (-1), 1) := by decide +kernel
theorem dX11_trace_22 : decode cX11_trace 22 = .ok (.ireturn, 1) := by decide +kernel
theorem dX11_trace_23 : decode cX11_trace 23 = .ok (.aload_n 0, 1) := by decide +kernel
theorem dX11_trace_24 : decode cX11_trace 24 = .ok (.getfield 28, 3) := by decide +kernel
theorem dX11_trace_27 : decode cX11_trace 27 = .ok (.iconst 1, 1) := by decide +kernel
theorem dX11_trace_28 : decode cX11_trace 28 = .ok (.iload_n 1, 1) := by decide +kernel
theorem dX11_trace_29 : decode cX11_trace 29 = .ok (.iadd, 1) := by decide +kernel
theorem dX11_trace_30 : decode cX11_trace 30 = .ok (.iaload, 1) := by decide +kernel
theorem dX11_trace_31 : decode cX11_trace 31 = .ok (.ireturn, 1) := by decide +kernel
theorem dX11_as_0 : decode cX11_as 0 = .ok (.aload_n 0, 1) := by decide +kernel
theorem dX11_as_1 : decode cX11_as 1 = .ok (.iload_n 1, 1) := by decide +kernel
theorem dX11_as_2 : decode cX11_as 2 = .ok (.invokevirtual 99, 3) := by decide +kernel
theorem dX11_as_5 : decode cX11_as 5 = .ok (.astore_n 3, 1) := by decide +kernel
theorem dX11_as_6 : decode cX11_as 6 = .ok (.aload_n 3, 1) := by decide +kernel
theorem dX11_as_7 : decode cX11_as 7 = .ok (.ifnull 13, 3) := by decide +kernel
theorem dX11_as_10 : decode cX11_as 10 = .ok (.iload_n 2, 1) := by decide +kernel
theorem dX11_as_11 : decode cX11_as 11 = .ok (.iconst 0, 1) := by decide +kernel
theorem dX11_as_12 : decode cX11_as 12 = .ok (.bipush 6, 2) := by decide +kernel
theorem dX11_as_14 : decode cX11_as 14 = .ok (.invokestatic 41, 3) := by decide +kernel
theorem dX11_as_17 : decode cX11_as 17 = .ok (.ifCond .eq 5, 3) := by decide +kernel
theorem dX11_as_20 : decode cX11_as 20 = .ok (.iconst (-1), 1) := by decide +kernel
theorem dX11_as_21 : decode cX11_as 21 = .ok (.ireturn, 1) := by decide +kernel
theorem dX11_as_22 : decode cX11_as 22 = .ok (.aload_n 3, 1) := by decide +kernel
theorem dX11_as_23 : decode cX11_as 23 = .ok (.iload_n 2, 1) := by decide +kernel
theorem dX11_as_24 : decode cX11_as 24 = .ok (.invokestatic 279, 3) := by decide +kernel
theorem dX11_as_27 : decode cX11_as 27 = .ok (.ifCond .eq 10, 3) := by decide +kernel
theorem dX11_as_30 : decode cX11_as 30 = .ok (.aload_n 3, 1) := by decide +kernel
theorem dX11_as_31 : decode cX11_as 31 = .ok (.getfield 83, 3) := by decide +kernel
theorem dX11_as_34 : decode cX11_as 34 = .ok (.goto 5, 3) := by decide +kernel
theorem dX11_as_37 : decode cX11_as 37 = .ok (.bipush (-6), 2) := by decide +kernel
theorem dX11_as_39 : decode cX11_as 39 = .ok (.ireturn, 1) := by decide +kernel
theorem dX11_image_0 : decode cX11_image 0 = .ok (.aload_n 0, 1) := by decide +kernel
theorem dX11_image_1 : decode cX11_image 1 = .ok (.getfield 18, 3) := by decide +kernel
theorem dX11_image_4 : decode cX11_image 4 = .ok (.aload_n 0, 1) := by decide +kernel
theorem dX11_image_5 : decode cX11_image 5 = .ok (.getfield 12, 3) := by decide +kernel
theorem dX11_image_8 : decode cX11_image 8 = .ok (.invokevirtual 282, 3) := by decide +kernel
theorem dX11_image_11 : decode cX11_image 11 = .ok (.aload_n 0, 1) := by decide +kernel
theorem dX11_image_12 : decode cX11_image 12 = .ok (.iconst 1, 1) := by decide +kernel
theorem dX11_image_13 : decode cX11_image 13 = .ok (.putfield 286, 3) := by decide +kernel
theorem dX11_image_16 : decode cX11_image 16 = .ok (.aload_n 0, 1) := by decide +kernel
theorem dX11_image_17 : decode cX11_image 17 = .ok (.getfield 12, 3) := by decide +kernel
theorem dX11_image_20 : decode cX11_image 20 = .ok (.getfield 71, 3) := by decide +kernel
theorem dX11_image_23 : decode cX11_image 23 = .ok (.ireturn, 1) := by decide +kernel
theorem dX11_undo_0 : decode cX11_undo 0 = .ok (.aload_n 0, 1) := by decide +kernel
theorem dX11_undo_1 : decode cX11_undo 1 = .ok (.getfield 286, 3) := by decide +kernel
theorem dX11_undo_4 : decode cX11_undo 4 = .ok (.ifCond .ne 6, 3) := by decide +kernel
theorem dX11_undo_7 : decode cX11_undo 7 = .ok (.bipush (-3), 2) := by decide +kernel
theorem dX11_undo_9 : decode cX11_undo 9 = .ok (.ireturn, 1) := by decide +kernel
theorem dX11_undo_10 : decode cX11_undo 10 = .ok (.aload_n 0, 1) := by decide +kernel
theorem dX11_undo_11 : decode cX11_undo 11 = .ok (.getfield 12, 3) := by decide +kernel
theorem dX11_undo_14 : decode cX11_undo 14 = .ok (.aload_n 0, 1) := by decide +kernel
theorem dX11_undo_15 : decode cX11_undo 15 = .ok (.getfield 18, 3) := by decide +kernel
theorem dX11_undo_18 : decode cX11_undo 18 = .ok (.invokevirtual 282, 3) := by decide +kernel
theorem dX11_undo_21 : decode cX11_undo 21 = .ok (.aload_n 0, 1) := by decide +kernel
theorem dX11_undo_22 : decode cX11_undo 22 = .ok (.getfield 12, 3) := by decide +kernel
theorem dX11_undo_25 : decode cX11_undo 25 = .ok (.getfield 71, 3) := by decide +kernel
theorem dX11_undo_28 : decode cX11_undo 28 = .ok (.ireturn, 1) := by decide +kernel
theorem dX11_count_0 : decode cX11_count 0 = .ok (.iload_n 1, 1) := by decide +kernel
theorem dX11_count_1 : decode cX11_count 1 = .ok (.tableswitch 86 0 5 #[39, 47, 55, 63, 71, 79], 39) := by decide +kernel
theorem dX11_count_40 : decode cX11_count 40 = .ok (.aload_n 0, 1) := by decide +kernel
theorem dX11_count_41 : decode cX11_count 41 = .ok (.getfield 12, 3) := by decide +kernel
theorem dX11_count_44 : decode cX11_count 44 = .ok (.getfield 71, 3) := by decide +kernel
theorem dX11_count_47 : decode cX11_count 47 = .ok (.ireturn, 1) := by decide +kernel
theorem dX11_count_48 : decode cX11_count 48 = .ok (.aload_n 0, 1) := by decide +kernel
theorem dX11_count_49 : decode cX11_count 49 = .ok (.getfield 12, 3) := by decide +kernel
theorem dX11_count_52 : decode cX11_count 52 = .ok (.getfield 52, 3) := by decide +kernel
theorem dX11_count_55 : decode cX11_count 55 = .ok (.ireturn, 1) := by decide +kernel
theorem dX11_count_56 : decode cX11_count 56 = .ok (.aload_n 0, 1) := by decide +kernel
theorem dX11_count_57 : decode cX11_count 57 = .ok (.getfield 12, 3) := by decide +kernel
theorem dX11_count_60 : decode cX11_count 60 = .ok (.getfield 238, 3) := by decide +kernel
theorem dX11_count_63 : decode cX11_count 63 = .ok (.ireturn, 1) := by decide +kernel
theorem dX11_count_64 : decode cX11_count 64 = .ok (.aload_n 0, 1) := by decide +kernel
theorem dX11_count_65 : decode cX11_count 65 = .ok (.getfield 12, 3) := by decide +kernel
theorem dX11_count_68 : decode cX11_count 68 = .ok (.getfield 261, 3) := by decide +kernel
theorem dX11_count_71 : decode cX11_count 71 = .ok (.ireturn, 1) := by decide +kernel
theorem dX11_count_72 : decode cX11_count 72 = .ok (.aload_n 0, 1) := by decide +kernel
theorem dX11_count_73 : decode cX11_count 73 = .ok (.getfield 12, 3) := by decide +kernel
theorem dX11_count_76 : decode cX11_count 76 = .ok (.getfield 45, 3) := by decide +kernel
theorem dX11_count_79 : decode cX11_count 79 = .ok (.ireturn, 1) := by decide +kernel
theorem dX11_count_80 : decode cX11_count 80 = .ok (.aload_n 0, 1) := by decide +kernel
theorem dX11_count_81 : decode cX11_count 81 = .ok (.getfield 28, 3) := by decide +kernel
theorem dX11_count_84 : decode cX11_count 84 = .ok (.iconst 0, 1) := by decide +kernel
theorem dX11_count_85 : decode cX11_count 85 = .ok (.iaload, 1) := by decide +kernel
theorem dX11_count_86 : decode cX11_count 86 = .ok (.ireturn, 1) := by decide +kernel
theorem dX11_count_87 : decode cX11_count 87 = .ok (.iconst (-1), 1) := by decide +kernel
theorem dX11_count_88 : decode cX11_count 88 = .ok (.ireturn, 1) := by decide +kernel
theorem dX11_isOut_0 : decode cX11_isOut 0 = .ok (.iload_n 0, 1) := by decide +kernel
theorem dX11_isOut_1 : decode cX11_isOut 1 = .ok (.iload_n 1, 1) := by decide +kernel
theorem dX11_isOut_2 : decode cX11_isOut 2 = .ok (.if_icmp .lt 8, 3) := by decide +kernel
theorem dX11_isOut_5 : decode cX11_isOut 5 = .ok (.iload_n 0, 1) := by decide +kernel
theorem dX11_isOut_6 : decode cX11_isOut 6 = .ok (.iload_n 2, 1) := by decide +kernel
theorem dX11_isOut_7 : decode cX11_isOut 7 = .ok (.if_icmp .le 7, 3) := by decide +kernel
theorem dX11_isOut_10 : decode cX11_isOut 10 = .ok (.iconst 1, 1) := by decide +kernel
theorem dX11_isOut_11 : decode cX11_isOut 11 = .ok (.goto 4, 3) := by decide +kernel
theorem dX11_isOut_14 : decode cX11_isOut 14 = .ok (.iconst 0, 1) := by decide +kernel
theorem dX11_isOut_15 : decode cX11_isOut 15 = .ok (.ireturn, 1) := by decide +kernel
theorem dX11_isNoPile_0 : decode cX11_isNoPile 0 = .ok (.iload_n 0, 1) := by decide +kernel
theorem dX11_isNoPile_1 : decode cX11_isNoPile 1 = .ok (.iconst 1, 1) := by decide +kernel
theorem dX11_isNoPile_2 : decode cX11_isNoPile 2 = .ok (.bipush 99, 2) := by decide +kernel
theorem dX11_isNoPile_4 : decode cX11_isNoPile 4 = .ok (.invokestatic 41, 3) := by decide +kernel
theorem dX11_isNoPile_7 : decode cX11_isNoPile 7 = .ok (.ireturn, 1) := by decide +kernel
theorem dX11_isNoForce_0 : decode cX11_isNoForce 0 = .ok (.iload_n 0, 1) := by decide +kernel
theorem dX11_isNoForce_1 : decode cX11_isNoForce 1 = .ok (.iconst 0, 1) := by decide +kernel
theorem dX11_isNoForce_2 : decode cX11_isNoForce 2 = .ok (.bipush 20, 2) := by decide +kernel
theorem dX11_isNoForce_4 : decode cX11_isNoForce 4 = .ok (.invokestatic 41, 3) := by decide +kernel
theorem dX11_isNoForce_7 : decode cX11_isNoForce 7 = .ok (.ireturn, 1) := by decide +kernel
theorem dX11_isNoDraw_0 : decode cX11_isNoDraw 0 = .ok (.iload_n 0, 1) := by decide +kernel
theorem dX11_isNoDraw_1 : decode cX11_isNoDraw 1 = .ok (.iconst 0, 1) := by decide +kernel
theorem dX11_isNoDraw_2 : decode cX11_isNoDraw 2 = .ok (.bipush 9, 2) := by decide +kernel
theorem dX11_isNoDraw_4 : decode cX11_isNoDraw 4 = .ok (.invokestatic 41, 3) := by decide +kernel
theorem dX11_isNoDraw_7 : decode cX11_isNoDraw 7 = .ok (.ireturn, 1) := by decide +kernel
theorem dX11_isNoPart_0 : decode cX11_isNoPart 0 = .ok (.iload_n 0, 1) := by decide +kernel
theorem dX11_isNoPart_1 : decode cX11_isNoPart 1 = .ok (.iconst 0, 1) := by decide +kernel
theorem dX11_isNoPart_2 : decode cX11_isNoPart 2 = .ok (.iconst 1, 1) := by decide +kernel
theorem dX11_isNoPart_3 : decode cX11_isNoPart 3 = .ok (.invokestatic 41, 3) := by decide +kernel
theorem dX11_isNoPart_6 : decode cX11_isNoPart 6 = .ok (.ireturn, 1) := by decide +kernel
theorem dX11_find_0 : decode cX11_find 0 = .ok (.iload_n 1, 1) := by decide +kernel
theorem dX11_find_1 : decode cX11_find 1 = .ok (.iconst 0, 1) := by decide +kernel
theorem dX11_find_2 : decode cX11_find 2 = .ok (.aload_n 0, 1) := by decide +kernel
theorem dX11_find_3 : decode cX11_find 3 = .ok (.getfield 12, 3) := by decide +kernel
theorem dX11_find_6 : decode cX11_find 6 = .ok (.getfield 71, 3) := by decide +kernel
theorem dX11_find_9 : decode cX11_find 9 = .ok (.iconst 1, 1) := by decide +kernel
theorem dX11_find_10 : decode cX11_find 10 = .ok (.isub, 1) := by decide +kernel
theorem dX11_find_11 : decode cX11_find 11 = .ok (.invokestatic 41, 3) := by decide +kernel
theorem dX11_find_14 : decode cX11_find 14 = .ok (.ifCond .eq 7, 3) := by decide +kernel
theorem dX11_find_17 : decode cX11_find 17 = .ok (.aconst_null, 1) := by decide +kernel
theorem dX11_find_18 : decode cX11_find 18 = .ok (.goto 12, 3) := by decide +kernel
theorem dX11_find_21 : decode cX11_find 21 = .ok (.aload_n 0, 1) := by decide +kernel
theorem dX11_find_22 : decode cX11_find 22 = .ok (.getfield 12, 3) := by decide +kernel
theorem dX11_find_25 : decode cX11_find 25 = .ok (.getfield 95, 3) := by decide +kernel
theorem dX11_find_28 : decode cX11_find 28 = .ok (.iload_n 1, 1) := by decide +kernel
theorem dX11_find_29 : decode cX11_find 29 = .ok (.aaload, 1) := by decide +kernel
theorem dX11_find_30 : decode cX11_find 30 = .ok (.areturn, 1) := by decide +kernel
theorem dX11_tenths_0 : decode cX11_tenths 0 = .ok (.lconst 1, 1) := by decide +kernel
theorem dX11_tenths_1 : decode cX11_tenths 1 = .ok (.lstore_n 1, 1) := by decide +kernel
theorem dX11_tenths_2 : decode cX11_tenths 2 = .ok (.iconst 0, 1) := by decide +kernel
theorem dX11_tenths_3 : decode cX11_tenths 3 = .ok (.istore_n 3, 1) := by decide +kernel
theorem dX11_tenths_4 : decode cX11_tenths 4 = .ok (.iload_n 3, 1) := by decide +kernel
theorem dX11_tenths_5 : decode cX11_tenths 5 = .ok (.iload_n 0, 1) := by decide +kernel
theorem dX11_tenths_6 : decode cX11_tenths 6 = .ok (.if_icmp .ge 15, 3) := by decide +kernel
theorem dX11_tenths_9 : decode cX11_tenths 9 = .ok (.lload_n 1, 1) := by decide +kernel
theorem dX11_tenths_10 : decode cX11_tenths 10 = .ok (.ldc2_w 174, 3) := by decide +kernel
theorem dX11_tenths_13 : decode cX11_tenths 13 = .ok (.lmul, 1) := by decide +kernel
theorem dX11_tenths_14 : decode cX11_tenths 14 = .ok (.lstore_n 1, 1) := by decide +kernel
theorem dX11_tenths_15 : decode cX11_tenths 15 = .ok (.iinc 3 1, 3) := by decide +kernel
theorem dX11_tenths_18 : decode cX11_tenths 18 = .ok (.goto (-14), 3) := by decide +kernel
theorem dX11_tenths_21 : decode cX11_tenths 21 = .ok (.lload_n 1, 1) := by decide +kernel
theorem dX11_tenths_22 : decode cX11_tenths 22 = .ok (.lreturn, 1) := by decide +kernel
theorem dX11_lowest_0 : decode cX11_lowest 0 = .ok (.lload_n 0, 1) := by decide +kernel
theorem dX11_lowest_1 : decode cX11_lowest 1 = .ok (.lstore 5, 2) := by decide +kernel
theorem dX11_lowest_3 : decode cX11_lowest 3 = .ok (.lload_n 2, 1) := by decide +kernel
theorem dX11_lowest_4 : decode cX11_lowest 4 = .ok (.lstore 7, 2) := by decide +kernel
theorem dX11_lowest_6 : decode cX11_lowest 6 = .ok (.iconst 0, 1) := by decide +kernel
theorem dX11_lowest_7 : decode cX11_lowest 7 = .ok (.istore 9, 2) := by decide +kernel
theorem dX11_lowest_9 : decode cX11_lowest 9 = .ok (.iload 9, 2) := by decide +kernel
theorem dX11_lowest_11 : decode cX11_lowest 11 = .ok (.sipush 200, 3) := by decide +kernel
theorem dX11_lowest_14 : decode cX11_lowest 14 = .ok (.if_icmp .ge 31, 3) := by decide +kernel
theorem dX11_lowest_17 : decode cX11_lowest 17 = .ok (.lload 7, 2) := by decide +kernel
theorem dX11_lowest_19 : decode cX11_lowest 19 = .ok (.lconst 0, 1) := by decide +kernel
theorem dX11_lowest_20 : decode cX11_lowest 20 = .ok (.lcmp, 1) := by decide +kernel
theorem dX11_lowest_21 : decode cX11_lowest 21 = .ok (.ifCond .eq 24, 3) := by decide +kernel
theorem dX11_lowest_24 : decode cX11_lowest 24 = .ok (.lload 5, 2) := by decide +kernel
theorem dX11_lowest_26 : decode cX11_lowest 26 = .ok (.lload 7, 2) := by decide +kernel
theorem dX11_lowest_28 : decode cX11_lowest 28 = .ok (.lrem, 1) := by decide +kernel
theorem dX11_lowest_29 : decode cX11_lowest 29 = .ok (.lstore 10, 2) := by decide +kernel
theorem dX11_lowest_31 : decode cX11_lowest 31 = .ok (.lload 7, 2) := by decide +kernel
theorem dX11_lowest_33 : decode cX11_lowest 33 = .ok (.lstore 5, 2) := by decide +kernel
theorem dX11_lowest_35 : decode cX11_lowest 35 = .ok (.lload 10, 2) := by decide +kernel
theorem dX11_lowest_37 : decode cX11_lowest 37 = .ok (.lstore 7, 2) := by decide +kernel
theorem dX11_lowest_39 : decode cX11_lowest 39 = .ok (.iinc 9 1, 3) := by decide +kernel
theorem dX11_lowest_42 : decode cX11_lowest 42 = .ok (.goto (-33), 3) := by decide +kernel
theorem dX11_lowest_45 : decode cX11_lowest 45 = .ok (.lload 5, 2) := by decide +kernel
theorem dX11_lowest_47 : decode cX11_lowest 47 = .ok (.lconst 0, 1) := by decide +kernel
theorem dX11_lowest_48 : decode cX11_lowest 48 = .ok (.lcmp, 1) := by decide +kernel
theorem dX11_lowest_49 : decode cX11_lowest 49 = .ok (.ifCond .ne 7, 3) := by decide +kernel
theorem dX11_lowest_52 : decode cX11_lowest 52 = .ok (.ldc2_w 169, 3) := by decide +kernel
theorem dX11_lowest_55 : decode cX11_lowest 55 = .ok (.lreturn, 1) := by decide +kernel
theorem dX11_lowest_56 : decode cX11_lowest 56 = .ok (.iload 4, 2) := by decide +kernel
theorem dX11_lowest_58 : decode cX11_lowest 58 = .ok (.ifCond .ne 7, 3) := by decide +kernel
theorem dX11_lowest_61 : decode cX11_lowest 61 = .ok (.lload_n 0, 1) := by decide +kernel
theorem dX11_lowest_62 : decode cX11_lowest 62 = .ok (.goto 4, 3) := by decide +kernel
theorem dX11_lowest_65 : decode cX11_lowest 65 = .ok (.lload_n 2, 1) := by decide +kernel
theorem dX11_lowest_66 : decode cX11_lowest 66 = .ok (.lload 5, 2) := by decide +kernel
theorem dX11_lowest_68 : decode cX11_lowest 68 = .ok (.ldiv, 1) := by decide +kernel
theorem dX11_lowest_69 : decode cX11_lowest 69 = .ok (.lreturn, 1) := by decide +kernel
theorem dX11_lay_0 : decode cX11_lay 0 = .ok (.aload_n 0, 1) := by decide +kernel
theorem dX11_lay_1 : decode cX11_lay 1 = .ok (.getfield 24, 3) := by decide +kernel
theorem dX11_lay_4 : decode cX11_lay 4 = .ok (.aload_n 0, 1) := by decide +kernel
theorem dX11_lay_5 : decode cX11_lay 5 = .ok (.getfield 12, 3) := by decide +kernel
theorem dX11_lay_8 : decode cX11_lay 8 = .ok (.aload_n 1, 1) := by decide +kernel
theorem dX11_lay_9 : decode cX11_lay 9 = .ok (.iload_n 2, 1) := by decide +kernel
theorem dX11_lay_10 : decode cX11_lay 10 = .ok (.aload_n 1, 1) := by decide +kernel
theorem dX11_lay_11 : decode cX11_lay 11 = .ok (.getfield 86, 3) := by decide +kernel
theorem dX11_lay_14 : decode cX11_lay 14 = .ok (.aload_n 1, 1) := by decide +kernel
theorem dX11_lay_15 : decode cX11_lay 15 = .ok (.getfield 106, 3) := by decide +kernel
theorem dX11_lay_18 : decode cX11_lay 18 = .ok (.invokevirtual 290, 3) := by decide +kernel
theorem dX11_lay_21 : decode cX11_lay 21 = .ok (.return_, 1) := by decide +kernel
theorem dX11_mostBy_0 : decode cX11_mostBy 0 = .ok (.bipush 99, 2) := by decide +kernel
theorem dX11_mostBy_2 : decode cX11_mostBy 2 = .ok (.istore_n 3, 1) := by decide +kernel
theorem dX11_mostBy_3 : decode cX11_mostBy 3 = .ok (.iload_n 3, 1) := by decide +kernel
theorem dX11_mostBy_4 : decode cX11_mostBy 4 = .ok (.iconst 1, 1) := by decide +kernel
theorem dX11_mostBy_5 : decode cX11_mostBy 5 = .ok (.if_icmp .lt 43, 3) := by decide +kernel
theorem dX11_mostBy_8 : decode cX11_mostBy 8 = .ok (.aload_n 0, 1) := by decide +kernel
theorem dX11_mostBy_9 : decode cX11_mostBy 9 = .ok (.getfield 24, 3) := by decide +kernel
theorem dX11_mostBy_12 : decode cX11_mostBy 12 = .ok (.aload_n 0, 1) := by decide +kernel
theorem dX11_mostBy_13 : decode cX11_mostBy 13 = .ok (.getfield 12, 3) := by decide +kernel
theorem dX11_mostBy_16 : decode cX11_mostBy 16 = .ok (.aload_n 1, 1) := by decide +kernel
theorem dX11_mostBy_17 : decode cX11_mostBy 17 = .ok (.iload_n 3, 1) := by decide +kernel
theorem dX11_mostBy_18 : decode cX11_mostBy 18 = .ok (.aload_n 1, 1) := by decide +kernel
theorem dX11_mostBy_19 : decode cX11_mostBy 19 = .ok (.getfield 86, 3) := by decide +kernel
theorem dX11_mostBy_22 : decode cX11_mostBy 22 = .ok (.iload_n 2, 1) := by decide +kernel
theorem dX11_mostBy_23 : decode cX11_mostBy 23 = .ok (.invokevirtual 290, 3) := by decide +kernel
theorem dX11_mostBy_26 : decode cX11_mostBy 26 = .ok (.iconst 2, 1) := by decide +kernel
theorem dX11_mostBy_27 : decode cX11_mostBy 27 = .ok (.aload_n 0, 1) := by decide +kernel
theorem dX11_mostBy_28 : decode cX11_mostBy 28 = .ok (.getfield 24, 3) := by decide +kernel
theorem dX11_mostBy_31 : decode cX11_mostBy 31 = .ok (.invokevirtual 184, 3) := by decide +kernel
theorem dX11_mostBy_34 : decode cX11_mostBy 34 = .ok (.imul, 1) := by decide +kernel
theorem dX11_mostBy_35 : decode cX11_mostBy 35 = .ok (.bipush 10, 2) := by decide +kernel
theorem dX11_mostBy_37 : decode cX11_mostBy 37 = .ok (.if_icmp .lt 5, 3) := by decide +kernel
theorem dX11_mostBy_40 : decode cX11_mostBy 40 = .ok (.iload_n 3, 1) := by decide +kernel
theorem dX11_mostBy_41 : decode cX11_mostBy 41 = .ok (.ireturn, 1) := by decide +kernel
theorem dX11_mostBy_42 : decode cX11_mostBy 42 = .ok (.iinc 3 (-1), 3) := by decide +kernel
theorem dX11_mostBy_45 : decode cX11_mostBy 45 = .ok (.goto (-42), 3) := by decide +kernel
theorem dX11_mostBy_48 : decode cX11_mostBy 48 = .ok (.iconst 0, 1) := by decide +kernel
theorem dX11_mostBy_49 : decode cX11_mostBy 49 = .ok (.ireturn, 1) := by decide +kernel
theorem dX11_oneMoreThan_0 : decode cX11_oneMoreThan 0 = .ok (.bipush 99, 2) := by decide +kernel
theorem dX11_oneMoreThan_2 : decode cX11_oneMoreThan 2 = .ok (.aload_n 0, 1) := by decide +kernel
theorem dX11_oneMoreThan_3 : decode cX11_oneMoreThan 3 = .ok (.getfield 109, 3) := by decide +kernel
theorem dX11_oneMoreThan_6 : decode cX11_oneMoreThan 6 = .ok (.iconst 1, 1) := by decide +kernel
theorem dX11_oneMoreThan_7 : decode cX11_oneMoreThan 7 = .ok (.iadd, 1) := by decide +kernel
theorem dX11_oneMoreThan_8 : decode cX11_oneMoreThan 8 = .ok (.invokestatic 196, 3) := by decide +kernel
theorem dX11_oneMoreThan_11 : decode cX11_oneMoreThan 11 = .ok (.ireturn, 1) := by decide +kernel
theorem dX11_matsOf_0 : decode cX11_matsOf 0 = .ok (.iconst 5, 1) := by decide +kernel
theorem dX11_matsOf_1 : decode cX11_matsOf 1 = .ok (.iload_n 0, 1) := by decide +kernel
theorem dX11_matsOf_2 : decode cX11_matsOf 2 = .ok (.iconst 1, 1) := by decide +kernel
theorem dX11_matsOf_3 : decode cX11_matsOf 3 = .ok (.iadd, 1) := by decide +kernel
theorem dX11_matsOf_4 : decode cX11_matsOf 4 = .ok (.imul, 1) := by decide +kernel
theorem dX11_matsOf_5 : decode cX11_matsOf 5 = .ok (.ireturn, 1) := by decide +kernel
theorem dX11_fillPlanOdds_0 : decode cX11_fillPlanOdds 0 = .ok (.iconst 0, 1) := by decide +kernel
theorem dX11_fillPlanOdds_1 : decode cX11_fillPlanOdds 1 = .ok (.istore_n 3, 1) := by decide +kernel
theorem dX11_fillPlanOdds_2 : decode cX11_fillPlanOdds 2 = .ok (.iload_n 3, 1) := by decide +kernel
theorem dX11_fillPlanOdds_3 : decode cX11_fillPlanOdds 3 = .ok (.iload_n 2, 1) := by decide +kernel
theorem dX11_fillPlanOdds_4 : decode cX11_fillPlanOdds 4 = .ok (.iconst 3, 1) := by decide +kernel
theorem dX11_fillPlanOdds_5 : decode cX11_fillPlanOdds 5 = .ok (.invokestatic 196, 3) := by decide +kernel
theorem dX11_fillPlanOdds_8 : decode cX11_fillPlanOdds 8 = .ok (.if_icmp .ge 80, 3) := by decide +kernel
theorem dX11_fillPlanOdds_11 : decode cX11_fillPlanOdds 11 = .ok (.bipush 20, 2) := by decide +kernel
theorem dX11_fillPlanOdds_13 : decode cX11_fillPlanOdds 13 = .ok (.aload_n 1, 1) := by decide +kernel
theorem dX11_fillPlanOdds_14 : decode cX11_fillPlanOdds 14 = .ok (.getfield 86, 3) := by decide +kernel
theorem dX11_fillPlanOdds_17 : decode cX11_fillPlanOdds 17 = .ok (.iload_n 3, 1) := by decide +kernel
theorem dX11_fillPlanOdds_18 : decode cX11_fillPlanOdds 18 = .ok (.iadd, 1) := by decide +kernel
theorem dX11_fillPlanOdds_19 : decode cX11_fillPlanOdds 19 = .ok (.invokestatic 196, 3) := by decide +kernel
theorem dX11_fillPlanOdds_22 : decode cX11_fillPlanOdds 22 = .ok (.istore 4, 2) := by decide +kernel
theorem dX11_fillPlanOdds_24 : decode cX11_fillPlanOdds 24 = .ok (.iconst 0, 1) := by decide +kernel
theorem dX11_fillPlanOdds_25 : decode cX11_fillPlanOdds 25 = .ok (.istore 5, 2) := by decide +kernel
theorem dX11_fillPlanOdds_27 : decode cX11_fillPlanOdds 27 = .ok (.iload 5, 2) := by decide +kernel
theorem dX11_fillPlanOdds_29 : decode cX11_fillPlanOdds 29 = .ok (.bipush 12, 2) := by decide +kernel
theorem dX11_fillPlanOdds_31 : decode cX11_fillPlanOdds 31 = .ok (.if_icmp .ge 51, 3) := by decide +kernel
theorem dX11_fillPlanOdds_34 : decode cX11_fillPlanOdds 34 = .ok (.aload_n 0, 1) := by decide +kernel
theorem dX11_fillPlanOdds_35 : decode cX11_fillPlanOdds 35 = .ok (.getfield 24, 3) := by decide +kernel
theorem dX11_fillPlanOdds_38 : decode cX11_fillPlanOdds 38 = .ok (.aload_n 0, 1) := by decide +kernel
theorem dX11_fillPlanOdds_39 : decode cX11_fillPlanOdds 39 = .ok (.getfield 12, 3) := by decide +kernel
theorem dX11_fillPlanOdds_42 : decode cX11_fillPlanOdds 42 = .ok (.aload_n 1, 1) := by decide +kernel
theorem dX11_fillPlanOdds_43 : decode cX11_fillPlanOdds 43 = .ok (.iload 5, 2) := by decide +kernel
theorem dX11_fillPlanOdds_45 : decode cX11_fillPlanOdds 45 = .ok (.invokestatic 216, 3) := by decide +kernel
theorem dX11_fillPlanOdds_48 : decode cX11_fillPlanOdds 48 = .ok (.iload 4, 2) := by decide +kernel
theorem dX11_fillPlanOdds_50 : decode cX11_fillPlanOdds 50 = .ok (.aload_n 1, 1) := by decide +kernel
theorem dX11_fillPlanOdds_51 : decode cX11_fillPlanOdds 51 = .ok (.getfield 106, 3) := by decide +kernel
theorem dX11_fillPlanOdds_54 : decode cX11_fillPlanOdds 54 = .ok (.invokevirtual 290, 3) := by decide +kernel
theorem dX11_fillPlanOdds_57 : decode cX11_fillPlanOdds 57 = .ok (.aload_n 0, 1) := by decide +kernel
theorem dX11_fillPlanOdds_58 : decode cX11_fillPlanOdds 58 = .ok (.getfield 38, 3) := by decide +kernel
theorem dX11_fillPlanOdds_61 : decode cX11_fillPlanOdds 61 = .ok (.iload_n 3, 1) := by decide +kernel
theorem dX11_fillPlanOdds_62 : decode cX11_fillPlanOdds 62 = .ok (.bipush 12, 2) := by decide +kernel
theorem dX11_fillPlanOdds_64 : decode cX11_fillPlanOdds 64 = .ok (.imul, 1) := by decide +kernel
theorem dX11_fillPlanOdds_65 : decode cX11_fillPlanOdds 65 = .ok (.iload 5, 2) := by decide +kernel
theorem dX11_fillPlanOdds_67 : decode cX11_fillPlanOdds 67 = .ok (.iadd, 1) := by decide +kernel
theorem dX11_fillPlanOdds_68 : decode cX11_fillPlanOdds 68 = .ok (.aload_n 0, 1) := by decide +kernel
theorem dX11_fillPlanOdds_69 : decode cX11_fillPlanOdds 69 = .ok (.getfield 24, 3) := by decide +kernel
theorem dX11_fillPlanOdds_72 : decode cX11_fillPlanOdds 72 = .ok (.invokevirtual 184, 3) := by decide +kernel
theorem dX11_fillPlanOdds_75 : decode cX11_fillPlanOdds 75 = .ok (.iastore, 1) := by decide +kernel
theorem dX11_fillPlanOdds_76 : decode cX11_fillPlanOdds 76 = .ok (.iinc 5 1, 3) := by decide +kernel
theorem dX11_fillPlanOdds_79 : decode cX11_fillPlanOdds 79 = .ok (.goto (-52), 3) := by decide +kernel
theorem dX11_fillPlanOdds_82 : decode cX11_fillPlanOdds 82 = .ok (.iinc 3 1, 3) := by decide +kernel
theorem dX11_fillPlanOdds_85 : decode cX11_fillPlanOdds 85 = .ok (.goto (-83), 3) := by decide +kernel
theorem dX11_fillPlanOdds_88 : decode cX11_fillPlanOdds 88 = .ok (.return_, 1) := by decide +kernel
theorem dX11_planned_0 : decode cX11_planned 0 = .ok (.iload_n 3, 1) := by decide +kernel
theorem dX11_planned_1 : decode cX11_planned 1 = .ok (.ifCond .gt 6, 3) := by decide +kernel
theorem dX11_planned_4 : decode cX11_planned 4 = .ok (.iload_n 1, 1) := by decide +kernel
theorem dX11_planned_5 : decode cX11_planned 5 = .ok (.i2l, 1) := by decide +kernel
theorem dX11_planned_6 : decode cX11_planned 6 = .ok (.lreturn, 1) := by decide +kernel
theorem dX11_planned_7 : decode cX11_planned 7 = .ok (.aload_n 0, 1) := by decide +kernel
theorem dX11_planned_8 : decode cX11_planned 8 = .ok (.iload_n 1, 1) := by decide +kernel
theorem dX11_planned_9 : decode cX11_planned 9 = .ok (.iload_n 2, 1) := by decide +kernel
theorem dX11_planned_10 : decode cX11_planned 10 = .ok (.iload_n 3, 1) := by decide +kernel
theorem dX11_planned_11 : decode cX11_planned 11 = .ok (.iconst 1, 1) := by decide +kernel
theorem dX11_planned_12 : decode cX11_planned 12 = .ok (.isub, 1) := by decide +kernel
theorem dX11_planned_13 : decode cX11_planned 13 = .ok (.invokevirtual 202, 3) := by decide +kernel
theorem dX11_planned_16 : decode cX11_planned 16 = .ok (.lstore 4, 2) := by decide +kernel
theorem dX11_planned_18 : decode cX11_planned 18 = .ok (.lconst 0, 1) := by decide +kernel
theorem dX11_planned_19 : decode cX11_planned 19 = .ok (.lstore 6, 2) := by decide +kernel
theorem dX11_planned_21 : decode cX11_planned 21 = .ok (.iconst 0, 1) := by decide +kernel
theorem dX11_planned_22 : decode cX11_planned 22 = .ok (.istore 8, 2) := by decide +kernel
theorem dX11_planned_24 : decode cX11_planned 24 = .ok (.iload 8, 2) := by decide +kernel
theorem dX11_planned_26 : decode cX11_planned 26 = .ok (.bipush 12, 2) := by decide +kernel
theorem dX11_planned_28 : decode cX11_planned 28 = .ok (.if_icmp .ge 27, 3) := by decide +kernel
theorem dX11_planned_31 : decode cX11_planned 31 = .ok (.lload 6, 2) := by decide +kernel
theorem dX11_planned_33 : decode cX11_planned 33 = .ok (.aload_n 0, 1) := by decide +kernel
theorem dX11_planned_34 : decode cX11_planned 34 = .ok (.iload 8, 2) := by decide +kernel
theorem dX11_planned_36 : decode cX11_planned 36 = .ok (.iload_n 1, 1) := by decide +kernel
theorem dX11_planned_37 : decode cX11_planned 37 = .ok (.iload_n 2, 1) := by decide +kernel
theorem dX11_planned_38 : decode cX11_planned 38 = .ok (.iload_n 3, 1) := by decide +kernel
theorem dX11_planned_39 : decode cX11_planned 39 = .ok (.lload 4, 2) := by decide +kernel
theorem dX11_planned_41 : decode cX11_planned 41 = .ok (.invokevirtual 212, 3) := by decide +kernel
theorem dX11_planned_44 : decode cX11_planned 44 = .ok (.invokestatic 294, 3) := by decide +kernel
theorem dX11_planned_47 : decode cX11_planned 47 = .ok (.lstore 6, 2) := by decide +kernel
theorem dX11_planned_49 : decode cX11_planned 49 = .ok (.iinc 8 1, 3) := by decide +kernel
theorem dX11_planned_52 : decode cX11_planned 52 = .ok (.goto (-28), 3) := by decide +kernel
theorem dX11_planned_55 : decode cX11_planned 55 = .ok (.lload 6, 2) := by decide +kernel
theorem dX11_planned_57 : decode cX11_planned 57 = .ok (.lreturn, 1) := by decide +kernel
theorem dX11_plannedBy_0 : decode cX11_plannedBy 0 = .ok (.iload_n 3, 1) := by decide +kernel
theorem dX11_plannedBy_1 : decode cX11_plannedBy 1 = .ok (.bipush 12, 2) := by decide +kernel
theorem dX11_plannedBy_3 : decode cX11_plannedBy 3 = .ok (.imul, 1) := by decide +kernel
theorem dX11_plannedBy_4 : decode cX11_plannedBy 4 = .ok (.iload_n 1, 1) := by decide +kernel
theorem dX11_plannedBy_5 : decode cX11_plannedBy 5 = .ok (.iadd, 1) := by decide +kernel
theorem dX11_plannedBy_6 : decode cX11_plannedBy 6 = .ok (.istore 7, 2) := by decide +kernel
theorem dX11_plannedBy_8 : decode cX11_plannedBy 8 = .ok (.iload 4, 2) := by decide +kernel
theorem dX11_plannedBy_10 : decode cX11_plannedBy 10 = .ok (.ifCond .le 19, 3) := by decide +kernel
theorem dX11_plannedBy_13 : decode cX11_plannedBy 13 = .ok (.iload 7, 2) := by decide +kernel
theorem dX11_plannedBy_15 : decode cX11_plannedBy 15 = .ok (.iconst 0, 1) := by decide +kernel
theorem dX11_plannedBy_16 : decode cX11_plannedBy 16 = .ok (.aload_n 0, 1) := by decide +kernel
theorem dX11_plannedBy_17 : decode cX11_plannedBy 17 = .ok (.getfield 38, 3) := by decide +kernel
theorem dX11_plannedBy_20 : decode cX11_plannedBy 20 = .ok (.arraylength, 1) := by decide +kernel
theorem dX11_plannedBy_21 : decode cX11_plannedBy 21 = .ok (.iconst 1, 1) := by decide +kernel
theorem dX11_plannedBy_22 : decode cX11_plannedBy 22 = .ok (.isub, 1) := by decide +kernel
theorem dX11_plannedBy_23 : decode cX11_plannedBy 23 = .ok (.invokestatic 41, 3) := by decide +kernel
theorem dX11_plannedBy_26 : decode cX11_plannedBy 26 = .ok (.ifCond .eq 5, 3) := by decide +kernel
theorem dX11_plannedBy_29 : decode cX11_plannedBy 29 = .ok (.lconst 0, 1) := by decide +kernel
theorem dX11_plannedBy_30 : decode cX11_plannedBy 30 = .ok (.lreturn, 1) := by decide +kernel
theorem dX11_plannedBy_31 : decode cX11_plannedBy 31 = .ok (.iload_n 1, 1) := by decide +kernel
theorem dX11_plannedBy_32 : decode cX11_plannedBy 32 = .ok (.invokestatic 216, 3) := by decide +kernel
theorem dX11_plannedBy_35 : decode cX11_plannedBy 35 = .ok (.istore 8, 2) := by decide +kernel
theorem dX11_plannedBy_37 : decode cX11_plannedBy 37 = .ok (.aload_n 0, 1) := by decide +kernel
theorem dX11_plannedBy_38 : decode cX11_plannedBy 38 = .ok (.getfield 38, 3) := by decide +kernel
theorem dX11_plannedBy_41 : decode cX11_plannedBy 41 = .ok (.iload 7, 2) := by decide +kernel
theorem dX11_plannedBy_43 : decode cX11_plannedBy 43 = .ok (.iaload, 1) := by decide +kernel
theorem dX11_plannedBy_44 : decode cX11_plannedBy 44 = .ok (.istore 9, 2) := by decide +kernel
theorem dX11_plannedBy_46 : decode cX11_plannedBy 46 = .ok (.iload 8, 2) := by decide +kernel
theorem dX11_plannedBy_48 : decode cX11_plannedBy 48 = .ok (.iload_n 2, 1) := by decide +kernel
theorem dX11_plannedBy_49 : decode cX11_plannedBy 49 = .ok (.isub, 1) := by decide +kernel
theorem dX11_plannedBy_50 : decode cX11_plannedBy 50 = .ok (.invokestatic 297, 3) := by decide +kernel
theorem dX11_plannedBy_53 : decode cX11_plannedBy 53 = .ok (.iconst 5, 1) := by decide +kernel
theorem dX11_plannedBy_54 : decode cX11_plannedBy 54 = .ok (.if_icmp .gt 9, 3) := by decide +kernel
theorem dX11_plannedBy_57 : decode cX11_plannedBy 57 = .ok (.iload_n 3, 1) := by decide +kernel
theorem dX11_plannedBy_58 : decode cX11_plannedBy 58 = .ok (.iconst 1, 1) := by decide +kernel
theorem dX11_plannedBy_59 : decode cX11_plannedBy 59 = .ok (.iadd, 1) := by decide +kernel
theorem dX11_plannedBy_60 : decode cX11_plannedBy 60 = .ok (.goto 4, 3) := by decide +kernel
theorem dX11_plannedBy_63 : decode cX11_plannedBy 63 = .ok (.iload_n 3, 1) := by decide +kernel
theorem dX11_plannedBy_64 : decode cX11_plannedBy 64 = .ok (.istore 10, 2) := by decide +kernel
theorem dX11_plannedBy_66 : decode cX11_plannedBy 66 = .ok (.iload 9, 2) := by decide +kernel
theorem dX11_plannedBy_68 : decode cX11_plannedBy 68 = .ok (.ifCond .ne 7, 3) := by decide +kernel
theorem dX11_plannedBy_71 : decode cX11_plannedBy 71 = .ok (.lconst 0, 1) := by decide +kernel
theorem dX11_plannedBy_72 : decode cX11_plannedBy 72 = .ok (.goto 19, 3) := by decide +kernel
theorem dX11_plannedBy_75 : decode cX11_plannedBy 75 = .ok (.aload_n 0, 1) := by decide +kernel
theorem dX11_plannedBy_76 : decode cX11_plannedBy 76 = .ok (.iload_n 2, 1) := by decide +kernel
theorem dX11_plannedBy_77 : decode cX11_plannedBy 77 = .ok (.iload 8, 2) := by decide +kernel
theorem dX11_plannedBy_79 : decode cX11_plannedBy 79 = .ok (.invokestatic 191, 3) := by decide +kernel
theorem dX11_plannedBy_82 : decode cX11_plannedBy 82 = .ok (.iload 10, 2) := by decide +kernel
theorem dX11_plannedBy_84 : decode cX11_plannedBy 84 = .ok (.iload 4, 2) := by decide +kernel
theorem dX11_plannedBy_86 : decode cX11_plannedBy 86 = .ok (.iconst 1, 1) := by decide +kernel
theorem dX11_plannedBy_87 : decode cX11_plannedBy 87 = .ok (.isub, 1) := by decide +kernel
theorem dX11_plannedBy_88 : decode cX11_plannedBy 88 = .ok (.invokevirtual 202, 3) := by decide +kernel
theorem dX11_plannedBy_91 : decode cX11_plannedBy 91 = .ok (.lstore 11, 2) := by decide +kernel
theorem dX11_plannedBy_93 : decode cX11_plannedBy 93 = .ok (.iload 9, 2) := by decide +kernel
theorem dX11_plannedBy_95 : decode cX11_plannedBy 95 = .ok (.i2l, 1) := by decide +kernel
theorem dX11_plannedBy_96 : decode cX11_plannedBy 96 = .ok (.lload 11, 2) := by decide +kernel
theorem dX11_plannedBy_98 : decode cX11_plannedBy 98 = .ok (.lmul, 1) := by decide +kernel
theorem dX11_plannedBy_99 : decode cX11_plannedBy 99 = .ok (.bipush 10, 2) := by decide +kernel
theorem dX11_plannedBy_101 : decode cX11_plannedBy 101 = .ok (.iload 9, 2) := by decide +kernel
theorem dX11_plannedBy_103 : decode cX11_plannedBy 103 = .ok (.isub, 1) := by decide +kernel
theorem dX11_plannedBy_104 : decode cX11_plannedBy 104 = .ok (.i2l, 1) := by decide +kernel
theorem dX11_plannedBy_105 : decode cX11_plannedBy 105 = .ok (.lload 5, 2) := by decide +kernel
theorem dX11_plannedBy_107 : decode cX11_plannedBy 107 = .ok (.lmul, 1) := by decide +kernel
theorem dX11_plannedBy_108 : decode cX11_plannedBy 108 = .ok (.ladd, 1) := by decide +kernel
theorem dX11_plannedBy_109 : decode cX11_plannedBy 109 = .ok (.lreturn, 1) := by decide +kernel
theorem dX11_raised_0 : decode cX11_raised 0 = .ok (.lconst 1, 1) := by decide +kernel
theorem dX11_raised_1 : decode cX11_raised 1 = .ok (.lstore 6, 2) := by decide +kernel
theorem dX11_raised_3 : decode cX11_raised 3 = .ok (.lconst 0, 1) := by decide +kernel
theorem dX11_raised_4 : decode cX11_raised 4 = .ok (.lstore 8, 2) := by decide +kernel
theorem dX11_raised_6 : decode cX11_raised 6 = .ok (.iconst 0, 1) := by decide +kernel
theorem dX11_raised_7 : decode cX11_raised 7 = .ok (.istore 10, 2) := by decide +kernel
theorem dX11_raised_9 : decode cX11_raised 9 = .ok (.iload 10, 2) := by decide +kernel
theorem dX11_raised_11 : decode cX11_raised 11 = .ok (.iload 4, 2) := by decide +kernel
theorem dX11_raised_13 : decode cX11_raised 13 = .ok (.if_icmp .ge 111, 3) := by decide +kernel
theorem dX11_raised_16 : decode cX11_raised 16 = .ok (.iload 10, 2) := by decide +kernel
theorem dX11_raised_18 : decode cX11_raised 18 = .ok (.iconst 2, 1) := by decide +kernel
theorem dX11_raised_19 : decode cX11_raised 19 = .ok (.irem, 1) := by decide +kernel
theorem dX11_raised_20 : decode cX11_raised 20 = .ok (.ifCond .ne 7, 3) := by decide +kernel
theorem dX11_raised_23 : decode cX11_raised 23 = .ok (.iconst 1, 1) := by decide +kernel
theorem dX11_raised_24 : decode cX11_raised 24 = .ok (.goto 4, 3) := by decide +kernel
theorem dX11_raised_27 : decode cX11_raised 27 = .ok (.iconst 0, 1) := by decide +kernel
theorem dX11_raised_28 : decode cX11_raised 28 = .ok (.istore 11, 2) := by decide +kernel
theorem dX11_raised_30 : decode cX11_raised 30 = .ok (.iload 11, 2) := by decide +kernel
theorem dX11_raised_32 : decode cX11_raised 32 = .ok (.ifCond .eq 7, 3) := by decide +kernel
theorem dX11_raised_35 : decode cX11_raised 35 = .ok (.aload_n 1, 1) := by decide +kernel
theorem dX11_raised_36 : decode cX11_raised 36 = .ok (.goto 4, 3) := by decide +kernel
theorem dX11_raised_39 : decode cX11_raised 39 = .ok (.aload_n 2, 1) := by decide +kernel
theorem dX11_raised_40 : decode cX11_raised 40 = .ok (.astore 12, 2) := by decide +kernel
theorem dX11_raised_42 : decode cX11_raised 42 = .ok (.aload_n 0, 1) := by decide +kernel
theorem dX11_raised_43 : decode cX11_raised 43 = .ok (.getfield 24, 3) := by decide +kernel
theorem dX11_raised_46 : decode cX11_raised 46 = .ok (.aload_n 0, 1) := by decide +kernel
theorem dX11_raised_47 : decode cX11_raised 47 = .ok (.getfield 12, 3) := by decide +kernel
theorem dX11_raised_50 : decode cX11_raised 50 = .ok (.aload 12, 2) := by decide +kernel
theorem dX11_raised_52 : decode cX11_raised 52 = .ok (.bipush 99, 2) := by decide +kernel
theorem dX11_raised_54 : decode cX11_raised 54 = .ok (.iload_n 3, 1) := by decide +kernel
theorem dX11_raised_55 : decode cX11_raised 55 = .ok (.iload 10, 2) := by decide +kernel
theorem dX11_raised_57 : decode cX11_raised 57 = .ok (.iadd, 1) := by decide +kernel
theorem dX11_raised_58 : decode cX11_raised 58 = .ok (.invokestatic 196, 3) := by decide +kernel
theorem dX11_raised_61 : decode cX11_raised 61 = .ok (.aload 12, 2) := by decide +kernel
theorem dX11_raised_63 : decode cX11_raised 63 = .ok (.getfield 86, 3) := by decide +kernel
theorem dX11_raised_66 : decode cX11_raised 66 = .ok (.aload 12, 2) := by decide +kernel
theorem dX11_raised_68 : decode cX11_raised 68 = .ok (.getfield 106, 3) := by decide +kernel
theorem dX11_raised_71 : decode cX11_raised 71 = .ok (.invokevirtual 290, 3) := by decide +kernel
theorem dX11_raised_74 : decode cX11_raised 74 = .ok (.aload_n 0, 1) := by decide +kernel
theorem dX11_raised_75 : decode cX11_raised 75 = .ok (.getfield 24, 3) := by decide +kernel
theorem dX11_raised_78 : decode cX11_raised 78 = .ok (.invokevirtual 184, 3) := by decide +kernel
theorem dX11_raised_81 : decode cX11_raised 81 = .ok (.istore 13, 2) := by decide +kernel
theorem dX11_raised_83 : decode cX11_raised 83 = .ok (.lload 8, 2) := by decide +kernel
theorem dX11_raised_85 : decode cX11_raised 85 = .ok (.ldc2_w 174, 3) := by decide +kernel
theorem dX11_raised_88 : decode cX11_raised 88 = .ok (.lmul, 1) := by decide +kernel
theorem dX11_raised_89 : decode cX11_raised 89 = .ok (.lstore 8, 2) := by decide +kernel
theorem dX11_raised_91 : decode cX11_raised 91 = .ok (.iload 11, 2) := by decide +kernel
theorem dX11_raised_93 : decode cX11_raised 93 = .ok (.ifCond .ne 17, 3) := by decide +kernel
theorem dX11_raised_96 : decode cX11_raised 96 = .ok (.lload 8, 2) := by decide +kernel
theorem dX11_raised_98 : decode cX11_raised 98 = .ok (.lload 6, 2) := by decide +kernel
theorem dX11_raised_100 : decode cX11_raised 100 = .ok (.bipush 10, 2) := by decide +kernel
theorem dX11_raised_102 : decode cX11_raised 102 = .ok (.iload 13, 2) := by decide +kernel
theorem dX11_raised_104 : decode cX11_raised 104 = .ok (.isub, 1) := by decide +kernel
theorem dX11_raised_105 : decode cX11_raised 105 = .ok (.i2l, 1) := by decide +kernel
theorem dX11_raised_106 : decode cX11_raised 106 = .ok (.lmul, 1) := by decide +kernel
theorem dX11_raised_107 : decode cX11_raised 107 = .ok (.ladd, 1) := by decide +kernel
theorem dX11_raised_108 : decode cX11_raised 108 = .ok (.lstore 8, 2) := by decide +kernel
theorem dX11_raised_110 : decode cX11_raised 110 = .ok (.lload 6, 2) := by decide +kernel
theorem dX11_raised_112 : decode cX11_raised 112 = .ok (.iload 13, 2) := by decide +kernel
theorem dX11_raised_114 : decode cX11_raised 114 = .ok (.i2l, 1) := by decide +kernel
theorem dX11_raised_115 : decode cX11_raised 115 = .ok (.lmul, 1) := by decide +kernel
theorem dX11_raised_116 : decode cX11_raised 116 = .ok (.lstore 6, 2) := by decide +kernel
theorem dX11_raised_118 : decode cX11_raised 118 = .ok (.iinc 10 1, 3) := by decide +kernel
theorem dX11_raised_121 : decode cX11_raised 121 = .ok (.goto (-112), 3) := by decide +kernel
theorem dX11_raised_124 : decode cX11_raised 124 = .ok (.iload 5, 2) := by decide +kernel
theorem dX11_raised_126 : decode cX11_raised 126 = .ok (.ifCond .ne 8, 3) := by decide +kernel
theorem dX11_raised_129 : decode cX11_raised 129 = .ok (.lload 8, 2) := by decide +kernel
theorem dX11_raised_131 : decode cX11_raised 131 = .ok (.goto 5, 3) := by decide +kernel
theorem dX11_raised_134 : decode cX11_raised 134 = .ok (.lload 6, 2) := by decide +kernel
theorem dX11_raised_136 : decode cX11_raised 136 = .ok (.lreturn, 1) := by decide +kernel
theorem dX11_fillMosts_0 : decode cX11_fillMosts 0 = .ok (.iconst 0, 1) := by decide +kernel
theorem dX11_fillMosts_1 : decode cX11_fillMosts 1 = .ok (.istore_n 1, 1) := by decide +kernel
theorem dX11_fillMosts_2 : decode cX11_fillMosts 2 = .ok (.iload_n 1, 1) := by decide +kernel
theorem dX11_fillMosts_3 : decode cX11_fillMosts 3 = .ok (.aload_n 0, 1) := by decide +kernel
theorem dX11_fillMosts_4 : decode cX11_fillMosts 4 = .ok (.getfield 12, 3) := by decide +kernel
theorem dX11_fillMosts_7 : decode cX11_fillMosts 7 = .ok (.getfield 71, 3) := by decide +kernel
theorem dX11_fillMosts_10 : decode cX11_fillMosts 10 = .ok (.if_icmp .ge 38, 3) := by decide +kernel
theorem dX11_fillMosts_13 : decode cX11_fillMosts 13 = .ok (.aload_n 0, 1) := by decide +kernel
theorem dX11_fillMosts_14 : decode cX11_fillMosts 14 = .ok (.iload_n 1, 1) := by decide +kernel
theorem dX11_fillMosts_15 : decode cX11_fillMosts 15 = .ok (.invokevirtual 99, 3) := by decide +kernel
theorem dX11_fillMosts_18 : decode cX11_fillMosts 18 = .ok (.astore_n 2, 1) := by decide +kernel
theorem dX11_fillMosts_19 : decode cX11_fillMosts 19 = .ok (.aload_n 0, 1) := by decide +kernel
theorem dX11_fillMosts_20 : decode cX11_fillMosts 20 = .ok (.getfield 32, 3) := by decide +kernel
theorem dX11_fillMosts_23 : decode cX11_fillMosts 23 = .ok (.iload_n 1, 1) := by decide +kernel
theorem dX11_fillMosts_24 : decode cX11_fillMosts 24 = .ok (.aload_n 2, 1) := by decide +kernel
theorem dX11_fillMosts_25 : decode cX11_fillMosts 25 = .ok (.ifnonnull 7, 3) := by decide +kernel
theorem dX11_fillMosts_28 : decode cX11_fillMosts 28 = .ok (.iconst 0, 1) := by decide +kernel
theorem dX11_fillMosts_29 : decode cX11_fillMosts 29 = .ok (.goto 12, 3) := by decide +kernel
theorem dX11_fillMosts_32 : decode cX11_fillMosts 32 = .ok (.aload_n 0, 1) := by decide +kernel
theorem dX11_fillMosts_33 : decode cX11_fillMosts 33 = .ok (.aload_n 2, 1) := by decide +kernel
theorem dX11_fillMosts_34 : decode cX11_fillMosts 34 = .ok (.aload_n 2, 1) := by decide +kernel
theorem dX11_fillMosts_35 : decode cX11_fillMosts 35 = .ok (.getfield 106, 3) := by decide +kernel
theorem dX11_fillMosts_38 : decode cX11_fillMosts 38 = .ok (.invokevirtual 187, 3) := by decide +kernel
theorem dX11_fillMosts_41 : decode cX11_fillMosts 41 = .ok (.iastore, 1) := by decide +kernel
theorem dX11_fillMosts_42 : decode cX11_fillMosts 42 = .ok (.iinc 1 1, 3) := by decide +kernel
theorem dX11_fillMosts_45 : decode cX11_fillMosts 45 = .ok (.goto (-43), 3) := by decide +kernel
theorem dX11_fillMosts_48 : decode cX11_fillMosts 48 = .ok (.return_, 1) := by decide +kernel
theorem dX11_placeOf_0 : decode cX11_placeOf 0 = .ok (.iconst 0, 1) := by decide +kernel
theorem dX11_placeOf_1 : decode cX11_placeOf 1 = .ok (.istore_n 2, 1) := by decide +kernel
theorem dX11_placeOf_2 : decode cX11_placeOf 2 = .ok (.iconst 0, 1) := by decide +kernel
theorem dX11_placeOf_3 : decode cX11_placeOf 3 = .ok (.istore_n 3, 1) := by decide +kernel
theorem dX11_placeOf_4 : decode cX11_placeOf 4 = .ok (.iload_n 3, 1) := by decide +kernel
theorem dX11_placeOf_5 : decode cX11_placeOf 5 = .ok (.aload_n 0, 1) := by decide +kernel
theorem dX11_placeOf_6 : decode cX11_placeOf 6 = .ok (.getfield 12, 3) := by decide +kernel
theorem dX11_placeOf_9 : decode cX11_placeOf 9 = .ok (.getfield 71, 3) := by decide +kernel
theorem dX11_placeOf_12 : decode cX11_placeOf 12 = .ok (.if_icmp .ge 47, 3) := by decide +kernel
theorem dX11_placeOf_15 : decode cX11_placeOf 15 = .ok (.aload_n 0, 1) := by decide +kernel
theorem dX11_placeOf_16 : decode cX11_placeOf 16 = .ok (.getfield 32, 3) := by decide +kernel
theorem dX11_placeOf_19 : decode cX11_placeOf 19 = .ok (.iload_n 3, 1) := by decide +kernel
theorem dX11_placeOf_20 : decode cX11_placeOf 20 = .ok (.iaload, 1) := by decide +kernel
theorem dX11_placeOf_21 : decode cX11_placeOf 21 = .ok (.aload_n 0, 1) := by decide +kernel
theorem dX11_placeOf_22 : decode cX11_placeOf 22 = .ok (.getfield 32, 3) := by decide +kernel
theorem dX11_placeOf_25 : decode cX11_placeOf 25 = .ok (.iload_n 1, 1) := by decide +kernel
theorem dX11_placeOf_26 : decode cX11_placeOf 26 = .ok (.iaload, 1) := by decide +kernel
theorem dX11_placeOf_27 : decode cX11_placeOf 27 = .ok (.if_icmp .gt 23, 3) := by decide +kernel
theorem dX11_placeOf_30 : decode cX11_placeOf 30 = .ok (.aload_n 0, 1) := by decide +kernel
theorem dX11_placeOf_31 : decode cX11_placeOf 31 = .ok (.getfield 32, 3) := by decide +kernel
theorem dX11_placeOf_34 : decode cX11_placeOf 34 = .ok (.iload_n 3, 1) := by decide +kernel
theorem dX11_placeOf_35 : decode cX11_placeOf 35 = .ok (.iaload, 1) := by decide +kernel
theorem dX11_placeOf_36 : decode cX11_placeOf 36 = .ok (.aload_n 0, 1) := by decide +kernel
theorem dX11_placeOf_37 : decode cX11_placeOf 37 = .ok (.getfield 32, 3) := by decide +kernel
theorem dX11_placeOf_40 : decode cX11_placeOf 40 = .ok (.iload_n 1, 1) := by decide +kernel
theorem dX11_placeOf_41 : decode cX11_placeOf 41 = .ok (.iaload, 1) := by decide +kernel
theorem dX11_placeOf_42 : decode cX11_placeOf 42 = .ok (.if_icmp .ne 11, 3) := by decide +kernel
theorem dX11_placeOf_45 : decode cX11_placeOf 45 = .ok (.iload_n 3, 1) := by decide +kernel
theorem dX11_placeOf_46 : decode cX11_placeOf 46 = .ok (.iload_n 1, 1) := by decide +kernel
theorem dX11_placeOf_47 : decode cX11_placeOf 47 = .ok (.if_icmp .ge 6, 3) := by decide +kernel
theorem dX11_placeOf_50 : decode cX11_placeOf 50 = .ok (.iinc 2 1, 3) := by decide +kernel
theorem dX11_placeOf_53 : decode cX11_placeOf 53 = .ok (.iinc 3 1, 3) := by decide +kernel
theorem dX11_placeOf_56 : decode cX11_placeOf 56 = .ok (.goto (-52), 3) := by decide +kernel
theorem dX11_placeOf_59 : decode cX11_placeOf 59 = .ok (.iload_n 2, 1) := by decide +kernel
theorem dX11_placeOf_60 : decode cX11_placeOf 60 = .ok (.ireturn, 1) := by decide +kernel
theorem dX11_fillPoints_0 : decode cX11_fillPoints 0 = .ok (.iconst 0, 1) := by decide +kernel
theorem dX11_fillPoints_1 : decode cX11_fillPoints 1 = .ok (.istore_n 1, 1) := by decide +kernel
theorem dX11_fillPoints_2 : decode cX11_fillPoints 2 = .ok (.iload_n 1, 1) := by decide +kernel
theorem dX11_fillPoints_3 : decode cX11_fillPoints 3 = .ok (.aload_n 0, 1) := by decide +kernel
theorem dX11_fillPoints_4 : decode cX11_fillPoints 4 = .ok (.getfield 12, 3) := by decide +kernel
theorem dX11_fillPoints_7 : decode cX11_fillPoints 7 = .ok (.getfield 71, 3) := by decide +kernel
theorem dX11_fillPoints_10 : decode cX11_fillPoints 10 = .ok (.if_icmp .ge 16, 3) := by decide +kernel
theorem dX11_fillPoints_13 : decode cX11_fillPoints 13 = .ok (.aload_n 0, 1) := by decide +kernel
theorem dX11_fillPoints_14 : decode cX11_fillPoints 14 = .ok (.getfield 35, 3) := by decide +kernel
theorem dX11_fillPoints_17 : decode cX11_fillPoints 17 = .ok (.iload_n 1, 1) := by decide +kernel
theorem dX11_fillPoints_18 : decode cX11_fillPoints 18 = .ok (.iconst 0, 1) := by decide +kernel
theorem dX11_fillPoints_19 : decode cX11_fillPoints 19 = .ok (.iastore, 1) := by decide +kernel
theorem dX11_fillPoints_20 : decode cX11_fillPoints 20 = .ok (.iinc 1 1, 3) := by decide +kernel
theorem dX11_fillPoints_23 : decode cX11_fillPoints 23 = .ok (.goto (-21), 3) := by decide +kernel
theorem dX11_fillPoints_26 : decode cX11_fillPoints 26 = .ok (.iconst 0, 1) := by decide +kernel
theorem dX11_fillPoints_27 : decode cX11_fillPoints 27 = .ok (.istore_n 1, 1) := by decide +kernel
theorem dX11_fillPoints_28 : decode cX11_fillPoints 28 = .ok (.iload_n 1, 1) := by decide +kernel
theorem dX11_fillPoints_29 : decode cX11_fillPoints 29 = .ok (.aload_n 0, 1) := by decide +kernel
theorem dX11_fillPoints_30 : decode cX11_fillPoints 30 = .ok (.getfield 12, 3) := by decide +kernel
theorem dX11_fillPoints_33 : decode cX11_fillPoints 33 = .ok (.getfield 71, 3) := by decide +kernel
theorem dX11_fillPoints_36 : decode cX11_fillPoints 36 = .ok (.if_icmp .ge 59, 3) := by decide +kernel
theorem dX11_fillPoints_39 : decode cX11_fillPoints 39 = .ok (.iload_n 1, 1) := by decide +kernel
theorem dX11_fillPoints_40 : decode cX11_fillPoints 40 = .ok (.iconst 1, 1) := by decide +kernel
theorem dX11_fillPoints_41 : decode cX11_fillPoints 41 = .ok (.iadd, 1) := by decide +kernel
theorem dX11_fillPoints_42 : decode cX11_fillPoints 42 = .ok (.istore_n 2, 1) := by decide +kernel
theorem dX11_fillPoints_43 : decode cX11_fillPoints 43 = .ok (.iload_n 2, 1) := by decide +kernel
theorem dX11_fillPoints_44 : decode cX11_fillPoints 44 = .ok (.aload_n 0, 1) := by decide +kernel
theorem dX11_fillPoints_45 : decode cX11_fillPoints 45 = .ok (.getfield 12, 3) := by decide +kernel
theorem dX11_fillPoints_48 : decode cX11_fillPoints 48 = .ok (.getfield 71, 3) := by decide +kernel
theorem dX11_fillPoints_51 : decode cX11_fillPoints 51 = .ok (.if_icmp .ge 38, 3) := by decide +kernel
theorem dX11_fillPoints_54 : decode cX11_fillPoints 54 = .ok (.aload_n 0, 1) := by decide +kernel
theorem dX11_fillPoints_55 : decode cX11_fillPoints 55 = .ok (.iload_n 1, 1) := by decide +kernel
theorem dX11_fillPoints_56 : decode cX11_fillPoints 56 = .ok (.invokevirtual 99, 3) := by decide +kernel
theorem dX11_fillPoints_59 : decode cX11_fillPoints 59 = .ok (.astore_n 3, 1) := by decide +kernel
theorem dX11_fillPoints_60 : decode cX11_fillPoints 60 = .ok (.aload_n 0, 1) := by decide +kernel
theorem dX11_fillPoints_61 : decode cX11_fillPoints 61 = .ok (.iload_n 2, 1) := by decide +kernel
theorem dX11_fillPoints_62 : decode cX11_fillPoints 62 = .ok (.invokevirtual 99, 3) := by decide +kernel
theorem dX11_fillPoints_65 : decode cX11_fillPoints 65 = .ok (.astore 4, 2) := by decide +kernel
theorem dX11_fillPoints_67 : decode cX11_fillPoints 67 = .ok (.aload_n 3, 1) := by decide +kernel
theorem dX11_fillPoints_68 : decode cX11_fillPoints 68 = .ok (.ifnull 15, 3) := by decide +kernel
theorem dX11_fillPoints_71 : decode cX11_fillPoints 71 = .ok (.aload 4, 2) := by decide +kernel
theorem dX11_fillPoints_73 : decode cX11_fillPoints 73 = .ok (.ifnull 10, 3) := by decide +kernel
theorem dX11_fillPoints_76 : decode cX11_fillPoints 76 = .ok (.aload_n 0, 1) := by decide +kernel
theorem dX11_fillPoints_77 : decode cX11_fillPoints 77 = .ok (.aload_n 3, 1) := by decide +kernel
theorem dX11_fillPoints_78 : decode cX11_fillPoints 78 = .ok (.aload 4, 2) := by decide +kernel
theorem dX11_fillPoints_80 : decode cX11_fillPoints 80 = .ok (.invokevirtual 300, 3) := by decide +kernel
theorem dX11_fillPoints_83 : decode cX11_fillPoints 83 = .ok (.iinc 2 1, 3) := by decide +kernel
theorem dX11_fillPoints_86 : decode cX11_fillPoints 86 = .ok (.goto (-43), 3) := by decide +kernel
theorem dX11_fillPoints_89 : decode cX11_fillPoints 89 = .ok (.iinc 1 1, 3) := by decide +kernel
theorem dX11_fillPoints_92 : decode cX11_fillPoints 92 = .ok (.goto (-64), 3) := by decide +kernel
theorem dX11_fillPoints_95 : decode cX11_fillPoints 95 = .ok (.return_, 1) := by decide +kernel
theorem dX11_addPoints_0 : decode cX11_addPoints 0 = .ok (.aload_n 1, 1) := by decide +kernel
theorem dX11_addPoints_1 : decode cX11_addPoints 1 = .ok (.getfield 80, 3) := by decide +kernel
theorem dX11_addPoints_4 : decode cX11_addPoints 4 = .ok (.istore_n 3, 1) := by decide +kernel
theorem dX11_addPoints_5 : decode cX11_addPoints 5 = .ok (.aload_n 2, 1) := by decide +kernel
theorem dX11_addPoints_6 : decode cX11_addPoints 6 = .ok (.getfield 80, 3) := by decide +kernel
theorem dX11_addPoints_9 : decode cX11_addPoints 9 = .ok (.istore 4, 2) := by decide +kernel
theorem dX11_addPoints_11 : decode cX11_addPoints 11 = .ok (.iconst 1, 1) := by decide +kernel
theorem dX11_addPoints_12 : decode cX11_addPoints 12 = .ok (.aload_n 0, 1) := by decide +kernel
theorem dX11_addPoints_13 : decode cX11_addPoints 13 = .ok (.getfield 32, 3) := by decide +kernel
theorem dX11_addPoints_16 : decode cX11_addPoints 16 = .ok (.iload_n 3, 1) := by decide +kernel
theorem dX11_addPoints_17 : decode cX11_addPoints 17 = .ok (.iaload, 1) := by decide +kernel
theorem dX11_addPoints_18 : decode cX11_addPoints 18 = .ok (.aload_n 0, 1) := by decide +kernel
theorem dX11_addPoints_19 : decode cX11_addPoints 19 = .ok (.getfield 32, 3) := by decide +kernel
theorem dX11_addPoints_22 : decode cX11_addPoints 22 = .ok (.iload 4, 2) := by decide +kernel
theorem dX11_addPoints_24 : decode cX11_addPoints 24 = .ok (.iaload, 1) := by decide +kernel
theorem dX11_addPoints_25 : decode cX11_addPoints 25 = .ok (.invokestatic 191, 3) := by decide +kernel
theorem dX11_addPoints_28 : decode cX11_addPoints 28 = .ok (.invokestatic 191, 3) := by decide +kernel
theorem dX11_addPoints_31 : decode cX11_addPoints 31 = .ok (.istore 5, 2) := by decide +kernel
theorem dX11_addPoints_33 : decode cX11_addPoints 33 = .ok (.aload_n 0, 1) := by decide +kernel
theorem dX11_addPoints_34 : decode cX11_addPoints 34 = .ok (.aload_n 1, 1) := by decide +kernel
theorem dX11_addPoints_35 : decode cX11_addPoints 35 = .ok (.aload_n 2, 1) := by decide +kernel
theorem dX11_addPoints_36 : decode cX11_addPoints 36 = .ok (.iload 5, 2) := by decide +kernel
theorem dX11_addPoints_38 : decode cX11_addPoints 38 = .ok (.iconst 4, 1) := by decide +kernel
theorem dX11_addPoints_39 : decode cX11_addPoints 39 = .ok (.iconst 0, 1) := by decide +kernel
theorem dX11_addPoints_40 : decode cX11_addPoints 40 = .ok (.invokevirtual 225, 3) := by decide +kernel
theorem dX11_addPoints_43 : decode cX11_addPoints 43 = .ok (.lstore 6, 2) := by decide +kernel
theorem dX11_addPoints_45 : decode cX11_addPoints 45 = .ok (.iconst 4, 1) := by decide +kernel
theorem dX11_addPoints_46 : decode cX11_addPoints 46 = .ok (.invokestatic 206, 3) := by decide +kernel
theorem dX11_addPoints_49 : decode cX11_addPoints 49 = .ok (.lload 6, 2) := by decide +kernel
theorem dX11_addPoints_51 : decode cX11_addPoints 51 = .ok (.lsub, 1) := by decide +kernel
theorem dX11_addPoints_52 : decode cX11_addPoints 52 = .ok (.aload_n 0, 1) := by decide +kernel
theorem dX11_addPoints_53 : decode cX11_addPoints 53 = .ok (.aload_n 1, 1) := by decide +kernel
theorem dX11_addPoints_54 : decode cX11_addPoints 54 = .ok (.aload_n 2, 1) := by decide +kernel
theorem dX11_addPoints_55 : decode cX11_addPoints 55 = .ok (.iload 5, 2) := by decide +kernel
theorem dX11_addPoints_57 : decode cX11_addPoints 57 = .ok (.iconst 4, 1) := by decide +kernel
theorem dX11_addPoints_58 : decode cX11_addPoints 58 = .ok (.iconst 1, 1) := by decide +kernel
theorem dX11_addPoints_59 : decode cX11_addPoints 59 = .ok (.invokevirtual 225, 3) := by decide +kernel
theorem dX11_addPoints_62 : decode cX11_addPoints 62 = .ok (.lsub, 1) := by decide +kernel
theorem dX11_addPoints_63 : decode cX11_addPoints 63 = .ok (.lstore 8, 2) := by decide +kernel
theorem dX11_addPoints_65 : decode cX11_addPoints 65 = .ok (.lload 6, 2) := by decide +kernel
theorem dX11_addPoints_67 : decode cX11_addPoints 67 = .ok (.lload 8, 2) := by decide +kernel
theorem dX11_addPoints_69 : decode cX11_addPoints 69 = .ok (.lcmp, 1) := by decide +kernel
theorem dX11_addPoints_70 : decode cX11_addPoints 70 = .ok (.ifCond .lt 25, 3) := by decide +kernel
theorem dX11_addPoints_73 : decode cX11_addPoints 73 = .ok (.aload_n 0, 1) := by decide +kernel
theorem dX11_addPoints_74 : decode cX11_addPoints 74 = .ok (.getfield 35, 3) := by decide +kernel
theorem dX11_addPoints_77 : decode cX11_addPoints 77 = .ok (.iload_n 3, 1) := by decide +kernel
theorem dX11_addPoints_78 : decode cX11_addPoints 78 = .ok (.dup2, 1) := by decide +kernel
theorem dX11_addPoints_79 : decode cX11_addPoints 79 = .ok (.iaload, 1) := by decide +kernel
theorem dX11_addPoints_80 : decode cX11_addPoints 80 = .ok (.lload 6, 2) := by decide +kernel
theorem dX11_addPoints_82 : decode cX11_addPoints 82 = .ok (.lload 8, 2) := by decide +kernel
theorem dX11_addPoints_84 : decode cX11_addPoints 84 = .ok (.lcmp, 1) := by decide +kernel
theorem dX11_addPoints_85 : decode cX11_addPoints 85 = .ok (.ifCond .ne 7, 3) := by decide +kernel
theorem dX11_addPoints_88 : decode cX11_addPoints 88 = .ok (.iconst 1, 1) := by decide +kernel
theorem dX11_addPoints_89 : decode cX11_addPoints 89 = .ok (.goto 4, 3) := by decide +kernel
theorem dX11_addPoints_92 : decode cX11_addPoints 92 = .ok (.iconst 2, 1) := by decide +kernel
theorem dX11_addPoints_93 : decode cX11_addPoints 93 = .ok (.iadd, 1) := by decide +kernel
theorem dX11_addPoints_94 : decode cX11_addPoints 94 = .ok (.iastore, 1) := by decide +kernel
theorem dX11_addPoints_95 : decode cX11_addPoints 95 = .ok (.lload 8, 2) := by decide +kernel
theorem dX11_addPoints_97 : decode cX11_addPoints 97 = .ok (.lload 6, 2) := by decide +kernel
theorem dX11_addPoints_99 : decode cX11_addPoints 99 = .ok (.lcmp, 1) := by decide +kernel
theorem dX11_addPoints_100 : decode cX11_addPoints 100 = .ok (.ifCond .lt 26, 3) := by decide +kernel
theorem dX11_addPoints_103 : decode cX11_addPoints 103 = .ok (.aload_n 0, 1) := by decide +kernel
theorem dX11_addPoints_104 : decode cX11_addPoints 104 = .ok (.getfield 35, 3) := by decide +kernel
theorem dX11_addPoints_107 : decode cX11_addPoints 107 = .ok (.iload 4, 2) := by decide +kernel
theorem dX11_addPoints_109 : decode cX11_addPoints 109 = .ok (.dup2, 1) := by decide +kernel
theorem dX11_addPoints_110 : decode cX11_addPoints 110 = .ok (.iaload, 1) := by decide +kernel
theorem dX11_addPoints_111 : decode cX11_addPoints 111 = .ok (.lload 6, 2) := by decide +kernel
theorem dX11_addPoints_113 : decode cX11_addPoints 113 = .ok (.lload 8, 2) := by decide +kernel
theorem dX11_addPoints_115 : decode cX11_addPoints 115 = .ok (.lcmp, 1) := by decide +kernel
theorem dX11_addPoints_116 : decode cX11_addPoints 116 = .ok (.ifCond .ne 7, 3) := by decide +kernel
theorem dX11_addPoints_119 : decode cX11_addPoints 119 = .ok (.iconst 1, 1) := by decide +kernel
theorem dX11_addPoints_120 : decode cX11_addPoints 120 = .ok (.goto 4, 3) := by decide +kernel
theorem dX11_addPoints_123 : decode cX11_addPoints 123 = .ok (.iconst 2, 1) := by decide +kernel
theorem dX11_addPoints_124 : decode cX11_addPoints 124 = .ok (.iadd, 1) := by decide +kernel
theorem dX11_addPoints_125 : decode cX11_addPoints 125 = .ok (.iastore, 1) := by decide +kernel
theorem dX11_addPoints_126 : decode cX11_addPoints 126 = .ok (.return_, 1) := by decide +kernel
theorem dX11_drawsOfSeen_0 : decode cX11_drawsOfSeen 0 = .ok (.aload_n 0, 1) := by decide +kernel
theorem dX11_drawsOfSeen_1 : decode cX11_drawsOfSeen 1 = .ok (.getfield 24, 3) := by decide +kernel
theorem dX11_drawsOfSeen_4 : decode cX11_drawsOfSeen 4 = .ok (.aload_n 0, 1) := by decide +kernel
theorem dX11_drawsOfSeen_5 : decode cX11_drawsOfSeen 5 = .ok (.getfield 12, 3) := by decide +kernel
theorem dX11_drawsOfSeen_8 : decode cX11_drawsOfSeen 8 = .ok (.aload_n 2, 1) := by decide +kernel
theorem dX11_drawsOfSeen_9 : decode cX11_drawsOfSeen 9 = .ok (.aload_n 0, 1) := by decide +kernel
theorem dX11_drawsOfSeen_10 : decode cX11_drawsOfSeen 10 = .ok (.getfield 12, 3) := by decide +kernel
theorem dX11_drawsOfSeen_13 : decode cX11_drawsOfSeen 13 = .ok (.getfield 244, 3) := by decide +kernel
theorem dX11_drawsOfSeen_16 : decode cX11_drawsOfSeen 16 = .ok (.iload_n 1, 1) := by decide +kernel
theorem dX11_drawsOfSeen_17 : decode cX11_drawsOfSeen 17 = .ok (.iaload, 1) := by decide +kernel
theorem dX11_drawsOfSeen_18 : decode cX11_drawsOfSeen 18 = .ok (.iload_n 3, 1) := by decide +kernel
theorem dX11_drawsOfSeen_19 : decode cX11_drawsOfSeen 19 = .ok (.aload_n 2, 1) := by decide +kernel
theorem dX11_drawsOfSeen_20 : decode cX11_drawsOfSeen 20 = .ok (.getfield 106, 3) := by decide +kernel
theorem dX11_drawsOfSeen_23 : decode cX11_drawsOfSeen 23 = .ok (.invokevirtual 290, 3) := by decide +kernel
theorem dX11_drawsOfSeen_26 : decode cX11_drawsOfSeen 26 = .ok (.aload_n 0, 1) := by decide +kernel
theorem dX11_drawsOfSeen_27 : decode cX11_drawsOfSeen 27 = .ok (.getfield 24, 3) := by decide +kernel
theorem dX11_drawsOfSeen_30 : decode cX11_drawsOfSeen 30 = .ok (.aload_n 0, 1) := by decide +kernel
theorem dX11_drawsOfSeen_31 : decode cX11_drawsOfSeen 31 = .ok (.getfield 12, 3) := by decide +kernel
theorem dX11_drawsOfSeen_34 : decode cX11_drawsOfSeen 34 = .ok (.getfield 247, 3) := by decide +kernel
theorem dX11_drawsOfSeen_37 : decode cX11_drawsOfSeen 37 = .ok (.iload_n 1, 1) := by decide +kernel
theorem dX11_drawsOfSeen_38 : decode cX11_drawsOfSeen 38 = .ok (.iaload, 1) := by decide +kernel
theorem dX11_drawsOfSeen_39 : decode cX11_drawsOfSeen 39 = .ok (.aload_n 0, 1) := by decide +kernel
theorem dX11_drawsOfSeen_40 : decode cX11_drawsOfSeen 40 = .ok (.getfield 12, 3) := by decide +kernel
theorem dX11_drawsOfSeen_43 : decode cX11_drawsOfSeen 43 = .ok (.getfield 250, 3) := by decide +kernel
theorem dX11_drawsOfSeen_46 : decode cX11_drawsOfSeen 46 = .ok (.iload_n 1, 1) := by decide +kernel
theorem dX11_drawsOfSeen_47 : decode cX11_drawsOfSeen 47 = .ok (.iaload, 1) := by decide +kernel
theorem dX11_drawsOfSeen_48 : decode cX11_drawsOfSeen 48 = .ok (.invokevirtual 304, 3) := by decide +kernel
theorem dX11_drawsOfSeen_51 : decode cX11_drawsOfSeen 51 = .ok (.ireturn, 1) := by decide +kernel
theorem dX11_couldAllBeSeen_0 : decode cX11_couldAllBeSeen 0 = .ok (.iconst 0, 1) := by decide +kernel
theorem dX11_couldAllBeSeen_1 : decode cX11_couldAllBeSeen 1 = .ok (.istore_n 3, 1) := by decide +kernel
theorem dX11_couldAllBeSeen_2 : decode cX11_couldAllBeSeen 2 = .ok (.iload_n 3, 1) := by decide +kernel
theorem dX11_couldAllBeSeen_3 : decode cX11_couldAllBeSeen 3 = .ok (.aload_n 0, 1) := by decide +kernel
theorem dX11_couldAllBeSeen_4 : decode cX11_couldAllBeSeen 4 = .ok (.getfield 12, 3) := by decide +kernel
theorem dX11_couldAllBeSeen_7 : decode cX11_couldAllBeSeen 7 = .ok (.getfield 238, 3) := by decide +kernel
theorem dX11_couldAllBeSeen_10 : decode cX11_couldAllBeSeen 10 = .ok (.if_icmp .ge 37, 3) := by decide +kernel
theorem dX11_couldAllBeSeen_13 : decode cX11_couldAllBeSeen 13 = .ok (.aload_n 0, 1) := by decide +kernel
theorem dX11_couldAllBeSeen_14 : decode cX11_couldAllBeSeen 14 = .ok (.getfield 12, 3) := by decide +kernel
theorem dX11_couldAllBeSeen_17 : decode cX11_couldAllBeSeen 17 = .ok (.getfield 241, 3) := by decide +kernel
theorem dX11_couldAllBeSeen_20 : decode cX11_couldAllBeSeen 20 = .ok (.iload_n 3, 1) := by decide +kernel
theorem dX11_couldAllBeSeen_21 : decode cX11_couldAllBeSeen 21 = .ok (.iaload, 1) := by decide +kernel
theorem dX11_couldAllBeSeen_22 : decode cX11_couldAllBeSeen 22 = .ok (.aload_n 1, 1) := by decide +kernel
theorem dX11_couldAllBeSeen_23 : decode cX11_couldAllBeSeen 23 = .ok (.getfield 80, 3) := by decide +kernel
theorem dX11_couldAllBeSeen_26 : decode cX11_couldAllBeSeen 26 = .ok (.if_icmp .ne 15, 3) := by decide +kernel
theorem dX11_couldAllBeSeen_29 : decode cX11_couldAllBeSeen 29 = .ok (.aload_n 0, 1) := by decide +kernel
theorem dX11_couldAllBeSeen_30 : decode cX11_couldAllBeSeen 30 = .ok (.iload_n 3, 1) := by decide +kernel
theorem dX11_couldAllBeSeen_31 : decode cX11_couldAllBeSeen 31 = .ok (.aload_n 1, 1) := by decide +kernel
theorem dX11_couldAllBeSeen_32 : decode cX11_couldAllBeSeen 32 = .ok (.iload_n 2, 1) := by decide +kernel
theorem dX11_couldAllBeSeen_33 : decode cX11_couldAllBeSeen 33 = .ok (.invokevirtual 253, 3) := by decide +kernel
theorem dX11_couldAllBeSeen_36 : decode cX11_couldAllBeSeen 36 = .ok (.ifCond .ne 5, 3) := by decide +kernel
theorem dX11_couldAllBeSeen_39 : decode cX11_couldAllBeSeen 39 = .ok (.iconst 0, 1) := by decide +kernel
theorem dX11_couldAllBeSeen_40 : decode cX11_couldAllBeSeen 40 = .ok (.ireturn, 1) := by decide +kernel
theorem dX11_couldAllBeSeen_41 : decode cX11_couldAllBeSeen 41 = .ok (.iinc 3 1, 3) := by decide +kernel
theorem dX11_couldAllBeSeen_44 : decode cX11_couldAllBeSeen 44 = .ok (.goto (-42), 3) := by decide +kernel
theorem dX11_couldAllBeSeen_47 : decode cX11_couldAllBeSeen 47 = .ok (.iconst 1, 1) := by decide +kernel
theorem dX11_couldAllBeSeen_48 : decode cX11_couldAllBeSeen 48 = .ok (.ireturn, 1) := by decide +kernel
theorem dX11_isUnder_0 : decode cX11_isUnder 0 = .ok (.iload_n 1, 1) := by decide +kernel
theorem dX11_isUnder_1 : decode cX11_isUnder 1 = .ok (.tableswitch 75 0 6 #[43, 45, 50, 55, 60, 65, 70], 43) := by decide +kernel
theorem dX11_isUnder_44 : decode cX11_isUnder 44 = .ok (.iconst 1, 1) := by decide +kernel
theorem dX11_isUnder_45 : decode cX11_isUnder 45 = .ok (.ireturn, 1) := by decide +kernel
theorem dX11_isUnder_46 : decode cX11_isUnder 46 = .ok (.aload_n 0, 1) := by decide +kernel
theorem dX11_isUnder_47 : decode cX11_isUnder 47 = .ok (.instanceof 307, 3) := by decide +kernel
theorem dX11_isUnder_50 : decode cX11_isUnder 50 = .ok (.ireturn, 1) := by decide +kernel
theorem dX11_isUnder_51 : decode cX11_isUnder 51 = .ok (.aload_n 0, 1) := by decide +kernel
theorem dX11_isUnder_52 : decode cX11_isUnder 52 = .ok (.instanceof 309, 3) := by decide +kernel
theorem dX11_isUnder_55 : decode cX11_isUnder 55 = .ok (.ireturn, 1) := by decide +kernel
theorem dX11_isUnder_56 : decode cX11_isUnder 56 = .ok (.aload_n 0, 1) := by decide +kernel
theorem dX11_isUnder_57 : decode cX11_isUnder 57 = .ok (.instanceof 311, 3) := by decide +kernel
theorem dX11_isUnder_60 : decode cX11_isUnder 60 = .ok (.ireturn, 1) := by decide +kernel
theorem dX11_isUnder_61 : decode cX11_isUnder 61 = .ok (.aload_n 0, 1) := by decide +kernel
theorem dX11_isUnder_62 : decode cX11_isUnder 62 = .ok (.instanceof 313, 3) := by decide +kernel
theorem dX11_isUnder_65 : decode cX11_isUnder 65 = .ok (.ireturn, 1) := by decide +kernel
theorem dX11_isUnder_66 : decode cX11_isUnder 66 = .ok (.aload_n 0, 1) := by decide +kernel
theorem dX11_isUnder_67 : decode cX11_isUnder 67 = .ok (.instanceof 315, 3) := by decide +kernel
theorem dX11_isUnder_70 : decode cX11_isUnder 70 = .ok (.ireturn, 1) := by decide +kernel
theorem dX11_isUnder_71 : decode cX11_isUnder 71 = .ok (.aload_n 0, 1) := by decide +kernel
theorem dX11_isUnder_72 : decode cX11_isUnder 72 = .ok (.instanceof 116, 3) := by decide +kernel
theorem dX11_isUnder_75 : decode cX11_isUnder 75 = .ok (.ireturn, 1) := by decide +kernel
theorem dX11_isUnder_76 : decode cX11_isUnder 76 = .ok (.iconst 0, 1) := by decide +kernel
theorem dX11_isUnder_77 : decode cX11_isUnder 77 = .ok (.ireturn, 1) := by decide +kernel
theorem dL_law_0 : decode code 0 = .ok (.new 7, 3) := by decide +kernel
theorem dL_law_3 : decode code 3 = .ok (.dup, 1) := by decide +kernel
theorem dL_law_4 : decode code 4 = .ok (.invokespecial 9, 3) := by decide +kernel
theorem dL_law_7 : decode code 7 = .ok (.astore_n 1, 1) := by decide +kernel
theorem dL_law_8 : decode code 8 = .ok (.new 10, 3) := by decide +kernel
theorem dL_law_11 : decode code 11 = .ok (.dup, 1) := by decide +kernel
theorem dL_law_12 : decode code 12 = .ok (.invokespecial 12, 3) := by decide +kernel
theorem dL_law_15 : decode code 15 = .ok (.astore_n 2, 1) := by decide +kernel
theorem dL_law_16 : decode code 16 = .ok (.iconst 0, 1) := by decide +kernel
theorem dL_law_17 : decode code 17 = .ok (.istore_n 3, 1) := by decide +kernel
theorem dL_law_18 : decode code 18 = .ok (.iload_n 3, 1) := by decide +kernel
theorem dL_law_19 : decode code 19 = .ok (.aload_n 0, 1) := by decide +kernel
theorem dL_law_20 : decode code 20 = .ok (.arraylength, 1) := by decide +kernel
theorem dL_law_21 : decode code 21 = .ok (.bipush 7, 2) := by decide +kernel
theorem dL_law_23 : decode code 23 = .ok (.isub, 1) := by decide +kernel
theorem dL_law_24 : decode code 24 = .ok (.if_icmp .gt 1506, 3) := by decide +kernel
theorem dL_law_27 : decode code 27 = .ok (.aload_n 0, 1) := by decide +kernel
theorem dL_law_28 : decode code 28 = .ok (.iload_n 3, 1) := by decide +kernel
theorem dL_law_29 : decode code 29 = .ok (.iaload, 1) := by decide +kernel
theorem dL_law_30 : decode code 30 = .ok (.bipush 63, 2) := by decide +kernel
theorem dL_law_32 : decode code 32 = .ok (.iand, 1) := by decide +kernel
theorem dL_law_33 : decode code 33 = .ok (.tableswitch 1491 0 36 #[163, 186, 199, 262, 295, 338, 381, 404, 457, 510, 563, 606, 660, 703, 726, 749, 793, 826, 880, 913, 989, 1032, 1065, 1098, 1152, 1175, 1198, 1251, 1274, 1297, 1330, 1343, 1386, 1409, 1442, 1455, 1468], 163) := by decide +kernel
theorem dL_law_196 : decode code 196 = .ok (.aload_n 1, 1) := by decide +kernel
theorem dL_law_197 : decode code 197 = .ok (.aload_n 0, 1) := by decide +kernel
theorem dL_law_198 : decode code 198 = .ok (.iload_n 3, 1) := by decide +kernel
theorem dL_law_199 : decode code 199 = .ok (.iconst 1, 1) := by decide +kernel
theorem dL_law_200 : decode code 200 = .ok (.iadd, 1) := by decide +kernel
theorem dL_law_201 : decode code 201 = .ok (.iaload, 1) := by decide +kernel
theorem dL_law_202 : decode code 202 = .ok (.invokevirtual 13, 3) := by decide +kernel
theorem dL_law_205 : decode code 205 = .ok (.aload_n 2, 1) := by decide +kernel
theorem dL_law_206 : decode code 206 = .ok (.aload_n 0, 1) := by decide +kernel
theorem dL_law_207 : decode code 207 = .ok (.iload_n 3, 1) := by decide +kernel
theorem dL_law_208 : decode code 208 = .ok (.iconst 1, 1) := by decide +kernel
theorem dL_law_209 : decode code 209 = .ok (.iadd, 1) := by decide +kernel
theorem dL_law_210 : decode code 210 = .ok (.iaload, 1) := by decide +kernel
theorem dL_law_211 : decode code 211 = .ok (.invokevirtual 17, 3) := by decide +kernel
theorem dL_law_214 : decode code 214 = .ok (.if_icmp .eq 1310, 3) := by decide +kernel
theorem dL_law_217 : decode code 217 = .ok (.iconst 0, 1) := by decide +kernel
theorem dL_law_218 : decode code 218 = .ok (.ireturn, 1) := by decide +kernel
theorem dL_law_219 : decode code 219 = .ok (.aload_n 1, 1) := by decide +kernel
theorem dL_law_220 : decode code 220 = .ok (.invokevirtual 18, 3) := by decide +kernel
theorem dL_law_223 : decode code 223 = .ok (.aload_n 2, 1) := by decide +kernel
theorem dL_law_224 : decode code 224 = .ok (.invokevirtual 22, 3) := by decide +kernel
theorem dL_law_227 : decode code 227 = .ok (.if_icmp .eq 1297, 3) := by decide +kernel
theorem dL_law_230 : decode code 230 = .ok (.iconst 0, 1) := by decide +kernel
theorem dL_law_231 : decode code 231 = .ok (.ireturn, 1) := by decide +kernel
theorem dL_law_232 : decode code 232 = .ok (.aload_n 1, 1) := by decide +kernel
theorem dL_law_233 : decode code 233 = .ok (.aload_n 0, 1) := by decide +kernel
theorem dL_law_234 : decode code 234 = .ok (.iload_n 3, 1) := by decide +kernel
theorem dL_law_235 : decode code 235 = .ok (.iconst 1, 1) := by decide +kernel
theorem dL_law_236 : decode code 236 = .ok (.iadd, 1) := by decide +kernel
theorem dL_law_237 : decode code 237 = .ok (.iaload, 1) := by decide +kernel
theorem dL_law_238 : decode code 238 = .ok (.aload_n 0, 1) := by decide +kernel
theorem dL_law_239 : decode code 239 = .ok (.iload_n 3, 1) := by decide +kernel
theorem dL_law_240 : decode code 240 = .ok (.iconst 2, 1) := by decide +kernel
theorem dL_law_241 : decode code 241 = .ok (.iadd, 1) := by decide +kernel
theorem dL_law_242 : decode code 242 = .ok (.iaload, 1) := by decide +kernel
theorem dL_law_243 : decode code 243 = .ok (.aload_n 0, 1) := by decide +kernel
theorem dL_law_244 : decode code 244 = .ok (.iload_n 3, 1) := by decide +kernel
theorem dL_law_245 : decode code 245 = .ok (.iconst 3, 1) := by decide +kernel
theorem dL_law_246 : decode code 246 = .ok (.iadd, 1) := by decide +kernel
theorem dL_law_247 : decode code 247 = .ok (.iaload, 1) := by decide +kernel
theorem dL_law_248 : decode code 248 = .ok (.aload_n 0, 1) := by decide +kernel
theorem dL_law_249 : decode code 249 = .ok (.iload_n 3, 1) := by decide +kernel
theorem dL_law_250 : decode code 250 = .ok (.iconst 4, 1) := by decide +kernel
theorem dL_law_251 : decode code 251 = .ok (.iadd, 1) := by decide +kernel
theorem dL_law_252 : decode code 252 = .ok (.iaload, 1) := by decide +kernel
theorem dL_law_253 : decode code 253 = .ok (.aload_n 0, 1) := by decide +kernel
theorem dL_law_254 : decode code 254 = .ok (.iload_n 3, 1) := by decide +kernel
theorem dL_law_255 : decode code 255 = .ok (.iconst 5, 1) := by decide +kernel
theorem dL_law_256 : decode code 256 = .ok (.iadd, 1) := by decide +kernel
theorem dL_law_257 : decode code 257 = .ok (.iaload, 1) := by decide +kernel
theorem dL_law_258 : decode code 258 = .ok (.invokevirtual 23, 3) := by decide +kernel
theorem dL_law_261 : decode code 261 = .ok (.aload_n 2, 1) := by decide +kernel
theorem dL_law_262 : decode code 262 = .ok (.aload_n 0, 1) := by decide +kernel
theorem dL_law_263 : decode code 263 = .ok (.iload_n 3, 1) := by decide +kernel
theorem dL_law_264 : decode code 264 = .ok (.iconst 1, 1) := by decide +kernel
theorem dL_law_265 : decode code 265 = .ok (.iadd, 1) := by decide +kernel
theorem dL_law_266 : decode code 266 = .ok (.iaload, 1) := by decide +kernel
theorem dL_law_267 : decode code 267 = .ok (.aload_n 0, 1) := by decide +kernel
theorem dL_law_268 : decode code 268 = .ok (.iload_n 3, 1) := by decide +kernel
theorem dL_law_269 : decode code 269 = .ok (.iconst 2, 1) := by decide +kernel
theorem dL_law_270 : decode code 270 = .ok (.iadd, 1) := by decide +kernel
theorem dL_law_271 : decode code 271 = .ok (.iaload, 1) := by decide +kernel
theorem dL_law_272 : decode code 272 = .ok (.aload_n 0, 1) := by decide +kernel
theorem dL_law_273 : decode code 273 = .ok (.iload_n 3, 1) := by decide +kernel
theorem dL_law_274 : decode code 274 = .ok (.iconst 3, 1) := by decide +kernel
theorem dL_law_275 : decode code 275 = .ok (.iadd, 1) := by decide +kernel
theorem dL_law_276 : decode code 276 = .ok (.iaload, 1) := by decide +kernel
theorem dL_law_277 : decode code 277 = .ok (.aload_n 0, 1) := by decide +kernel
theorem dL_law_278 : decode code 278 = .ok (.iload_n 3, 1) := by decide +kernel
theorem dL_law_279 : decode code 279 = .ok (.iconst 4, 1) := by decide +kernel
theorem dL_law_280 : decode code 280 = .ok (.iadd, 1) := by decide +kernel
theorem dL_law_281 : decode code 281 = .ok (.iaload, 1) := by decide +kernel
theorem dL_law_282 : decode code 282 = .ok (.aload_n 0, 1) := by decide +kernel
theorem dL_law_283 : decode code 283 = .ok (.iload_n 3, 1) := by decide +kernel
theorem dL_law_284 : decode code 284 = .ok (.iconst 5, 1) := by decide +kernel
theorem dL_law_285 : decode code 285 = .ok (.iadd, 1) := by decide +kernel
theorem dL_law_286 : decode code 286 = .ok (.iaload, 1) := by decide +kernel
theorem dL_law_287 : decode code 287 = .ok (.invokevirtual 27, 3) := by decide +kernel
theorem dL_law_290 : decode code 290 = .ok (.if_icmp .eq 1234, 3) := by decide +kernel
theorem dL_law_293 : decode code 293 = .ok (.iconst 0, 1) := by decide +kernel
theorem dL_law_294 : decode code 294 = .ok (.ireturn, 1) := by decide +kernel
theorem dL_law_295 : decode code 295 = .ok (.aload_n 1, 1) := by decide +kernel
theorem dL_law_296 : decode code 296 = .ok (.aload_n 0, 1) := by decide +kernel
theorem dL_law_297 : decode code 297 = .ok (.iload_n 3, 1) := by decide +kernel
theorem dL_law_298 : decode code 298 = .ok (.iconst 1, 1) := by decide +kernel
theorem dL_law_299 : decode code 299 = .ok (.iadd, 1) := by decide +kernel
theorem dL_law_300 : decode code 300 = .ok (.iaload, 1) := by decide +kernel
theorem dL_law_301 : decode code 301 = .ok (.aload_n 0, 1) := by decide +kernel
theorem dL_law_302 : decode code 302 = .ok (.iload_n 3, 1) := by decide +kernel
theorem dL_law_303 : decode code 303 = .ok (.iconst 2, 1) := by decide +kernel
theorem dL_law_304 : decode code 304 = .ok (.iadd, 1) := by decide +kernel
theorem dL_law_305 : decode code 305 = .ok (.iaload, 1) := by decide +kernel
theorem dL_law_306 : decode code 306 = .ok (.invokevirtual 28, 3) := by decide +kernel
theorem dL_law_309 : decode code 309 = .ok (.aload_n 2, 1) := by decide +kernel
theorem dL_law_310 : decode code 310 = .ok (.aload_n 0, 1) := by decide +kernel
theorem dL_law_311 : decode code 311 = .ok (.iload_n 3, 1) := by decide +kernel
theorem dL_law_312 : decode code 312 = .ok (.iconst 1, 1) := by decide +kernel
theorem dL_law_313 : decode code 313 = .ok (.iadd, 1) := by decide +kernel
theorem dL_law_314 : decode code 314 = .ok (.iaload, 1) := by decide +kernel
theorem dL_law_315 : decode code 315 = .ok (.aload_n 0, 1) := by decide +kernel
theorem dL_law_316 : decode code 316 = .ok (.iload_n 3, 1) := by decide +kernel
theorem dL_law_317 : decode code 317 = .ok (.iconst 2, 1) := by decide +kernel
theorem dL_law_318 : decode code 318 = .ok (.iadd, 1) := by decide +kernel
theorem dL_law_319 : decode code 319 = .ok (.iaload, 1) := by decide +kernel
theorem dL_law_320 : decode code 320 = .ok (.invokevirtual 32, 3) := by decide +kernel
theorem dL_law_323 : decode code 323 = .ok (.if_icmp .eq 1201, 3) := by decide +kernel
theorem dL_law_326 : decode code 326 = .ok (.iconst 0, 1) := by decide +kernel
theorem dL_law_327 : decode code 327 = .ok (.ireturn, 1) := by decide +kernel
theorem dL_law_328 : decode code 328 = .ok (.aload_n 1, 1) := by decide +kernel
theorem dL_law_329 : decode code 329 = .ok (.aload_n 0, 1) := by decide +kernel
theorem dL_law_330 : decode code 330 = .ok (.iload_n 3, 1) := by decide +kernel
theorem dL_law_331 : decode code 331 = .ok (.iconst 1, 1) := by decide +kernel
theorem dL_law_332 : decode code 332 = .ok (.iadd, 1) := by decide +kernel
theorem dL_law_333 : decode code 333 = .ok (.iaload, 1) := by decide +kernel
theorem dL_law_334 : decode code 334 = .ok (.aload_n 0, 1) := by decide +kernel
theorem dL_law_335 : decode code 335 = .ok (.iload_n 3, 1) := by decide +kernel
theorem dL_law_336 : decode code 336 = .ok (.iconst 2, 1) := by decide +kernel
theorem dL_law_337 : decode code 337 = .ok (.iadd, 1) := by decide +kernel
theorem dL_law_338 : decode code 338 = .ok (.iaload, 1) := by decide +kernel
theorem dL_law_339 : decode code 339 = .ok (.aload_n 0, 1) := by decide +kernel
theorem dL_law_340 : decode code 340 = .ok (.iload_n 3, 1) := by decide +kernel
theorem dL_law_341 : decode code 341 = .ok (.iconst 3, 1) := by decide +kernel
theorem dL_law_342 : decode code 342 = .ok (.iadd, 1) := by decide +kernel
theorem dL_law_343 : decode code 343 = .ok (.iaload, 1) := by decide +kernel
theorem dL_law_344 : decode code 344 = .ok (.invokevirtual 33, 3) := by decide +kernel
theorem dL_law_347 : decode code 347 = .ok (.aload_n 2, 1) := by decide +kernel
theorem dL_law_348 : decode code 348 = .ok (.aload_n 0, 1) := by decide +kernel
theorem dL_law_349 : decode code 349 = .ok (.iload_n 3, 1) := by decide +kernel
theorem dL_law_350 : decode code 350 = .ok (.iconst 1, 1) := by decide +kernel
theorem dL_law_351 : decode code 351 = .ok (.iadd, 1) := by decide +kernel
theorem dL_law_352 : decode code 352 = .ok (.iaload, 1) := by decide +kernel
theorem dL_law_353 : decode code 353 = .ok (.aload_n 0, 1) := by decide +kernel
theorem dL_law_354 : decode code 354 = .ok (.iload_n 3, 1) := by decide +kernel
theorem dL_law_355 : decode code 355 = .ok (.iconst 2, 1) := by decide +kernel
theorem dL_law_356 : decode code 356 = .ok (.iadd, 1) := by decide +kernel
theorem dL_law_357 : decode code 357 = .ok (.iaload, 1) := by decide +kernel
theorem dL_law_358 : decode code 358 = .ok (.aload_n 0, 1) := by decide +kernel
theorem dL_law_359 : decode code 359 = .ok (.iload_n 3, 1) := by decide +kernel
theorem dL_law_360 : decode code 360 = .ok (.iconst 3, 1) := by decide +kernel
theorem dL_law_361 : decode code 361 = .ok (.iadd, 1) := by decide +kernel
theorem dL_law_362 : decode code 362 = .ok (.iaload, 1) := by decide +kernel
theorem dL_law_363 : decode code 363 = .ok (.invokevirtual 37, 3) := by decide +kernel
theorem dL_law_366 : decode code 366 = .ok (.if_icmp .eq 1158, 3) := by decide +kernel
theorem dL_law_369 : decode code 369 = .ok (.iconst 0, 1) := by decide +kernel
theorem dL_law_370 : decode code 370 = .ok (.ireturn, 1) := by decide +kernel
theorem dL_law_371 : decode code 371 = .ok (.aload_n 1, 1) := by decide +kernel
theorem dL_law_372 : decode code 372 = .ok (.aload_n 0, 1) := by decide +kernel
theorem dL_law_373 : decode code 373 = .ok (.iload_n 3, 1) := by decide +kernel
theorem dL_law_374 : decode code 374 = .ok (.iconst 1, 1) := by decide +kernel
theorem dL_law_375 : decode code 375 = .ok (.iadd, 1) := by decide +kernel
theorem dL_law_376 : decode code 376 = .ok (.iaload, 1) := by decide +kernel
theorem dL_law_377 : decode code 377 = .ok (.aload_n 0, 1) := by decide +kernel
theorem dL_law_378 : decode code 378 = .ok (.iload_n 3, 1) := by decide +kernel
theorem dL_law_379 : decode code 379 = .ok (.iconst 2, 1) := by decide +kernel
theorem dL_law_380 : decode code 380 = .ok (.iadd, 1) := by decide +kernel
theorem dL_law_381 : decode code 381 = .ok (.iaload, 1) := by decide +kernel
theorem dL_law_382 : decode code 382 = .ok (.aload_n 0, 1) := by decide +kernel
theorem dL_law_383 : decode code 383 = .ok (.iload_n 3, 1) := by decide +kernel
theorem dL_law_384 : decode code 384 = .ok (.iconst 3, 1) := by decide +kernel
theorem dL_law_385 : decode code 385 = .ok (.iadd, 1) := by decide +kernel
theorem dL_law_386 : decode code 386 = .ok (.iaload, 1) := by decide +kernel
theorem dL_law_387 : decode code 387 = .ok (.invokevirtual 38, 3) := by decide +kernel
theorem dL_law_390 : decode code 390 = .ok (.aload_n 2, 1) := by decide +kernel
theorem dL_law_391 : decode code 391 = .ok (.aload_n 0, 1) := by decide +kernel
theorem dL_law_392 : decode code 392 = .ok (.iload_n 3, 1) := by decide +kernel
theorem dL_law_393 : decode code 393 = .ok (.iconst 1, 1) := by decide +kernel
theorem dL_law_394 : decode code 394 = .ok (.iadd, 1) := by decide +kernel
theorem dL_law_395 : decode code 395 = .ok (.iaload, 1) := by decide +kernel
theorem dL_law_396 : decode code 396 = .ok (.aload_n 0, 1) := by decide +kernel
theorem dL_law_397 : decode code 397 = .ok (.iload_n 3, 1) := by decide +kernel
theorem dL_law_398 : decode code 398 = .ok (.iconst 2, 1) := by decide +kernel
theorem dL_law_399 : decode code 399 = .ok (.iadd, 1) := by decide +kernel
theorem dL_law_400 : decode code 400 = .ok (.iaload, 1) := by decide +kernel
theorem dL_law_401 : decode code 401 = .ok (.aload_n 0, 1) := by decide +kernel
theorem dL_law_402 : decode code 402 = .ok (.iload_n 3, 1) := by decide +kernel
theorem dL_law_403 : decode code 403 = .ok (.iconst 3, 1) := by decide +kernel
theorem dL_law_404 : decode code 404 = .ok (.iadd, 1) := by decide +kernel
theorem dL_law_405 : decode code 405 = .ok (.iaload, 1) := by decide +kernel
theorem dL_law_406 : decode code 406 = .ok (.invokevirtual 41, 3) := by decide +kernel
theorem dL_law_409 : decode code 409 = .ok (.if_icmp .eq 1115, 3) := by decide +kernel
theorem dL_law_412 : decode code 412 = .ok (.iconst 0, 1) := by decide +kernel
theorem dL_law_413 : decode code 413 = .ok (.ireturn, 1) := by decide +kernel
theorem dL_law_414 : decode code 414 = .ok (.aload_n 1, 1) := by decide +kernel
theorem dL_law_415 : decode code 415 = .ok (.aload_n 0, 1) := by decide +kernel
theorem dL_law_416 : decode code 416 = .ok (.iload_n 3, 1) := by decide +kernel
theorem dL_law_417 : decode code 417 = .ok (.iconst 1, 1) := by decide +kernel
theorem dL_law_418 : decode code 418 = .ok (.iadd, 1) := by decide +kernel
theorem dL_law_419 : decode code 419 = .ok (.iaload, 1) := by decide +kernel
theorem dL_law_420 : decode code 420 = .ok (.invokevirtual 42, 3) := by decide +kernel
theorem dL_law_423 : decode code 423 = .ok (.aload_n 2, 1) := by decide +kernel
theorem dL_law_424 : decode code 424 = .ok (.aload_n 0, 1) := by decide +kernel
theorem dL_law_425 : decode code 425 = .ok (.iload_n 3, 1) := by decide +kernel
theorem dL_law_426 : decode code 426 = .ok (.iconst 1, 1) := by decide +kernel
theorem dL_law_427 : decode code 427 = .ok (.iadd, 1) := by decide +kernel
theorem dL_law_428 : decode code 428 = .ok (.iaload, 1) := by decide +kernel
theorem dL_law_429 : decode code 429 = .ok (.invokevirtual 45, 3) := by decide +kernel
theorem dL_law_432 : decode code 432 = .ok (.if_icmp .eq 1092, 3) := by decide +kernel
theorem dL_law_435 : decode code 435 = .ok (.iconst 0, 1) := by decide +kernel
theorem dL_law_436 : decode code 436 = .ok (.ireturn, 1) := by decide +kernel
theorem dL_law_437 : decode code 437 = .ok (.aload_n 1, 1) := by decide +kernel
theorem dL_law_438 : decode code 438 = .ok (.aload_n 0, 1) := by decide +kernel
theorem dL_law_439 : decode code 439 = .ok (.iload_n 3, 1) := by decide +kernel
theorem dL_law_440 : decode code 440 = .ok (.iconst 1, 1) := by decide +kernel
theorem dL_law_441 : decode code 441 = .ok (.iadd, 1) := by decide +kernel
theorem dL_law_442 : decode code 442 = .ok (.iaload, 1) := by decide +kernel
theorem dL_law_443 : decode code 443 = .ok (.aload_n 0, 1) := by decide +kernel
theorem dL_law_444 : decode code 444 = .ok (.iload_n 3, 1) := by decide +kernel
theorem dL_law_445 : decode code 445 = .ok (.iconst 2, 1) := by decide +kernel
theorem dL_law_446 : decode code 446 = .ok (.iadd, 1) := by decide +kernel
theorem dL_law_447 : decode code 447 = .ok (.iaload, 1) := by decide +kernel
theorem dL_law_448 : decode code 448 = .ok (.aload_n 0, 1) := by decide +kernel
theorem dL_law_449 : decode code 449 = .ok (.iload_n 3, 1) := by decide +kernel
theorem dL_law_450 : decode code 450 = .ok (.iconst 3, 1) := by decide +kernel
theorem dL_law_451 : decode code 451 = .ok (.iadd, 1) := by decide +kernel
theorem dL_law_452 : decode code 452 = .ok (.iaload, 1) := by decide +kernel
theorem dL_law_453 : decode code 453 = .ok (.aload_n 0, 1) := by decide +kernel
theorem dL_law_454 : decode code 454 = .ok (.iload_n 3, 1) := by decide +kernel
theorem dL_law_455 : decode code 455 = .ok (.iconst 4, 1) := by decide +kernel
theorem dL_law_456 : decode code 456 = .ok (.iadd, 1) := by decide +kernel
theorem dL_law_457 : decode code 457 = .ok (.iaload, 1) := by decide +kernel
theorem dL_law_458 : decode code 458 = .ok (.invokevirtual 46, 3) := by decide +kernel
theorem dL_law_461 : decode code 461 = .ok (.aload_n 2, 1) := by decide +kernel
theorem dL_law_462 : decode code 462 = .ok (.aload_n 0, 1) := by decide +kernel
theorem dL_law_463 : decode code 463 = .ok (.iload_n 3, 1) := by decide +kernel
theorem dL_law_464 : decode code 464 = .ok (.iconst 1, 1) := by decide +kernel
theorem dL_law_465 : decode code 465 = .ok (.iadd, 1) := by decide +kernel
theorem dL_law_466 : decode code 466 = .ok (.iaload, 1) := by decide +kernel
theorem dL_law_467 : decode code 467 = .ok (.aload_n 0, 1) := by decide +kernel
theorem dL_law_468 : decode code 468 = .ok (.iload_n 3, 1) := by decide +kernel
theorem dL_law_469 : decode code 469 = .ok (.iconst 2, 1) := by decide +kernel
theorem dL_law_470 : decode code 470 = .ok (.iadd, 1) := by decide +kernel
theorem dL_law_471 : decode code 471 = .ok (.iaload, 1) := by decide +kernel
theorem dL_law_472 : decode code 472 = .ok (.aload_n 0, 1) := by decide +kernel
theorem dL_law_473 : decode code 473 = .ok (.iload_n 3, 1) := by decide +kernel
theorem dL_law_474 : decode code 474 = .ok (.iconst 3, 1) := by decide +kernel
theorem dL_law_475 : decode code 475 = .ok (.iadd, 1) := by decide +kernel
theorem dL_law_476 : decode code 476 = .ok (.iaload, 1) := by decide +kernel
theorem dL_law_477 : decode code 477 = .ok (.aload_n 0, 1) := by decide +kernel
theorem dL_law_478 : decode code 478 = .ok (.iload_n 3, 1) := by decide +kernel
theorem dL_law_479 : decode code 479 = .ok (.iconst 4, 1) := by decide +kernel
theorem dL_law_480 : decode code 480 = .ok (.iadd, 1) := by decide +kernel
theorem dL_law_481 : decode code 481 = .ok (.iaload, 1) := by decide +kernel
theorem dL_law_482 : decode code 482 = .ok (.invokevirtual 50, 3) := by decide +kernel
theorem dL_law_485 : decode code 485 = .ok (.if_icmp .eq 1039, 3) := by decide +kernel
theorem dL_law_488 : decode code 488 = .ok (.iconst 0, 1) := by decide +kernel
theorem dL_law_489 : decode code 489 = .ok (.ireturn, 1) := by decide +kernel
theorem dL_law_490 : decode code 490 = .ok (.aload_n 1, 1) := by decide +kernel
theorem dL_law_491 : decode code 491 = .ok (.aload_n 0, 1) := by decide +kernel
theorem dL_law_492 : decode code 492 = .ok (.iload_n 3, 1) := by decide +kernel
theorem dL_law_493 : decode code 493 = .ok (.iconst 1, 1) := by decide +kernel
theorem dL_law_494 : decode code 494 = .ok (.iadd, 1) := by decide +kernel
theorem dL_law_495 : decode code 495 = .ok (.iaload, 1) := by decide +kernel
theorem dL_law_496 : decode code 496 = .ok (.aload_n 0, 1) := by decide +kernel
theorem dL_law_497 : decode code 497 = .ok (.iload_n 3, 1) := by decide +kernel
theorem dL_law_498 : decode code 498 = .ok (.iconst 2, 1) := by decide +kernel
theorem dL_law_499 : decode code 499 = .ok (.iadd, 1) := by decide +kernel
theorem dL_law_500 : decode code 500 = .ok (.iaload, 1) := by decide +kernel
theorem dL_law_501 : decode code 501 = .ok (.aload_n 0, 1) := by decide +kernel
theorem dL_law_502 : decode code 502 = .ok (.iload_n 3, 1) := by decide +kernel
theorem dL_law_503 : decode code 503 = .ok (.iconst 3, 1) := by decide +kernel
theorem dL_law_504 : decode code 504 = .ok (.iadd, 1) := by decide +kernel
theorem dL_law_505 : decode code 505 = .ok (.iaload, 1) := by decide +kernel
theorem dL_law_506 : decode code 506 = .ok (.aload_n 0, 1) := by decide +kernel
theorem dL_law_507 : decode code 507 = .ok (.iload_n 3, 1) := by decide +kernel
theorem dL_law_508 : decode code 508 = .ok (.iconst 4, 1) := by decide +kernel
theorem dL_law_509 : decode code 509 = .ok (.iadd, 1) := by decide +kernel
theorem dL_law_510 : decode code 510 = .ok (.iaload, 1) := by decide +kernel
theorem dL_law_511 : decode code 511 = .ok (.invokevirtual 51, 3) := by decide +kernel
theorem dL_law_514 : decode code 514 = .ok (.aload_n 2, 1) := by decide +kernel
theorem dL_law_515 : decode code 515 = .ok (.aload_n 0, 1) := by decide +kernel
theorem dL_law_516 : decode code 516 = .ok (.iload_n 3, 1) := by decide +kernel
theorem dL_law_517 : decode code 517 = .ok (.iconst 1, 1) := by decide +kernel
theorem dL_law_518 : decode code 518 = .ok (.iadd, 1) := by decide +kernel
theorem dL_law_519 : decode code 519 = .ok (.iaload, 1) := by decide +kernel
theorem dL_law_520 : decode code 520 = .ok (.aload_n 0, 1) := by decide +kernel
theorem dL_law_521 : decode code 521 = .ok (.iload_n 3, 1) := by decide +kernel
theorem dL_law_522 : decode code 522 = .ok (.iconst 2, 1) := by decide +kernel
theorem dL_law_523 : decode code 523 = .ok (.iadd, 1) := by decide +kernel
theorem dL_law_524 : decode code 524 = .ok (.iaload, 1) := by decide +kernel
theorem dL_law_525 : decode code 525 = .ok (.aload_n 0, 1) := by decide +kernel
theorem dL_law_526 : decode code 526 = .ok (.iload_n 3, 1) := by decide +kernel
theorem dL_law_527 : decode code 527 = .ok (.iconst 3, 1) := by decide +kernel
theorem dL_law_528 : decode code 528 = .ok (.iadd, 1) := by decide +kernel
theorem dL_law_529 : decode code 529 = .ok (.iaload, 1) := by decide +kernel
theorem dL_law_530 : decode code 530 = .ok (.aload_n 0, 1) := by decide +kernel
theorem dL_law_531 : decode code 531 = .ok (.iload_n 3, 1) := by decide +kernel
theorem dL_law_532 : decode code 532 = .ok (.iconst 4, 1) := by decide +kernel
theorem dL_law_533 : decode code 533 = .ok (.iadd, 1) := by decide +kernel
theorem dL_law_534 : decode code 534 = .ok (.iaload, 1) := by decide +kernel
theorem dL_law_535 : decode code 535 = .ok (.invokevirtual 54, 3) := by decide +kernel
theorem dL_law_538 : decode code 538 = .ok (.if_icmp .eq 986, 3) := by decide +kernel
theorem dL_law_541 : decode code 541 = .ok (.iconst 0, 1) := by decide +kernel
theorem dL_law_542 : decode code 542 = .ok (.ireturn, 1) := by decide +kernel
theorem dL_law_543 : decode code 543 = .ok (.aload_n 1, 1) := by decide +kernel
theorem dL_law_544 : decode code 544 = .ok (.aload_n 0, 1) := by decide +kernel
theorem dL_law_545 : decode code 545 = .ok (.iload_n 3, 1) := by decide +kernel
theorem dL_law_546 : decode code 546 = .ok (.iconst 1, 1) := by decide +kernel
theorem dL_law_547 : decode code 547 = .ok (.iadd, 1) := by decide +kernel
theorem dL_law_548 : decode code 548 = .ok (.iaload, 1) := by decide +kernel
theorem dL_law_549 : decode code 549 = .ok (.aload_n 0, 1) := by decide +kernel
theorem dL_law_550 : decode code 550 = .ok (.iload_n 3, 1) := by decide +kernel
theorem dL_law_551 : decode code 551 = .ok (.iconst 2, 1) := by decide +kernel
theorem dL_law_552 : decode code 552 = .ok (.iadd, 1) := by decide +kernel
theorem dL_law_553 : decode code 553 = .ok (.iaload, 1) := by decide +kernel
theorem dL_law_554 : decode code 554 = .ok (.aload_n 0, 1) := by decide +kernel
theorem dL_law_555 : decode code 555 = .ok (.iload_n 3, 1) := by decide +kernel
theorem dL_law_556 : decode code 556 = .ok (.iconst 3, 1) := by decide +kernel
theorem dL_law_557 : decode code 557 = .ok (.iadd, 1) := by decide +kernel
theorem dL_law_558 : decode code 558 = .ok (.iaload, 1) := by decide +kernel
theorem dL_law_559 : decode code 559 = .ok (.aload_n 0, 1) := by decide +kernel
theorem dL_law_560 : decode code 560 = .ok (.iload_n 3, 1) := by decide +kernel
theorem dL_law_561 : decode code 561 = .ok (.iconst 4, 1) := by decide +kernel
theorem dL_law_562 : decode code 562 = .ok (.iadd, 1) := by decide +kernel
theorem dL_law_563 : decode code 563 = .ok (.iaload, 1) := by decide +kernel
theorem dL_law_564 : decode code 564 = .ok (.invokevirtual 55, 3) := by decide +kernel
theorem dL_law_567 : decode code 567 = .ok (.aload_n 2, 1) := by decide +kernel
theorem dL_law_568 : decode code 568 = .ok (.aload_n 0, 1) := by decide +kernel
theorem dL_law_569 : decode code 569 = .ok (.iload_n 3, 1) := by decide +kernel
theorem dL_law_570 : decode code 570 = .ok (.iconst 1, 1) := by decide +kernel
theorem dL_law_571 : decode code 571 = .ok (.iadd, 1) := by decide +kernel
theorem dL_law_572 : decode code 572 = .ok (.iaload, 1) := by decide +kernel
theorem dL_law_573 : decode code 573 = .ok (.aload_n 0, 1) := by decide +kernel
theorem dL_law_574 : decode code 574 = .ok (.iload_n 3, 1) := by decide +kernel
theorem dL_law_575 : decode code 575 = .ok (.iconst 2, 1) := by decide +kernel
theorem dL_law_576 : decode code 576 = .ok (.iadd, 1) := by decide +kernel
theorem dL_law_577 : decode code 577 = .ok (.iaload, 1) := by decide +kernel
theorem dL_law_578 : decode code 578 = .ok (.aload_n 0, 1) := by decide +kernel
theorem dL_law_579 : decode code 579 = .ok (.iload_n 3, 1) := by decide +kernel
theorem dL_law_580 : decode code 580 = .ok (.iconst 3, 1) := by decide +kernel
theorem dL_law_581 : decode code 581 = .ok (.iadd, 1) := by decide +kernel
theorem dL_law_582 : decode code 582 = .ok (.iaload, 1) := by decide +kernel
theorem dL_law_583 : decode code 583 = .ok (.aload_n 0, 1) := by decide +kernel
theorem dL_law_584 : decode code 584 = .ok (.iload_n 3, 1) := by decide +kernel
theorem dL_law_585 : decode code 585 = .ok (.iconst 4, 1) := by decide +kernel
theorem dL_law_586 : decode code 586 = .ok (.iadd, 1) := by decide +kernel
theorem dL_law_587 : decode code 587 = .ok (.iaload, 1) := by decide +kernel
theorem dL_law_588 : decode code 588 = .ok (.invokevirtual 58, 3) := by decide +kernel
theorem dL_law_591 : decode code 591 = .ok (.if_icmp .eq 933, 3) := by decide +kernel
theorem dL_law_594 : decode code 594 = .ok (.iconst 0, 1) := by decide +kernel
theorem dL_law_595 : decode code 595 = .ok (.ireturn, 1) := by decide +kernel
theorem dL_law_596 : decode code 596 = .ok (.aload_n 1, 1) := by decide +kernel
theorem dL_law_597 : decode code 597 = .ok (.aload_n 0, 1) := by decide +kernel
theorem dL_law_598 : decode code 598 = .ok (.iload_n 3, 1) := by decide +kernel
theorem dL_law_599 : decode code 599 = .ok (.iconst 1, 1) := by decide +kernel
theorem dL_law_600 : decode code 600 = .ok (.iadd, 1) := by decide +kernel
theorem dL_law_601 : decode code 601 = .ok (.iaload, 1) := by decide +kernel
theorem dL_law_602 : decode code 602 = .ok (.aload_n 0, 1) := by decide +kernel
theorem dL_law_603 : decode code 603 = .ok (.iload_n 3, 1) := by decide +kernel
theorem dL_law_604 : decode code 604 = .ok (.iconst 2, 1) := by decide +kernel
theorem dL_law_605 : decode code 605 = .ok (.iadd, 1) := by decide +kernel
theorem dL_law_606 : decode code 606 = .ok (.iaload, 1) := by decide +kernel
theorem dL_law_607 : decode code 607 = .ok (.aload_n 0, 1) := by decide +kernel
theorem dL_law_608 : decode code 608 = .ok (.iload_n 3, 1) := by decide +kernel
theorem dL_law_609 : decode code 609 = .ok (.iconst 3, 1) := by decide +kernel
theorem dL_law_610 : decode code 610 = .ok (.iadd, 1) := by decide +kernel
theorem dL_law_611 : decode code 611 = .ok (.iaload, 1) := by decide +kernel
theorem dL_law_612 : decode code 612 = .ok (.invokevirtual 59, 3) := by decide +kernel
theorem dL_law_615 : decode code 615 = .ok (.aload_n 2, 1) := by decide +kernel
theorem dL_law_616 : decode code 616 = .ok (.aload_n 0, 1) := by decide +kernel
theorem dL_law_617 : decode code 617 = .ok (.iload_n 3, 1) := by decide +kernel
theorem dL_law_618 : decode code 618 = .ok (.iconst 1, 1) := by decide +kernel
theorem dL_law_619 : decode code 619 = .ok (.iadd, 1) := by decide +kernel
theorem dL_law_620 : decode code 620 = .ok (.iaload, 1) := by decide +kernel
theorem dL_law_621 : decode code 621 = .ok (.aload_n 0, 1) := by decide +kernel
theorem dL_law_622 : decode code 622 = .ok (.iload_n 3, 1) := by decide +kernel
theorem dL_law_623 : decode code 623 = .ok (.iconst 2, 1) := by decide +kernel
theorem dL_law_624 : decode code 624 = .ok (.iadd, 1) := by decide +kernel
theorem dL_law_625 : decode code 625 = .ok (.iaload, 1) := by decide +kernel
theorem dL_law_626 : decode code 626 = .ok (.aload_n 0, 1) := by decide +kernel
theorem dL_law_627 : decode code 627 = .ok (.iload_n 3, 1) := by decide +kernel
theorem dL_law_628 : decode code 628 = .ok (.iconst 3, 1) := by decide +kernel
theorem dL_law_629 : decode code 629 = .ok (.iadd, 1) := by decide +kernel
theorem dL_law_630 : decode code 630 = .ok (.iaload, 1) := by decide +kernel
theorem dL_law_631 : decode code 631 = .ok (.invokevirtual 62, 3) := by decide +kernel
theorem dL_law_634 : decode code 634 = .ok (.if_icmp .eq 890, 3) := by decide +kernel
theorem dL_law_637 : decode code 637 = .ok (.iconst 0, 1) := by decide +kernel
theorem dL_law_638 : decode code 638 = .ok (.ireturn, 1) := by decide +kernel
theorem dL_law_639 : decode code 639 = .ok (.aload_n 1, 1) := by decide +kernel
theorem dL_law_640 : decode code 640 = .ok (.aload_n 0, 1) := by decide +kernel
theorem dL_law_641 : decode code 641 = .ok (.iload_n 3, 1) := by decide +kernel
theorem dL_law_642 : decode code 642 = .ok (.iconst 1, 1) := by decide +kernel
theorem dL_law_643 : decode code 643 = .ok (.iadd, 1) := by decide +kernel
theorem dL_law_644 : decode code 644 = .ok (.iaload, 1) := by decide +kernel
theorem dL_law_645 : decode code 645 = .ok (.aload_n 0, 1) := by decide +kernel
theorem dL_law_646 : decode code 646 = .ok (.iload_n 3, 1) := by decide +kernel
theorem dL_law_647 : decode code 647 = .ok (.iconst 2, 1) := by decide +kernel
theorem dL_law_648 : decode code 648 = .ok (.iadd, 1) := by decide +kernel
theorem dL_law_649 : decode code 649 = .ok (.iaload, 1) := by decide +kernel
theorem dL_law_650 : decode code 650 = .ok (.aload_n 0, 1) := by decide +kernel
theorem dL_law_651 : decode code 651 = .ok (.iload_n 3, 1) := by decide +kernel
theorem dL_law_652 : decode code 652 = .ok (.iconst 3, 1) := by decide +kernel
theorem dL_law_653 : decode code 653 = .ok (.iadd, 1) := by decide +kernel
theorem dL_law_654 : decode code 654 = .ok (.iaload, 1) := by decide +kernel
theorem dL_law_655 : decode code 655 = .ok (.aload_n 0, 1) := by decide +kernel
theorem dL_law_656 : decode code 656 = .ok (.iload_n 3, 1) := by decide +kernel
theorem dL_law_657 : decode code 657 = .ok (.iconst 4, 1) := by decide +kernel
theorem dL_law_658 : decode code 658 = .ok (.iadd, 1) := by decide +kernel
theorem dL_law_659 : decode code 659 = .ok (.iaload, 1) := by decide +kernel
theorem dL_law_660 : decode code 660 = .ok (.invokevirtual 63, 3) := by decide +kernel
theorem dL_law_663 : decode code 663 = .ok (.aload_n 2, 1) := by decide +kernel
theorem dL_law_664 : decode code 664 = .ok (.aload_n 0, 1) := by decide +kernel
theorem dL_law_665 : decode code 665 = .ok (.iload_n 3, 1) := by decide +kernel
theorem dL_law_666 : decode code 666 = .ok (.iconst 1, 1) := by decide +kernel
theorem dL_law_667 : decode code 667 = .ok (.iadd, 1) := by decide +kernel
theorem dL_law_668 : decode code 668 = .ok (.iaload, 1) := by decide +kernel
theorem dL_law_669 : decode code 669 = .ok (.aload_n 0, 1) := by decide +kernel
theorem dL_law_670 : decode code 670 = .ok (.iload_n 3, 1) := by decide +kernel
theorem dL_law_671 : decode code 671 = .ok (.iconst 2, 1) := by decide +kernel
theorem dL_law_672 : decode code 672 = .ok (.iadd, 1) := by decide +kernel
theorem dL_law_673 : decode code 673 = .ok (.iaload, 1) := by decide +kernel
theorem dL_law_674 : decode code 674 = .ok (.aload_n 0, 1) := by decide +kernel
theorem dL_law_675 : decode code 675 = .ok (.iload_n 3, 1) := by decide +kernel
theorem dL_law_676 : decode code 676 = .ok (.iconst 3, 1) := by decide +kernel
theorem dL_law_677 : decode code 677 = .ok (.iadd, 1) := by decide +kernel
theorem dL_law_678 : decode code 678 = .ok (.iaload, 1) := by decide +kernel
theorem dL_law_679 : decode code 679 = .ok (.aload_n 0, 1) := by decide +kernel
theorem dL_law_680 : decode code 680 = .ok (.iload_n 3, 1) := by decide +kernel
theorem dL_law_681 : decode code 681 = .ok (.iconst 4, 1) := by decide +kernel
theorem dL_law_682 : decode code 682 = .ok (.iadd, 1) := by decide +kernel
theorem dL_law_683 : decode code 683 = .ok (.iaload, 1) := by decide +kernel
theorem dL_law_684 : decode code 684 = .ok (.invokevirtual 67, 3) := by decide +kernel
theorem dL_law_687 : decode code 687 = .ok (.lcmp, 1) := by decide +kernel
theorem dL_law_688 : decode code 688 = .ok (.ifCond .eq 836, 3) := by decide +kernel
theorem dL_law_691 : decode code 691 = .ok (.iconst 0, 1) := by decide +kernel
theorem dL_law_692 : decode code 692 = .ok (.ireturn, 1) := by decide +kernel
theorem dL_law_693 : decode code 693 = .ok (.aload_n 1, 1) := by decide +kernel
theorem dL_law_694 : decode code 694 = .ok (.aload_n 0, 1) := by decide +kernel
theorem dL_law_695 : decode code 695 = .ok (.iload_n 3, 1) := by decide +kernel
theorem dL_law_696 : decode code 696 = .ok (.iconst 1, 1) := by decide +kernel
theorem dL_law_697 : decode code 697 = .ok (.iadd, 1) := by decide +kernel
theorem dL_law_698 : decode code 698 = .ok (.iaload, 1) := by decide +kernel
theorem dL_law_699 : decode code 699 = .ok (.aload_n 0, 1) := by decide +kernel
theorem dL_law_700 : decode code 700 = .ok (.iload_n 3, 1) := by decide +kernel
theorem dL_law_701 : decode code 701 = .ok (.iconst 2, 1) := by decide +kernel
theorem dL_law_702 : decode code 702 = .ok (.iadd, 1) := by decide +kernel
theorem dL_law_703 : decode code 703 = .ok (.iaload, 1) := by decide +kernel
theorem dL_law_704 : decode code 704 = .ok (.aload_n 0, 1) := by decide +kernel
theorem dL_law_705 : decode code 705 = .ok (.iload_n 3, 1) := by decide +kernel
theorem dL_law_706 : decode code 706 = .ok (.iconst 3, 1) := by decide +kernel
theorem dL_law_707 : decode code 707 = .ok (.iadd, 1) := by decide +kernel
theorem dL_law_708 : decode code 708 = .ok (.iaload, 1) := by decide +kernel
theorem dL_law_709 : decode code 709 = .ok (.invokevirtual 68, 3) := by decide +kernel
theorem dL_law_712 : decode code 712 = .ok (.aload_n 2, 1) := by decide +kernel
theorem dL_law_713 : decode code 713 = .ok (.aload_n 0, 1) := by decide +kernel
theorem dL_law_714 : decode code 714 = .ok (.iload_n 3, 1) := by decide +kernel
theorem dL_law_715 : decode code 715 = .ok (.iconst 1, 1) := by decide +kernel
theorem dL_law_716 : decode code 716 = .ok (.iadd, 1) := by decide +kernel
theorem dL_law_717 : decode code 717 = .ok (.iaload, 1) := by decide +kernel
theorem dL_law_718 : decode code 718 = .ok (.aload_n 0, 1) := by decide +kernel
theorem dL_law_719 : decode code 719 = .ok (.iload_n 3, 1) := by decide +kernel
theorem dL_law_720 : decode code 720 = .ok (.iconst 2, 1) := by decide +kernel
theorem dL_law_721 : decode code 721 = .ok (.iadd, 1) := by decide +kernel
theorem dL_law_722 : decode code 722 = .ok (.iaload, 1) := by decide +kernel
theorem dL_law_723 : decode code 723 = .ok (.aload_n 0, 1) := by decide +kernel
theorem dL_law_724 : decode code 724 = .ok (.iload_n 3, 1) := by decide +kernel
theorem dL_law_725 : decode code 725 = .ok (.iconst 3, 1) := by decide +kernel
theorem dL_law_726 : decode code 726 = .ok (.iadd, 1) := by decide +kernel
theorem dL_law_727 : decode code 727 = .ok (.iaload, 1) := by decide +kernel
theorem dL_law_728 : decode code 728 = .ok (.invokevirtual 71, 3) := by decide +kernel
theorem dL_law_731 : decode code 731 = .ok (.if_icmp .eq 793, 3) := by decide +kernel
theorem dL_law_734 : decode code 734 = .ok (.iconst 0, 1) := by decide +kernel
theorem dL_law_735 : decode code 735 = .ok (.ireturn, 1) := by decide +kernel
theorem dL_law_736 : decode code 736 = .ok (.aload_n 1, 1) := by decide +kernel
theorem dL_law_737 : decode code 737 = .ok (.aload_n 0, 1) := by decide +kernel
theorem dL_law_738 : decode code 738 = .ok (.iload_n 3, 1) := by decide +kernel
theorem dL_law_739 : decode code 739 = .ok (.iconst 1, 1) := by decide +kernel
theorem dL_law_740 : decode code 740 = .ok (.iadd, 1) := by decide +kernel
theorem dL_law_741 : decode code 741 = .ok (.iaload, 1) := by decide +kernel
theorem dL_law_742 : decode code 742 = .ok (.invokevirtual 72, 3) := by decide +kernel
theorem dL_law_745 : decode code 745 = .ok (.aload_n 2, 1) := by decide +kernel
theorem dL_law_746 : decode code 746 = .ok (.aload_n 0, 1) := by decide +kernel
theorem dL_law_747 : decode code 747 = .ok (.iload_n 3, 1) := by decide +kernel
theorem dL_law_748 : decode code 748 = .ok (.iconst 1, 1) := by decide +kernel
theorem dL_law_749 : decode code 749 = .ok (.iadd, 1) := by decide +kernel
theorem dL_law_750 : decode code 750 = .ok (.iaload, 1) := by decide +kernel
theorem dL_law_751 : decode code 751 = .ok (.invokevirtual 75, 3) := by decide +kernel
theorem dL_law_754 : decode code 754 = .ok (.if_icmp .eq 770, 3) := by decide +kernel
theorem dL_law_757 : decode code 757 = .ok (.iconst 0, 1) := by decide +kernel
theorem dL_law_758 : decode code 758 = .ok (.ireturn, 1) := by decide +kernel
theorem dL_law_759 : decode code 759 = .ok (.aload_n 1, 1) := by decide +kernel
theorem dL_law_760 : decode code 760 = .ok (.aload_n 0, 1) := by decide +kernel
theorem dL_law_761 : decode code 761 = .ok (.iload_n 3, 1) := by decide +kernel
theorem dL_law_762 : decode code 762 = .ok (.iconst 1, 1) := by decide +kernel
theorem dL_law_763 : decode code 763 = .ok (.iadd, 1) := by decide +kernel
theorem dL_law_764 : decode code 764 = .ok (.iaload, 1) := by decide +kernel
theorem dL_law_765 : decode code 765 = .ok (.invokevirtual 76, 3) := by decide +kernel
theorem dL_law_768 : decode code 768 = .ok (.aload_n 2, 1) := by decide +kernel
theorem dL_law_769 : decode code 769 = .ok (.aload_n 0, 1) := by decide +kernel
theorem dL_law_770 : decode code 770 = .ok (.iload_n 3, 1) := by decide +kernel
theorem dL_law_771 : decode code 771 = .ok (.iconst 1, 1) := by decide +kernel
theorem dL_law_772 : decode code 772 = .ok (.iadd, 1) := by decide +kernel
theorem dL_law_773 : decode code 773 = .ok (.iaload, 1) := by decide +kernel
theorem dL_law_774 : decode code 774 = .ok (.invokevirtual 79, 3) := by decide +kernel
theorem dL_law_777 : decode code 777 = .ok (.if_icmp .eq 747, 3) := by decide +kernel
theorem dL_law_780 : decode code 780 = .ok (.iconst 0, 1) := by decide +kernel
theorem dL_law_781 : decode code 781 = .ok (.ireturn, 1) := by decide +kernel
theorem dL_law_782 : decode code 782 = .ok (.aload_n 1, 1) := by decide +kernel
theorem dL_law_783 : decode code 783 = .ok (.aload_n 0, 1) := by decide +kernel
theorem dL_law_784 : decode code 784 = .ok (.iload_n 3, 1) := by decide +kernel
theorem dL_law_785 : decode code 785 = .ok (.iconst 1, 1) := by decide +kernel
theorem dL_law_786 : decode code 786 = .ok (.iadd, 1) := by decide +kernel
theorem dL_law_787 : decode code 787 = .ok (.iaload, 1) := by decide +kernel
theorem dL_law_788 : decode code 788 = .ok (.aload_n 0, 1) := by decide +kernel
theorem dL_law_789 : decode code 789 = .ok (.iload_n 3, 1) := by decide +kernel
theorem dL_law_790 : decode code 790 = .ok (.iconst 2, 1) := by decide +kernel
theorem dL_law_791 : decode code 791 = .ok (.iadd, 1) := by decide +kernel
theorem dL_law_792 : decode code 792 = .ok (.iaload, 1) := by decide +kernel
theorem dL_law_793 : decode code 793 = .ok (.aload_n 0, 1) := by decide +kernel
theorem dL_law_794 : decode code 794 = .ok (.iload_n 3, 1) := by decide +kernel
theorem dL_law_795 : decode code 795 = .ok (.iconst 3, 1) := by decide +kernel
theorem dL_law_796 : decode code 796 = .ok (.iadd, 1) := by decide +kernel
theorem dL_law_797 : decode code 797 = .ok (.iaload, 1) := by decide +kernel
theorem dL_law_798 : decode code 798 = .ok (.invokevirtual 80, 3) := by decide +kernel
theorem dL_law_801 : decode code 801 = .ok (.aload_n 2, 1) := by decide +kernel
theorem dL_law_802 : decode code 802 = .ok (.aload_n 0, 1) := by decide +kernel
theorem dL_law_803 : decode code 803 = .ok (.iload_n 3, 1) := by decide +kernel
theorem dL_law_804 : decode code 804 = .ok (.iconst 1, 1) := by decide +kernel
theorem dL_law_805 : decode code 805 = .ok (.iadd, 1) := by decide +kernel
theorem dL_law_806 : decode code 806 = .ok (.iaload, 1) := by decide +kernel
theorem dL_law_807 : decode code 807 = .ok (.aload_n 0, 1) := by decide +kernel
theorem dL_law_808 : decode code 808 = .ok (.iload_n 3, 1) := by decide +kernel
theorem dL_law_809 : decode code 809 = .ok (.iconst 2, 1) := by decide +kernel
theorem dL_law_810 : decode code 810 = .ok (.iadd, 1) := by decide +kernel
theorem dL_law_811 : decode code 811 = .ok (.iaload, 1) := by decide +kernel
theorem dL_law_812 : decode code 812 = .ok (.aload_n 0, 1) := by decide +kernel
theorem dL_law_813 : decode code 813 = .ok (.iload_n 3, 1) := by decide +kernel
theorem dL_law_814 : decode code 814 = .ok (.iconst 3, 1) := by decide +kernel
theorem dL_law_815 : decode code 815 = .ok (.iadd, 1) := by decide +kernel
theorem dL_law_816 : decode code 816 = .ok (.iaload, 1) := by decide +kernel
theorem dL_law_817 : decode code 817 = .ok (.invokevirtual 84, 3) := by decide +kernel
theorem dL_law_820 : decode code 820 = .ok (.lcmp, 1) := by decide +kernel
theorem dL_law_821 : decode code 821 = .ok (.ifCond .eq 703, 3) := by decide +kernel
theorem dL_law_824 : decode code 824 = .ok (.iconst 0, 1) := by decide +kernel
theorem dL_law_825 : decode code 825 = .ok (.ireturn, 1) := by decide +kernel
theorem dL_law_826 : decode code 826 = .ok (.aload_n 1, 1) := by decide +kernel
theorem dL_law_827 : decode code 827 = .ok (.aload_n 0, 1) := by decide +kernel
theorem dL_law_828 : decode code 828 = .ok (.iload_n 3, 1) := by decide +kernel
theorem dL_law_829 : decode code 829 = .ok (.iconst 1, 1) := by decide +kernel
theorem dL_law_830 : decode code 830 = .ok (.iadd, 1) := by decide +kernel
theorem dL_law_831 : decode code 831 = .ok (.iaload, 1) := by decide +kernel
theorem dL_law_832 : decode code 832 = .ok (.aload_n 0, 1) := by decide +kernel
theorem dL_law_833 : decode code 833 = .ok (.iload_n 3, 1) := by decide +kernel
theorem dL_law_834 : decode code 834 = .ok (.iconst 2, 1) := by decide +kernel
theorem dL_law_835 : decode code 835 = .ok (.iadd, 1) := by decide +kernel
theorem dL_law_836 : decode code 836 = .ok (.iaload, 1) := by decide +kernel
theorem dL_law_837 : decode code 837 = .ok (.invokevirtual 85, 3) := by decide +kernel
theorem dL_law_840 : decode code 840 = .ok (.aload_n 2, 1) := by decide +kernel
theorem dL_law_841 : decode code 841 = .ok (.aload_n 0, 1) := by decide +kernel
theorem dL_law_842 : decode code 842 = .ok (.iload_n 3, 1) := by decide +kernel
theorem dL_law_843 : decode code 843 = .ok (.iconst 1, 1) := by decide +kernel
theorem dL_law_844 : decode code 844 = .ok (.iadd, 1) := by decide +kernel
theorem dL_law_845 : decode code 845 = .ok (.iaload, 1) := by decide +kernel
theorem dL_law_846 : decode code 846 = .ok (.aload_n 0, 1) := by decide +kernel
theorem dL_law_847 : decode code 847 = .ok (.iload_n 3, 1) := by decide +kernel
theorem dL_law_848 : decode code 848 = .ok (.iconst 2, 1) := by decide +kernel
theorem dL_law_849 : decode code 849 = .ok (.iadd, 1) := by decide +kernel
theorem dL_law_850 : decode code 850 = .ok (.iaload, 1) := by decide +kernel
theorem dL_law_851 : decode code 851 = .ok (.invokevirtual 88, 3) := by decide +kernel
theorem dL_law_854 : decode code 854 = .ok (.if_icmp .eq 670, 3) := by decide +kernel
theorem dL_law_857 : decode code 857 = .ok (.iconst 0, 1) := by decide +kernel
theorem dL_law_858 : decode code 858 = .ok (.ireturn, 1) := by decide +kernel
theorem dL_law_859 : decode code 859 = .ok (.aload_n 1, 1) := by decide +kernel
theorem dL_law_860 : decode code 860 = .ok (.aload_n 0, 1) := by decide +kernel
theorem dL_law_861 : decode code 861 = .ok (.iload_n 3, 1) := by decide +kernel
theorem dL_law_862 : decode code 862 = .ok (.iconst 1, 1) := by decide +kernel
theorem dL_law_863 : decode code 863 = .ok (.iadd, 1) := by decide +kernel
theorem dL_law_864 : decode code 864 = .ok (.iaload, 1) := by decide +kernel
theorem dL_law_865 : decode code 865 = .ok (.aload_n 0, 1) := by decide +kernel
theorem dL_law_866 : decode code 866 = .ok (.iload_n 3, 1) := by decide +kernel
theorem dL_law_867 : decode code 867 = .ok (.iconst 2, 1) := by decide +kernel
theorem dL_law_868 : decode code 868 = .ok (.iadd, 1) := by decide +kernel
theorem dL_law_869 : decode code 869 = .ok (.iaload, 1) := by decide +kernel
theorem dL_law_870 : decode code 870 = .ok (.aload_n 0, 1) := by decide +kernel
theorem dL_law_871 : decode code 871 = .ok (.iload_n 3, 1) := by decide +kernel
theorem dL_law_872 : decode code 872 = .ok (.iconst 3, 1) := by decide +kernel
theorem dL_law_873 : decode code 873 = .ok (.iadd, 1) := by decide +kernel
theorem dL_law_874 : decode code 874 = .ok (.iaload, 1) := by decide +kernel
theorem dL_law_875 : decode code 875 = .ok (.aload_n 0, 1) := by decide +kernel
theorem dL_law_876 : decode code 876 = .ok (.iload_n 3, 1) := by decide +kernel
theorem dL_law_877 : decode code 877 = .ok (.iconst 4, 1) := by decide +kernel
theorem dL_law_878 : decode code 878 = .ok (.iadd, 1) := by decide +kernel
theorem dL_law_879 : decode code 879 = .ok (.iaload, 1) := by decide +kernel
theorem dL_law_880 : decode code 880 = .ok (.invokevirtual 89, 3) := by decide +kernel
theorem dL_law_883 : decode code 883 = .ok (.aload_n 2, 1) := by decide +kernel
theorem dL_law_884 : decode code 884 = .ok (.aload_n 0, 1) := by decide +kernel
theorem dL_law_885 : decode code 885 = .ok (.iload_n 3, 1) := by decide +kernel
theorem dL_law_886 : decode code 886 = .ok (.iconst 1, 1) := by decide +kernel
theorem dL_law_887 : decode code 887 = .ok (.iadd, 1) := by decide +kernel
theorem dL_law_888 : decode code 888 = .ok (.iaload, 1) := by decide +kernel
theorem dL_law_889 : decode code 889 = .ok (.aload_n 0, 1) := by decide +kernel
theorem dL_law_890 : decode code 890 = .ok (.iload_n 3, 1) := by decide +kernel
theorem dL_law_891 : decode code 891 = .ok (.iconst 2, 1) := by decide +kernel
theorem dL_law_892 : decode code 892 = .ok (.iadd, 1) := by decide +kernel
theorem dL_law_893 : decode code 893 = .ok (.iaload, 1) := by decide +kernel
theorem dL_law_894 : decode code 894 = .ok (.aload_n 0, 1) := by decide +kernel
theorem dL_law_895 : decode code 895 = .ok (.iload_n 3, 1) := by decide +kernel
theorem dL_law_896 : decode code 896 = .ok (.iconst 3, 1) := by decide +kernel
theorem dL_law_897 : decode code 897 = .ok (.iadd, 1) := by decide +kernel
theorem dL_law_898 : decode code 898 = .ok (.iaload, 1) := by decide +kernel
theorem dL_law_899 : decode code 899 = .ok (.aload_n 0, 1) := by decide +kernel
theorem dL_law_900 : decode code 900 = .ok (.iload_n 3, 1) := by decide +kernel
theorem dL_law_901 : decode code 901 = .ok (.iconst 4, 1) := by decide +kernel
theorem dL_law_902 : decode code 902 = .ok (.iadd, 1) := by decide +kernel
theorem dL_law_903 : decode code 903 = .ok (.iaload, 1) := by decide +kernel
theorem dL_law_904 : decode code 904 = .ok (.invokevirtual 92, 3) := by decide +kernel
theorem dL_law_907 : decode code 907 = .ok (.lcmp, 1) := by decide +kernel
theorem dL_law_908 : decode code 908 = .ok (.ifCond .eq 616, 3) := by decide +kernel
theorem dL_law_911 : decode code 911 = .ok (.iconst 0, 1) := by decide +kernel
theorem dL_law_912 : decode code 912 = .ok (.ireturn, 1) := by decide +kernel
theorem dL_law_913 : decode code 913 = .ok (.aload_n 1, 1) := by decide +kernel
theorem dL_law_914 : decode code 914 = .ok (.aload_n 0, 1) := by decide +kernel
theorem dL_law_915 : decode code 915 = .ok (.iload_n 3, 1) := by decide +kernel
theorem dL_law_916 : decode code 916 = .ok (.iconst 1, 1) := by decide +kernel
theorem dL_law_917 : decode code 917 = .ok (.iadd, 1) := by decide +kernel
theorem dL_law_918 : decode code 918 = .ok (.iaload, 1) := by decide +kernel
theorem dL_law_919 : decode code 919 = .ok (.aload_n 0, 1) := by decide +kernel
theorem dL_law_920 : decode code 920 = .ok (.iload_n 3, 1) := by decide +kernel
theorem dL_law_921 : decode code 921 = .ok (.iconst 2, 1) := by decide +kernel
theorem dL_law_922 : decode code 922 = .ok (.iadd, 1) := by decide +kernel
theorem dL_law_923 : decode code 923 = .ok (.iaload, 1) := by decide +kernel
theorem dL_law_924 : decode code 924 = .ok (.invokevirtual 93, 3) := by decide +kernel
theorem dL_law_927 : decode code 927 = .ok (.aload_n 2, 1) := by decide +kernel
theorem dL_law_928 : decode code 928 = .ok (.aload_n 0, 1) := by decide +kernel
theorem dL_law_929 : decode code 929 = .ok (.iload_n 3, 1) := by decide +kernel
theorem dL_law_930 : decode code 930 = .ok (.iconst 1, 1) := by decide +kernel
theorem dL_law_931 : decode code 931 = .ok (.iadd, 1) := by decide +kernel
theorem dL_law_932 : decode code 932 = .ok (.iaload, 1) := by decide +kernel
theorem dL_law_933 : decode code 933 = .ok (.aload_n 0, 1) := by decide +kernel
theorem dL_law_934 : decode code 934 = .ok (.iload_n 3, 1) := by decide +kernel
theorem dL_law_935 : decode code 935 = .ok (.iconst 2, 1) := by decide +kernel
theorem dL_law_936 : decode code 936 = .ok (.iadd, 1) := by decide +kernel
theorem dL_law_937 : decode code 937 = .ok (.iaload, 1) := by decide +kernel
theorem dL_law_938 : decode code 938 = .ok (.invokevirtual 96, 3) := by decide +kernel
theorem dL_law_941 : decode code 941 = .ok (.if_icmp .eq 583, 3) := by decide +kernel
theorem dL_law_944 : decode code 944 = .ok (.iconst 0, 1) := by decide +kernel
theorem dL_law_945 : decode code 945 = .ok (.ireturn, 1) := by decide +kernel
theorem dL_law_946 : decode code 946 = .ok (.aload_n 1, 1) := by decide +kernel
theorem dL_law_947 : decode code 947 = .ok (.aload_n 0, 1) := by decide +kernel
theorem dL_law_948 : decode code 948 = .ok (.iload_n 3, 1) := by decide +kernel
theorem dL_law_949 : decode code 949 = .ok (.iconst 1, 1) := by decide +kernel
theorem dL_law_950 : decode code 950 = .ok (.iadd, 1) := by decide +kernel
theorem dL_law_951 : decode code 951 = .ok (.iaload, 1) := by decide +kernel
theorem dL_law_952 : decode code 952 = .ok (.aload_n 0, 1) := by decide +kernel
theorem dL_law_953 : decode code 953 = .ok (.iload_n 3, 1) := by decide +kernel
theorem dL_law_954 : decode code 954 = .ok (.iconst 2, 1) := by decide +kernel
theorem dL_law_955 : decode code 955 = .ok (.iadd, 1) := by decide +kernel
theorem dL_law_956 : decode code 956 = .ok (.iaload, 1) := by decide +kernel
theorem dL_law_957 : decode code 957 = .ok (.aload_n 0, 1) := by decide +kernel
theorem dL_law_958 : decode code 958 = .ok (.iload_n 3, 1) := by decide +kernel
theorem dL_law_959 : decode code 959 = .ok (.iconst 3, 1) := by decide +kernel
theorem dL_law_960 : decode code 960 = .ok (.iadd, 1) := by decide +kernel
theorem dL_law_961 : decode code 961 = .ok (.iaload, 1) := by decide +kernel
theorem dL_law_962 : decode code 962 = .ok (.aload_n 0, 1) := by decide +kernel
theorem dL_law_963 : decode code 963 = .ok (.iload_n 3, 1) := by decide +kernel
theorem dL_law_964 : decode code 964 = .ok (.iconst 4, 1) := by decide +kernel
theorem dL_law_965 : decode code 965 = .ok (.iadd, 1) := by decide +kernel
theorem dL_law_966 : decode code 966 = .ok (.iaload, 1) := by decide +kernel
theorem dL_law_967 : decode code 967 = .ok (.aload_n 0, 1) := by decide +kernel
theorem dL_law_968 : decode code 968 = .ok (.iload_n 3, 1) := by decide +kernel
theorem dL_law_969 : decode code 969 = .ok (.iconst 5, 1) := by decide +kernel
theorem dL_law_970 : decode code 970 = .ok (.iadd, 1) := by decide +kernel
theorem dL_law_971 : decode code 971 = .ok (.iaload, 1) := by decide +kernel
theorem dL_law_972 : decode code 972 = .ok (.aload_n 0, 1) := by decide +kernel
theorem dL_law_973 : decode code 973 = .ok (.iload_n 3, 1) := by decide +kernel
theorem dL_law_974 : decode code 974 = .ok (.bipush 6, 2) := by decide +kernel
theorem dL_law_976 : decode code 976 = .ok (.iadd, 1) := by decide +kernel
theorem dL_law_977 : decode code 977 = .ok (.iaload, 1) := by decide +kernel
theorem dL_law_978 : decode code 978 = .ok (.invokevirtual 97, 3) := by decide +kernel
theorem dL_law_981 : decode code 981 = .ok (.aload_n 2, 1) := by decide +kernel
theorem dL_law_982 : decode code 982 = .ok (.aload_n 0, 1) := by decide +kernel
theorem dL_law_983 : decode code 983 = .ok (.iload_n 3, 1) := by decide +kernel
theorem dL_law_984 : decode code 984 = .ok (.iconst 1, 1) := by decide +kernel
theorem dL_law_985 : decode code 985 = .ok (.iadd, 1) := by decide +kernel
theorem dL_law_986 : decode code 986 = .ok (.iaload, 1) := by decide +kernel
theorem dL_law_987 : decode code 987 = .ok (.aload_n 0, 1) := by decide +kernel
theorem dL_law_988 : decode code 988 = .ok (.iload_n 3, 1) := by decide +kernel
theorem dL_law_989 : decode code 989 = .ok (.iconst 2, 1) := by decide +kernel
theorem dL_law_990 : decode code 990 = .ok (.iadd, 1) := by decide +kernel
theorem dL_law_991 : decode code 991 = .ok (.iaload, 1) := by decide +kernel
theorem dL_law_992 : decode code 992 = .ok (.aload_n 0, 1) := by decide +kernel
theorem dL_law_993 : decode code 993 = .ok (.iload_n 3, 1) := by decide +kernel
theorem dL_law_994 : decode code 994 = .ok (.iconst 3, 1) := by decide +kernel
theorem dL_law_995 : decode code 995 = .ok (.iadd, 1) := by decide +kernel
theorem dL_law_996 : decode code 996 = .ok (.iaload, 1) := by decide +kernel
theorem dL_law_997 : decode code 997 = .ok (.aload_n 0, 1) := by decide +kernel
theorem dL_law_998 : decode code 998 = .ok (.iload_n 3, 1) := by decide +kernel
theorem dL_law_999 : decode code 999 = .ok (.iconst 4, 1) := by decide +kernel
theorem dL_law_1000 : decode code 1000 = .ok (.iadd, 1) := by decide +kernel
theorem dL_law_1001 : decode code 1001 = .ok (.iaload, 1) := by decide +kernel
theorem dL_law_1002 : decode code 1002 = .ok (.aload_n 0, 1) := by decide +kernel
theorem dL_law_1003 : decode code 1003 = .ok (.iload_n 3, 1) := by decide +kernel
theorem dL_law_1004 : decode code 1004 = .ok (.iconst 5, 1) := by decide +kernel
theorem dL_law_1005 : decode code 1005 = .ok (.iadd, 1) := by decide +kernel
theorem dL_law_1006 : decode code 1006 = .ok (.iaload, 1) := by decide +kernel
theorem dL_law_1007 : decode code 1007 = .ok (.aload_n 0, 1) := by decide +kernel
theorem dL_law_1008 : decode code 1008 = .ok (.iload_n 3, 1) := by decide +kernel
theorem dL_law_1009 : decode code 1009 = .ok (.bipush 6, 2) := by decide +kernel
theorem dL_law_1011 : decode code 1011 = .ok (.iadd, 1) := by decide +kernel
theorem dL_law_1012 : decode code 1012 = .ok (.iaload, 1) := by decide +kernel
theorem dL_law_1013 : decode code 1013 = .ok (.invokevirtual 101, 3) := by decide +kernel
theorem dL_law_1016 : decode code 1016 = .ok (.lcmp, 1) := by decide +kernel
theorem dL_law_1017 : decode code 1017 = .ok (.ifCond .eq 507, 3) := by decide +kernel
theorem dL_law_1020 : decode code 1020 = .ok (.iconst 0, 1) := by decide +kernel
theorem dL_law_1021 : decode code 1021 = .ok (.ireturn, 1) := by decide +kernel
theorem dL_law_1022 : decode code 1022 = .ok (.aload_n 1, 1) := by decide +kernel
theorem dL_law_1023 : decode code 1023 = .ok (.aload_n 0, 1) := by decide +kernel
theorem dL_law_1024 : decode code 1024 = .ok (.iload_n 3, 1) := by decide +kernel
theorem dL_law_1025 : decode code 1025 = .ok (.iconst 1, 1) := by decide +kernel
theorem dL_law_1026 : decode code 1026 = .ok (.iadd, 1) := by decide +kernel
theorem dL_law_1027 : decode code 1027 = .ok (.iaload, 1) := by decide +kernel
theorem dL_law_1028 : decode code 1028 = .ok (.aload_n 0, 1) := by decide +kernel
theorem dL_law_1029 : decode code 1029 = .ok (.iload_n 3, 1) := by decide +kernel
theorem dL_law_1030 : decode code 1030 = .ok (.iconst 2, 1) := by decide +kernel
theorem dL_law_1031 : decode code 1031 = .ok (.iadd, 1) := by decide +kernel
theorem dL_law_1032 : decode code 1032 = .ok (.iaload, 1) := by decide +kernel
theorem dL_law_1033 : decode code 1033 = .ok (.aload_n 0, 1) := by decide +kernel
theorem dL_law_1034 : decode code 1034 = .ok (.iload_n 3, 1) := by decide +kernel
theorem dL_law_1035 : decode code 1035 = .ok (.iconst 3, 1) := by decide +kernel
theorem dL_law_1036 : decode code 1036 = .ok (.iadd, 1) := by decide +kernel
theorem dL_law_1037 : decode code 1037 = .ok (.iaload, 1) := by decide +kernel
theorem dL_law_1038 : decode code 1038 = .ok (.invokevirtual 102, 3) := by decide +kernel
theorem dL_law_1041 : decode code 1041 = .ok (.aload_n 2, 1) := by decide +kernel
theorem dL_law_1042 : decode code 1042 = .ok (.aload_n 0, 1) := by decide +kernel
theorem dL_law_1043 : decode code 1043 = .ok (.iload_n 3, 1) := by decide +kernel
theorem dL_law_1044 : decode code 1044 = .ok (.iconst 1, 1) := by decide +kernel
theorem dL_law_1045 : decode code 1045 = .ok (.iadd, 1) := by decide +kernel
theorem dL_law_1046 : decode code 1046 = .ok (.iaload, 1) := by decide +kernel
theorem dL_law_1047 : decode code 1047 = .ok (.aload_n 0, 1) := by decide +kernel
theorem dL_law_1048 : decode code 1048 = .ok (.iload_n 3, 1) := by decide +kernel
theorem dL_law_1049 : decode code 1049 = .ok (.iconst 2, 1) := by decide +kernel
theorem dL_law_1050 : decode code 1050 = .ok (.iadd, 1) := by decide +kernel
theorem dL_law_1051 : decode code 1051 = .ok (.iaload, 1) := by decide +kernel
theorem dL_law_1052 : decode code 1052 = .ok (.aload_n 0, 1) := by decide +kernel
theorem dL_law_1053 : decode code 1053 = .ok (.iload_n 3, 1) := by decide +kernel
theorem dL_law_1054 : decode code 1054 = .ok (.iconst 3, 1) := by decide +kernel
theorem dL_law_1055 : decode code 1055 = .ok (.iadd, 1) := by decide +kernel
theorem dL_law_1056 : decode code 1056 = .ok (.iaload, 1) := by decide +kernel
theorem dL_law_1057 : decode code 1057 = .ok (.invokevirtual 105, 3) := by decide +kernel
theorem dL_law_1060 : decode code 1060 = .ok (.if_icmp .eq 464, 3) := by decide +kernel
theorem dL_law_1063 : decode code 1063 = .ok (.iconst 0, 1) := by decide +kernel
theorem dL_law_1064 : decode code 1064 = .ok (.ireturn, 1) := by decide +kernel
theorem dL_law_1065 : decode code 1065 = .ok (.aload_n 1, 1) := by decide +kernel
theorem dL_law_1066 : decode code 1066 = .ok (.aload_n 0, 1) := by decide +kernel
theorem dL_law_1067 : decode code 1067 = .ok (.iload_n 3, 1) := by decide +kernel
theorem dL_law_1068 : decode code 1068 = .ok (.iconst 1, 1) := by decide +kernel
theorem dL_law_1069 : decode code 1069 = .ok (.iadd, 1) := by decide +kernel
theorem dL_law_1070 : decode code 1070 = .ok (.iaload, 1) := by decide +kernel
theorem dL_law_1071 : decode code 1071 = .ok (.aload_n 0, 1) := by decide +kernel
theorem dL_law_1072 : decode code 1072 = .ok (.iload_n 3, 1) := by decide +kernel
theorem dL_law_1073 : decode code 1073 = .ok (.iconst 2, 1) := by decide +kernel
theorem dL_law_1074 : decode code 1074 = .ok (.iadd, 1) := by decide +kernel
theorem dL_law_1075 : decode code 1075 = .ok (.iaload, 1) := by decide +kernel
theorem dL_law_1076 : decode code 1076 = .ok (.invokevirtual 106, 3) := by decide +kernel
theorem dL_law_1079 : decode code 1079 = .ok (.aload_n 2, 1) := by decide +kernel
theorem dL_law_1080 : decode code 1080 = .ok (.aload_n 0, 1) := by decide +kernel
theorem dL_law_1081 : decode code 1081 = .ok (.iload_n 3, 1) := by decide +kernel
theorem dL_law_1082 : decode code 1082 = .ok (.iconst 1, 1) := by decide +kernel
theorem dL_law_1083 : decode code 1083 = .ok (.iadd, 1) := by decide +kernel
theorem dL_law_1084 : decode code 1084 = .ok (.iaload, 1) := by decide +kernel
theorem dL_law_1085 : decode code 1085 = .ok (.aload_n 0, 1) := by decide +kernel
theorem dL_law_1086 : decode code 1086 = .ok (.iload_n 3, 1) := by decide +kernel
theorem dL_law_1087 : decode code 1087 = .ok (.iconst 2, 1) := by decide +kernel
theorem dL_law_1088 : decode code 1088 = .ok (.iadd, 1) := by decide +kernel
theorem dL_law_1089 : decode code 1089 = .ok (.iaload, 1) := by decide +kernel
theorem dL_law_1090 : decode code 1090 = .ok (.invokevirtual 109, 3) := by decide +kernel
theorem dL_law_1093 : decode code 1093 = .ok (.if_icmp .eq 431, 3) := by decide +kernel
theorem dL_law_1096 : decode code 1096 = .ok (.iconst 0, 1) := by decide +kernel
theorem dL_law_1097 : decode code 1097 = .ok (.ireturn, 1) := by decide +kernel
theorem dL_law_1098 : decode code 1098 = .ok (.aload_n 1, 1) := by decide +kernel
theorem dL_law_1099 : decode code 1099 = .ok (.aload_n 0, 1) := by decide +kernel
theorem dL_law_1100 : decode code 1100 = .ok (.iload_n 3, 1) := by decide +kernel
theorem dL_law_1101 : decode code 1101 = .ok (.iconst 1, 1) := by decide +kernel
theorem dL_law_1102 : decode code 1102 = .ok (.iadd, 1) := by decide +kernel
theorem dL_law_1103 : decode code 1103 = .ok (.iaload, 1) := by decide +kernel
theorem dL_law_1104 : decode code 1104 = .ok (.aload_n 0, 1) := by decide +kernel
theorem dL_law_1105 : decode code 1105 = .ok (.iload_n 3, 1) := by decide +kernel
theorem dL_law_1106 : decode code 1106 = .ok (.iconst 2, 1) := by decide +kernel
theorem dL_law_1107 : decode code 1107 = .ok (.iadd, 1) := by decide +kernel
theorem dL_law_1108 : decode code 1108 = .ok (.iaload, 1) := by decide +kernel
theorem dL_law_1109 : decode code 1109 = .ok (.invokevirtual 110, 3) := by decide +kernel
theorem dL_law_1112 : decode code 1112 = .ok (.aload_n 2, 1) := by decide +kernel
theorem dL_law_1113 : decode code 1113 = .ok (.aload_n 0, 1) := by decide +kernel
theorem dL_law_1114 : decode code 1114 = .ok (.iload_n 3, 1) := by decide +kernel
theorem dL_law_1115 : decode code 1115 = .ok (.iconst 1, 1) := by decide +kernel
theorem dL_law_1116 : decode code 1116 = .ok (.iadd, 1) := by decide +kernel
theorem dL_law_1117 : decode code 1117 = .ok (.iaload, 1) := by decide +kernel
theorem dL_law_1118 : decode code 1118 = .ok (.aload_n 0, 1) := by decide +kernel
theorem dL_law_1119 : decode code 1119 = .ok (.iload_n 3, 1) := by decide +kernel
theorem dL_law_1120 : decode code 1120 = .ok (.iconst 2, 1) := by decide +kernel
theorem dL_law_1121 : decode code 1121 = .ok (.iadd, 1) := by decide +kernel
theorem dL_law_1122 : decode code 1122 = .ok (.iaload, 1) := by decide +kernel
theorem dL_law_1123 : decode code 1123 = .ok (.invokevirtual 113, 3) := by decide +kernel
theorem dL_law_1126 : decode code 1126 = .ok (.if_icmp .eq 398, 3) := by decide +kernel
theorem dL_law_1129 : decode code 1129 = .ok (.iconst 0, 1) := by decide +kernel
theorem dL_law_1130 : decode code 1130 = .ok (.ireturn, 1) := by decide +kernel
theorem dL_law_1131 : decode code 1131 = .ok (.aload_n 1, 1) := by decide +kernel
theorem dL_law_1132 : decode code 1132 = .ok (.aload_n 0, 1) := by decide +kernel
theorem dL_law_1133 : decode code 1133 = .ok (.iload_n 3, 1) := by decide +kernel
theorem dL_law_1134 : decode code 1134 = .ok (.iconst 1, 1) := by decide +kernel
theorem dL_law_1135 : decode code 1135 = .ok (.iadd, 1) := by decide +kernel
theorem dL_law_1136 : decode code 1136 = .ok (.iaload, 1) := by decide +kernel
theorem dL_law_1137 : decode code 1137 = .ok (.aload_n 0, 1) := by decide +kernel
theorem dL_law_1138 : decode code 1138 = .ok (.iload_n 3, 1) := by decide +kernel
theorem dL_law_1139 : decode code 1139 = .ok (.iconst 2, 1) := by decide +kernel
theorem dL_law_1140 : decode code 1140 = .ok (.iadd, 1) := by decide +kernel
theorem dL_law_1141 : decode code 1141 = .ok (.iaload, 1) := by decide +kernel
theorem dL_law_1142 : decode code 1142 = .ok (.aload_n 0, 1) := by decide +kernel
theorem dL_law_1143 : decode code 1143 = .ok (.iload_n 3, 1) := by decide +kernel
theorem dL_law_1144 : decode code 1144 = .ok (.iconst 3, 1) := by decide +kernel
theorem dL_law_1145 : decode code 1145 = .ok (.iadd, 1) := by decide +kernel
theorem dL_law_1146 : decode code 1146 = .ok (.iaload, 1) := by decide +kernel
theorem dL_law_1147 : decode code 1147 = .ok (.aload_n 0, 1) := by decide +kernel
theorem dL_law_1148 : decode code 1148 = .ok (.iload_n 3, 1) := by decide +kernel
theorem dL_law_1149 : decode code 1149 = .ok (.iconst 4, 1) := by decide +kernel
theorem dL_law_1150 : decode code 1150 = .ok (.iadd, 1) := by decide +kernel
theorem dL_law_1151 : decode code 1151 = .ok (.iaload, 1) := by decide +kernel
theorem dL_law_1152 : decode code 1152 = .ok (.invokevirtual 114, 3) := by decide +kernel
theorem dL_law_1155 : decode code 1155 = .ok (.aload_n 2, 1) := by decide +kernel
theorem dL_law_1156 : decode code 1156 = .ok (.aload_n 0, 1) := by decide +kernel
theorem dL_law_1157 : decode code 1157 = .ok (.iload_n 3, 1) := by decide +kernel
theorem dL_law_1158 : decode code 1158 = .ok (.iconst 1, 1) := by decide +kernel
theorem dL_law_1159 : decode code 1159 = .ok (.iadd, 1) := by decide +kernel
theorem dL_law_1160 : decode code 1160 = .ok (.iaload, 1) := by decide +kernel
theorem dL_law_1161 : decode code 1161 = .ok (.aload_n 0, 1) := by decide +kernel
theorem dL_law_1162 : decode code 1162 = .ok (.iload_n 3, 1) := by decide +kernel
theorem dL_law_1163 : decode code 1163 = .ok (.iconst 2, 1) := by decide +kernel
theorem dL_law_1164 : decode code 1164 = .ok (.iadd, 1) := by decide +kernel
theorem dL_law_1165 : decode code 1165 = .ok (.iaload, 1) := by decide +kernel
theorem dL_law_1166 : decode code 1166 = .ok (.aload_n 0, 1) := by decide +kernel
theorem dL_law_1167 : decode code 1167 = .ok (.iload_n 3, 1) := by decide +kernel
theorem dL_law_1168 : decode code 1168 = .ok (.iconst 3, 1) := by decide +kernel
theorem dL_law_1169 : decode code 1169 = .ok (.iadd, 1) := by decide +kernel
theorem dL_law_1170 : decode code 1170 = .ok (.iaload, 1) := by decide +kernel
theorem dL_law_1171 : decode code 1171 = .ok (.aload_n 0, 1) := by decide +kernel
theorem dL_law_1172 : decode code 1172 = .ok (.iload_n 3, 1) := by decide +kernel
theorem dL_law_1173 : decode code 1173 = .ok (.iconst 4, 1) := by decide +kernel
theorem dL_law_1174 : decode code 1174 = .ok (.iadd, 1) := by decide +kernel
theorem dL_law_1175 : decode code 1175 = .ok (.iaload, 1) := by decide +kernel
theorem dL_law_1176 : decode code 1176 = .ok (.invokevirtual 117, 3) := by decide +kernel
theorem dL_law_1179 : decode code 1179 = .ok (.lcmp, 1) := by decide +kernel
theorem dL_law_1180 : decode code 1180 = .ok (.ifCond .eq 344, 3) := by decide +kernel
theorem dL_law_1183 : decode code 1183 = .ok (.iconst 0, 1) := by decide +kernel
theorem dL_law_1184 : decode code 1184 = .ok (.ireturn, 1) := by decide +kernel
theorem dL_law_1185 : decode code 1185 = .ok (.aload_n 1, 1) := by decide +kernel
theorem dL_law_1186 : decode code 1186 = .ok (.aload_n 0, 1) := by decide +kernel
theorem dL_law_1187 : decode code 1187 = .ok (.iload_n 3, 1) := by decide +kernel
theorem dL_law_1188 : decode code 1188 = .ok (.iconst 1, 1) := by decide +kernel
theorem dL_law_1189 : decode code 1189 = .ok (.iadd, 1) := by decide +kernel
theorem dL_law_1190 : decode code 1190 = .ok (.iaload, 1) := by decide +kernel
theorem dL_law_1191 : decode code 1191 = .ok (.invokevirtual 118, 3) := by decide +kernel
theorem dL_law_1194 : decode code 1194 = .ok (.aload_n 2, 1) := by decide +kernel
theorem dL_law_1195 : decode code 1195 = .ok (.aload_n 0, 1) := by decide +kernel
theorem dL_law_1196 : decode code 1196 = .ok (.iload_n 3, 1) := by decide +kernel
theorem dL_law_1197 : decode code 1197 = .ok (.iconst 1, 1) := by decide +kernel
theorem dL_law_1198 : decode code 1198 = .ok (.iadd, 1) := by decide +kernel
theorem dL_law_1199 : decode code 1199 = .ok (.iaload, 1) := by decide +kernel
theorem dL_law_1200 : decode code 1200 = .ok (.invokevirtual 121, 3) := by decide +kernel
theorem dL_law_1203 : decode code 1203 = .ok (.if_icmp .eq 321, 3) := by decide +kernel
theorem dL_law_1206 : decode code 1206 = .ok (.iconst 0, 1) := by decide +kernel
theorem dL_law_1207 : decode code 1207 = .ok (.ireturn, 1) := by decide +kernel
theorem dL_law_1208 : decode code 1208 = .ok (.aload_n 1, 1) := by decide +kernel
theorem dL_law_1209 : decode code 1209 = .ok (.aload_n 0, 1) := by decide +kernel
theorem dL_law_1210 : decode code 1210 = .ok (.iload_n 3, 1) := by decide +kernel
theorem dL_law_1211 : decode code 1211 = .ok (.iconst 1, 1) := by decide +kernel
theorem dL_law_1212 : decode code 1212 = .ok (.iadd, 1) := by decide +kernel
theorem dL_law_1213 : decode code 1213 = .ok (.iaload, 1) := by decide +kernel
theorem dL_law_1214 : decode code 1214 = .ok (.invokevirtual 122, 3) := by decide +kernel
theorem dL_law_1217 : decode code 1217 = .ok (.aload_n 2, 1) := by decide +kernel
theorem dL_law_1218 : decode code 1218 = .ok (.aload_n 0, 1) := by decide +kernel
theorem dL_law_1219 : decode code 1219 = .ok (.iload_n 3, 1) := by decide +kernel
theorem dL_law_1220 : decode code 1220 = .ok (.iconst 1, 1) := by decide +kernel
theorem dL_law_1221 : decode code 1221 = .ok (.iadd, 1) := by decide +kernel
theorem dL_law_1222 : decode code 1222 = .ok (.iaload, 1) := by decide +kernel
theorem dL_law_1223 : decode code 1223 = .ok (.invokevirtual 125, 3) := by decide +kernel
theorem dL_law_1226 : decode code 1226 = .ok (.if_icmp .eq 298, 3) := by decide +kernel
theorem dL_law_1229 : decode code 1229 = .ok (.iconst 0, 1) := by decide +kernel
theorem dL_law_1230 : decode code 1230 = .ok (.ireturn, 1) := by decide +kernel
theorem dL_law_1231 : decode code 1231 = .ok (.aload_n 1, 1) := by decide +kernel
theorem dL_law_1232 : decode code 1232 = .ok (.aload_n 0, 1) := by decide +kernel
theorem dL_law_1233 : decode code 1233 = .ok (.iload_n 3, 1) := by decide +kernel
theorem dL_law_1234 : decode code 1234 = .ok (.iconst 1, 1) := by decide +kernel
theorem dL_law_1235 : decode code 1235 = .ok (.iadd, 1) := by decide +kernel
theorem dL_law_1236 : decode code 1236 = .ok (.iaload, 1) := by decide +kernel
theorem dL_law_1237 : decode code 1237 = .ok (.aload_n 0, 1) := by decide +kernel
theorem dL_law_1238 : decode code 1238 = .ok (.iload_n 3, 1) := by decide +kernel
theorem dL_law_1239 : decode code 1239 = .ok (.iconst 2, 1) := by decide +kernel
theorem dL_law_1240 : decode code 1240 = .ok (.iadd, 1) := by decide +kernel
theorem dL_law_1241 : decode code 1241 = .ok (.iaload, 1) := by decide +kernel
theorem dL_law_1242 : decode code 1242 = .ok (.aload_n 0, 1) := by decide +kernel
theorem dL_law_1243 : decode code 1243 = .ok (.iload_n 3, 1) := by decide +kernel
theorem dL_law_1244 : decode code 1244 = .ok (.iconst 3, 1) := by decide +kernel
theorem dL_law_1245 : decode code 1245 = .ok (.iadd, 1) := by decide +kernel
theorem dL_law_1246 : decode code 1246 = .ok (.iaload, 1) := by decide +kernel
theorem dL_law_1247 : decode code 1247 = .ok (.aload_n 0, 1) := by decide +kernel
theorem dL_law_1248 : decode code 1248 = .ok (.iload_n 3, 1) := by decide +kernel
theorem dL_law_1249 : decode code 1249 = .ok (.iconst 4, 1) := by decide +kernel
theorem dL_law_1250 : decode code 1250 = .ok (.iadd, 1) := by decide +kernel
theorem dL_law_1251 : decode code 1251 = .ok (.iaload, 1) := by decide +kernel
theorem dL_law_1252 : decode code 1252 = .ok (.invokevirtual 126, 3) := by decide +kernel
theorem dL_law_1255 : decode code 1255 = .ok (.aload_n 2, 1) := by decide +kernel
theorem dL_law_1256 : decode code 1256 = .ok (.aload_n 0, 1) := by decide +kernel
theorem dL_law_1257 : decode code 1257 = .ok (.iload_n 3, 1) := by decide +kernel
theorem dL_law_1258 : decode code 1258 = .ok (.iconst 1, 1) := by decide +kernel
theorem dL_law_1259 : decode code 1259 = .ok (.iadd, 1) := by decide +kernel
theorem dL_law_1260 : decode code 1260 = .ok (.iaload, 1) := by decide +kernel
theorem dL_law_1261 : decode code 1261 = .ok (.aload_n 0, 1) := by decide +kernel
theorem dL_law_1262 : decode code 1262 = .ok (.iload_n 3, 1) := by decide +kernel
theorem dL_law_1263 : decode code 1263 = .ok (.iconst 2, 1) := by decide +kernel
theorem dL_law_1264 : decode code 1264 = .ok (.iadd, 1) := by decide +kernel
theorem dL_law_1265 : decode code 1265 = .ok (.iaload, 1) := by decide +kernel
theorem dL_law_1266 : decode code 1266 = .ok (.aload_n 0, 1) := by decide +kernel
theorem dL_law_1267 : decode code 1267 = .ok (.iload_n 3, 1) := by decide +kernel
theorem dL_law_1268 : decode code 1268 = .ok (.iconst 3, 1) := by decide +kernel
theorem dL_law_1269 : decode code 1269 = .ok (.iadd, 1) := by decide +kernel
theorem dL_law_1270 : decode code 1270 = .ok (.iaload, 1) := by decide +kernel
theorem dL_law_1271 : decode code 1271 = .ok (.aload_n 0, 1) := by decide +kernel
theorem dL_law_1272 : decode code 1272 = .ok (.iload_n 3, 1) := by decide +kernel
theorem dL_law_1273 : decode code 1273 = .ok (.iconst 4, 1) := by decide +kernel
theorem dL_law_1274 : decode code 1274 = .ok (.iadd, 1) := by decide +kernel
theorem dL_law_1275 : decode code 1275 = .ok (.iaload, 1) := by decide +kernel
theorem dL_law_1276 : decode code 1276 = .ok (.invokevirtual 129, 3) := by decide +kernel
theorem dL_law_1279 : decode code 1279 = .ok (.if_icmp .eq 245, 3) := by decide +kernel
theorem dL_law_1282 : decode code 1282 = .ok (.iconst 0, 1) := by decide +kernel
theorem dL_law_1283 : decode code 1283 = .ok (.ireturn, 1) := by decide +kernel
theorem dL_law_1284 : decode code 1284 = .ok (.aload_n 1, 1) := by decide +kernel
theorem dL_law_1285 : decode code 1285 = .ok (.aload_n 0, 1) := by decide +kernel
theorem dL_law_1286 : decode code 1286 = .ok (.iload_n 3, 1) := by decide +kernel
theorem dL_law_1287 : decode code 1287 = .ok (.iconst 1, 1) := by decide +kernel
theorem dL_law_1288 : decode code 1288 = .ok (.iadd, 1) := by decide +kernel
theorem dL_law_1289 : decode code 1289 = .ok (.iaload, 1) := by decide +kernel
theorem dL_law_1290 : decode code 1290 = .ok (.invokevirtual 130, 3) := by decide +kernel
theorem dL_law_1293 : decode code 1293 = .ok (.aload_n 2, 1) := by decide +kernel
theorem dL_law_1294 : decode code 1294 = .ok (.aload_n 0, 1) := by decide +kernel
theorem dL_law_1295 : decode code 1295 = .ok (.iload_n 3, 1) := by decide +kernel
theorem dL_law_1296 : decode code 1296 = .ok (.iconst 1, 1) := by decide +kernel
theorem dL_law_1297 : decode code 1297 = .ok (.iadd, 1) := by decide +kernel
theorem dL_law_1298 : decode code 1298 = .ok (.iaload, 1) := by decide +kernel
theorem dL_law_1299 : decode code 1299 = .ok (.invokevirtual 133, 3) := by decide +kernel
theorem dL_law_1302 : decode code 1302 = .ok (.if_icmp .eq 222, 3) := by decide +kernel
theorem dL_law_1305 : decode code 1305 = .ok (.iconst 0, 1) := by decide +kernel
theorem dL_law_1306 : decode code 1306 = .ok (.ireturn, 1) := by decide +kernel
theorem dL_law_1307 : decode code 1307 = .ok (.aload_n 1, 1) := by decide +kernel
theorem dL_law_1308 : decode code 1308 = .ok (.aload_n 0, 1) := by decide +kernel
theorem dL_law_1309 : decode code 1309 = .ok (.iload_n 3, 1) := by decide +kernel
theorem dL_law_1310 : decode code 1310 = .ok (.iconst 1, 1) := by decide +kernel
theorem dL_law_1311 : decode code 1311 = .ok (.iadd, 1) := by decide +kernel
theorem dL_law_1312 : decode code 1312 = .ok (.iaload, 1) := by decide +kernel
theorem dL_law_1313 : decode code 1313 = .ok (.invokevirtual 134, 3) := by decide +kernel
theorem dL_law_1316 : decode code 1316 = .ok (.aload_n 2, 1) := by decide +kernel
theorem dL_law_1317 : decode code 1317 = .ok (.aload_n 0, 1) := by decide +kernel
theorem dL_law_1318 : decode code 1318 = .ok (.iload_n 3, 1) := by decide +kernel
theorem dL_law_1319 : decode code 1319 = .ok (.iconst 1, 1) := by decide +kernel
theorem dL_law_1320 : decode code 1320 = .ok (.iadd, 1) := by decide +kernel
theorem dL_law_1321 : decode code 1321 = .ok (.iaload, 1) := by decide +kernel
theorem dL_law_1322 : decode code 1322 = .ok (.invokevirtual 137, 3) := by decide +kernel
theorem dL_law_1325 : decode code 1325 = .ok (.if_icmp .eq 199, 3) := by decide +kernel
theorem dL_law_1328 : decode code 1328 = .ok (.iconst 0, 1) := by decide +kernel
theorem dL_law_1329 : decode code 1329 = .ok (.ireturn, 1) := by decide +kernel
theorem dL_law_1330 : decode code 1330 = .ok (.aload_n 1, 1) := by decide +kernel
theorem dL_law_1331 : decode code 1331 = .ok (.aload_n 0, 1) := by decide +kernel
theorem dL_law_1332 : decode code 1332 = .ok (.iload_n 3, 1) := by decide +kernel
theorem dL_law_1333 : decode code 1333 = .ok (.iconst 1, 1) := by decide +kernel
theorem dL_law_1334 : decode code 1334 = .ok (.iadd, 1) := by decide +kernel
theorem dL_law_1335 : decode code 1335 = .ok (.iaload, 1) := by decide +kernel
theorem dL_law_1336 : decode code 1336 = .ok (.aload_n 0, 1) := by decide +kernel
theorem dL_law_1337 : decode code 1337 = .ok (.iload_n 3, 1) := by decide +kernel
theorem dL_law_1338 : decode code 1338 = .ok (.iconst 2, 1) := by decide +kernel
theorem dL_law_1339 : decode code 1339 = .ok (.iadd, 1) := by decide +kernel
theorem dL_law_1340 : decode code 1340 = .ok (.iaload, 1) := by decide +kernel
theorem dL_law_1341 : decode code 1341 = .ok (.invokevirtual 138, 3) := by decide +kernel
theorem dL_law_1344 : decode code 1344 = .ok (.aload_n 2, 1) := by decide +kernel
theorem dL_law_1345 : decode code 1345 = .ok (.aload_n 0, 1) := by decide +kernel
theorem dL_law_1346 : decode code 1346 = .ok (.iload_n 3, 1) := by decide +kernel
theorem dL_law_1347 : decode code 1347 = .ok (.iconst 1, 1) := by decide +kernel
theorem dL_law_1348 : decode code 1348 = .ok (.iadd, 1) := by decide +kernel
theorem dL_law_1349 : decode code 1349 = .ok (.iaload, 1) := by decide +kernel
theorem dL_law_1350 : decode code 1350 = .ok (.aload_n 0, 1) := by decide +kernel
theorem dL_law_1351 : decode code 1351 = .ok (.iload_n 3, 1) := by decide +kernel
theorem dL_law_1352 : decode code 1352 = .ok (.iconst 2, 1) := by decide +kernel
theorem dL_law_1353 : decode code 1353 = .ok (.iadd, 1) := by decide +kernel
theorem dL_law_1354 : decode code 1354 = .ok (.iaload, 1) := by decide +kernel
theorem dL_law_1355 : decode code 1355 = .ok (.invokevirtual 141, 3) := by decide +kernel
theorem dL_law_1358 : decode code 1358 = .ok (.if_icmp .eq 166, 3) := by decide +kernel
theorem dL_law_1361 : decode code 1361 = .ok (.iconst 0, 1) := by decide +kernel
theorem dL_law_1362 : decode code 1362 = .ok (.ireturn, 1) := by decide +kernel
theorem dL_law_1363 : decode code 1363 = .ok (.aload_n 1, 1) := by decide +kernel
theorem dL_law_1364 : decode code 1364 = .ok (.invokevirtual 142, 3) := by decide +kernel
theorem dL_law_1367 : decode code 1367 = .ok (.aload_n 2, 1) := by decide +kernel
theorem dL_law_1368 : decode code 1368 = .ok (.invokevirtual 145, 3) := by decide +kernel
theorem dL_law_1371 : decode code 1371 = .ok (.if_icmp .eq 153, 3) := by decide +kernel
theorem dL_law_1374 : decode code 1374 = .ok (.iconst 0, 1) := by decide +kernel
theorem dL_law_1375 : decode code 1375 = .ok (.ireturn, 1) := by decide +kernel
theorem dL_law_1376 : decode code 1376 = .ok (.aload_n 1, 1) := by decide +kernel
theorem dL_law_1377 : decode code 1377 = .ok (.aload_n 0, 1) := by decide +kernel
theorem dL_law_1378 : decode code 1378 = .ok (.iload_n 3, 1) := by decide +kernel
theorem dL_law_1379 : decode code 1379 = .ok (.iconst 1, 1) := by decide +kernel
theorem dL_law_1380 : decode code 1380 = .ok (.iadd, 1) := by decide +kernel
theorem dL_law_1381 : decode code 1381 = .ok (.iaload, 1) := by decide +kernel
theorem dL_law_1382 : decode code 1382 = .ok (.aload_n 0, 1) := by decide +kernel
theorem dL_law_1383 : decode code 1383 = .ok (.iload_n 3, 1) := by decide +kernel
theorem dL_law_1384 : decode code 1384 = .ok (.iconst 2, 1) := by decide +kernel
theorem dL_law_1385 : decode code 1385 = .ok (.iadd, 1) := by decide +kernel
theorem dL_law_1386 : decode code 1386 = .ok (.iaload, 1) := by decide +kernel
theorem dL_law_1387 : decode code 1387 = .ok (.aload_n 0, 1) := by decide +kernel
theorem dL_law_1388 : decode code 1388 = .ok (.iload_n 3, 1) := by decide +kernel
theorem dL_law_1389 : decode code 1389 = .ok (.iconst 3, 1) := by decide +kernel
theorem dL_law_1390 : decode code 1390 = .ok (.iadd, 1) := by decide +kernel
theorem dL_law_1391 : decode code 1391 = .ok (.iaload, 1) := by decide +kernel
theorem dL_law_1392 : decode code 1392 = .ok (.invokevirtual 146, 3) := by decide +kernel
theorem dL_law_1395 : decode code 1395 = .ok (.aload_n 2, 1) := by decide +kernel
theorem dL_law_1396 : decode code 1396 = .ok (.aload_n 0, 1) := by decide +kernel
theorem dL_law_1397 : decode code 1397 = .ok (.iload_n 3, 1) := by decide +kernel
theorem dL_law_1398 : decode code 1398 = .ok (.iconst 1, 1) := by decide +kernel
theorem dL_law_1399 : decode code 1399 = .ok (.iadd, 1) := by decide +kernel
theorem dL_law_1400 : decode code 1400 = .ok (.iaload, 1) := by decide +kernel
theorem dL_law_1401 : decode code 1401 = .ok (.aload_n 0, 1) := by decide +kernel
theorem dL_law_1402 : decode code 1402 = .ok (.iload_n 3, 1) := by decide +kernel
theorem dL_law_1403 : decode code 1403 = .ok (.iconst 2, 1) := by decide +kernel
theorem dL_law_1404 : decode code 1404 = .ok (.iadd, 1) := by decide +kernel
theorem dL_law_1405 : decode code 1405 = .ok (.iaload, 1) := by decide +kernel
theorem dL_law_1406 : decode code 1406 = .ok (.aload_n 0, 1) := by decide +kernel
theorem dL_law_1407 : decode code 1407 = .ok (.iload_n 3, 1) := by decide +kernel
theorem dL_law_1408 : decode code 1408 = .ok (.iconst 3, 1) := by decide +kernel
theorem dL_law_1409 : decode code 1409 = .ok (.iadd, 1) := by decide +kernel
theorem dL_law_1410 : decode code 1410 = .ok (.iaload, 1) := by decide +kernel
theorem dL_law_1411 : decode code 1411 = .ok (.invokevirtual 149, 3) := by decide +kernel
theorem dL_law_1414 : decode code 1414 = .ok (.if_icmp .eq 110, 3) := by decide +kernel
theorem dL_law_1417 : decode code 1417 = .ok (.iconst 0, 1) := by decide +kernel
theorem dL_law_1418 : decode code 1418 = .ok (.ireturn, 1) := by decide +kernel
theorem dL_law_1419 : decode code 1419 = .ok (.aload_n 1, 1) := by decide +kernel
theorem dL_law_1420 : decode code 1420 = .ok (.aload_n 0, 1) := by decide +kernel
theorem dL_law_1421 : decode code 1421 = .ok (.iload_n 3, 1) := by decide +kernel
theorem dL_law_1422 : decode code 1422 = .ok (.iconst 1, 1) := by decide +kernel
theorem dL_law_1423 : decode code 1423 = .ok (.iadd, 1) := by decide +kernel
theorem dL_law_1424 : decode code 1424 = .ok (.iaload, 1) := by decide +kernel
theorem dL_law_1425 : decode code 1425 = .ok (.invokevirtual 150, 3) := by decide +kernel
theorem dL_law_1428 : decode code 1428 = .ok (.aload_n 2, 1) := by decide +kernel
theorem dL_law_1429 : decode code 1429 = .ok (.aload_n 0, 1) := by decide +kernel
theorem dL_law_1430 : decode code 1430 = .ok (.iload_n 3, 1) := by decide +kernel
theorem dL_law_1431 : decode code 1431 = .ok (.iconst 1, 1) := by decide +kernel
theorem dL_law_1432 : decode code 1432 = .ok (.iadd, 1) := by decide +kernel
theorem dL_law_1433 : decode code 1433 = .ok (.iaload, 1) := by decide +kernel
theorem dL_law_1434 : decode code 1434 = .ok (.invokevirtual 153, 3) := by decide +kernel
theorem dL_law_1437 : decode code 1437 = .ok (.if_icmp .eq 87, 3) := by decide +kernel
theorem dL_law_1440 : decode code 1440 = .ok (.iconst 0, 1) := by decide +kernel
theorem dL_law_1441 : decode code 1441 = .ok (.ireturn, 1) := by decide +kernel
theorem dL_law_1442 : decode code 1442 = .ok (.aload_n 1, 1) := by decide +kernel
theorem dL_law_1443 : decode code 1443 = .ok (.aload_n 0, 1) := by decide +kernel
theorem dL_law_1444 : decode code 1444 = .ok (.iload_n 3, 1) := by decide +kernel
theorem dL_law_1445 : decode code 1445 = .ok (.iconst 1, 1) := by decide +kernel
theorem dL_law_1446 : decode code 1446 = .ok (.iadd, 1) := by decide +kernel
theorem dL_law_1447 : decode code 1447 = .ok (.iaload, 1) := by decide +kernel
theorem dL_law_1448 : decode code 1448 = .ok (.aload_n 0, 1) := by decide +kernel
theorem dL_law_1449 : decode code 1449 = .ok (.iload_n 3, 1) := by decide +kernel
theorem dL_law_1450 : decode code 1450 = .ok (.iconst 2, 1) := by decide +kernel
theorem dL_law_1451 : decode code 1451 = .ok (.iadd, 1) := by decide +kernel
theorem dL_law_1452 : decode code 1452 = .ok (.iaload, 1) := by decide +kernel
theorem dL_law_1453 : decode code 1453 = .ok (.invokevirtual 154, 3) := by decide +kernel
theorem dL_law_1456 : decode code 1456 = .ok (.aload_n 2, 1) := by decide +kernel
theorem dL_law_1457 : decode code 1457 = .ok (.aload_n 0, 1) := by decide +kernel
theorem dL_law_1458 : decode code 1458 = .ok (.iload_n 3, 1) := by decide +kernel
theorem dL_law_1459 : decode code 1459 = .ok (.iconst 1, 1) := by decide +kernel
theorem dL_law_1460 : decode code 1460 = .ok (.iadd, 1) := by decide +kernel
theorem dL_law_1461 : decode code 1461 = .ok (.iaload, 1) := by decide +kernel
theorem dL_law_1462 : decode code 1462 = .ok (.aload_n 0, 1) := by decide +kernel
theorem dL_law_1463 : decode code 1463 = .ok (.iload_n 3, 1) := by decide +kernel
theorem dL_law_1464 : decode code 1464 = .ok (.iconst 2, 1) := by decide +kernel
theorem dL_law_1465 : decode code 1465 = .ok (.iadd, 1) := by decide +kernel
theorem dL_law_1466 : decode code 1466 = .ok (.iaload, 1) := by decide +kernel
theorem dL_law_1467 : decode code 1467 = .ok (.invokevirtual 157, 3) := by decide +kernel
theorem dL_law_1470 : decode code 1470 = .ok (.if_icmp .eq 54, 3) := by decide +kernel
theorem dL_law_1473 : decode code 1473 = .ok (.iconst 0, 1) := by decide +kernel
theorem dL_law_1474 : decode code 1474 = .ok (.ireturn, 1) := by decide +kernel
theorem dL_law_1475 : decode code 1475 = .ok (.aload_n 1, 1) := by decide +kernel
theorem dL_law_1476 : decode code 1476 = .ok (.invokevirtual 158, 3) := by decide +kernel
theorem dL_law_1479 : decode code 1479 = .ok (.aload_n 2, 1) := by decide +kernel
theorem dL_law_1480 : decode code 1480 = .ok (.invokevirtual 161, 3) := by decide +kernel
theorem dL_law_1483 : decode code 1483 = .ok (.if_icmp .eq 41, 3) := by decide +kernel
theorem dL_law_1486 : decode code 1486 = .ok (.iconst 0, 1) := by decide +kernel
theorem dL_law_1487 : decode code 1487 = .ok (.ireturn, 1) := by decide +kernel
theorem dL_law_1488 : decode code 1488 = .ok (.aload_n 1, 1) := by decide +kernel
theorem dL_law_1489 : decode code 1489 = .ok (.invokevirtual 162, 3) := by decide +kernel
theorem dL_law_1492 : decode code 1492 = .ok (.aload_n 2, 1) := by decide +kernel
theorem dL_law_1493 : decode code 1493 = .ok (.invokevirtual 165, 3) := by decide +kernel
theorem dL_law_1496 : decode code 1496 = .ok (.if_icmp .eq 28, 3) := by decide +kernel
theorem dL_law_1499 : decode code 1499 = .ok (.iconst 0, 1) := by decide +kernel
theorem dL_law_1500 : decode code 1500 = .ok (.ireturn, 1) := by decide +kernel
theorem dL_law_1501 : decode code 1501 = .ok (.aload_n 1, 1) := by decide +kernel
theorem dL_law_1502 : decode code 1502 = .ok (.aload_n 0, 1) := by decide +kernel
theorem dL_law_1503 : decode code 1503 = .ok (.iload_n 3, 1) := by decide +kernel
theorem dL_law_1504 : decode code 1504 = .ok (.iconst 1, 1) := by decide +kernel
theorem dL_law_1505 : decode code 1505 = .ok (.iadd, 1) := by decide +kernel
theorem dL_law_1506 : decode code 1506 = .ok (.iaload, 1) := by decide +kernel
theorem dL_law_1507 : decode code 1507 = .ok (.invokevirtual 166, 3) := by decide +kernel
theorem dL_law_1510 : decode code 1510 = .ok (.aload_n 2, 1) := by decide +kernel
theorem dL_law_1511 : decode code 1511 = .ok (.aload_n 0, 1) := by decide +kernel
theorem dL_law_1512 : decode code 1512 = .ok (.iload_n 3, 1) := by decide +kernel
theorem dL_law_1513 : decode code 1513 = .ok (.iconst 1, 1) := by decide +kernel
theorem dL_law_1514 : decode code 1514 = .ok (.iadd, 1) := by decide +kernel
theorem dL_law_1515 : decode code 1515 = .ok (.iaload, 1) := by decide +kernel
theorem dL_law_1516 : decode code 1516 = .ok (.invokevirtual 169, 3) := by decide +kernel
theorem dL_law_1519 : decode code 1519 = .ok (.if_icmp .eq 5, 3) := by decide +kernel
theorem dL_law_1522 : decode code 1522 = .ok (.iconst 0, 1) := by decide +kernel
theorem dL_law_1523 : decode code 1523 = .ok (.ireturn, 1) := by decide +kernel
theorem dL_law_1524 : decode code 1524 = .ok (.iinc 3 7, 3) := by decide +kernel
theorem dL_law_1527 : decode code 1527 = .ok (.goto (-1509), 3) := by decide +kernel
theorem dL_law_1530 : decode code 1530 = .ok (.iconst 1, 1) := by decide +kernel
theorem dL_law_1531 : decode code 1531 = .ok (.ireturn, 1) := by decide +kernel
