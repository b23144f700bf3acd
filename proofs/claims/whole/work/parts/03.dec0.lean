theorem dX0_init_0 : decode cX0_init 0 = .ok (.aload_n 0, 1) := by decide +kernel
theorem dX0_init_1 : decode cX0_init 1 = .ok (.aload_n 1, 1) := by decide +kernel
theorem dX0_init_2 : decode cX0_init 2 = .ok (.invokespecial 1, 3) := by decide +kernel
theorem dX0_init_5 : decode cX0_init 5 = .ok (.return_, 1) := by decide +kernel
theorem dX0_lean_0 : decode cX0_lean 0 = .ok (.aload_n 0, 1) := by decide +kernel
theorem dX0_lean_1 : decode cX0_lean 1 = .ok (.getfield 7, 3) := by decide +kernel
theorem dX0_lean_4 : decode cX0_lean 4 = .ok (.ireturn, 1) := by decide +kernel
theorem dX0_catches_0 : decode cX0_catches 0 = .ok (.aload_n 0, 1) := by decide +kernel
theorem dX0_catches_1 : decode cX0_catches 1 = .ok (.bipush 21, 2) := by decide +kernel
theorem dX0_catches_3 : decode cX0_catches 3 = .ok (.invokevirtual 13, 3) := by decide +kernel
theorem dX0_catches_6 : decode cX0_catches 6 = .ok (.aload_n 0, 1) := by decide +kernel
theorem dX0_catches_7 : decode cX0_catches 7 = .ok (.iload_n 1, 1) := by decide +kernel
theorem dX0_catches_8 : decode cX0_catches 8 = .ok (.invokespecial 17, 3) := by decide +kernel
theorem dX0_catches_11 : decode cX0_catches 11 = .ok (.ineg, 1) := by decide +kernel
theorem dX0_catches_12 : decode cX0_catches 12 = .ok (.ireturn, 1) := by decide +kernel
theorem dX1_init_0 : decode cX1_init 0 = .ok (.aload_n 0, 1) := by decide +kernel
theorem dX1_init_1 : decode cX1_init 1 = .ok (.aload_n 1, 1) := by decide +kernel
theorem dX1_init_2 : decode cX1_init 2 = .ok (.invokespecial 1, 3) := by decide +kernel
theorem dX1_init_5 : decode cX1_init 5 = .ok (.return_, 1) := by decide +kernel
theorem dX1_unsureBy_0 : decode cX1_unsureBy 0 = .ok (.aload_n 0, 1) := by decide +kernel
theorem dX1_unsureBy_1 : decode cX1_unsureBy 1 = .ok (.iload_n 1, 1) := by decide +kernel
theorem dX1_unsureBy_2 : decode cX1_unsureBy 2 = .ok (.iconst 0, 1) := by decide +kernel
theorem dX1_unsureBy_3 : decode cX1_unsureBy 3 = .ok (.invokespecial 7, 3) := by decide +kernel
theorem dX1_unsureBy_6 : decode cX1_unsureBy 6 = .ok (.ireturn, 1) := by decide +kernel
theorem dX1_tells_0 : decode cX1_tells 0 = .ok (.aload_n 0, 1) := by decide +kernel
theorem dX1_tells_1 : decode cX1_tells 1 = .ok (.bipush 41, 2) := by decide +kernel
theorem dX1_tells_3 : decode cX1_tells 3 = .ok (.invokevirtual 11, 3) := by decide +kernel
theorem dX1_tells_6 : decode cX1_tells 6 = .ok (.aload_n 0, 1) := by decide +kernel
theorem dX1_tells_7 : decode cX1_tells 7 = .ok (.iload_n 1, 1) := by decide +kernel
theorem dX1_tells_8 : decode cX1_tells 8 = .ok (.iconst 1, 1) := by decide +kernel
theorem dX1_tells_9 : decode cX1_tells 9 = .ok (.isub, 1) := by decide +kernel
theorem dX1_tells_10 : decode cX1_tells 10 = .ok (.invokespecial 17, 3) := by decide +kernel
theorem dX1_tells_13 : decode cX1_tells 13 = .ok (.aload_n 0, 1) := by decide +kernel
theorem dX1_tells_14 : decode cX1_tells 14 = .ok (.iconst 2, 1) := by decide +kernel
theorem dX1_tells_15 : decode cX1_tells 15 = .ok (.invokevirtual 21, 3) := by decide +kernel
theorem dX1_tells_18 : decode cX1_tells 18 = .ok (.iadd, 1) := by decide +kernel
theorem dX1_tells_19 : decode cX1_tells 19 = .ok (.ireturn, 1) := by decide +kernel
theorem dX2_init_0 : decode cX2_init 0 = .ok (.aload_n 0, 1) := by decide +kernel
theorem dX2_init_1 : decode cX2_init 1 = .ok (.aload_n 1, 1) := by decide +kernel
theorem dX2_init_2 : decode cX2_init 2 = .ok (.invokespecial 1, 3) := by decide +kernel
theorem dX2_init_5 : decode cX2_init 5 = .ok (.return_, 1) := by decide +kernel
theorem dX2_unsureBy_0 : decode cX2_unsureBy 0 = .ok (.aload_n 0, 1) := by decide +kernel
theorem dX2_unsureBy_1 : decode cX2_unsureBy 1 = .ok (.iload_n 1, 1) := by decide +kernel
theorem dX2_unsureBy_2 : decode cX2_unsureBy 2 = .ok (.iconst 2, 1) := by decide +kernel
theorem dX2_unsureBy_3 : decode cX2_unsureBy 3 = .ok (.iload_n 2, 1) := by decide +kernel
theorem dX2_unsureBy_4 : decode cX2_unsureBy 4 = .ok (.imul, 1) := by decide +kernel
theorem dX2_unsureBy_5 : decode cX2_unsureBy 5 = .ok (.invokespecial 7, 3) := by decide +kernel
theorem dX2_unsureBy_8 : decode cX2_unsureBy 8 = .ok (.ireturn, 1) := by decide +kernel
theorem dX2_strikes_0 : decode cX2_strikes 0 = .ok (.aload_n 0, 1) := by decide +kernel
theorem dX2_strikes_1 : decode cX2_strikes 1 = .ok (.bipush 51, 2) := by decide +kernel
theorem dX2_strikes_3 : decode cX2_strikes 3 = .ok (.invokevirtual 11, 3) := by decide +kernel
theorem dX2_strikes_6 : decode cX2_strikes 6 = .ok (.aload_n 0, 1) := by decide +kernel
theorem dX2_strikes_7 : decode cX2_strikes 7 = .ok (.iload_n 1, 1) := by decide +kernel
theorem dX2_strikes_8 : decode cX2_strikes 8 = .ok (.invokespecial 17, 3) := by decide +kernel
theorem dX2_strikes_11 : decode cX2_strikes 11 = .ok (.aload_n 0, 1) := by decide +kernel
theorem dX2_strikes_12 : decode cX2_strikes 12 = .ok (.getfield 21, 3) := by decide +kernel
theorem dX2_strikes_15 : decode cX2_strikes 15 = .ok (.ixor, 1) := by decide +kernel
theorem dX2_strikes_16 : decode cX2_strikes 16 = .ok (.ireturn, 1) := by decide +kernel
theorem dX3_init_0 : decode cX3_init 0 = .ok (.aload_n 0, 1) := by decide +kernel
theorem dX3_init_1 : decode cX3_init 1 = .ok (.invokespecial 3, 3) := by decide +kernel
theorem dX3_init_4 : decode cX3_init 4 = .ok (.aload_n 0, 1) := by decide +kernel
theorem dX3_init_5 : decode cX3_init 5 = .ok (.bipush 6, 2) := by decide +kernel
theorem dX3_init_7 : decode cX3_init 7 = .ok (.putfield 9, 3) := by decide +kernel
theorem dX3_init_10 : decode cX3_init 10 = .ok (.aload_n 0, 1) := by decide +kernel
theorem dX3_init_11 : decode cX3_init 11 = .ok (.iconst 1, 1) := by decide +kernel
theorem dX3_init_12 : decode cX3_init 12 = .ok (.putfield 15, 3) := by decide +kernel
theorem dX3_init_15 : decode cX3_init 15 = .ok (.aload_n 0, 1) := by decide +kernel
theorem dX3_init_16 : decode cX3_init 16 = .ok (.bipush 10, 2) := by decide +kernel
theorem dX3_init_18 : decode cX3_init 18 = .ok (.newarray .int, 2) := by decide +kernel
theorem dX3_init_20 : decode cX3_init 20 = .ok (.putfield 18, 3) := by decide +kernel
theorem dX3_init_23 : decode cX3_init 23 = .ok (.aload_n 0, 1) := by decide +kernel
theorem dX3_init_24 : decode cX3_init 24 = .ok (.bipush 10, 2) := by decide +kernel
theorem dX3_init_26 : decode cX3_init 26 = .ok (.newarray .int, 2) := by decide +kernel
theorem dX3_init_28 : decode cX3_init 28 = .ok (.putfield 22, 3) := by decide +kernel
theorem dX3_init_31 : decode cX3_init 31 = .ok (.aload_n 0, 1) := by decide +kernel
theorem dX3_init_32 : decode cX3_init 32 = .ok (.bipush 100, 2) := by decide +kernel
theorem dX3_init_34 : decode cX3_init 34 = .ok (.newarray .int, 2) := by decide +kernel
theorem dX3_init_36 : decode cX3_init 36 = .ok (.putfield 25, 3) := by decide +kernel
theorem dX3_init_39 : decode cX3_init 39 = .ok (.return_, 1) := by decide +kernel
theorem dX3_addCode_0 : decode cX3_addCode 0 = .ok (.aload_n 0, 1) := by decide +kernel
theorem dX3_addCode_1 : decode cX3_addCode 1 = .ok (.getfield 28, 3) := by decide +kernel
theorem dX3_addCode_4 : decode cX3_addCode 4 = .ok (.aload_n 0, 1) := by decide +kernel
theorem dX3_addCode_5 : decode cX3_addCode 5 = .ok (.getfield 25, 3) := by decide +kernel
theorem dX3_addCode_8 : decode cX3_addCode 8 = .ok (.arraylength, 1) := by decide +kernel
theorem dX3_addCode_9 : decode cX3_addCode 9 = .ok (.if_icmp .lt 4, 3) := by decide +kernel
theorem dX3_addCode_12 : decode cX3_addCode 12 = .ok (.return_, 1) := by decide +kernel
theorem dX3_addCode_13 : decode cX3_addCode 13 = .ok (.aload_n 0, 1) := by decide +kernel
theorem dX3_addCode_14 : decode cX3_addCode 14 = .ok (.getfield 25, 3) := by decide +kernel
theorem dX3_addCode_17 : decode cX3_addCode 17 = .ok (.aload_n 0, 1) := by decide +kernel
theorem dX3_addCode_18 : decode cX3_addCode 18 = .ok (.getfield 28, 3) := by decide +kernel
theorem dX3_addCode_21 : decode cX3_addCode 21 = .ok (.iload_n 1, 1) := by decide +kernel
theorem dX3_addCode_22 : decode cX3_addCode 22 = .ok (.iastore, 1) := by decide +kernel
theorem dX3_addCode_23 : decode cX3_addCode 23 = .ok (.aload_n 0, 1) := by decide +kernel
theorem dX3_addCode_24 : decode cX3_addCode 24 = .ok (.dup, 1) := by decide +kernel
theorem dX3_addCode_25 : decode cX3_addCode 25 = .ok (.getfield 28, 3) := by decide +kernel
theorem dX3_addCode_28 : decode cX3_addCode 28 = .ok (.iconst 1, 1) := by decide +kernel
theorem dX3_addCode_29 : decode cX3_addCode 29 = .ok (.iadd, 1) := by decide +kernel
theorem dX3_addCode_30 : decode cX3_addCode 30 = .ok (.putfield 28, 3) := by decide +kernel
theorem dX3_addCode_33 : decode cX3_addCode 33 = .ok (.return_, 1) := by decide +kernel
theorem dX3_addTest_0 : decode cX3_addTest 0 = .ok (.aload_n 0, 1) := by decide +kernel
theorem dX3_addTest_1 : decode cX3_addTest 1 = .ok (.iload_n 1, 1) := by decide +kernel
theorem dX3_addTest_2 : decode cX3_addTest 2 = .ok (.iconst 3, 1) := by decide +kernel
theorem dX3_addTest_3 : decode cX3_addTest 3 = .ok (.imul, 1) := by decide +kernel
theorem dX3_addTest_4 : decode cX3_addTest 4 = .ok (.iload_n 2, 1) := by decide +kernel
theorem dX3_addTest_5 : decode cX3_addTest 5 = .ok (.iadd, 1) := by decide +kernel
theorem dX3_addTest_6 : decode cX3_addTest 6 = .ok (.bipush 100, 2) := by decide +kernel
theorem dX3_addTest_8 : decode cX3_addTest 8 = .ok (.imul, 1) := by decide +kernel
theorem dX3_addTest_9 : decode cX3_addTest 9 = .ok (.iload_n 3, 1) := by decide +kernel
theorem dX3_addTest_10 : decode cX3_addTest 10 = .ok (.iadd, 1) := by decide +kernel
theorem dX3_addTest_11 : decode cX3_addTest 11 = .ok (.invokevirtual 31, 3) := by decide +kernel
theorem dX3_addTest_14 : decode cX3_addTest 14 = .ok (.return_, 1) := by decide +kernel
theorem dX3_addSlip_0 : decode cX3_addSlip 0 = .ok (.aload_n 0, 1) := by decide +kernel
theorem dX3_addSlip_1 : decode cX3_addSlip 1 = .ok (.getfield 35, 3) := by decide +kernel
theorem dX3_addSlip_4 : decode cX3_addSlip 4 = .ok (.bipush 10, 2) := by decide +kernel
theorem dX3_addSlip_6 : decode cX3_addSlip 6 = .ok (.if_icmp .lt 4, 3) := by decide +kernel
theorem dX3_addSlip_9 : decode cX3_addSlip 9 = .ok (.return_, 1) := by decide +kernel
theorem dX3_addSlip_10 : decode cX3_addSlip 10 = .ok (.aload_n 0, 1) := by decide +kernel
theorem dX3_addSlip_11 : decode cX3_addSlip 11 = .ok (.getfield 18, 3) := by decide +kernel
theorem dX3_addSlip_14 : decode cX3_addSlip 14 = .ok (.aload_n 0, 1) := by decide +kernel
theorem dX3_addSlip_15 : decode cX3_addSlip 15 = .ok (.getfield 35, 3) := by decide +kernel
theorem dX3_addSlip_18 : decode cX3_addSlip 18 = .ok (.iload_n 1, 1) := by decide +kernel
theorem dX3_addSlip_19 : decode cX3_addSlip 19 = .ok (.iastore, 1) := by decide +kernel
theorem dX3_addSlip_20 : decode cX3_addSlip 20 = .ok (.aload_n 0, 1) := by decide +kernel
theorem dX3_addSlip_21 : decode cX3_addSlip 21 = .ok (.getfield 22, 3) := by decide +kernel
theorem dX3_addSlip_24 : decode cX3_addSlip 24 = .ok (.aload_n 0, 1) := by decide +kernel
theorem dX3_addSlip_25 : decode cX3_addSlip 25 = .ok (.getfield 35, 3) := by decide +kernel
theorem dX3_addSlip_28 : decode cX3_addSlip 28 = .ok (.aload_n 0, 1) := by decide +kernel
theorem dX3_addSlip_29 : decode cX3_addSlip 29 = .ok (.getfield 28, 3) := by decide +kernel
theorem dX3_addSlip_32 : decode cX3_addSlip 32 = .ok (.iastore, 1) := by decide +kernel
theorem dX3_addSlip_33 : decode cX3_addSlip 33 = .ok (.aload_n 0, 1) := by decide +kernel
theorem dX3_addSlip_34 : decode cX3_addSlip 34 = .ok (.dup, 1) := by decide +kernel
theorem dX3_addSlip_35 : decode cX3_addSlip 35 = .ok (.getfield 35, 3) := by decide +kernel
theorem dX3_addSlip_38 : decode cX3_addSlip 38 = .ok (.iconst 1, 1) := by decide +kernel
theorem dX3_addSlip_39 : decode cX3_addSlip 39 = .ok (.iadd, 1) := by decide +kernel
theorem dX3_addSlip_40 : decode cX3_addSlip 40 = .ok (.putfield 35, 3) := by decide +kernel
theorem dX3_addSlip_43 : decode cX3_addSlip 43 = .ok (.return_, 1) := by decide +kernel
theorem dX3_opensOf_0 : decode cX3_opensOf 0 = .ok (.iload_n 1, 1) := by decide +kernel
theorem dX3_opensOf_1 : decode cX3_opensOf 1 = .ok (.istore_n 3, 1) := by decide +kernel
theorem dX3_opensOf_2 : decode cX3_opensOf 2 = .ok (.iconst 0, 1) := by decide +kernel
theorem dX3_opensOf_3 : decode cX3_opensOf 3 = .ok (.istore 4, 2) := by decide +kernel
theorem dX3_opensOf_5 : decode cX3_opensOf 5 = .ok (.iconst 0, 1) := by decide +kernel
theorem dX3_opensOf_6 : decode cX3_opensOf 6 = .ok (.istore 5, 2) := by decide +kernel
theorem dX3_opensOf_8 : decode cX3_opensOf 8 = .ok (.iload 5, 2) := by decide +kernel
theorem dX3_opensOf_10 : decode cX3_opensOf 10 = .ok (.aload_n 0, 1) := by decide +kernel
theorem dX3_opensOf_11 : decode cX3_opensOf 11 = .ok (.getfield 35, 3) := by decide +kernel
theorem dX3_opensOf_14 : decode cX3_opensOf 14 = .ok (.if_icmp .ge 45, 3) := by decide +kernel
theorem dX3_opensOf_17 : decode cX3_opensOf 17 = .ok (.aload_n 0, 1) := by decide +kernel
theorem dX3_opensOf_18 : decode cX3_opensOf 18 = .ok (.iload 4, 2) := by decide +kernel
theorem dX3_opensOf_20 : decode cX3_opensOf 20 = .ok (.aload_n 0, 1) := by decide +kernel
theorem dX3_opensOf_21 : decode cX3_opensOf 21 = .ok (.getfield 22, 3) := by decide +kernel
theorem dX3_opensOf_24 : decode cX3_opensOf 24 = .ok (.iload 5, 2) := by decide +kernel
theorem dX3_opensOf_26 : decode cX3_opensOf 26 = .ok (.iaload, 1) := by decide +kernel
theorem dX3_opensOf_27 : decode cX3_opensOf 27 = .ok (.aload_n 2, 1) := by decide +kernel
theorem dX3_opensOf_28 : decode cX3_opensOf 28 = .ok (.invokevirtual 38, 3) := by decide +kernel
theorem dX3_opensOf_31 : decode cX3_opensOf 31 = .ok (.ifCond .eq 13, 3) := by decide +kernel
theorem dX3_opensOf_34 : decode cX3_opensOf 34 = .ok (.iload_n 3, 1) := by decide +kernel
theorem dX3_opensOf_35 : decode cX3_opensOf 35 = .ok (.aload_n 0, 1) := by decide +kernel
theorem dX3_opensOf_36 : decode cX3_opensOf 36 = .ok (.getfield 18, 3) := by decide +kernel
theorem dX3_opensOf_39 : decode cX3_opensOf 39 = .ok (.iload 5, 2) := by decide +kernel
theorem dX3_opensOf_41 : decode cX3_opensOf 41 = .ok (.iaload, 1) := by decide +kernel
theorem dX3_opensOf_42 : decode cX3_opensOf 42 = .ok (.iadd, 1) := by decide +kernel
theorem dX3_opensOf_43 : decode cX3_opensOf 43 = .ok (.istore_n 3, 1) := by decide +kernel
theorem dX3_opensOf_44 : decode cX3_opensOf 44 = .ok (.aload_n 0, 1) := by decide +kernel
theorem dX3_opensOf_45 : decode cX3_opensOf 45 = .ok (.getfield 22, 3) := by decide +kernel
theorem dX3_opensOf_48 : decode cX3_opensOf 48 = .ok (.iload 5, 2) := by decide +kernel
theorem dX3_opensOf_50 : decode cX3_opensOf 50 = .ok (.iaload, 1) := by decide +kernel
theorem dX3_opensOf_51 : decode cX3_opensOf 51 = .ok (.istore 4, 2) := by decide +kernel
theorem dX3_opensOf_53 : decode cX3_opensOf 53 = .ok (.iinc 5 1, 3) := by decide +kernel
theorem dX3_opensOf_56 : decode cX3_opensOf 56 = .ok (.goto (-48), 3) := by decide +kernel
theorem dX3_opensOf_59 : decode cX3_opensOf 59 = .ok (.iconst 0, 1) := by decide +kernel
theorem dX3_opensOf_60 : decode cX3_opensOf 60 = .ok (.iload_n 3, 1) := by decide +kernel
theorem dX3_opensOf_61 : decode cX3_opensOf 61 = .ok (.invokestatic 42, 3) := by decide +kernel
theorem dX3_opensOf_64 : decode cX3_opensOf 64 = .ok (.ireturn, 1) := by decide +kernel
theorem dX3_holds_0 : decode cX3_holds 0 = .ok (.iconst 0, 1) := by decide +kernel
theorem dX3_holds_1 : decode cX3_holds 1 = .ok (.istore 4, 2) := by decide +kernel
theorem dX3_holds_3 : decode cX3_holds 3 = .ok (.iload_n 1, 1) := by decide +kernel
theorem dX3_holds_4 : decode cX3_holds 4 = .ok (.istore 5, 2) := by decide +kernel
theorem dX3_holds_6 : decode cX3_holds 6 = .ok (.iload 5, 2) := by decide +kernel
theorem dX3_holds_8 : decode cX3_holds 8 = .ok (.iload_n 2, 1) := by decide +kernel
theorem dX3_holds_9 : decode cX3_holds 9 = .ok (.if_icmp .ge 119, 3) := by decide +kernel
theorem dX3_holds_12 : decode cX3_holds 12 = .ok (.iload 5, 2) := by decide +kernel
theorem dX3_holds_14 : decode cX3_holds 14 = .ok (.aload_n 0, 1) := by decide +kernel
theorem dX3_holds_15 : decode cX3_holds 15 = .ok (.getfield 25, 3) := by decide +kernel
theorem dX3_holds_18 : decode cX3_holds 18 = .ok (.arraylength, 1) := by decide +kernel
theorem dX3_holds_19 : decode cX3_holds 19 = .ok (.if_icmp .ge 109, 3) := by decide +kernel
theorem dX3_holds_22 : decode cX3_holds 22 = .ok (.aload_n 0, 1) := by decide +kernel
theorem dX3_holds_23 : decode cX3_holds 23 = .ok (.getfield 25, 3) := by decide +kernel
theorem dX3_holds_26 : decode cX3_holds 26 = .ok (.iload 5, 2) := by decide +kernel
theorem dX3_holds_28 : decode cX3_holds 28 = .ok (.iaload, 1) := by decide +kernel
theorem dX3_holds_29 : decode cX3_holds 29 = .ok (.istore 6, 2) := by decide +kernel
theorem dX3_holds_31 : decode cX3_holds 31 = .ok (.iload 4, 2) := by decide +kernel
theorem dX3_holds_33 : decode cX3_holds 33 = .ok (.iconst 1, 1) := by decide +kernel
theorem dX3_holds_34 : decode cX3_holds 34 = .ok (.iand, 1) := by decide +kernel
theorem dX3_holds_35 : decode cX3_holds 35 = .ok (.istore 7, 2) := by decide +kernel
theorem dX3_holds_37 : decode cX3_holds 37 = .ok (.iload 6, 2) := by decide +kernel
theorem dX3_holds_39 : decode cX3_holds 39 = .ok (.ifCond .lt 27, 3) := by decide +kernel
theorem dX3_holds_42 : decode cX3_holds 42 = .ok (.iload 4, 2) := by decide +kernel
theorem dX3_holds_44 : decode cX3_holds 44 = .ok (.iconst 1, 1) := by decide +kernel
theorem dX3_holds_45 : decode cX3_holds 45 = .ok (.ishl, 1) := by decide +kernel
theorem dX3_holds_46 : decode cX3_holds 46 = .ok (.iload 6, 2) := by decide +kernel
theorem dX3_holds_48 : decode cX3_holds 48 = .ok (.aload_n 3, 1) := by decide +kernel
theorem dX3_holds_49 : decode cX3_holds 49 = .ok (.invokestatic 48, 3) := by decide +kernel
theorem dX3_holds_52 : decode cX3_holds 52 = .ok (.ifCond .eq 7, 3) := by decide +kernel
theorem dX3_holds_55 : decode cX3_holds 55 = .ok (.iconst 1, 1) := by decide +kernel
theorem dX3_holds_56 : decode cX3_holds 56 = .ok (.goto 4, 3) := by decide +kernel
theorem dX3_holds_59 : decode cX3_holds 59 = .ok (.iconst 0, 1) := by decide +kernel
theorem dX3_holds_60 : decode cX3_holds 60 = .ok (.ior, 1) := by decide +kernel
theorem dX3_holds_61 : decode cX3_holds 61 = .ok (.istore 4, 2) := by decide +kernel
theorem dX3_holds_63 : decode cX3_holds 63 = .ok (.goto 59, 3) := by decide +kernel
theorem dX3_holds_66 : decode cX3_holds 66 = .ok (.iload 6, 2) := by decide +kernel
theorem dX3_holds_68 : decode cX3_holds 68 = .ok (.iconst (-1), 1) := by decide +kernel
theorem dX3_holds_69 : decode cX3_holds 69 = .ok (.if_icmp .ne 12, 3) := by decide +kernel
theorem dX3_holds_72 : decode cX3_holds 72 = .ok (.iload 4, 2) := by decide +kernel
theorem dX3_holds_74 : decode cX3_holds 74 = .ok (.iconst 1, 1) := by decide +kernel
theorem dX3_holds_75 : decode cX3_holds 75 = .ok (.ixor, 1) := by decide +kernel
theorem dX3_holds_76 : decode cX3_holds 76 = .ok (.istore 4, 2) := by decide +kernel
theorem dX3_holds_78 : decode cX3_holds 78 = .ok (.goto 44, 3) := by decide +kernel
theorem dX3_holds_81 : decode cX3_holds 81 = .ok (.iload 6, 2) := by decide +kernel
theorem dX3_holds_83 : decode cX3_holds 83 = .ok (.bipush (-2), 2) := by decide +kernel
theorem dX3_holds_85 : decode cX3_holds 85 = .ok (.if_icmp .ne 28, 3) := by decide +kernel
theorem dX3_holds_88 : decode cX3_holds 88 = .ok (.iload 7, 2) := by decide +kernel
theorem dX3_holds_90 : decode cX3_holds 90 = .ok (.iconst 1, 1) := by decide +kernel
theorem dX3_holds_91 : decode cX3_holds 91 = .ok (.if_icmp .ne 10, 3) := by decide +kernel
theorem dX3_holds_94 : decode cX3_holds 94 = .ok (.iload 4, 2) := by decide +kernel
theorem dX3_holds_96 : decode cX3_holds 96 = .ok (.iconst 1, 1) := by decide +kernel
theorem dX3_holds_97 : decode cX3_holds 97 = .ok (.ishr, 1) := by decide +kernel
theorem dX3_holds_98 : decode cX3_holds 98 = .ok (.goto 10, 3) := by decide +kernel
theorem dX3_holds_101 : decode cX3_holds 101 = .ok (.iload 4, 2) := by decide +kernel
theorem dX3_holds_103 : decode cX3_holds 103 = .ok (.iconst 1, 1) := by decide +kernel
theorem dX3_holds_104 : decode cX3_holds 104 = .ok (.ishr, 1) := by decide +kernel
theorem dX3_holds_105 : decode cX3_holds 105 = .ok (.bipush (-2), 2) := by decide +kernel
theorem dX3_holds_107 : decode cX3_holds 107 = .ok (.iand, 1) := by decide +kernel
theorem dX3_holds_108 : decode cX3_holds 108 = .ok (.istore 4, 2) := by decide +kernel
theorem dX3_holds_110 : decode cX3_holds 110 = .ok (.goto 12, 3) := by decide +kernel
theorem dX3_holds_113 : decode cX3_holds 113 = .ok (.iload 4, 2) := by decide +kernel
theorem dX3_holds_115 : decode cX3_holds 115 = .ok (.iconst 1, 1) := by decide +kernel
theorem dX3_holds_116 : decode cX3_holds 116 = .ok (.ishr, 1) := by decide +kernel
theorem dX3_holds_117 : decode cX3_holds 117 = .ok (.iload 7, 2) := by decide +kernel
theorem dX3_holds_119 : decode cX3_holds 119 = .ok (.ior, 1) := by decide +kernel
theorem dX3_holds_120 : decode cX3_holds 120 = .ok (.istore 4, 2) := by decide +kernel
theorem dX3_holds_122 : decode cX3_holds 122 = .ok (.iinc 5 1, 3) := by decide +kernel
theorem dX3_holds_125 : decode cX3_holds 125 = .ok (.goto (-119), 3) := by decide +kernel
theorem dX3_holds_128 : decode cX3_holds 128 = .ok (.iload 4, 2) := by decide +kernel
theorem dX3_holds_130 : decode cX3_holds 130 = .ok (.iconst 1, 1) := by decide +kernel
theorem dX3_holds_131 : decode cX3_holds 131 = .ok (.iand, 1) := by decide +kernel
theorem dX3_holds_132 : decode cX3_holds 132 = .ok (.iconst 1, 1) := by decide +kernel
theorem dX3_holds_133 : decode cX3_holds 133 = .ok (.if_icmp .ne 7, 3) := by decide +kernel
theorem dX3_holds_136 : decode cX3_holds 136 = .ok (.iconst 1, 1) := by decide +kernel
theorem dX3_holds_137 : decode cX3_holds 137 = .ok (.goto 4, 3) := by decide +kernel
theorem dX3_holds_140 : decode cX3_holds 140 = .ok (.iconst 0, 1) := by decide +kernel
theorem dX3_holds_141 : decode cX3_holds 141 = .ok (.ireturn, 1) := by decide +kernel
theorem dX3_isMet_0 : decode cX3_isMet 0 = .ok (.iload_n 0, 1) := by decide +kernel
theorem dX3_isMet_1 : decode cX3_isMet 1 = .ok (.sipush 300, 3) := by decide +kernel
theorem dX3_isMet_4 : decode cX3_isMet 4 = .ok (.idiv, 1) := by decide +kernel
theorem dX3_isMet_5 : decode cX3_isMet 5 = .ok (.istore_n 2, 1) := by decide +kernel
theorem dX3_isMet_6 : decode cX3_isMet 6 = .ok (.iload_n 0, 1) := by decide +kernel
theorem dX3_isMet_7 : decode cX3_isMet 7 = .ok (.bipush 100, 2) := by decide +kernel
theorem dX3_isMet_9 : decode cX3_isMet 9 = .ok (.idiv, 1) := by decide +kernel
theorem dX3_isMet_10 : decode cX3_isMet 10 = .ok (.iconst 3, 1) := by decide +kernel
theorem dX3_isMet_11 : decode cX3_isMet 11 = .ok (.irem, 1) := by decide +kernel
theorem dX3_isMet_12 : decode cX3_isMet 12 = .ok (.istore_n 3, 1) := by decide +kernel
theorem dX3_isMet_13 : decode cX3_isMet 13 = .ok (.iload_n 0, 1) := by decide +kernel
theorem dX3_isMet_14 : decode cX3_isMet 14 = .ok (.bipush 100, 2) := by decide +kernel
theorem dX3_isMet_16 : decode cX3_isMet 16 = .ok (.irem, 1) := by decide +kernel
theorem dX3_isMet_17 : decode cX3_isMet 17 = .ok (.istore 4, 2) := by decide +kernel
theorem dX3_isMet_19 : decode cX3_isMet 19 = .ok (.iload_n 2, 1) := by decide +kernel
theorem dX3_isMet_20 : decode cX3_isMet 20 = .ok (.ifCond .lt 9, 3) := by decide +kernel
theorem dX3_isMet_23 : decode cX3_isMet 23 = .ok (.iload_n 2, 1) := by decide +kernel
theorem dX3_isMet_24 : decode cX3_isMet 24 = .ok (.aload_n 1, 1) := by decide +kernel
theorem dX3_isMet_25 : decode cX3_isMet 25 = .ok (.arraylength, 1) := by decide +kernel
theorem dX3_isMet_26 : decode cX3_isMet 26 = .ok (.if_icmp .lt 5, 3) := by decide +kernel
theorem dX3_isMet_29 : decode cX3_isMet 29 = .ok (.iconst 0, 1) := by decide +kernel
theorem dX3_isMet_30 : decode cX3_isMet 30 = .ok (.ireturn, 1) := by decide +kernel
theorem dX3_isMet_31 : decode cX3_isMet 31 = .ok (.aload_n 1, 1) := by decide +kernel
theorem dX3_isMet_32 : decode cX3_isMet 32 = .ok (.iload_n 2, 1) := by decide +kernel
theorem dX3_isMet_33 : decode cX3_isMet 33 = .ok (.iaload, 1) := by decide +kernel
theorem dX3_isMet_34 : decode cX3_isMet 34 = .ok (.istore 5, 2) := by decide +kernel
theorem dX3_isMet_36 : decode cX3_isMet 36 = .ok (.iload_n 3, 1) := by decide +kernel
theorem dX3_isMet_37 : decode cX3_isMet 37 = .ok (.ifCond .ne 18, 3) := by decide +kernel
theorem dX3_isMet_40 : decode cX3_isMet 40 = .ok (.iload 5, 2) := by decide +kernel
theorem dX3_isMet_42 : decode cX3_isMet 42 = .ok (.iload 4, 2) := by decide +kernel
theorem dX3_isMet_44 : decode cX3_isMet 44 = .ok (.if_icmp .ge 7, 3) := by decide +kernel
theorem dX3_isMet_47 : decode cX3_isMet 47 = .ok (.iconst 1, 1) := by decide +kernel
theorem dX3_isMet_48 : decode cX3_isMet 48 = .ok (.goto 39, 3) := by decide +kernel
theorem dX3_isMet_51 : decode cX3_isMet 51 = .ok (.iconst 0, 1) := by decide +kernel
theorem dX3_isMet_52 : decode cX3_isMet 52 = .ok (.goto 35, 3) := by decide +kernel
theorem dX3_isMet_55 : decode cX3_isMet 55 = .ok (.iload_n 3, 1) := by decide +kernel
theorem dX3_isMet_56 : decode cX3_isMet 56 = .ok (.iconst 1, 1) := by decide +kernel
theorem dX3_isMet_57 : decode cX3_isMet 57 = .ok (.if_icmp .ne 18, 3) := by decide +kernel
theorem dX3_isMet_60 : decode cX3_isMet 60 = .ok (.iload 5, 2) := by decide +kernel
theorem dX3_isMet_62 : decode cX3_isMet 62 = .ok (.iload 4, 2) := by decide +kernel
theorem dX3_isMet_64 : decode cX3_isMet 64 = .ok (.if_icmp .ne 7, 3) := by decide +kernel
theorem dX3_isMet_67 : decode cX3_isMet 67 = .ok (.iconst 1, 1) := by decide +kernel
theorem dX3_isMet_68 : decode cX3_isMet 68 = .ok (.goto 19, 3) := by decide +kernel
theorem dX3_isMet_71 : decode cX3_isMet 71 = .ok (.iconst 0, 1) := by decide +kernel
theorem dX3_isMet_72 : decode cX3_isMet 72 = .ok (.goto 15, 3) := by decide +kernel
theorem dX3_isMet_75 : decode cX3_isMet 75 = .ok (.iload 5, 2) := by decide +kernel
theorem dX3_isMet_77 : decode cX3_isMet 77 = .ok (.iload 4, 2) := by decide +kernel
theorem dX3_isMet_79 : decode cX3_isMet 79 = .ok (.if_icmp .le 7, 3) := by decide +kernel
theorem dX3_isMet_82 : decode cX3_isMet 82 = .ok (.iconst 1, 1) := by decide +kernel
theorem dX3_isMet_83 : decode cX3_isMet 83 = .ok (.goto 4, 3) := by decide +kernel
theorem dX3_isMet_86 : decode cX3_isMet 86 = .ok (.iconst 0, 1) := by decide +kernel
theorem dX3_isMet_87 : decode cX3_isMet 87 = .ok (.ireturn, 1) := by decide +kernel
theorem dX4_init_0 : decode cX4_init 0 = .ok (.aload_n 0, 1) := by decide +kernel
theorem dX4_init_1 : decode cX4_init 1 = .ok (.invokespecial 3, 3) := by decide +kernel
theorem dX4_init_4 : decode cX4_init 4 = .ok (.aload_n 0, 1) := by decide +kernel
theorem dX4_init_5 : decode cX4_init 5 = .ok (.bipush 6, 2) := by decide +kernel
theorem dX4_init_7 : decode cX4_init 7 = .ok (.newarray .int, 2) := by decide +kernel
theorem dX4_init_9 : decode cX4_init 9 = .ok (.putfield 9, 3) := by decide +kernel
theorem dX4_init_12 : decode cX4_init 12 = .ok (.return_, 1) := by decide +kernel
theorem dX4_layFor_0 : decode cX4_layFor 0 = .ok (.aload_n 1, 1) := by decide +kernel
theorem dX4_layFor_1 : decode cX4_layFor 1 = .ok (.invokevirtual 15, 3) := by decide +kernel
theorem dX4_layFor_4 : decode cX4_layFor 4 = .ok (.astore 6, 2) := by decide +kernel
theorem dX4_layFor_6 : decode cX4_layFor 6 = .ok (.aload_n 0, 1) := by decide +kernel
theorem dX4_layFor_7 : decode cX4_layFor 7 = .ok (.getfield 9, 3) := by decide +kernel
theorem dX4_layFor_10 : decode cX4_layFor 10 = .ok (.iconst 0, 1) := by decide +kernel
theorem dX4_layFor_11 : decode cX4_layFor 11 = .ok (.aload_n 2, 1) := by decide +kernel
theorem dX4_layFor_12 : decode cX4_layFor 12 = .ok (.getfield 21, 3) := by decide +kernel
theorem dX4_layFor_15 : decode cX4_layFor 15 = .ok (.iastore, 1) := by decide +kernel
theorem dX4_layFor_16 : decode cX4_layFor 16 = .ok (.aload_n 0, 1) := by decide +kernel
theorem dX4_layFor_17 : decode cX4_layFor 17 = .ok (.getfield 9, 3) := by decide +kernel
theorem dX4_layFor_20 : decode cX4_layFor 20 = .ok (.iconst 1, 1) := by decide +kernel
theorem dX4_layFor_21 : decode cX4_layFor 21 = .ok (.aload_n 2, 1) := by decide +kernel
theorem dX4_layFor_22 : decode cX4_layFor 22 = .ok (.getfield 27, 3) := by decide +kernel
theorem dX4_layFor_25 : decode cX4_layFor 25 = .ok (.iastore, 1) := by decide +kernel
theorem dX4_layFor_26 : decode cX4_layFor 26 = .ok (.aload_n 0, 1) := by decide +kernel
theorem dX4_layFor_27 : decode cX4_layFor 27 = .ok (.getfield 9, 3) := by decide +kernel
theorem dX4_layFor_30 : decode cX4_layFor 30 = .ok (.iconst 2, 1) := by decide +kernel
theorem dX4_layFor_31 : decode cX4_layFor 31 = .ok (.iload_n 3, 1) := by decide +kernel
theorem dX4_layFor_32 : decode cX4_layFor 32 = .ok (.bipush 10, 2) := by decide +kernel
theorem dX4_layFor_34 : decode cX4_layFor 34 = .ok (.idiv, 1) := by decide +kernel
theorem dX4_layFor_35 : decode cX4_layFor 35 = .ok (.iastore, 1) := by decide +kernel
theorem dX4_layFor_36 : decode cX4_layFor 36 = .ok (.aload_n 0, 1) := by decide +kernel
theorem dX4_layFor_37 : decode cX4_layFor 37 = .ok (.getfield 9, 3) := by decide +kernel
theorem dX4_layFor_40 : decode cX4_layFor 40 = .ok (.iconst 3, 1) := by decide +kernel
theorem dX4_layFor_41 : decode cX4_layFor 41 = .ok (.iload 5, 2) := by decide +kernel
theorem dX4_layFor_43 : decode cX4_layFor 43 = .ok (.iastore, 1) := by decide +kernel
theorem dX4_layFor_44 : decode cX4_layFor 44 = .ok (.aload_n 0, 1) := by decide +kernel
theorem dX4_layFor_45 : decode cX4_layFor 45 = .ok (.getfield 9, 3) := by decide +kernel
theorem dX4_layFor_48 : decode cX4_layFor 48 = .ok (.iconst 4, 1) := by decide +kernel
theorem dX4_layFor_49 : decode cX4_layFor 49 = .ok (.iload 4, 2) := by decide +kernel
theorem dX4_layFor_51 : decode cX4_layFor 51 = .ok (.iastore, 1) := by decide +kernel
theorem dX4_layFor_52 : decode cX4_layFor 52 = .ok (.aload_n 0, 1) := by decide +kernel
theorem dX4_layFor_53 : decode cX4_layFor 53 = .ok (.getfield 9, 3) := by decide +kernel
theorem dX4_layFor_56 : decode cX4_layFor 56 = .ok (.iconst 5, 1) := by decide +kernel
theorem dX4_layFor_57 : decode cX4_layFor 57 = .ok (.aload_n 1, 1) := by decide +kernel
theorem dX4_layFor_58 : decode cX4_layFor 58 = .ok (.getfield 30, 3) := by decide +kernel
theorem dX4_layFor_61 : decode cX4_layFor 61 = .ok (.bipush 10, 2) := by decide +kernel
theorem dX4_layFor_63 : decode cX4_layFor 63 = .ok (.irem, 1) := by decide +kernel
theorem dX4_layFor_64 : decode cX4_layFor 64 = .ok (.iastore, 1) := by decide +kernel
theorem dX4_layFor_65 : decode cX4_layFor 65 = .ok (.aload_n 0, 1) := by decide +kernel
theorem dX4_layFor_66 : decode cX4_layFor 66 = .ok (.iload_n 3, 1) := by decide +kernel
theorem dX4_layFor_67 : decode cX4_layFor 67 = .ok (.putfield 33, 3) := by decide +kernel
theorem dX4_layFor_70 : decode cX4_layFor 70 = .ok (.aload_n 0, 1) := by decide +kernel
theorem dX4_layFor_71 : decode cX4_layFor 71 = .ok (.bipush 10, 2) := by decide +kernel
theorem dX4_layFor_73 : decode cX4_layFor 73 = .ok (.aload_n 2, 1) := by decide +kernel
theorem dX4_layFor_74 : decode cX4_layFor 74 = .ok (.getfield 36, 3) := by decide +kernel
theorem dX4_layFor_77 : decode cX4_layFor 77 = .ok (.imul, 1) := by decide +kernel
theorem dX4_layFor_78 : decode cX4_layFor 78 = .ok (.putfield 39, 3) := by decide +kernel
theorem dX4_layFor_81 : decode cX4_layFor 81 = .ok (.aload_n 0, 1) := by decide +kernel
theorem dX4_layFor_82 : decode cX4_layFor 82 = .ok (.aload_n 2, 1) := by decide +kernel
theorem dX4_layFor_83 : decode cX4_layFor 83 = .ok (.aload_n 1, 1) := by decide +kernel
theorem dX4_layFor_84 : decode cX4_layFor 84 = .ok (.getfield 30, 3) := by decide +kernel
theorem dX4_layFor_87 : decode cX4_layFor 87 = .ok (.invokevirtual 42, 3) := by decide +kernel
theorem dX4_layFor_90 : decode cX4_layFor 90 = .ok (.iload_n 3, 1) := by decide +kernel
theorem dX4_layFor_91 : decode cX4_layFor 91 = .ok (.iconst 2, 1) := by decide +kernel
theorem dX4_layFor_92 : decode cX4_layFor 92 = .ok (.idiv, 1) := by decide +kernel
theorem dX4_layFor_93 : decode cX4_layFor 93 = .ok (.isub, 1) := by decide +kernel
theorem dX4_layFor_94 : decode cX4_layFor 94 = .ok (.putfield 46, 3) := by decide +kernel
theorem dX4_layFor_97 : decode cX4_layFor 97 = .ok (.aload_n 0, 1) := by decide +kernel
theorem dX4_layFor_98 : decode cX4_layFor 98 = .ok (.aload_n 2, 1) := by decide +kernel
theorem dX4_layFor_99 : decode cX4_layFor 99 = .ok (.iload 4, 2) := by decide +kernel
theorem dX4_layFor_101 : decode cX4_layFor 101 = .ok (.iload 5, 2) := by decide +kernel
theorem dX4_layFor_103 : decode cX4_layFor 103 = .ok (.invokevirtual 49, 3) := by decide +kernel
theorem dX4_layFor_106 : decode cX4_layFor 106 = .ok (.putfield 53, 3) := by decide +kernel
theorem dX4_layFor_109 : decode cX4_layFor 109 = .ok (.aload_n 0, 1) := by decide +kernel
theorem dX4_layFor_110 : decode cX4_layFor 110 = .ok (.aload 6, 2) := by decide +kernel
theorem dX4_layFor_112 : decode cX4_layFor 112 = .ok (.getfield 56, 3) := by decide +kernel
theorem dX4_layFor_115 : decode cX4_layFor 115 = .ok (.putfield 61, 3) := by decide +kernel
theorem dX4_layFor_118 : decode cX4_layFor 118 = .ok (.aload_n 0, 1) := by decide +kernel
theorem dX4_layFor_119 : decode cX4_layFor 119 = .ok (.aload 6, 2) := by decide +kernel
theorem dX4_layFor_121 : decode cX4_layFor 121 = .ok (.iload_n 3, 1) := by decide +kernel
theorem dX4_layFor_122 : decode cX4_layFor 122 = .ok (.aload_n 0, 1) := by decide +kernel
theorem dX4_layFor_123 : decode cX4_layFor 123 = .ok (.getfield 9, 3) := by decide +kernel
theorem dX4_layFor_126 : decode cX4_layFor 126 = .ok (.invokevirtual 62, 3) := by decide +kernel
theorem dX4_layFor_129 : decode cX4_layFor 129 = .ok (.putfield 66, 3) := by decide +kernel
theorem dX4_layFor_132 : decode cX4_layFor 132 = .ok (.return_, 1) := by decide +kernel
theorem dX4_turnBy_0 : decode cX4_turnBy 0 = .ok (.iconst 5, 1) := by decide +kernel
theorem dX4_turnBy_1 : decode cX4_turnBy 1 = .ok (.iload_n 1, 1) := by decide +kernel
theorem dX4_turnBy_2 : decode cX4_turnBy 2 = .ok (.imul, 1) := by decide +kernel
theorem dX4_turnBy_3 : decode cX4_turnBy 3 = .ok (.aload_n 0, 1) := by decide +kernel
theorem dX4_turnBy_4 : decode cX4_turnBy 4 = .ok (.getfield 46, 3) := by decide +kernel
theorem dX4_turnBy_7 : decode cX4_turnBy 7 = .ok (.iadd, 1) := by decide +kernel
theorem dX4_turnBy_8 : decode cX4_turnBy 8 = .ok (.ireturn, 1) := by decide +kernel
theorem dX4_caughtBy_0 : decode cX4_caughtBy 0 = .ok (.aload_n 0, 1) := by decide +kernel
theorem dX4_caughtBy_1 : decode cX4_caughtBy 1 = .ok (.iload_n 1, 1) := by decide +kernel
theorem dX4_caughtBy_2 : decode cX4_caughtBy 2 = .ok (.invokevirtual 69, 3) := by decide +kernel
theorem dX4_caughtBy_5 : decode cX4_caughtBy 5 = .ok (.aload_n 0, 1) := by decide +kernel
theorem dX4_caughtBy_6 : decode cX4_caughtBy 6 = .ok (.getfield 53, 3) := by decide +kernel
theorem dX4_caughtBy_9 : decode cX4_caughtBy 9 = .ok (.iload_n 2, 1) := by decide +kernel
theorem dX4_caughtBy_10 : decode cX4_caughtBy 10 = .ok (.iconst 4, 1) := by decide +kernel
theorem dX4_caughtBy_11 : decode cX4_caughtBy 11 = .ok (.isub, 1) := by decide +kernel
theorem dX4_caughtBy_12 : decode cX4_caughtBy 12 = .ok (.imul, 1) := by decide +kernel
theorem dX4_caughtBy_13 : decode cX4_caughtBy 13 = .ok (.iadd, 1) := by decide +kernel
theorem dX4_caughtBy_14 : decode cX4_caughtBy 14 = .ok (.bipush 50, 2) := by decide +kernel
theorem dX4_caughtBy_16 : decode cX4_caughtBy 16 = .ok (.isub, 1) := by decide +kernel
theorem dX4_caughtBy_17 : decode cX4_caughtBy 17 = .ok (.invokestatic 72, 3) := by decide +kernel
theorem dX4_caughtBy_20 : decode cX4_caughtBy 20 = .ok (.istore_n 3, 1) := by decide +kernel
theorem dX4_caughtBy_21 : decode cX4_caughtBy 21 = .ok (.iload_n 3, 1) := by decide +kernel
theorem dX4_caughtBy_22 : decode cX4_caughtBy 22 = .ok (.aload_n 0, 1) := by decide +kernel
theorem dX4_caughtBy_23 : decode cX4_caughtBy 23 = .ok (.getfield 61, 3) := by decide +kernel
theorem dX4_caughtBy_26 : decode cX4_caughtBy 26 = .ok (.if_icmp .gt 19, 3) := by decide +kernel
theorem dX4_caughtBy_29 : decode cX4_caughtBy 29 = .ok (.aload_n 0, 1) := by decide +kernel
theorem dX4_caughtBy_30 : decode cX4_caughtBy 30 = .ok (.getfield 66, 3) := by decide +kernel
theorem dX4_caughtBy_33 : decode cX4_caughtBy 33 = .ok (.aload_n 0, 1) := by decide +kernel
theorem dX4_caughtBy_34 : decode cX4_caughtBy 34 = .ok (.getfield 39, 3) := by decide +kernel
theorem dX4_caughtBy_37 : decode cX4_caughtBy 37 = .ok (.if_icmp .gt 8, 3) := by decide +kernel
theorem dX4_caughtBy_40 : decode cX4_caughtBy 40 = .ok (.aload_n 0, 1) := by decide +kernel
theorem dX4_caughtBy_41 : decode cX4_caughtBy 41 = .ok (.getfield 33, 3) := by decide +kernel
theorem dX4_caughtBy_44 : decode cX4_caughtBy 44 = .ok (.ireturn, 1) := by decide +kernel
theorem dX4_caughtBy_45 : decode cX4_caughtBy 45 = .ok (.iload_n 3, 1) := by decide +kernel
theorem dX4_caughtBy_46 : decode cX4_caughtBy 46 = .ok (.iconst 2, 1) := by decide +kernel
theorem dX4_caughtBy_47 : decode cX4_caughtBy 47 = .ok (.aload_n 0, 1) := by decide +kernel
theorem dX4_caughtBy_48 : decode cX4_caughtBy 48 = .ok (.getfield 61, 3) := by decide +kernel
theorem dX4_caughtBy_51 : decode cX4_caughtBy 51 = .ok (.imul, 1) := by decide +kernel
theorem dX4_caughtBy_52 : decode cX4_caughtBy 52 = .ok (.if_icmp .gt 23, 3) := by decide +kernel
theorem dX4_caughtBy_55 : decode cX4_caughtBy 55 = .ok (.aload_n 0, 1) := by decide +kernel
theorem dX4_caughtBy_56 : decode cX4_caughtBy 56 = .ok (.getfield 66, 3) := by decide +kernel
theorem dX4_caughtBy_59 : decode cX4_caughtBy 59 = .ok (.iconst 2, 1) := by decide +kernel
theorem dX4_caughtBy_60 : decode cX4_caughtBy 60 = .ok (.aload_n 0, 1) := by decide +kernel
theorem dX4_caughtBy_61 : decode cX4_caughtBy 61 = .ok (.getfield 39, 3) := by decide +kernel
theorem dX4_caughtBy_64 : decode cX4_caughtBy 64 = .ok (.imul, 1) := by decide +kernel
theorem dX4_caughtBy_65 : decode cX4_caughtBy 65 = .ok (.if_icmp .gt 10, 3) := by decide +kernel
theorem dX4_caughtBy_68 : decode cX4_caughtBy 68 = .ok (.aload_n 0, 1) := by decide +kernel
theorem dX4_caughtBy_69 : decode cX4_caughtBy 69 = .ok (.getfield 33, 3) := by decide +kernel
theorem dX4_caughtBy_72 : decode cX4_caughtBy 72 = .ok (.iconst 2, 1) := by decide +kernel
theorem dX4_caughtBy_73 : decode cX4_caughtBy 73 = .ok (.idiv, 1) := by decide +kernel
theorem dX4_caughtBy_74 : decode cX4_caughtBy 74 = .ok (.ireturn, 1) := by decide +kernel
theorem dX4_caughtBy_75 : decode cX4_caughtBy 75 = .ok (.iconst 0, 1) := by decide +kernel
theorem dX4_caughtBy_76 : decode cX4_caughtBy 76 = .ok (.ireturn, 1) := by decide +kernel
theorem dX4_caughtByAllDraws_0 : decode cX4_caughtByAllDraws 0 = .ok (.iconst 0, 1) := by decide +kernel
theorem dX4_caughtByAllDraws_1 : decode cX4_caughtByAllDraws 1 = .ok (.istore_n 2, 1) := by decide +kernel
theorem dX4_caughtByAllDraws_2 : decode cX4_caughtByAllDraws 2 = .ok (.iconst 0, 1) := by decide +kernel
theorem dX4_caughtByAllDraws_3 : decode cX4_caughtByAllDraws 3 = .ok (.istore_n 3, 1) := by decide +kernel
theorem dX4_caughtByAllDraws_4 : decode cX4_caughtByAllDraws 4 = .ok (.iload_n 3, 1) := by decide +kernel
theorem dX4_caughtByAllDraws_5 : decode cX4_caughtByAllDraws 5 = .ok (.bipush 10, 2) := by decide +kernel
theorem dX4_caughtByAllDraws_7 : decode cX4_caughtByAllDraws 7 = .ok (.if_icmp .ge 18, 3) := by decide +kernel
theorem dX4_caughtByAllDraws_10 : decode cX4_caughtByAllDraws 10 = .ok (.iload_n 2, 1) := by decide +kernel
theorem dX4_caughtByAllDraws_11 : decode cX4_caughtByAllDraws 11 = .ok (.aload_n 0, 1) := by decide +kernel
theorem dX4_caughtByAllDraws_12 : decode cX4_caughtByAllDraws 12 = .ok (.iload_n 1, 1) := by decide +kernel
theorem dX4_caughtByAllDraws_13 : decode cX4_caughtByAllDraws 13 = .ok (.iload_n 3, 1) := by decide +kernel
theorem dX4_caughtByAllDraws_14 : decode cX4_caughtByAllDraws 14 = .ok (.invokevirtual 77, 3) := by decide +kernel
theorem dX4_caughtByAllDraws_17 : decode cX4_caughtByAllDraws 17 = .ok (.iadd, 1) := by decide +kernel
theorem dX4_caughtByAllDraws_18 : decode cX4_caughtByAllDraws 18 = .ok (.istore_n 2, 1) := by decide +kernel
theorem dX4_caughtByAllDraws_19 : decode cX4_caughtByAllDraws 19 = .ok (.iinc 3 1, 3) := by decide +kernel
theorem dX4_caughtByAllDraws_22 : decode cX4_caughtByAllDraws 22 = .ok (.goto (-18), 3) := by decide +kernel
theorem dX4_caughtByAllDraws_25 : decode cX4_caughtByAllDraws 25 = .ok (.iload_n 2, 1) := by decide +kernel
theorem dX4_caughtByAllDraws_26 : decode cX4_caughtByAllDraws 26 = .ok (.ireturn, 1) := by decide +kernel
theorem dX4_drawsOf_0 : decode cX4_drawsOf 0 = .ok (.iconst 0, 1) := by decide +kernel
theorem dX4_drawsOf_1 : decode cX4_drawsOf 1 = .ok (.istore_n 3, 1) := by decide +kernel
theorem dX4_drawsOf_2 : decode cX4_drawsOf 2 = .ok (.iconst 0, 1) := by decide +kernel
theorem dX4_drawsOf_3 : decode cX4_drawsOf 3 = .ok (.istore 4, 2) := by decide +kernel
theorem dX4_drawsOf_5 : decode cX4_drawsOf 5 = .ok (.iload 4, 2) := by decide +kernel
theorem dX4_drawsOf_7 : decode cX4_drawsOf 7 = .ok (.bipush 10, 2) := by decide +kernel
theorem dX4_drawsOf_9 : decode cX4_drawsOf 9 = .ok (.if_icmp .ge 27, 3) := by decide +kernel
theorem dX4_drawsOf_12 : decode cX4_drawsOf 12 = .ok (.aload_n 0, 1) := by decide +kernel
theorem dX4_drawsOf_13 : decode cX4_drawsOf 13 = .ok (.iload_n 1, 1) := by decide +kernel
theorem dX4_drawsOf_14 : decode cX4_drawsOf 14 = .ok (.iload 4, 2) := by decide +kernel
theorem dX4_drawsOf_16 : decode cX4_drawsOf 16 = .ok (.invokevirtual 77, 3) := by decide +kernel
theorem dX4_drawsOf_19 : decode cX4_drawsOf 19 = .ok (.iload_n 2, 1) := by decide +kernel
theorem dX4_drawsOf_20 : decode cX4_drawsOf 20 = .ok (.if_icmp .ne 10, 3) := by decide +kernel
theorem dX4_drawsOf_23 : decode cX4_drawsOf 23 = .ok (.iload_n 3, 1) := by decide +kernel
theorem dX4_drawsOf_24 : decode cX4_drawsOf 24 = .ok (.iconst 1, 1) := by decide +kernel
theorem dX4_drawsOf_25 : decode cX4_drawsOf 25 = .ok (.iload 4, 2) := by decide +kernel
theorem dX4_drawsOf_27 : decode cX4_drawsOf 27 = .ok (.ishl, 1) := by decide +kernel
theorem dX4_drawsOf_28 : decode cX4_drawsOf 28 = .ok (.ior, 1) := by decide +kernel
theorem dX4_drawsOf_29 : decode cX4_drawsOf 29 = .ok (.istore_n 3, 1) := by decide +kernel
theorem dX4_drawsOf_30 : decode cX4_drawsOf 30 = .ok (.iinc 4 1, 3) := by decide +kernel
theorem dX4_drawsOf_33 : decode cX4_drawsOf 33 = .ok (.goto (-28), 3) := by decide +kernel
theorem dX4_drawsOf_36 : decode cX4_drawsOf 36 = .ok (.iload_n 3, 1) := by decide +kernel
theorem dX4_drawsOf_37 : decode cX4_drawsOf 37 = .ok (.ireturn, 1) := by decide +kernel
theorem dX4_oddsBy_0 : decode cX4_oddsBy 0 = .ok (.aload_n 0, 1) := by decide +kernel
theorem dX4_oddsBy_1 : decode cX4_oddsBy 1 = .ok (.getfield 66, 3) := by decide +kernel
theorem dX4_oddsBy_4 : decode cX4_oddsBy 4 = .ok (.aload_n 0, 1) := by decide +kernel
theorem dX4_oddsBy_5 : decode cX4_oddsBy 5 = .ok (.getfield 39, 3) := by decide +kernel
theorem dX4_oddsBy_8 : decode cX4_oddsBy 8 = .ok (.if_icmp .le 5, 3) := by decide +kernel
theorem dX4_oddsBy_11 : decode cX4_oddsBy 11 = .ok (.iconst 0, 1) := by decide +kernel
theorem dX4_oddsBy_12 : decode cX4_oddsBy 12 = .ok (.ireturn, 1) := by decide +kernel
theorem dX4_oddsBy_13 : decode cX4_oddsBy 13 = .ok (.aload_n 0, 1) := by decide +kernel
theorem dX4_oddsBy_14 : decode cX4_oddsBy 14 = .ok (.iload_n 1, 1) := by decide +kernel
theorem dX4_oddsBy_15 : decode cX4_oddsBy 15 = .ok (.invokevirtual 69, 3) := by decide +kernel
theorem dX4_oddsBy_18 : decode cX4_oddsBy 18 = .ok (.bipush 50, 2) := by decide +kernel
theorem dX4_oddsBy_20 : decode cX4_oddsBy 20 = .ok (.isub, 1) := by decide +kernel
theorem dX4_oddsBy_21 : decode cX4_oddsBy 21 = .ok (.istore_n 2, 1) := by decide +kernel
theorem dX4_oddsBy_22 : decode cX4_oddsBy 22 = .ok (.aload_n 0, 1) := by decide +kernel
theorem dX4_oddsBy_23 : decode cX4_oddsBy 23 = .ok (.getfield 53, 3) := by decide +kernel
theorem dX4_oddsBy_26 : decode cX4_oddsBy 26 = .ok (.ifCond .gt 21, 3) := by decide +kernel
theorem dX4_oddsBy_29 : decode cX4_oddsBy 29 = .ok (.iload_n 2, 1) := by decide +kernel
theorem dX4_oddsBy_30 : decode cX4_oddsBy 30 = .ok (.invokestatic 72, 3) := by decide +kernel
theorem dX4_oddsBy_33 : decode cX4_oddsBy 33 = .ok (.aload_n 0, 1) := by decide +kernel
theorem dX4_oddsBy_34 : decode cX4_oddsBy 34 = .ok (.getfield 61, 3) := by decide +kernel
theorem dX4_oddsBy_37 : decode cX4_oddsBy 37 = .ok (.if_icmp .gt 8, 3) := by decide +kernel
theorem dX4_oddsBy_40 : decode cX4_oddsBy 40 = .ok (.bipush 10, 2) := by decide +kernel
theorem dX4_oddsBy_42 : decode cX4_oddsBy 42 = .ok (.goto 4, 3) := by decide +kernel
theorem dX4_oddsBy_45 : decode cX4_oddsBy 45 = .ok (.iconst 0, 1) := by decide +kernel
theorem dX4_oddsBy_46 : decode cX4_oddsBy 46 = .ok (.ireturn, 1) := by decide +kernel
theorem dX4_oddsBy_47 : decode cX4_oddsBy 47 = .ok (.iconst 0, 1) := by decide +kernel
theorem dX4_oddsBy_48 : decode cX4_oddsBy 48 = .ok (.iconst 4, 1) := by decide +kernel
theorem dX4_oddsBy_49 : decode cX4_oddsBy 49 = .ok (.aload_n 0, 1) := by decide +kernel
theorem dX4_oddsBy_50 : decode cX4_oddsBy 50 = .ok (.getfield 61, 3) := by decide +kernel
theorem dX4_oddsBy_53 : decode cX4_oddsBy 53 = .ok (.iload_n 2, 1) := by decide +kernel
theorem dX4_oddsBy_54 : decode cX4_oddsBy 54 = .ok (.iadd, 1) := by decide +kernel
theorem dX4_oddsBy_55 : decode cX4_oddsBy 55 = .ok (.aload_n 0, 1) := by decide +kernel
theorem dX4_oddsBy_56 : decode cX4_oddsBy 56 = .ok (.getfield 53, 3) := by decide +kernel
theorem dX4_oddsBy_59 : decode cX4_oddsBy 59 = .ok (.invokestatic 80, 3) := by decide +kernel
theorem dX4_oddsBy_62 : decode cX4_oddsBy 62 = .ok (.isub, 1) := by decide +kernel
theorem dX4_oddsBy_63 : decode cX4_oddsBy 63 = .ok (.invokestatic 83, 3) := by decide +kernel
theorem dX4_oddsBy_66 : decode cX4_oddsBy 66 = .ok (.istore_n 3, 1) := by decide +kernel
theorem dX4_oddsBy_67 : decode cX4_oddsBy 67 = .ok (.bipush 9, 2) := by decide +kernel
theorem dX4_oddsBy_69 : decode cX4_oddsBy 69 = .ok (.iconst 4, 1) := by decide +kernel
theorem dX4_oddsBy_70 : decode cX4_oddsBy 70 = .ok (.aload_n 0, 1) := by decide +kernel
theorem dX4_oddsBy_71 : decode cX4_oddsBy 71 = .ok (.getfield 61, 3) := by decide +kernel
theorem dX4_oddsBy_74 : decode cX4_oddsBy 74 = .ok (.iload_n 2, 1) := by decide +kernel
theorem dX4_oddsBy_75 : decode cX4_oddsBy 75 = .ok (.isub, 1) := by decide +kernel
theorem dX4_oddsBy_76 : decode cX4_oddsBy 76 = .ok (.aload_n 0, 1) := by decide +kernel
theorem dX4_oddsBy_77 : decode cX4_oddsBy 77 = .ok (.getfield 53, 3) := by decide +kernel
theorem dX4_oddsBy_80 : decode cX4_oddsBy 80 = .ok (.invokestatic 80, 3) := by decide +kernel
theorem dX4_oddsBy_83 : decode cX4_oddsBy 83 = .ok (.iadd, 1) := by decide +kernel
theorem dX4_oddsBy_84 : decode cX4_oddsBy 84 = .ok (.invokestatic 86, 3) := by decide +kernel
theorem dX4_oddsBy_87 : decode cX4_oddsBy 87 = .ok (.istore 4, 2) := by decide +kernel
theorem dX4_oddsBy_89 : decode cX4_oddsBy 89 = .ok (.iconst 0, 1) := by decide +kernel
theorem dX4_oddsBy_90 : decode cX4_oddsBy 90 = .ok (.iload 4, 2) := by decide +kernel
theorem dX4_oddsBy_92 : decode cX4_oddsBy 92 = .ok (.iload_n 3, 1) := by decide +kernel
theorem dX4_oddsBy_93 : decode cX4_oddsBy 93 = .ok (.isub, 1) := by decide +kernel
theorem dX4_oddsBy_94 : decode cX4_oddsBy 94 = .ok (.iconst 1, 1) := by decide +kernel
theorem dX4_oddsBy_95 : decode cX4_oddsBy 95 = .ok (.iadd, 1) := by decide +kernel
theorem dX4_oddsBy_96 : decode cX4_oddsBy 96 = .ok (.invokestatic 83, 3) := by decide +kernel
theorem dX4_oddsBy_99 : decode cX4_oddsBy 99 = .ok (.ireturn, 1) := by decide +kernel
theorem dX4_bestForce_0 : decode cX4_bestForce 0 = .ok (.iconst 0, 1) := by decide +kernel
theorem dX4_bestForce_1 : decode cX4_bestForce 1 = .ok (.istore_n 1, 1) := by decide +kernel
theorem dX4_bestForce_2 : decode cX4_bestForce 2 = .ok (.iconst (-1), 1) := by decide +kernel
theorem dX4_bestForce_3 : decode cX4_bestForce 3 = .ok (.istore_n 2, 1) := by decide +kernel
theorem dX4_bestForce_4 : decode cX4_bestForce 4 = .ok (.iconst 0, 1) := by decide +kernel
theorem dX4_bestForce_5 : decode cX4_bestForce 5 = .ok (.istore_n 3, 1) := by decide +kernel
theorem dX4_bestForce_6 : decode cX4_bestForce 6 = .ok (.iload_n 3, 1) := by decide +kernel
theorem dX4_bestForce_7 : decode cX4_bestForce 7 = .ok (.bipush 20, 2) := by decide +kernel
theorem dX4_bestForce_9 : decode cX4_bestForce 9 = .ok (.if_icmp .gt 27, 3) := by decide +kernel
theorem dX4_bestForce_12 : decode cX4_bestForce 12 = .ok (.aload_n 0, 1) := by decide +kernel
theorem dX4_bestForce_13 : decode cX4_bestForce 13 = .ok (.iload_n 3, 1) := by decide +kernel
theorem dX4_bestForce_14 : decode cX4_bestForce 14 = .ok (.invokevirtual 89, 3) := by decide +kernel
theorem dX4_bestForce_17 : decode cX4_bestForce 17 = .ok (.istore 4, 2) := by decide +kernel
theorem dX4_bestForce_19 : decode cX4_bestForce 19 = .ok (.iload 4, 2) := by decide +kernel
theorem dX4_bestForce_21 : decode cX4_bestForce 21 = .ok (.iload_n 2, 1) := by decide +kernel
theorem dX4_bestForce_22 : decode cX4_bestForce 22 = .ok (.if_icmp .le 8, 3) := by decide +kernel
theorem dX4_bestForce_25 : decode cX4_bestForce 25 = .ok (.iload 4, 2) := by decide +kernel
theorem dX4_bestForce_27 : decode cX4_bestForce 27 = .ok (.istore_n 2, 1) := by decide +kernel
theorem dX4_bestForce_28 : decode cX4_bestForce 28 = .ok (.iload_n 3, 1) := by decide +kernel
theorem dX4_bestForce_29 : decode cX4_bestForce 29 = .ok (.istore_n 1, 1) := by decide +kernel
theorem dX4_bestForce_30 : decode cX4_bestForce 30 = .ok (.iinc 3 1, 3) := by decide +kernel
theorem dX4_bestForce_33 : decode cX4_bestForce 33 = .ok (.goto (-27), 3) := by decide +kernel
theorem dX4_bestForce_36 : decode cX4_bestForce 36 = .ok (.iload_n 1, 1) := by decide +kernel
theorem dX4_bestForce_37 : decode cX4_bestForce 37 = .ok (.ireturn, 1) := by decide +kernel
theorem dX4_bestOdds_0 : decode cX4_bestOdds 0 = .ok (.aload_n 0, 1) := by decide +kernel
theorem dX4_bestOdds_1 : decode cX4_bestOdds 1 = .ok (.getfield 66, 3) := by decide +kernel
theorem dX4_bestOdds_4 : decode cX4_bestOdds 4 = .ok (.aload_n 0, 1) := by decide +kernel
theorem dX4_bestOdds_5 : decode cX4_bestOdds 5 = .ok (.getfield 39, 3) := by decide +kernel
theorem dX4_bestOdds_8 : decode cX4_bestOdds 8 = .ok (.if_icmp .le 7, 3) := by decide +kernel
theorem dX4_bestOdds_11 : decode cX4_bestOdds 11 = .ok (.iconst 0, 1) := by decide +kernel
theorem dX4_bestOdds_12 : decode cX4_bestOdds 12 = .ok (.goto 11, 3) := by decide +kernel
theorem dX4_bestOdds_15 : decode cX4_bestOdds 15 = .ok (.aload_n 0, 1) := by decide +kernel
theorem dX4_bestOdds_16 : decode cX4_bestOdds 16 = .ok (.aload_n 0, 1) := by decide +kernel
theorem dX4_bestOdds_17 : decode cX4_bestOdds 17 = .ok (.invokevirtual 92, 3) := by decide +kernel
theorem dX4_bestOdds_20 : decode cX4_bestOdds 20 = .ok (.invokevirtual 89, 3) := by decide +kernel
theorem dX4_bestOdds_23 : decode cX4_bestOdds 23 = .ok (.ireturn, 1) := by decide +kernel
theorem dX5_init_0 : decode cX5_init 0 = .ok (.aload_n 0, 1) := by decide +kernel
theorem dX5_init_1 : decode cX5_init 1 = .ok (.invokespecial 3, 3) := by decide +kernel
theorem dX5_init_4 : decode cX5_init 4 = .ok (.aload_n 0, 1) := by decide +kernel
theorem dX5_init_5 : decode cX5_init 5 = .ok (.aload_n 1, 1) := by decide +kernel
theorem dX5_init_6 : decode cX5_init 6 = .ok (.putfield 9, 3) := by decide +kernel
theorem dX5_init_9 : decode cX5_init 9 = .ok (.return_, 1) := by decide +kernel
theorem dX5_ofKind_0 : decode cX5_ofKind 0 = .ok (.iload_n 0, 1) := by decide +kernel
theorem dX5_ofKind_1 : decode cX5_ofKind 1 = .ok (.tableswitch 111 1 6 #[39, 51, 63, 75, 87, 99], 39) := by decide +kernel
theorem dX5_ofKind_40 : decode cX5_ofKind 40 = .ok (.new 15, 3) := by decide +kernel
theorem dX5_ofKind_43 : decode cX5_ofKind 43 = .ok (.dup, 1) := by decide +kernel
theorem dX5_ofKind_44 : decode cX5_ofKind 44 = .ok (.aload_n 1, 1) := by decide +kernel
theorem dX5_ofKind_45 : decode cX5_ofKind 45 = .ok (.invokespecial 17, 3) := by decide +kernel
theorem dX5_ofKind_48 : decode cX5_ofKind 48 = .ok (.astore_n 2, 1) := by decide +kernel
theorem dX5_ofKind_49 : decode cX5_ofKind 49 = .ok (.goto 72, 3) := by decide +kernel
theorem dX5_ofKind_52 : decode cX5_ofKind 52 = .ok (.new 20, 3) := by decide +kernel
theorem dX5_ofKind_55 : decode cX5_ofKind 55 = .ok (.dup, 1) := by decide +kernel
theorem dX5_ofKind_56 : decode cX5_ofKind 56 = .ok (.aload_n 1, 1) := by decide +kernel
theorem dX5_ofKind_57 : decode cX5_ofKind 57 = .ok (.invokespecial 22, 3) := by decide +kernel
theorem dX5_ofKind_60 : decode cX5_ofKind 60 = .ok (.astore_n 2, 1) := by decide +kernel
theorem dX5_ofKind_61 : decode cX5_ofKind 61 = .ok (.goto 60, 3) := by decide +kernel
theorem dX5_ofKind_64 : decode cX5_ofKind 64 = .ok (.new 23, 3) := by decide +kernel
theorem dX5_ofKind_67 : decode cX5_ofKind 67 = .ok (.dup, 1) := by decide +kernel
theorem dX5_ofKind_68 : decode cX5_ofKind 68 = .ok (.aload_n 1, 1) := by decide +kernel
theorem dX5_ofKind_69 : decode cX5_ofKind 69 = .ok (.invokespecial 25, 3) := by decide +kernel
theorem dX5_ofKind_72 : decode cX5_ofKind 72 = .ok (.astore_n 2, 1) := by decide +kernel
theorem dX5_ofKind_73 : decode cX5_ofKind 73 = .ok (.goto 48, 3) := by decide +kernel
theorem dX5_ofKind_76 : decode cX5_ofKind 76 = .ok (.new 26, 3) := by decide +kernel
theorem dX5_ofKind_79 : decode cX5_ofKind 79 = .ok (.dup, 1) := by decide +kernel
theorem dX5_ofKind_80 : decode cX5_ofKind 80 = .ok (.aload_n 1, 1) := by decide +kernel
theorem dX5_ofKind_81 : decode cX5_ofKind 81 = .ok (.invokespecial 28, 3) := by decide +kernel
theorem dX5_ofKind_84 : decode cX5_ofKind 84 = .ok (.astore_n 2, 1) := by decide +kernel
theorem dX5_ofKind_85 : decode cX5_ofKind 85 = .ok (.goto 36, 3) := by decide +kernel
theorem dX5_ofKind_88 : decode cX5_ofKind 88 = .ok (.new 29, 3) := by decide +kernel
theorem dX5_ofKind_91 : decode cX5_ofKind 91 = .ok (.dup, 1) := by decide +kernel
theorem dX5_ofKind_92 : decode cX5_ofKind 92 = .ok (.aload_n 1, 1) := by decide +kernel
theorem dX5_ofKind_93 : decode cX5_ofKind 93 = .ok (.invokespecial 31, 3) := by decide +kernel
theorem dX5_ofKind_96 : decode cX5_ofKind 96 = .ok (.astore_n 2, 1) := by decide +kernel
theorem dX5_ofKind_97 : decode cX5_ofKind 97 = .ok (.goto 24, 3) := by decide +kernel
theorem dX5_ofKind_100 : decode cX5_ofKind 100 = .ok (.new 32, 3) := by decide +kernel
theorem dX5_ofKind_103 : decode cX5_ofKind 103 = .ok (.dup, 1) := by decide +kernel
theorem dX5_ofKind_104 : decode cX5_ofKind 104 = .ok (.aload_n 1, 1) := by decide +kernel
theorem dX5_ofKind_105 : decode cX5_ofKind 105 = .ok (.invokespecial 34, 3) := by decide +kernel
theorem dX5_ofKind_108 : decode cX5_ofKind 108 = .ok (.astore_n 2, 1) := by decide +kernel
theorem dX5_ofKind_109 : decode cX5_ofKind 109 = .ok (.goto 12, 3) := by decide +kernel
theorem dX5_ofKind_112 : decode cX5_ofKind 112 = .ok (.new 10, 3) := by decide +kernel
theorem dX5_ofKind_115 : decode cX5_ofKind 115 = .ok (.dup, 1) := by decide +kernel
theorem dX5_ofKind_116 : decode cX5_ofKind 116 = .ok (.aload_n 1, 1) := by decide +kernel
theorem dX5_ofKind_117 : decode cX5_ofKind 117 = .ok (.invokespecial 35, 3) := by decide +kernel
theorem dX5_ofKind_120 : decode cX5_ofKind 120 = .ok (.astore_n 2, 1) := by decide +kernel
theorem dX5_ofKind_121 : decode cX5_ofKind 121 = .ok (.aload_n 2, 1) := by decide +kernel
theorem dX5_ofKind_122 : decode cX5_ofKind 122 = .ok (.iload_n 0, 1) := by decide +kernel
theorem dX5_ofKind_123 : decode cX5_ofKind 123 = .ok (.putfield 36, 3) := by decide +kernel
theorem dX5_ofKind_126 : decode cX5_ofKind 126 = .ok (.aload_n 2, 1) := by decide +kernel
theorem dX5_ofKind_127 : decode cX5_ofKind 127 = .ok (.areturn, 1) := by decide +kernel
theorem dX5_twin_0 : decode cX5_twin 0 = .ok (.aload_n 0, 1) := by decide +kernel
theorem dX5_twin_1 : decode cX5_twin 1 = .ok (.getfield 36, 3) := by decide +kernel
theorem dX5_twin_4 : decode cX5_twin 4 = .ok (.aload_n 0, 1) := by decide +kernel
theorem dX5_twin_5 : decode cX5_twin 5 = .ok (.getfield 9, 3) := by decide +kernel
theorem dX5_twin_8 : decode cX5_twin 8 = .ok (.invokestatic 40, 3) := by decide +kernel
theorem dX5_twin_11 : decode cX5_twin 11 = .ok (.astore_n 1, 1) := by decide +kernel
theorem dX5_twin_12 : decode cX5_twin 12 = .ok (.aload_n 1, 1) := by decide +kernel
theorem dX5_twin_13 : decode cX5_twin 13 = .ok (.aload_n 0, 1) := by decide +kernel
theorem dX5_twin_14 : decode cX5_twin 14 = .ok (.invokevirtual 44, 3) := by decide +kernel
theorem dX5_twin_17 : decode cX5_twin 17 = .ok (.aload_n 1, 1) := by decide +kernel
theorem dX5_twin_18 : decode cX5_twin 18 = .ok (.areturn, 1) := by decide +kernel
theorem dX5_copyFrom_0 : decode cX5_copyFrom 0 = .ok (.aload_n 0, 1) := by decide +kernel
theorem dX5_copyFrom_1 : decode cX5_copyFrom 1 = .ok (.aload_n 1, 1) := by decide +kernel
theorem dX5_copyFrom_2 : decode cX5_copyFrom 2 = .ok (.getfield 48, 3) := by decide +kernel
theorem dX5_copyFrom_5 : decode cX5_copyFrom 5 = .ok (.putfield 48, 3) := by decide +kernel
theorem dX5_copyFrom_8 : decode cX5_copyFrom 8 = .ok (.aload_n 0, 1) := by decide +kernel
theorem dX5_copyFrom_9 : decode cX5_copyFrom 9 = .ok (.aload_n 1, 1) := by decide +kernel
theorem dX5_copyFrom_10 : decode cX5_copyFrom 10 = .ok (.getfield 51, 3) := by decide +kernel
theorem dX5_copyFrom_13 : decode cX5_copyFrom 13 = .ok (.putfield 51, 3) := by decide +kernel
theorem dX5_copyFrom_16 : decode cX5_copyFrom 16 = .ok (.aload_n 0, 1) := by decide +kernel
theorem dX5_copyFrom_17 : decode cX5_copyFrom 17 = .ok (.aload_n 1, 1) := by decide +kernel
theorem dX5_copyFrom_18 : decode cX5_copyFrom 18 = .ok (.getfield 54, 3) := by decide +kernel
theorem dX5_copyFrom_21 : decode cX5_copyFrom 21 = .ok (.putfield 54, 3) := by decide +kernel
theorem dX5_copyFrom_24 : decode cX5_copyFrom 24 = .ok (.aload_n 0, 1) := by decide +kernel
theorem dX5_copyFrom_25 : decode cX5_copyFrom 25 = .ok (.aload_n 1, 1) := by decide +kernel
theorem dX5_copyFrom_26 : decode cX5_copyFrom 26 = .ok (.getfield 57, 3) := by decide +kernel
theorem dX5_copyFrom_29 : decode cX5_copyFrom 29 = .ok (.putfield 57, 3) := by decide +kernel
theorem dX5_copyFrom_32 : decode cX5_copyFrom 32 = .ok (.aload_n 0, 1) := by decide +kernel
theorem dX5_copyFrom_33 : decode cX5_copyFrom 33 = .ok (.aload_n 1, 1) := by decide +kernel
theorem dX5_copyFrom_34 : decode cX5_copyFrom 34 = .ok (.getfield 60, 3) := by decide +kernel
theorem dX5_copyFrom_37 : decode cX5_copyFrom 37 = .ok (.putfield 60, 3) := by decide +kernel
theorem dX5_copyFrom_40 : decode cX5_copyFrom 40 = .ok (.aload_n 0, 1) := by decide +kernel
theorem dX5_copyFrom_41 : decode cX5_copyFrom 41 = .ok (.aload_n 1, 1) := by decide +kernel
theorem dX5_copyFrom_42 : decode cX5_copyFrom 42 = .ok (.getfield 63, 3) := by decide +kernel
theorem dX5_copyFrom_45 : decode cX5_copyFrom 45 = .ok (.putfield 63, 3) := by decide +kernel
theorem dX5_copyFrom_48 : decode cX5_copyFrom 48 = .ok (.aload_n 0, 1) := by decide +kernel
theorem dX5_copyFrom_49 : decode cX5_copyFrom 49 = .ok (.aload_n 1, 1) := by decide +kernel
theorem dX5_copyFrom_50 : decode cX5_copyFrom 50 = .ok (.getfield 66, 3) := by decide +kernel
theorem dX5_copyFrom_53 : decode cX5_copyFrom 53 = .ok (.putfield 66, 3) := by decide +kernel
theorem dX5_copyFrom_56 : decode cX5_copyFrom 56 = .ok (.return_, 1) := by decide +kernel
theorem dX5_lean_0 : decode cX5_lean 0 = .ok (.iconst 0, 1) := by decide +kernel
theorem dX5_lean_1 : decode cX5_lean 1 = .ok (.ireturn, 1) := by decide +kernel
theorem dX5_unsureBy_0 : decode cX5_unsureBy 0 = .ok (.iconst 3, 1) := by decide +kernel
theorem dX5_unsureBy_1 : decode cX5_unsureBy 1 = .ok (.iload_n 2, 1) := by decide +kernel
theorem dX5_unsureBy_2 : decode cX5_unsureBy 2 = .ok (.iadd, 1) := by decide +kernel
theorem dX5_unsureBy_3 : decode cX5_unsureBy 3 = .ok (.iload_n 1, 1) := by decide +kernel
theorem dX5_unsureBy_4 : decode cX5_unsureBy 4 = .ok (.iconst 4, 1) := by decide +kernel
theorem dX5_unsureBy_5 : decode cX5_unsureBy 5 = .ok (.idiv, 1) := by decide +kernel
theorem dX5_unsureBy_6 : decode cX5_unsureBy 6 = .ok (.isub, 1) := by decide +kernel
theorem dX5_unsureBy_7 : decode cX5_unsureBy 7 = .ok (.istore_n 3, 1) := by decide +kernel
theorem dX5_unsureBy_8 : decode cX5_unsureBy 8 = .ok (.iload_n 3, 1) := by decide +kernel
theorem dX5_unsureBy_9 : decode cX5_unsureBy 9 = .ok (.ifCond .ge 7, 3) := by decide +kernel
theorem dX5_unsureBy_12 : decode cX5_unsureBy 12 = .ok (.iconst 0, 1) := by decide +kernel
theorem dX5_unsureBy_13 : decode cX5_unsureBy 13 = .ok (.goto 4, 3) := by decide +kernel
theorem dX5_unsureBy_16 : decode cX5_unsureBy 16 = .ok (.iload_n 3, 1) := by decide +kernel
theorem dX5_unsureBy_17 : decode cX5_unsureBy 17 = .ok (.ireturn, 1) := by decide +kernel
theorem dX5_hasTried_0 : decode cX5_hasTried 0 = .ok (.iload_n 2, 1) := by decide +kernel
theorem dX5_hasTried_1 : decode cX5_hasTried 1 = .ok (.iload_n 1, 1) := by decide +kernel
theorem dX5_hasTried_2 : decode cX5_hasTried 2 = .ok (.if_icmp .ne 43, 3) := by decide +kernel
theorem dX5_hasTried_5 : decode cX5_hasTried 5 = .ok (.aload_n 0, 1) := by decide +kernel
theorem dX5_hasTried_6 : decode cX5_hasTried 6 = .ok (.getfield 63, 3) := by decide +kernel
theorem dX5_hasTried_9 : decode cX5_hasTried 9 = .ok (.iload_n 1, 1) := by decide +kernel
theorem dX5_hasTried_10 : decode cX5_hasTried 10 = .ok (.isub, 1) := by decide +kernel
theorem dX5_hasTried_11 : decode cX5_hasTried 11 = .ok (.invokestatic 69, 3) := by decide +kernel
theorem dX5_hasTried_14 : decode cX5_hasTried 14 = .ok (.iconst 5, 1) := by decide +kernel
theorem dX5_hasTried_15 : decode cX5_hasTried 15 = .ok (.if_icmp .gt 18, 3) := by decide +kernel
theorem dX5_hasTried_18 : decode cX5_hasTried 18 = .ok (.aload_n 0, 1) := by decide +kernel
theorem dX5_hasTried_19 : decode cX5_hasTried 19 = .ok (.bipush 20, 2) := by decide +kernel
theorem dX5_hasTried_21 : decode cX5_hasTried 21 = .ok (.aload_n 0, 1) := by decide +kernel
theorem dX5_hasTried_22 : decode cX5_hasTried 22 = .ok (.getfield 54, 3) := by decide +kernel
theorem dX5_hasTried_25 : decode cX5_hasTried 25 = .ok (.iconst 1, 1) := by decide +kernel
theorem dX5_hasTried_26 : decode cX5_hasTried 26 = .ok (.iadd, 1) := by decide +kernel
theorem dX5_hasTried_27 : decode cX5_hasTried 27 = .ok (.invokestatic 75, 3) := by decide +kernel
theorem dX5_hasTried_30 : decode cX5_hasTried 30 = .ok (.putfield 54, 3) := by decide +kernel
theorem dX5_hasTried_33 : decode cX5_hasTried 33 = .ok (.aload_n 0, 1) := by decide +kernel
theorem dX5_hasTried_34 : decode cX5_hasTried 34 = .ok (.aload_n 0, 1) := by decide +kernel
theorem dX5_hasTried_35 : decode cX5_hasTried 35 = .ok (.getfield 63, 3) := by decide +kernel
theorem dX5_hasTried_38 : decode cX5_hasTried 38 = .ok (.iload_n 1, 1) := by decide +kernel
theorem dX5_hasTried_39 : decode cX5_hasTried 39 = .ok (.invokestatic 79, 3) := by decide +kernel
theorem dX5_hasTried_42 : decode cX5_hasTried 42 = .ok (.putfield 63, 3) := by decide +kernel
theorem dX5_hasTried_45 : decode cX5_hasTried 45 = .ok (.aload_n 0, 1) := by decide +kernel
theorem dX5_hasTried_46 : decode cX5_hasTried 46 = .ok (.iconst 0, 1) := by decide +kernel
theorem dX5_hasTried_47 : decode cX5_hasTried 47 = .ok (.aload_n 0, 1) := by decide +kernel
theorem dX5_hasTried_48 : decode cX5_hasTried 48 = .ok (.getfield 66, 3) := by decide +kernel
theorem dX5_hasTried_51 : decode cX5_hasTried 51 = .ok (.iload_n 3, 1) := by decide +kernel
theorem dX5_hasTried_52 : decode cX5_hasTried 52 = .ok (.iload_n 1, 1) := by decide +kernel
theorem dX5_hasTried_53 : decode cX5_hasTried 53 = .ok (.iload_n 2, 1) := by decide +kernel
theorem dX5_hasTried_54 : decode cX5_hasTried 54 = .ok (.isub, 1) := by decide +kernel
theorem dX5_hasTried_55 : decode cX5_hasTried 55 = .ok (.imul, 1) := by decide +kernel
theorem dX5_hasTried_56 : decode cX5_hasTried 56 = .ok (.isub, 1) := by decide +kernel
theorem dX5_hasTried_57 : decode cX5_hasTried 57 = .ok (.invokestatic 79, 3) := by decide +kernel
theorem dX5_hasTried_60 : decode cX5_hasTried 60 = .ok (.putfield 66, 3) := by decide +kernel
theorem dX5_hasTried_63 : decode cX5_hasTried 63 = .ok (.return_, 1) := by decide +kernel
theorem dX5_strikes_0 : decode cX5_strikes 0 = .ok (.aload_n 0, 1) := by decide +kernel
theorem dX5_strikes_1 : decode cX5_strikes 1 = .ok (.iconst 1, 1) := by decide +kernel
theorem dX5_strikes_2 : decode cX5_strikes 2 = .ok (.invokevirtual 82, 3) := by decide +kernel
theorem dX5_strikes_5 : decode cX5_strikes 5 = .ok (.iload_n 1, 1) := by decide +kernel
theorem dX5_strikes_6 : decode cX5_strikes 6 = .ok (.aload_n 0, 1) := by decide +kernel
theorem dX5_strikes_7 : decode cX5_strikes 7 = .ok (.getfield 48, 3) := by decide +kernel
theorem dX5_strikes_10 : decode cX5_strikes 10 = .ok (.iadd, 1) := by decide +kernel
theorem dX5_strikes_11 : decode cX5_strikes 11 = .ok (.ireturn, 1) := by decide +kernel
theorem dX5_catches_0 : decode cX5_catches 0 = .ok (.aload_n 0, 1) := by decide +kernel
theorem dX5_catches_1 : decode cX5_catches 1 = .ok (.iconst 2, 1) := by decide +kernel
theorem dX5_catches_2 : decode cX5_catches 2 = .ok (.invokevirtual 82, 3) := by decide +kernel
theorem dX5_catches_5 : decode cX5_catches 5 = .ok (.aload_n 0, 1) := by decide +kernel
theorem dX5_catches_6 : decode cX5_catches 6 = .ok (.iload_n 1, 1) := by decide +kernel
theorem dX5_catches_7 : decode cX5_catches 7 = .ok (.invokevirtual 86, 3) := by decide +kernel
theorem dX5_catches_10 : decode cX5_catches 10 = .ok (.aload_n 0, 1) := by decide +kernel
theorem dX5_catches_11 : decode cX5_catches 11 = .ok (.getfield 51, 3) := by decide +kernel
theorem dX5_catches_14 : decode cX5_catches 14 = .ok (.isub, 1) := by decide +kernel
theorem dX5_catches_15 : decode cX5_catches 15 = .ok (.ireturn, 1) := by decide +kernel
theorem dX5_tells_0 : decode cX5_tells 0 = .ok (.aload_n 0, 1) := by decide +kernel
theorem dX5_tells_1 : decode cX5_tells 1 = .ok (.iconst 3, 1) := by decide +kernel
theorem dX5_tells_2 : decode cX5_tells 2 = .ok (.invokevirtual 82, 3) := by decide +kernel
theorem dX5_tells_5 : decode cX5_tells 5 = .ok (.aload_n 0, 1) := by decide +kernel
theorem dX5_tells_6 : decode cX5_tells 6 = .ok (.iload_n 1, 1) := by decide +kernel
theorem dX5_tells_7 : decode cX5_tells 7 = .ok (.invokevirtual 89, 3) := by decide +kernel
theorem dX5_tells_10 : decode cX5_tells 10 = .ok (.iconst 2, 1) := by decide +kernel
theorem dX5_tells_11 : decode cX5_tells 11 = .ok (.imul, 1) := by decide +kernel
theorem dX5_tells_12 : decode cX5_tells 12 = .ok (.ireturn, 1) := by decide +kernel
theorem dX5_begins_0 : decode cX5_begins 0 = .ok (.aload_n 0, 1) := by decide +kernel
theorem dX5_begins_1 : decode cX5_begins 1 = .ok (.getfield 9, 3) := by decide +kernel
theorem dX5_begins_4 : decode cX5_begins 4 = .ok (.iconst 0, 1) := by decide +kernel
theorem dX5_begins_5 : decode cX5_begins 5 = .ok (.iaload, 1) := by decide +kernel
theorem dX5_begins_6 : decode cX5_begins 6 = .ok (.iconst 1, 1) := by decide +kernel
theorem dX5_begins_7 : decode cX5_begins 7 = .ok (.iadd, 1) := by decide +kernel
theorem dX5_begins_8 : decode cX5_begins 8 = .ok (.istore_n 2, 1) := by decide +kernel
theorem dX5_begins_9 : decode cX5_begins 9 = .ok (.aload_n 0, 1) := by decide +kernel
theorem dX5_begins_10 : decode cX5_begins 10 = .ok (.getfield 9, 3) := by decide +kernel
theorem dX5_begins_13 : decode cX5_begins 13 = .ok (.iconst 0, 1) := by decide +kernel
theorem dX5_begins_14 : decode cX5_begins 14 = .ok (.iload_n 2, 1) := by decide +kernel
theorem dX5_begins_15 : decode cX5_begins 15 = .ok (.iastore, 1) := by decide +kernel
theorem dX5_begins_16 : decode cX5_begins 16 = .ok (.iload_n 2, 1) := by decide +kernel
theorem dX5_begins_17 : decode cX5_begins 17 = .ok (.ifCond .le 19, 3) := by decide +kernel
theorem dX5_begins_20 : decode cX5_begins 20 = .ok (.iload_n 2, 1) := by decide +kernel
theorem dX5_begins_21 : decode cX5_begins 21 = .ok (.aload_n 0, 1) := by decide +kernel
theorem dX5_begins_22 : decode cX5_begins 22 = .ok (.getfield 9, 3) := by decide +kernel
theorem dX5_begins_25 : decode cX5_begins 25 = .ok (.arraylength, 1) := by decide +kernel
theorem dX5_begins_26 : decode cX5_begins 26 = .ok (.if_icmp .ge 10, 3) := by decide +kernel
theorem dX5_begins_29 : decode cX5_begins 29 = .ok (.aload_n 0, 1) := by decide +kernel
theorem dX5_begins_30 : decode cX5_begins 30 = .ok (.getfield 9, 3) := by decide +kernel
theorem dX5_begins_33 : decode cX5_begins 33 = .ok (.iload_n 2, 1) := by decide +kernel
theorem dX5_begins_34 : decode cX5_begins 34 = .ok (.iload_n 1, 1) := by decide +kernel
theorem dX5_begins_35 : decode cX5_begins 35 = .ok (.iastore, 1) := by decide +kernel
theorem dX5_begins_36 : decode cX5_begins 36 = .ok (.return_, 1) := by decide +kernel
theorem dX6_init_0 : decode cX6_init 0 = .ok (.aload_n 0, 1) := by decide +kernel
theorem dX6_init_1 : decode cX6_init 1 = .ok (.invokespecial 3, 3) := by decide +kernel
theorem dX6_init_4 : decode cX6_init 4 = .ok (.aload_n 0, 1) := by decide +kernel
theorem dX6_init_5 : decode cX6_init 5 = .ok (.new 9, 3) := by decide +kernel
theorem dX6_init_8 : decode cX6_init 8 = .ok (.dup, 1) := by decide +kernel
theorem dX6_init_9 : decode cX6_init 9 = .ok (.invokespecial 11, 3) := by decide +kernel
theorem dX6_init_12 : decode cX6_init 12 = .ok (.putfield 12, 3) := by decide +kernel
theorem dX6_init_15 : decode cX6_init 15 = .ok (.aload_n 0, 1) := by decide +kernel
theorem dX6_init_16 : decode cX6_init 16 = .ok (.iconst (-1), 1) := by decide +kernel
theorem dX6_init_17 : decode cX6_init 17 = .ok (.putfield 18, 3) := by decide +kernel
theorem dX6_init_20 : decode cX6_init 20 = .ok (.aload_n 0, 1) := by decide +kernel
theorem dX6_init_21 : decode cX6_init 21 = .ok (.aload_n 1, 1) := by decide +kernel
theorem dX6_init_22 : decode cX6_init 22 = .ok (.putfield 22, 3) := by decide +kernel
theorem dX6_init_25 : decode cX6_init 25 = .ok (.aload_n 0, 1) := by decide +kernel
theorem dX6_init_26 : decode cX6_init 26 = .ok (.iload_n 2, 1) := by decide +kernel
theorem dX6_init_27 : decode cX6_init 27 = .ok (.aload_n 1, 1) := by decide +kernel
theorem dX6_init_28 : decode cX6_init 28 = .ok (.arraylength, 1) := by decide +kernel
theorem dX6_init_29 : decode cX6_init 29 = .ok (.invokestatic 26, 3) := by decide +kernel
theorem dX6_init_32 : decode cX6_init 32 = .ok (.putfield 32, 3) := by decide +kernel
theorem dX6_init_35 : decode cX6_init 35 = .ok (.return_, 1) := by decide +kernel
theorem dX6_read_0 : decode cX6_read 0 = .ok (.aload_n 0, 1) := by decide +kernel
theorem dX6_read_1 : decode cX6_read 1 = .ok (.invokevirtual 35, 3) := by decide +kernel
theorem dX6_read_4 : decode cX6_read 4 = .ok (.iconst 1, 1) := by decide +kernel
theorem dX6_read_5 : decode cX6_read 5 = .ok (.istore_n 1, 1) := by decide +kernel
theorem dX6_read_6 : decode cX6_read 6 = .ok (.iload_n 1, 1) := by decide +kernel
theorem dX6_read_7 : decode cX6_read 7 = .ok (.bipush 10, 2) := by decide +kernel
theorem dX6_read_9 : decode cX6_read 9 = .ok (.if_icmp .ge 22, 3) := by decide +kernel
theorem dX6_read_12 : decode cX6_read 12 = .ok (.aload_n 0, 1) := by decide +kernel
theorem dX6_read_13 : decode cX6_read 13 = .ok (.bipush 59, 2) := by decide +kernel
theorem dX6_read_15 : decode cX6_read 15 = .ok (.invokevirtual 38, 3) := by decide +kernel
theorem dX6_read_18 : decode cX6_read 18 = .ok (.ifCond .eq 13, 3) := by decide +kernel
theorem dX6_read_21 : decode cX6_read 21 = .ok (.aload_n 0, 1) := by decide +kernel
theorem dX6_read_22 : decode cX6_read 22 = .ok (.invokevirtual 35, 3) := by decide +kernel
theorem dX6_read_25 : decode cX6_read 25 = .ok (.iinc 1 1, 3) := by decide +kernel
theorem dX6_read_28 : decode cX6_read 28 = .ok (.goto (-22), 3) := by decide +kernel
theorem dX6_read_31 : decode cX6_read 31 = .ok (.aload_n 0, 1) := by decide +kernel
theorem dX6_read_32 : decode cX6_read 32 = .ok (.getfield 42, 3) := by decide +kernel
theorem dX6_read_35 : decode cX6_read 35 = .ok (.aload_n 0, 1) := by decide +kernel
theorem dX6_read_36 : decode cX6_read 36 = .ok (.getfield 32, 3) := by decide +kernel
theorem dX6_read_39 : decode cX6_read 39 = .ok (.if_icmp .ge 7, 3) := by decide +kernel
theorem dX6_read_42 : decode cX6_read 42 = .ok (.aload_n 0, 1) := by decide +kernel
theorem dX6_read_43 : decode cX6_read 43 = .ok (.invokevirtual 45, 3) := by decide +kernel
theorem dX6_read_46 : decode cX6_read 46 = .ok (.aload_n 0, 1) := by decide +kernel
theorem dX6_read_47 : decode cX6_read 47 = .ok (.getfield 18, 3) := by decide +kernel
theorem dX6_read_50 : decode cX6_read 50 = .ok (.ifCond .ge 10, 3) := by decide +kernel
theorem dX6_read_53 : decode cX6_read 53 = .ok (.aload_n 0, 1) := by decide +kernel
theorem dX6_read_54 : decode cX6_read 54 = .ok (.getfield 12, 3) := by decide +kernel
theorem dX6_read_57 : decode cX6_read 57 = .ok (.goto 4, 3) := by decide +kernel
theorem dX6_read_60 : decode cX6_read 60 = .ok (.aconst_null, 1) := by decide +kernel
theorem dX6_read_61 : decode cX6_read 61 = .ok (.areturn, 1) := by decide +kernel
theorem dX6_clause_0 : decode cX6_clause 0 = .ok (.aload_n 0, 1) := by decide +kernel
theorem dX6_clause_1 : decode cX6_clause 1 = .ok (.ldc 48, 2) := by decide +kernel
theorem dX6_clause_3 : decode cX6_clause 3 = .ok (.invokevirtual 50, 3) := by decide +kernel
theorem dX6_clause_6 : decode cX6_clause 6 = .ok (.istore_n 1, 1) := by decide +kernel
theorem dX6_clause_7 : decode cX6_clause 7 = .ok (.aload_n 0, 1) := by decide +kernel
theorem dX6_clause_8 : decode cX6_clause 8 = .ok (.iload_n 1, 1) := by decide +kernel
theorem dX6_clause_9 : decode cX6_clause 9 = .ok (.ifCond .ne 8, 3) := by decide +kernel
theorem dX6_clause_12 : decode cX6_clause 12 = .ok (.ldc 54, 2) := by decide +kernel
theorem dX6_clause_14 : decode cX6_clause 14 = .ok (.goto 25, 3) := by decide +kernel
theorem dX6_clause_17 : decode cX6_clause 17 = .ok (.iload_n 1, 1) := by decide +kernel
theorem dX6_clause_18 : decode cX6_clause 18 = .ok (.iconst 1, 1) := by decide +kernel
theorem dX6_clause_19 : decode cX6_clause 19 = .ok (.if_icmp .ne 8, 3) := by decide +kernel
theorem dX6_clause_22 : decode cX6_clause 22 = .ok (.ldc 56, 2) := by decide +kernel
theorem dX6_clause_24 : decode cX6_clause 24 = .ok (.goto 15, 3) := by decide +kernel
theorem dX6_clause_27 : decode cX6_clause 27 = .ok (.iload_n 1, 1) := by decide +kernel
theorem dX6_clause_28 : decode cX6_clause 28 = .ok (.iconst 2, 1) := by decide +kernel
theorem dX6_clause_29 : decode cX6_clause 29 = .ok (.if_icmp .ne 8, 3) := by decide +kernel
theorem dX6_clause_32 : decode cX6_clause 32 = .ok (.ldc 58, 2) := by decide +kernel
theorem dX6_clause_34 : decode cX6_clause 34 = .ok (.goto 5, 3) := by decide +kernel
theorem dX6_clause_37 : decode cX6_clause 37 = .ok (.ldc 60, 2) := by decide +kernel
theorem dX6_clause_39 : decode cX6_clause 39 = .ok (.invokevirtual 62, 3) := by decide +kernel
theorem dX6_clause_42 : decode cX6_clause 42 = .ok (.aload_n 0, 1) := by decide +kernel
theorem dX6_clause_43 : decode cX6_clause 43 = .ok (.invokevirtual 66, 3) := by decide +kernel
theorem dX6_clause_46 : decode cX6_clause 46 = .ok (.istore_n 2, 1) := by decide +kernel
theorem dX6_clause_47 : decode cX6_clause 47 = .ok (.iload_n 1, 1) := by decide +kernel
theorem dX6_clause_48 : decode cX6_clause 48 = .ok (.ifCond .ne 14, 3) := by decide +kernel
theorem dX6_clause_51 : decode cX6_clause 51 = .ok (.aload_n 0, 1) := by decide +kernel
theorem dX6_clause_52 : decode cX6_clause 52 = .ok (.getfield 12, 3) := by decide +kernel
theorem dX6_clause_55 : decode cX6_clause 55 = .ok (.iload_n 2, 1) := by decide +kernel
theorem dX6_clause_56 : decode cX6_clause 56 = .ok (.putfield 70, 3) := by decide +kernel
theorem dX6_clause_59 : decode cX6_clause 59 = .ok (.goto 48, 3) := by decide +kernel
theorem dX6_clause_62 : decode cX6_clause 62 = .ok (.iload_n 1, 1) := by decide +kernel
theorem dX6_clause_63 : decode cX6_clause 63 = .ok (.iconst 1, 1) := by decide +kernel
theorem dX6_clause_64 : decode cX6_clause 64 = .ok (.if_icmp .ne 14, 3) := by decide +kernel
theorem dX6_clause_67 : decode cX6_clause 67 = .ok (.aload_n 0, 1) := by decide +kernel
theorem dX6_clause_68 : decode cX6_clause 68 = .ok (.getfield 12, 3) := by decide +kernel
theorem dX6_clause_71 : decode cX6_clause 71 = .ok (.iload_n 2, 1) := by decide +kernel
theorem dX6_clause_72 : decode cX6_clause 72 = .ok (.putfield 73, 3) := by decide +kernel
theorem dX6_clause_75 : decode cX6_clause 75 = .ok (.goto 32, 3) := by decide +kernel
theorem dX6_clause_78 : decode cX6_clause 78 = .ok (.aload_n 0, 1) := by decide +kernel
theorem dX6_clause_79 : decode cX6_clause 79 = .ok (.ldc 76, 2) := by decide +kernel
theorem dX6_clause_81 : decode cX6_clause 81 = .ok (.invokevirtual 62, 3) := by decide +kernel
theorem dX6_clause_84 : decode cX6_clause 84 = .ok (.aload_n 0, 1) := by decide +kernel
theorem dX6_clause_85 : decode cX6_clause 85 = .ok (.iconst 0, 1) := by decide +kernel
theorem dX6_clause_86 : decode cX6_clause 86 = .ok (.invokevirtual 78, 3) := by decide +kernel
theorem dX6_clause_89 : decode cX6_clause 89 = .ok (.aload_n 0, 1) := by decide +kernel
theorem dX6_clause_90 : decode cX6_clause 90 = .ok (.getfield 12, 3) := by decide +kernel
theorem dX6_clause_93 : decode cX6_clause 93 = .ok (.iload_n 1, 1) := by decide +kernel
theorem dX6_clause_94 : decode cX6_clause 94 = .ok (.iconst 2, 1) := by decide +kernel
theorem dX6_clause_95 : decode cX6_clause 95 = .ok (.if_icmp .ne 7, 3) := by decide +kernel
theorem dX6_clause_98 : decode cX6_clause 98 = .ok (.iload_n 2, 1) := by decide +kernel
theorem dX6_clause_99 : decode cX6_clause 99 = .ok (.goto 5, 3) := by decide +kernel
theorem dX6_clause_102 : decode cX6_clause 102 = .ok (.iload_n 2, 1) := by decide +kernel
theorem dX6_clause_103 : decode cX6_clause 103 = .ok (.ineg, 1) := by decide +kernel
theorem dX6_clause_104 : decode cX6_clause 104 = .ok (.invokevirtual 82, 3) := by decide +kernel
theorem dX6_clause_107 : decode cX6_clause 107 = .ok (.return_, 1) := by decide +kernel
theorem dX6_either_0 : decode cX6_either 0 = .ok (.aload_n 0, 1) := by decide +kernel
theorem dX6_either_1 : decode cX6_either 1 = .ok (.iload_n 1, 1) := by decide +kernel
theorem dX6_either_2 : decode cX6_either 2 = .ok (.invokevirtual 85, 3) := by decide +kernel
theorem dX6_either_5 : decode cX6_either 5 = .ok (.iconst 0, 1) := by decide +kernel
theorem dX6_either_6 : decode cX6_either 6 = .ok (.istore_n 2, 1) := by decide +kernel
theorem dX6_either_7 : decode cX6_either 7 = .ok (.iload_n 2, 1) := by decide +kernel
theorem dX6_either_8 : decode cX6_either 8 = .ok (.bipush 100, 2) := by decide +kernel
theorem dX6_either_10 : decode cX6_either 10 = .ok (.if_icmp .ge 32, 3) := by decide +kernel
theorem dX6_either_13 : decode cX6_either 13 = .ok (.aload_n 0, 1) := by decide +kernel
theorem dX6_either_14 : decode cX6_either 14 = .ok (.bipush 124, 2) := by decide +kernel
theorem dX6_either_16 : decode cX6_either 16 = .ok (.invokevirtual 38, 3) := by decide +kernel
theorem dX6_either_19 : decode cX6_either 19 = .ok (.ifCond .eq 23, 3) := by decide +kernel
theorem dX6_either_22 : decode cX6_either 22 = .ok (.aload_n 0, 1) := by decide +kernel
theorem dX6_either_23 : decode cX6_either 23 = .ok (.iload_n 1, 1) := by decide +kernel
theorem dX6_either_24 : decode cX6_either 24 = .ok (.invokevirtual 85, 3) := by decide +kernel
theorem dX6_either_27 : decode cX6_either 27 = .ok (.aload_n 0, 1) := by decide +kernel
theorem dX6_either_28 : decode cX6_either 28 = .ok (.getfield 12, 3) := by decide +kernel
theorem dX6_either_31 : decode cX6_either 31 = .ok (.bipush (-3), 2) := by decide +kernel
theorem dX6_either_33 : decode cX6_either 33 = .ok (.invokevirtual 88, 3) := by decide +kernel
theorem dX6_either_36 : decode cX6_either 36 = .ok (.iinc 2 1, 3) := by decide +kernel
theorem dX6_either_39 : decode cX6_either 39 = .ok (.goto (-32), 3) := by decide +kernel
theorem dX6_either_42 : decode cX6_either 42 = .ok (.return_, 1) := by decide +kernel
theorem dX6_both_0 : decode cX6_both 0 = .ok (.aload_n 0, 1) := by decide +kernel
theorem dX6_both_1 : decode cX6_both 1 = .ok (.iload_n 1, 1) := by decide +kernel
theorem dX6_both_2 : decode cX6_both 2 = .ok (.invokevirtual 91, 3) := by decide +kernel
theorem dX6_both_5 : decode cX6_both 5 = .ok (.iconst 0, 1) := by decide +kernel
theorem dX6_both_6 : decode cX6_both 6 = .ok (.istore_n 2, 1) := by decide +kernel
theorem dX6_both_7 : decode cX6_both 7 = .ok (.iload_n 2, 1) := by decide +kernel
theorem dX6_both_8 : decode cX6_both 8 = .ok (.bipush 100, 2) := by decide +kernel
theorem dX6_both_10 : decode cX6_both 10 = .ok (.if_icmp .ge 32, 3) := by decide +kernel
theorem dX6_both_13 : decode cX6_both 13 = .ok (.aload_n 0, 1) := by decide +kernel
theorem dX6_both_14 : decode cX6_both 14 = .ok (.bipush 38, 2) := by decide +kernel
theorem dX6_both_16 : decode cX6_both 16 = .ok (.invokevirtual 38, 3) := by decide +kernel
theorem dX6_both_19 : decode cX6_both 19 = .ok (.ifCond .eq 23, 3) := by decide +kernel
theorem dX6_both_22 : decode cX6_both 22 = .ok (.aload_n 0, 1) := by decide +kernel
theorem dX6_both_23 : decode cX6_both 23 = .ok (.iload_n 1, 1) := by decide +kernel
theorem dX6_both_24 : decode cX6_both 24 = .ok (.invokevirtual 91, 3) := by decide +kernel
theorem dX6_both_27 : decode cX6_both 27 = .ok (.aload_n 0, 1) := by decide +kernel
theorem dX6_both_28 : decode cX6_both 28 = .ok (.getfield 12, 3) := by decide +kernel
theorem dX6_both_31 : decode cX6_both 31 = .ok (.bipush (-2), 2) := by decide +kernel
theorem dX6_both_33 : decode cX6_both 33 = .ok (.invokevirtual 88, 3) := by decide +kernel
theorem dX6_both_36 : decode cX6_both 36 = .ok (.iinc 2 1, 3) := by decide +kernel
theorem dX6_both_39 : decode cX6_both 39 = .ok (.goto (-32), 3) := by decide +kernel
theorem dX6_both_42 : decode cX6_both 42 = .ok (.return_, 1) := by decide +kernel
theorem dX6_factor_0 : decode cX6_factor 0 = .ok (.iload_n 1, 1) := by decide +kernel
theorem dX6_factor_1 : decode cX6_factor 1 = .ok (.iconst 5, 1) := by decide +kernel
theorem dX6_factor_2 : decode cX6_factor 2 = .ok (.if_icmp .ge 30, 3) := by decide +kernel
theorem dX6_factor_5 : decode cX6_factor 5 = .ok (.aload_n 0, 1) := by decide +kernel
theorem dX6_factor_6 : decode cX6_factor 6 = .ok (.bipush 33, 2) := by decide +kernel
theorem dX6_factor_8 : decode cX6_factor 8 = .ok (.invokevirtual 38, 3) := by decide +kernel
theorem dX6_factor_11 : decode cX6_factor 11 = .ok (.ifCond .eq 21, 3) := by decide +kernel
theorem dX6_factor_14 : decode cX6_factor 14 = .ok (.aload_n 0, 1) := by decide +kernel
theorem dX6_factor_15 : decode cX6_factor 15 = .ok (.iload_n 1, 1) := by decide +kernel
theorem dX6_factor_16 : decode cX6_factor 16 = .ok (.iconst 1, 1) := by decide +kernel
theorem dX6_factor_17 : decode cX6_factor 17 = .ok (.iadd, 1) := by decide +kernel
theorem dX6_factor_18 : decode cX6_factor 18 = .ok (.invokevirtual 91, 3) := by decide +kernel
theorem dX6_factor_21 : decode cX6_factor 21 = .ok (.aload_n 0, 1) := by decide +kernel
theorem dX6_factor_22 : decode cX6_factor 22 = .ok (.getfield 12, 3) := by decide +kernel
theorem dX6_factor_25 : decode cX6_factor 25 = .ok (.iconst (-1), 1) := by decide +kernel
theorem dX6_factor_26 : decode cX6_factor 26 = .ok (.invokevirtual 88, 3) := by decide +kernel
theorem dX6_factor_29 : decode cX6_factor 29 = .ok (.goto 60, 3) := by decide +kernel
theorem dX6_factor_32 : decode cX6_factor 32 = .ok (.iload_n 1, 1) := by decide +kernel
theorem dX6_factor_33 : decode cX6_factor 33 = .ok (.iconst 5, 1) := by decide +kernel
theorem dX6_factor_34 : decode cX6_factor 34 = .ok (.if_icmp .ge 28, 3) := by decide +kernel
theorem dX6_factor_37 : decode cX6_factor 37 = .ok (.aload_n 0, 1) := by decide +kernel
theorem dX6_factor_38 : decode cX6_factor 38 = .ok (.bipush 40, 2) := by decide +kernel
theorem dX6_factor_40 : decode cX6_factor 40 = .ok (.invokevirtual 38, 3) := by decide +kernel
theorem dX6_factor_43 : decode cX6_factor 43 = .ok (.ifCond .eq 19, 3) := by decide +kernel
theorem dX6_factor_46 : decode cX6_factor 46 = .ok (.aload_n 0, 1) := by decide +kernel
theorem dX6_factor_47 : decode cX6_factor 47 = .ok (.iload_n 1, 1) := by decide +kernel
theorem dX6_factor_48 : decode cX6_factor 48 = .ok (.iconst 1, 1) := by decide +kernel
theorem dX6_factor_49 : decode cX6_factor 49 = .ok (.iadd, 1) := by decide +kernel
theorem dX6_factor_50 : decode cX6_factor 50 = .ok (.invokevirtual 78, 3) := by decide +kernel
theorem dX6_factor_53 : decode cX6_factor 53 = .ok (.aload_n 0, 1) := by decide +kernel
theorem dX6_factor_54 : decode cX6_factor 54 = .ok (.ldc 94, 2) := by decide +kernel
theorem dX6_factor_56 : decode cX6_factor 56 = .ok (.invokevirtual 62, 3) := by decide +kernel
theorem dX6_factor_59 : decode cX6_factor 59 = .ok (.goto 30, 3) := by decide +kernel
theorem dX6_factor_62 : decode cX6_factor 62 = .ok (.aload_n 0, 1) := by decide +kernel
theorem dX6_factor_63 : decode cX6_factor 63 = .ok (.ldc 96, 2) := by decide +kernel
theorem dX6_factor_65 : decode cX6_factor 65 = .ok (.invokevirtual 50, 3) := by decide +kernel
theorem dX6_factor_68 : decode cX6_factor 68 = .ok (.istore_n 2, 1) := by decide +kernel
theorem dX6_factor_69 : decode cX6_factor 69 = .ok (.aload_n 0, 1) := by decide +kernel
theorem dX6_factor_70 : decode cX6_factor 70 = .ok (.ldc 98, 2) := by decide +kernel
theorem dX6_factor_72 : decode cX6_factor 72 = .ok (.invokevirtual 50, 3) := by decide +kernel
theorem dX6_factor_75 : decode cX6_factor 75 = .ok (.istore_n 3, 1) := by decide +kernel
theorem dX6_factor_76 : decode cX6_factor 76 = .ok (.aload_n 0, 1) := by decide +kernel
theorem dX6_factor_77 : decode cX6_factor 77 = .ok (.getfield 12, 3) := by decide +kernel
theorem dX6_factor_80 : decode cX6_factor 80 = .ok (.iload_n 2, 1) := by decide +kernel
theorem dX6_factor_81 : decode cX6_factor 81 = .ok (.iload_n 3, 1) := by decide +kernel
theorem dX6_factor_82 : decode cX6_factor 82 = .ok (.aload_n 0, 1) := by decide +kernel
theorem dX6_factor_83 : decode cX6_factor 83 = .ok (.invokevirtual 66, 3) := by decide +kernel
theorem dX6_factor_86 : decode cX6_factor 86 = .ok (.invokevirtual 100, 3) := by decide +kernel
theorem dX6_factor_89 : decode cX6_factor 89 = .ok (.return_, 1) := by decide +kernel
theorem dX6_number_0 : decode cX6_number 0 = .ok (.aload_n 0, 1) := by decide +kernel
theorem dX6_number_1 : decode cX6_number 1 = .ok (.invokevirtual 104, 3) := by decide +kernel
theorem dX6_number_4 : decode cX6_number 4 = .ok (.istore_n 1, 1) := by decide +kernel
theorem dX6_number_5 : decode cX6_number 5 = .ok (.iload_n 1, 1) := by decide +kernel
theorem dX6_number_6 : decode cX6_number 6 = .ok (.ifCond .ge 7, 3) := by decide +kernel
theorem dX6_number_9 : decode cX6_number 9 = .ok (.aload_n 0, 1) := by decide +kernel
theorem dX6_number_10 : decode cX6_number 10 = .ok (.invokevirtual 45, 3) := by decide +kernel
theorem dX6_number_13 : decode cX6_number 13 = .ok (.iload_n 1, 1) := by decide +kernel
theorem dX6_number_14 : decode cX6_number 14 = .ok (.ifCond .gt 5, 3) := by decide +kernel
theorem dX6_number_17 : decode cX6_number 17 = .ok (.iconst 0, 1) := by decide +kernel
theorem dX6_number_18 : decode cX6_number 18 = .ok (.ireturn, 1) := by decide +kernel
theorem dX6_number_19 : decode cX6_number 19 = .ok (.aload_n 0, 1) := by decide +kernel
theorem dX6_number_20 : decode cX6_number 20 = .ok (.invokevirtual 104, 3) := by decide +kernel
theorem dX6_number_23 : decode cX6_number 23 = .ok (.istore_n 2, 1) := by decide +kernel
theorem dX6_number_24 : decode cX6_number 24 = .ok (.iload_n 2, 1) := by decide +kernel
theorem dX6_number_25 : decode cX6_number 25 = .ok (.ifCond .ge 7, 3) := by decide +kernel
theorem dX6_number_28 : decode cX6_number 28 = .ok (.iload_n 1, 1) := by decide +kernel
theorem dX6_number_29 : decode cX6_number 29 = .ok (.goto 9, 3) := by decide +kernel
theorem dX6_number_32 : decode cX6_number 32 = .ok (.bipush 10, 2) := by decide +kernel
theorem dX6_number_34 : decode cX6_number 34 = .ok (.iload_n 1, 1) := by decide +kernel
theorem dX6_number_35 : decode cX6_number 35 = .ok (.imul, 1) := by decide +kernel
theorem dX6_number_36 : decode cX6_number 36 = .ok (.iload_n 2, 1) := by decide +kernel
theorem dX6_number_37 : decode cX6_number 37 = .ok (.iadd, 1) := by decide +kernel
theorem dX6_number_38 : decode cX6_number 38 = .ok (.ireturn, 1) := by decide +kernel
theorem dX6_digit_0 : decode cX6_digit 0 = .ok (.aload_n 0, 1) := by decide +kernel
theorem dX6_digit_1 : decode cX6_digit 1 = .ok (.getfield 18, 3) := by decide +kernel
theorem dX6_digit_4 : decode cX6_digit 4 = .ok (.ifCond .ge 42, 3) := by decide +kernel
theorem dX6_digit_7 : decode cX6_digit 7 = .ok (.aload_n 0, 1) := by decide +kernel
theorem dX6_digit_8 : decode cX6_digit 8 = .ok (.getfield 42, 3) := by decide +kernel
theorem dX6_digit_11 : decode cX6_digit 11 = .ok (.aload_n 0, 1) := by decide +kernel
theorem dX6_digit_12 : decode cX6_digit 12 = .ok (.getfield 32, 3) := by decide +kernel
theorem dX6_digit_15 : decode cX6_digit 15 = .ok (.if_icmp .ge 31, 3) := by decide +kernel
theorem dX6_digit_18 : decode cX6_digit 18 = .ok (.aload_n 0, 1) := by decide +kernel
theorem dX6_digit_19 : decode cX6_digit 19 = .ok (.getfield 22, 3) := by decide +kernel
theorem dX6_digit_22 : decode cX6_digit 22 = .ok (.aload_n 0, 1) := by decide +kernel
theorem dX6_digit_23 : decode cX6_digit 23 = .ok (.getfield 42, 3) := by decide +kernel
theorem dX6_digit_26 : decode cX6_digit 26 = .ok (.iaload, 1) := by decide +kernel
theorem dX6_digit_27 : decode cX6_digit 27 = .ok (.bipush 48, 2) := by decide +kernel
theorem dX6_digit_29 : decode cX6_digit 29 = .ok (.if_icmp .lt 17, 3) := by decide +kernel
theorem dX6_digit_32 : decode cX6_digit 32 = .ok (.aload_n 0, 1) := by decide +kernel
theorem dX6_digit_33 : decode cX6_digit 33 = .ok (.getfield 22, 3) := by decide +kernel
theorem dX6_digit_36 : decode cX6_digit 36 = .ok (.aload_n 0, 1) := by decide +kernel
theorem dX6_digit_37 : decode cX6_digit 37 = .ok (.getfield 42, 3) := by decide +kernel
theorem dX6_digit_40 : decode cX6_digit 40 = .ok (.iaload, 1) := by decide +kernel
theorem dX6_digit_41 : decode cX6_digit 41 = .ok (.bipush 57, 2) := by decide +kernel
theorem dX6_digit_43 : decode cX6_digit 43 = .ok (.if_icmp .le 5, 3) := by decide +kernel
theorem dX6_digit_46 : decode cX6_digit 46 = .ok (.iconst (-1), 1) := by decide +kernel
theorem dX6_digit_47 : decode cX6_digit 47 = .ok (.ireturn, 1) := by decide +kernel
theorem dX6_digit_48 : decode cX6_digit 48 = .ok (.aload_n 0, 1) := by decide +kernel
theorem dX6_digit_49 : decode cX6_digit 49 = .ok (.dup, 1) := by decide +kernel
theorem dX6_digit_50 : decode cX6_digit 50 = .ok (.getfield 42, 3) := by decide +kernel
theorem dX6_digit_53 : decode cX6_digit 53 = .ok (.iconst 1, 1) := by decide +kernel
theorem dX6_digit_54 : decode cX6_digit 54 = .ok (.iadd, 1) := by decide +kernel
theorem dX6_digit_55 : decode cX6_digit 55 = .ok (.putfield 42, 3) := by decide +kernel
theorem dX6_digit_58 : decode cX6_digit 58 = .ok (.aload_n 0, 1) := by decide +kernel
theorem dX6_digit_59 : decode cX6_digit 59 = .ok (.getfield 22, 3) := by decide +kernel
theorem dX6_digit_62 : decode cX6_digit 62 = .ok (.aload_n 0, 1) := by decide +kernel
theorem dX6_digit_63 : decode cX6_digit 63 = .ok (.getfield 42, 3) := by decide +kernel
theorem dX6_digit_66 : decode cX6_digit 66 = .ok (.iconst 1, 1) := by decide +kernel
theorem dX6_digit_67 : decode cX6_digit 67 = .ok (.isub, 1) := by decide +kernel
theorem dX6_digit_68 : decode cX6_digit 68 = .ok (.iaload, 1) := by decide +kernel
theorem dX6_digit_69 : decode cX6_digit 69 = .ok (.bipush 48, 2) := by decide +kernel
theorem dX6_digit_71 : decode cX6_digit 71 = .ok (.isub, 1) := by decide +kernel
theorem dX6_digit_72 : decode cX6_digit 72 = .ok (.ireturn, 1) := by decide +kernel
theorem dX6_needs_0 : decode cX6_needs 0 = .ok (.iconst 0, 1) := by decide +kernel
theorem dX6_needs_1 : decode cX6_needs 1 = .ok (.istore_n 2, 1) := by decide +kernel
theorem dX6_needs_2 : decode cX6_needs 2 = .ok (.iload_n 2, 1) := by decide +kernel
theorem dX6_needs_3 : decode cX6_needs 3 = .ok (.aload_n 1, 1) := by decide +kernel
theorem dX6_needs_4 : decode cX6_needs 4 = .ok (.invokevirtual 107, 3) := by decide +kernel
theorem dX6_needs_7 : decode cX6_needs 7 = .ok (.if_icmp .ge 25, 3) := by decide +kernel
theorem dX6_needs_10 : decode cX6_needs 10 = .ok (.aload_n 0, 1) := by decide +kernel
theorem dX6_needs_11 : decode cX6_needs 11 = .ok (.aload_n 1, 1) := by decide +kernel
theorem dX6_needs_12 : decode cX6_needs 12 = .ok (.iload_n 2, 1) := by decide +kernel
theorem dX6_needs_13 : decode cX6_needs 13 = .ok (.invokevirtual 112, 3) := by decide +kernel
theorem dX6_needs_16 : decode cX6_needs 16 = .ok (.invokevirtual 38, 3) := by decide +kernel
theorem dX6_needs_19 : decode cX6_needs 19 = .ok (.ifCond .ne 7, 3) := by decide +kernel
theorem dX6_needs_22 : decode cX6_needs 22 = .ok (.aload_n 0, 1) := by decide +kernel
theorem dX6_needs_23 : decode cX6_needs 23 = .ok (.invokevirtual 45, 3) := by decide +kernel
theorem dX6_needs_26 : decode cX6_needs 26 = .ok (.iinc 2 1, 3) := by decide +kernel
theorem dX6_needs_29 : decode cX6_needs 29 = .ok (.goto (-27), 3) := by decide +kernel
theorem dX6_needs_32 : decode cX6_needs 32 = .ok (.return_, 1) := by decide +kernel
theorem dX6_takesOneOf_0 : decode cX6_takesOneOf 0 = .ok (.iconst 0, 1) := by decide +kernel
theorem dX6_takesOneOf_1 : decode cX6_takesOneOf 1 = .ok (.istore_n 2, 1) := by decide +kernel
theorem dX6_takesOneOf_2 : decode cX6_takesOneOf 2 = .ok (.iload_n 2, 1) := by decide +kernel
theorem dX6_takesOneOf_3 : decode cX6_takesOneOf 3 = .ok (.aload_n 1, 1) := by decide +kernel
theorem dX6_takesOneOf_4 : decode cX6_takesOneOf 4 = .ok (.invokevirtual 107, 3) := by decide +kernel
theorem dX6_takesOneOf_7 : decode cX6_takesOneOf 7 = .ok (.if_icmp .ge 23, 3) := by decide +kernel
theorem dX6_takesOneOf_10 : decode cX6_takesOneOf 10 = .ok (.aload_n 0, 1) := by decide +kernel
theorem dX6_takesOneOf_11 : decode cX6_takesOneOf 11 = .ok (.aload_n 1, 1) := by decide +kernel
theorem dX6_takesOneOf_12 : decode cX6_takesOneOf 12 = .ok (.iload_n 2, 1) := by decide +kernel
theorem dX6_takesOneOf_13 : decode cX6_takesOneOf 13 = .ok (.invokevirtual 112, 3) := by decide +kernel
theorem dX6_takesOneOf_16 : decode cX6_takesOneOf 16 = .ok (.invokevirtual 38, 3) := by decide +kernel
theorem dX6_takesOneOf_19 : decode cX6_takesOneOf 19 = .ok (.ifCond .eq 5, 3) := by decide +kernel
theorem dX6_takesOneOf_22 : decode cX6_takesOneOf 22 = .ok (.iload_n 2, 1) := by decide +kernel
theorem dX6_takesOneOf_23 : decode cX6_takesOneOf 23 = .ok (.ireturn, 1) := by decide +kernel
theorem dX6_takesOneOf_24 : decode cX6_takesOneOf 24 = .ok (.iinc 2 1, 3) := by decide +kernel
theorem dX6_takesOneOf_27 : decode cX6_takesOneOf 27 = .ok (.goto (-25), 3) := by decide +kernel
theorem dX6_takesOneOf_30 : decode cX6_takesOneOf 30 = .ok (.aload_n 0, 1) := by decide +kernel
theorem dX6_takesOneOf_31 : decode cX6_takesOneOf 31 = .ok (.invokevirtual 45, 3) := by decide +kernel
theorem dX6_takesOneOf_34 : decode cX6_takesOneOf 34 = .ok (.iconst 0, 1) := by decide +kernel
theorem dX6_takesOneOf_35 : decode cX6_takesOneOf 35 = .ok (.ireturn, 1) := by decide +kernel
theorem dX6_takes_0 : decode cX6_takes 0 = .ok (.aload_n 0, 1) := by decide +kernel
theorem dX6_takes_1 : decode cX6_takes 1 = .ok (.getfield 18, 3) := by decide +kernel
theorem dX6_takes_4 : decode cX6_takes 4 = .ok (.ifCond .ge 27, 3) := by decide +kernel
theorem dX6_takes_7 : decode cX6_takes 7 = .ok (.aload_n 0, 1) := by decide +kernel
theorem dX6_takes_8 : decode cX6_takes 8 = .ok (.getfield 42, 3) := by decide +kernel
theorem dX6_takes_11 : decode cX6_takes 11 = .ok (.aload_n 0, 1) := by decide +kernel
theorem dX6_takes_12 : decode cX6_takes 12 = .ok (.getfield 32, 3) := by decide +kernel
theorem dX6_takes_15 : decode cX6_takes 15 = .ok (.if_icmp .ge 16, 3) := by decide +kernel
theorem dX6_takes_18 : decode cX6_takes 18 = .ok (.aload_n 0, 1) := by decide +kernel
theorem dX6_takes_19 : decode cX6_takes 19 = .ok (.getfield 22, 3) := by decide +kernel
theorem dX6_takes_22 : decode cX6_takes 22 = .ok (.aload_n 0, 1) := by decide +kernel
theorem dX6_takes_23 : decode cX6_takes 23 = .ok (.getfield 42, 3) := by decide +kernel
theorem dX6_takes_26 : decode cX6_takes 26 = .ok (.iaload, 1) := by decide +kernel
theorem dX6_takes_27 : decode cX6_takes 27 = .ok (.iload_n 1, 1) := by decide +kernel
theorem dX6_takes_28 : decode cX6_takes 28 = .ok (.if_icmp .eq 5, 3) := by decide +kernel
theorem dX6_takes_31 : decode cX6_takes 31 = .ok (.iconst 0, 1) := by decide +kernel
theorem dX6_takes_32 : decode cX6_takes 32 = .ok (.ireturn, 1) := by decide +kernel
theorem dX6_takes_33 : decode cX6_takes 33 = .ok (.aload_n 0, 1) := by decide +kernel
theorem dX6_takes_34 : decode cX6_takes 34 = .ok (.dup, 1) := by decide +kernel
theorem dX6_takes_35 : decode cX6_takes 35 = .ok (.getfield 42, 3) := by decide +kernel
theorem dX6_takes_38 : decode cX6_takes 38 = .ok (.iconst 1, 1) := by decide +kernel
theorem dX6_takes_39 : decode cX6_takes 39 = .ok (.iadd, 1) := by decide +kernel
theorem dX6_takes_40 : decode cX6_takes 40 = .ok (.putfield 42, 3) := by decide +kernel
theorem dX6_takes_43 : decode cX6_takes 43 = .ok (.iconst 1, 1) := by decide +kernel
theorem dX6_takes_44 : decode cX6_takes 44 = .ok (.ireturn, 1) := by decide +kernel
theorem dX6_fails_0 : decode cX6_fails 0 = .ok (.aload_n 0, 1) := by decide +kernel
theorem dX6_fails_1 : decode cX6_fails 1 = .ok (.getfield 18, 3) := by decide +kernel
theorem dX6_fails_4 : decode cX6_fails 4 = .ok (.ifCond .ge 11, 3) := by decide +kernel
theorem dX6_fails_7 : decode cX6_fails 7 = .ok (.aload_n 0, 1) := by decide +kernel
theorem dX6_fails_8 : decode cX6_fails 8 = .ok (.aload_n 0, 1) := by decide +kernel
theorem dX6_fails_9 : decode cX6_fails 9 = .ok (.getfield 42, 3) := by decide +kernel
theorem dX6_fails_12 : decode cX6_fails 12 = .ok (.putfield 18, 3) := by decide +kernel
theorem dX6_fails_15 : decode cX6_fails 15 = .ok (.return_, 1) := by decide +kernel
theorem dX7_init_0 : decode cX7_init 0 = .ok (.aload_n 0, 1) := by decide +kernel
theorem dX7_init_1 : decode cX7_init 1 = .ok (.aload_n 1, 1) := by decide +kernel
theorem dX7_init_2 : decode cX7_init 2 = .ok (.invokespecial 1, 3) := by decide +kernel
theorem dX7_init_5 : decode cX7_init 5 = .ok (.return_, 1) := by decide +kernel
theorem dX7_lean_0 : decode cX7_lean 0 = .ok (.aload_n 0, 1) := by decide +kernel
theorem dX7_lean_1 : decode cX7_lean 1 = .ok (.getfield 7, 3) := by decide +kernel
theorem dX7_lean_4 : decode cX7_lean 4 = .ok (.ineg, 1) := by decide +kernel
theorem dX7_lean_5 : decode cX7_lean 5 = .ok (.ireturn, 1) := by decide +kernel
theorem dX7_tells_0 : decode cX7_tells 0 = .ok (.aload_n 0, 1) := by decide +kernel
theorem dX7_tells_1 : decode cX7_tells 1 = .ok (.bipush 31, 2) := by decide +kernel
theorem dX7_tells_3 : decode cX7_tells 3 = .ok (.invokevirtual 13, 3) := by decide +kernel
theorem dX7_tells_6 : decode cX7_tells 6 = .ok (.aload_n 0, 1) := by decide +kernel
theorem dX7_tells_7 : decode cX7_tells 7 = .ok (.iload_n 1, 1) := by decide +kernel
theorem dX7_tells_8 : decode cX7_tells 8 = .ok (.invokespecial 17, 3) := by decide +kernel
theorem dX7_tells_11 : decode cX7_tells 11 = .ok (.bipush 7, 2) := by decide +kernel
theorem dX7_tells_13 : decode cX7_tells 13 = .ok (.ixor, 1) := by decide +kernel
theorem dX7_tells_14 : decode cX7_tells 14 = .ok (.ireturn, 1) := by decide +kernel
theorem dX8_init_0 : decode cX8_init 0 = .ok (.aload_n 0, 1) := by decide +kernel
theorem dX8_init_1 : decode cX8_init 1 = .ok (.aload_n 1, 1) := by decide +kernel
theorem dX8_init_2 : decode cX8_init 2 = .ok (.invokespecial 1, 3) := by decide +kernel
theorem dX8_init_5 : decode cX8_init 5 = .ok (.return_, 1) := by decide +kernel
theorem dX8_unsureBy_0 : decode cX8_unsureBy 0 = .ok (.aload_n 0, 1) := by decide +kernel
theorem dX8_unsureBy_1 : decode cX8_unsureBy 1 = .ok (.iload_n 1, 1) := by decide +kernel
theorem dX8_unsureBy_2 : decode cX8_unsureBy 2 = .ok (.iload_n 2, 1) := by decide +kernel
theorem dX8_unsureBy_3 : decode cX8_unsureBy 3 = .ok (.invokespecial 7, 3) := by decide +kernel
theorem dX8_unsureBy_6 : decode cX8_unsureBy 6 = .ok (.iconst 2, 1) := by decide +kernel
theorem dX8_unsureBy_7 : decode cX8_unsureBy 7 = .ok (.idiv, 1) := by decide +kernel
theorem dX8_unsureBy_8 : decode cX8_unsureBy 8 = .ok (.ireturn, 1) := by decide +kernel
theorem dX8_strikes_0 : decode cX8_strikes 0 = .ok (.aload_n 0, 1) := by decide +kernel
theorem dX8_strikes_1 : decode cX8_strikes 1 = .ok (.bipush 11, 2) := by decide +kernel
theorem dX8_strikes_3 : decode cX8_strikes 3 = .ok (.invokevirtual 11, 3) := by decide +kernel
theorem dX8_strikes_6 : decode cX8_strikes 6 = .ok (.aload_n 0, 1) := by decide +kernel
theorem dX8_strikes_7 : decode cX8_strikes 7 = .ok (.iload_n 1, 1) := by decide +kernel
theorem dX8_strikes_8 : decode cX8_strikes 8 = .ok (.iconst 3, 1) := by decide +kernel
theorem dX8_strikes_9 : decode cX8_strikes 9 = .ok (.imul, 1) := by decide +kernel
theorem dX8_strikes_10 : decode cX8_strikes 10 = .ok (.invokespecial 17, 3) := by decide +kernel
theorem dX8_strikes_13 : decode cX8_strikes 13 = .ok (.ireturn, 1) := by decide +kernel
theorem dX9_init_0 : decode cX9_init 0 = .ok (.aload_n 0, 1) := by decide +kernel
theorem dX9_init_1 : decode cX9_init 1 = .ok (.aload_n 1, 1) := by decide +kernel
theorem dX9_init_2 : decode cX9_init 2 = .ok (.invokespecial 1, 3) := by decide +kernel
theorem dX9_init_5 : decode cX9_init 5 = .ok (.aload_n 0, 1) := by decide +kernel
theorem dX9_init_6 : decode cX9_init 6 = .ok (.iconst 4, 1) := by decide +kernel
theorem dX9_init_7 : decode cX9_init 7 = .ok (.newarray .int, 2) := by decide +kernel
theorem dX9_init_9 : decode cX9_init 9 = .ok (.dup, 1) := by decide +kernel
theorem dX9_init_10 : decode cX9_init 10 = .ok (.iconst 0, 1) := by decide +kernel
theorem dX9_init_11 : decode cX9_init 11 = .ok (.iconst 4, 1) := by decide +kernel
theorem dX9_init_12 : decode cX9_init 12 = .ok (.iastore, 1) := by decide +kernel
theorem dX9_init_13 : decode cX9_init 13 = .ok (.dup, 1) := by decide +kernel
theorem dX9_init_14 : decode cX9_init 14 = .ok (.iconst 1, 1) := by decide +kernel
theorem dX9_init_15 : decode cX9_init 15 = .ok (.iconst 4, 1) := by decide +kernel
theorem dX9_init_16 : decode cX9_init 16 = .ok (.iastore, 1) := by decide +kernel
theorem dX9_init_17 : decode cX9_init 17 = .ok (.dup, 1) := by decide +kernel
theorem dX9_init_18 : decode cX9_init 18 = .ok (.iconst 2, 1) := by decide +kernel
theorem dX9_init_19 : decode cX9_init 19 = .ok (.iconst 4, 1) := by decide +kernel
theorem dX9_init_20 : decode cX9_init 20 = .ok (.iastore, 1) := by decide +kernel
theorem dX9_init_21 : decode cX9_init 21 = .ok (.dup, 1) := by decide +kernel
theorem dX9_init_22 : decode cX9_init 22 = .ok (.iconst 3, 1) := by decide +kernel
theorem dX9_init_23 : decode cX9_init 23 = .ok (.iconst 4, 1) := by decide +kernel
theorem dX9_init_24 : decode cX9_init 24 = .ok (.iastore, 1) := by decide +kernel
theorem dX9_init_25 : decode cX9_init 25 = .ok (.putfield 7, 3) := by decide +kernel
theorem dX9_init_28 : decode cX9_init 28 = .ok (.return_, 1) := by decide +kernel
theorem dX9_copyFrom_0 : decode cX9_copyFrom 0 = .ok (.aload_n 0, 1) := by decide +kernel
theorem dX9_copyFrom_1 : decode cX9_copyFrom 1 = .ok (.aload_n 1, 1) := by decide +kernel
theorem dX9_copyFrom_2 : decode cX9_copyFrom 2 = .ok (.invokespecial 13, 3) := by decide +kernel
theorem dX9_copyFrom_5 : decode cX9_copyFrom 5 = .ok (.aload_n 1, 1) := by decide +kernel
theorem dX9_copyFrom_6 : decode cX9_copyFrom 6 = .ok (.instanceof 8, 3) := by decide +kernel
theorem dX9_copyFrom_9 : decode cX9_copyFrom 9 = .ok (.ifCond .eq 22, 3) := by decide +kernel
theorem dX9_copyFrom_12 : decode cX9_copyFrom 12 = .ok (.aload_n 1, 1) := by decide +kernel
theorem dX9_copyFrom_13 : decode cX9_copyFrom 13 = .ok (.checkcast 8, 3) := by decide +kernel
theorem dX9_copyFrom_16 : decode cX9_copyFrom 16 = .ok (.astore_n 2, 1) := by decide +kernel
theorem dX9_copyFrom_17 : decode cX9_copyFrom 17 = .ok (.aload_n 2, 1) := by decide +kernel
theorem dX9_copyFrom_18 : decode cX9_copyFrom 18 = .ok (.getfield 7, 3) := by decide +kernel
theorem dX9_copyFrom_21 : decode cX9_copyFrom 21 = .ok (.iconst 0, 1) := by decide +kernel
theorem dX9_copyFrom_22 : decode cX9_copyFrom 22 = .ok (.aload_n 0, 1) := by decide +kernel
theorem dX9_copyFrom_23 : decode cX9_copyFrom 23 = .ok (.getfield 7, 3) := by decide +kernel
theorem dX9_copyFrom_26 : decode cX9_copyFrom 26 = .ok (.iconst 0, 1) := by decide +kernel
theorem dX9_copyFrom_27 : decode cX9_copyFrom 27 = .ok (.iconst 4, 1) := by decide +kernel
theorem dX9_copyFrom_28 : decode cX9_copyFrom 28 = .ok (.invokestatic 17, 3) := by decide +kernel
theorem dX9_copyFrom_31 : decode cX9_copyFrom 31 = .ok (.return_, 1) := by decide +kernel
theorem dX9_lean_0 : decode cX9_lean 0 = .ok (.aload_n 0, 1) := by decide +kernel
theorem dX9_lean_1 : decode cX9_lean 1 = .ok (.iload_n 1, 1) := by decide +kernel
theorem dX9_lean_2 : decode cX9_lean 2 = .ok (.invokespecial 23, 3) := by decide +kernel
theorem dX9_lean_5 : decode cX9_lean 5 = .ok (.aload_n 0, 1) := by decide +kernel
theorem dX9_lean_6 : decode cX9_lean 6 = .ok (.getfield 7, 3) := by decide +kernel
theorem dX9_lean_9 : decode cX9_lean 9 = .ok (.iload_n 1, 1) := by decide +kernel
theorem dX9_lean_10 : decode cX9_lean 10 = .ok (.iconst 3, 1) := by decide +kernel
theorem dX9_lean_11 : decode cX9_lean 11 = .ok (.iand, 1) := by decide +kernel
theorem dX9_lean_12 : decode cX9_lean 12 = .ok (.iaload, 1) := by decide +kernel
theorem dX9_lean_13 : decode cX9_lean 13 = .ok (.iadd, 1) := by decide +kernel
theorem dX9_lean_14 : decode cX9_lean 14 = .ok (.iconst 4, 1) := by decide +kernel
theorem dX9_lean_15 : decode cX9_lean 15 = .ok (.isub, 1) := by decide +kernel
theorem dX9_lean_16 : decode cX9_lean 16 = .ok (.ireturn, 1) := by decide +kernel
theorem dX9_catches_0 : decode cX9_catches 0 = .ok (.aload_n 0, 1) := by decide +kernel
theorem dX9_catches_1 : decode cX9_catches 1 = .ok (.bipush 61, 2) := by decide +kernel
theorem dX9_catches_3 : decode cX9_catches 3 = .ok (.invokevirtual 27, 3) := by decide +kernel
theorem dX9_catches_6 : decode cX9_catches 6 = .ok (.aload_n 0, 1) := by decide +kernel
theorem dX9_catches_7 : decode cX9_catches 7 = .ok (.iload_n 1, 1) := by decide +kernel
theorem dX9_catches_8 : decode cX9_catches 8 = .ok (.invokespecial 31, 3) := by decide +kernel
theorem dX9_catches_11 : decode cX9_catches 11 = .ok (.aload_n 0, 1) := by decide +kernel
theorem dX9_catches_12 : decode cX9_catches 12 = .ok (.getfield 34, 3) := by decide +kernel
theorem dX9_catches_15 : decode cX9_catches 15 = .ok (.iadd, 1) := by decide +kernel
theorem dX9_catches_16 : decode cX9_catches 16 = .ok (.ireturn, 1) := by decide +kernel
theorem dX10_init_0 : decode cX10_init 0 = .ok (.aload_n 0, 1) := by decide +kernel
theorem dX10_init_1 : decode cX10_init 1 = .ok (.invokespecial 3, 3) := by decide +kernel
theorem dX10_init_4 : decode cX10_init 4 = .ok (.aload_n 0, 1) := by decide +kernel
theorem dX10_init_5 : decode cX10_init 5 = .ok (.bipush 6, 2) := by decide +kernel
theorem dX10_init_7 : decode cX10_init 7 = .ok (.anewarray 9, 3) := by decide +kernel
theorem dX10_init_10 : decode cX10_init 10 = .ok (.putfield 11, 3) := by decide +kernel
theorem dX10_init_13 : decode cX10_init 13 = .ok (.aload_n 0, 1) := by decide +kernel
theorem dX10_init_14 : decode cX10_init 14 = .ok (.iconst 5, 1) := by decide +kernel
theorem dX10_init_15 : decode cX10_init 15 = .ok (.anewarray 17, 3) := by decide +kernel
theorem dX10_init_18 : decode cX10_init 18 = .ok (.putfield 19, 3) := by decide +kernel
theorem dX10_init_21 : decode cX10_init 21 = .ok (.aload_n 0, 1) := by decide +kernel
theorem dX10_init_22 : decode cX10_init 22 = .ok (.bipush 100, 2) := by decide +kernel
theorem dX10_init_24 : decode cX10_init 24 = .ok (.newarray .int, 2) := by decide +kernel
theorem dX10_init_26 : decode cX10_init 26 = .ok (.putfield 23, 3) := by decide +kernel
theorem dX10_init_29 : decode cX10_init 29 = .ok (.aload_n 0, 1) := by decide +kernel
theorem dX10_init_30 : decode cX10_init 30 = .ok (.bipush 8, 2) := by decide +kernel
theorem dX10_init_32 : decode cX10_init 32 = .ok (.newarray .int, 2) := by decide +kernel
theorem dX10_init_34 : decode cX10_init 34 = .ok (.putfield 27, 3) := by decide +kernel
theorem dX10_init_37 : decode cX10_init 37 = .ok (.aload_n 0, 1) := by decide +kernel
theorem dX10_init_38 : decode cX10_init 38 = .ok (.bipush 8, 2) := by decide +kernel
theorem dX10_init_40 : decode cX10_init 40 = .ok (.newarray .int, 2) := by decide +kernel
theorem dX10_init_42 : decode cX10_init 42 = .ok (.putfield 30, 3) := by decide +kernel
theorem dX10_init_45 : decode cX10_init 45 = .ok (.aload_n 0, 1) := by decide +kernel
theorem dX10_init_46 : decode cX10_init 46 = .ok (.bipush 8, 2) := by decide +kernel
theorem dX10_init_48 : decode cX10_init 48 = .ok (.newarray .int, 2) := by decide +kernel
theorem dX10_init_50 : decode cX10_init 50 = .ok (.putfield 33, 3) := by decide +kernel
theorem dX10_init_53 : decode cX10_init 53 = .ok (.aload_n 0, 1) := by decide +kernel
theorem dX10_init_54 : decode cX10_init 54 = .ok (.bipush 8, 2) := by decide +kernel
theorem dX10_init_56 : decode cX10_init 56 = .ok (.newarray .int, 2) := by decide +kernel
theorem dX10_init_58 : decode cX10_init 58 = .ok (.putfield 36, 3) := by decide +kernel
theorem dX10_init_61 : decode cX10_init 61 = .ok (.aload_n 0, 1) := by decide +kernel
theorem dX10_init_62 : decode cX10_init 62 = .ok (.bipush 8, 2) := by decide +kernel
theorem dX10_init_64 : decode cX10_init 64 = .ok (.newarray .int, 2) := by decide +kernel
theorem dX10_init_66 : decode cX10_init 66 = .ok (.putfield 39, 3) := by decide +kernel
theorem dX10_init_69 : decode cX10_init 69 = .ok (.aload_n 0, 1) := by decide +kernel
theorem dX10_init_70 : decode cX10_init 70 = .ok (.bipush 8, 2) := by decide +kernel
theorem dX10_init_72 : decode cX10_init 72 = .ok (.newarray .int, 2) := by decide +kernel
theorem dX10_init_74 : decode cX10_init 74 = .ok (.putfield 42, 3) := by decide +kernel
theorem dX10_init_77 : decode cX10_init 77 = .ok (.aload_n 0, 1) := by decide +kernel
theorem dX10_init_78 : decode cX10_init 78 = .ok (.new 17, 3) := by decide +kernel
theorem dX10_init_81 : decode cX10_init 81 = .ok (.dup, 1) := by decide +kernel
theorem dX10_init_82 : decode cX10_init 82 = .ok (.invokespecial 45, 3) := by decide +kernel
theorem dX10_init_85 : decode cX10_init 85 = .ok (.putfield 46, 3) := by decide +kernel
theorem dX10_init_88 : decode cX10_init 88 = .ok (.return_, 1) := by decide +kernel
theorem dX10_holding_0 : decode cX10_holding 0 = .ok (.aload_n 0, 1) := by decide +kernel
theorem dX10_holding_1 : decode cX10_holding 1 = .ok (.getfield 50, 3) := by decide +kernel
theorem dX10_holding_4 : decode cX10_holding 4 = .ok (.ifCond .le 11, 3) := by decide +kernel
theorem dX10_holding_7 : decode cX10_holding 7 = .ok (.aload_n 0, 1) := by decide +kernel
theorem dX10_holding_8 : decode cX10_holding 8 = .ok (.getfield 50, 3) := by decide +kernel
theorem dX10_holding_11 : decode cX10_holding 11 = .ok (.iconst 5, 1) := by decide +kernel
theorem dX10_holding_12 : decode cX10_holding 12 = .ok (.if_icmp .le 8, 3) := by decide +kernel
theorem dX10_holding_15 : decode cX10_holding 15 = .ok (.aload_n 0, 1) := by decide +kernel
theorem dX10_holding_16 : decode cX10_holding 16 = .ok (.getfield 46, 3) := by decide +kernel
theorem dX10_holding_19 : decode cX10_holding 19 = .ok (.areturn, 1) := by decide +kernel
theorem dX10_holding_20 : decode cX10_holding 20 = .ok (.aload_n 0, 1) := by decide +kernel
theorem dX10_holding_21 : decode cX10_holding 21 = .ok (.getfield 19, 3) := by decide +kernel
theorem dX10_holding_24 : decode cX10_holding 24 = .ok (.aload_n 0, 1) := by decide +kernel
theorem dX10_holding_25 : decode cX10_holding 25 = .ok (.getfield 50, 3) := by decide +kernel
theorem dX10_holding_28 : decode cX10_holding 28 = .ok (.iconst 1, 1) := by decide +kernel
theorem dX10_holding_29 : decode cX10_holding 29 = .ok (.isub, 1) := by decide +kernel
theorem dX10_holding_30 : decode cX10_holding 30 = .ok (.aaload, 1) := by decide +kernel
theorem dX10_holding_31 : decode cX10_holding 31 = .ok (.astore_n 1, 1) := by decide +kernel
theorem dX10_holding_32 : decode cX10_holding 32 = .ok (.aload_n 1, 1) := by decide +kernel
theorem dX10_holding_33 : decode cX10_holding 33 = .ok (.ifnonnull 10, 3) := by decide +kernel
theorem dX10_holding_36 : decode cX10_holding 36 = .ok (.aload_n 0, 1) := by decide +kernel
theorem dX10_holding_37 : decode cX10_holding 37 = .ok (.getfield 46, 3) := by decide +kernel
theorem dX10_holding_40 : decode cX10_holding 40 = .ok (.goto 4, 3) := by decide +kernel
theorem dX10_holding_43 : decode cX10_holding 43 = .ok (.aload_n 1, 1) := by decide +kernel
theorem dX10_holding_44 : decode cX10_holding 44 = .ok (.areturn, 1) := by decide +kernel
theorem dX10_copyFrom_0 : decode cX10_copyFrom 0 = .ok (.aload_n 0, 1) := by decide +kernel
theorem dX10_copyFrom_1 : decode cX10_copyFrom 1 = .ok (.aload_n 1, 1) := by decide +kernel
theorem dX10_copyFrom_2 : decode cX10_copyFrom 2 = .ok (.getfield 54, 3) := by decide +kernel
theorem dX10_copyFrom_5 : decode cX10_copyFrom 5 = .ok (.putfield 54, 3) := by decide +kernel
theorem dX10_copyFrom_8 : decode cX10_copyFrom 8 = .ok (.aload_n 0, 1) := by decide +kernel
theorem dX10_copyFrom_9 : decode cX10_copyFrom 9 = .ok (.aload_n 1, 1) := by decide +kernel
theorem dX10_copyFrom_10 : decode cX10_copyFrom 10 = .ok (.getfield 50, 3) := by decide +kernel
theorem dX10_copyFrom_13 : decode cX10_copyFrom 13 = .ok (.putfield 50, 3) := by decide +kernel
theorem dX10_copyFrom_16 : decode cX10_copyFrom 16 = .ok (.aload_n 0, 1) := by decide +kernel
theorem dX10_copyFrom_17 : decode cX10_copyFrom 17 = .ok (.aload_n 1, 1) := by decide +kernel
theorem dX10_copyFrom_18 : decode cX10_copyFrom 18 = .ok (.getfield 57, 3) := by decide +kernel
theorem dX10_copyFrom_21 : decode cX10_copyFrom 21 = .ok (.putfield 57, 3) := by decide +kernel
theorem dX10_copyFrom_24 : decode cX10_copyFrom 24 = .ok (.aload_n 0, 1) := by decide +kernel
theorem dX10_copyFrom_25 : decode cX10_copyFrom 25 = .ok (.aload_n 1, 1) := by decide +kernel
theorem dX10_copyFrom_26 : decode cX10_copyFrom 26 = .ok (.getfield 60, 3) := by decide +kernel
theorem dX10_copyFrom_29 : decode cX10_copyFrom 29 = .ok (.putfield 60, 3) := by decide +kernel
theorem dX10_copyFrom_32 : decode cX10_copyFrom 32 = .ok (.aload_n 0, 1) := by decide +kernel
theorem dX10_copyFrom_33 : decode cX10_copyFrom 33 = .ok (.aload_n 1, 1) := by decide +kernel
theorem dX10_copyFrom_34 : decode cX10_copyFrom 34 = .ok (.getfield 63, 3) := by decide +kernel
theorem dX10_copyFrom_37 : decode cX10_copyFrom 37 = .ok (.putfield 63, 3) := by decide +kernel
theorem dX10_copyFrom_40 : decode cX10_copyFrom 40 = .ok (.aload_n 0, 1) := by decide +kernel
theorem dX10_copyFrom_41 : decode cX10_copyFrom 41 = .ok (.aload_n 1, 1) := by decide +kernel
theorem dX10_copyFrom_42 : decode cX10_copyFrom 42 = .ok (.getfield 66, 3) := by decide +kernel
theorem dX10_copyFrom_45 : decode cX10_copyFrom 45 = .ok (.putfield 66, 3) := by decide +kernel
theorem dX10_copyFrom_48 : decode cX10_copyFrom 48 = .ok (.iconst 0, 1) := by decide +kernel
theorem dX10_copyFrom_49 : decode cX10_copyFrom 49 = .ok (.istore_n 2, 1) := by decide +kernel
theorem dX10_copyFrom_50 : decode cX10_copyFrom 50 = .ok (.iload_n 2, 1) := by decide +kernel
theorem dX10_copyFrom_51 : decode cX10_copyFrom 51 = .ok (.bipush 6, 2) := by decide +kernel
theorem dX10_copyFrom_53 : decode cX10_copyFrom 53 = .ok (.if_icmp .ge 42, 3) := by decide +kernel
theorem dX10_copyFrom_56 : decode cX10_copyFrom 56 = .ok (.aload_n 1, 1) := by decide +kernel
theorem dX10_copyFrom_57 : decode cX10_copyFrom 57 = .ok (.getfield 11, 3) := by decide +kernel
theorem dX10_copyFrom_60 : decode cX10_copyFrom 60 = .ok (.iload_n 2, 1) := by decide +kernel
theorem dX10_copyFrom_61 : decode cX10_copyFrom 61 = .ok (.aaload, 1) := by decide +kernel
theorem dX10_copyFrom_62 : decode cX10_copyFrom 62 = .ok (.astore_n 3, 1) := by decide +kernel
theorem dX10_copyFrom_63 : decode cX10_copyFrom 63 = .ok (.aload_n 0, 1) := by decide +kernel
theorem dX10_copyFrom_64 : decode cX10_copyFrom 64 = .ok (.getfield 11, 3) := by decide +kernel
theorem dX10_copyFrom_67 : decode cX10_copyFrom 67 = .ok (.iload_n 2, 1) := by decide +kernel
theorem dX10_copyFrom_68 : decode cX10_copyFrom 68 = .ok (.aload_n 3, 1) := by decide +kernel
theorem dX10_copyFrom_69 : decode cX10_copyFrom 69 = .ok (.ifnull 11, 3) := by decide +kernel
theorem dX10_copyFrom_72 : decode cX10_copyFrom 72 = .ok (.iload_n 2, 1) := by decide +kernel
theorem dX10_copyFrom_73 : decode cX10_copyFrom 73 = .ok (.aload_n 0, 1) := by decide +kernel
theorem dX10_copyFrom_74 : decode cX10_copyFrom 74 = .ok (.getfield 54, 3) := by decide +kernel
theorem dX10_copyFrom_77 : decode cX10_copyFrom 77 = .ok (.if_icmp .lt 7, 3) := by decide +kernel
theorem dX10_copyFrom_80 : decode cX10_copyFrom 80 = .ok (.aconst_null, 1) := by decide +kernel
theorem dX10_copyFrom_81 : decode cX10_copyFrom 81 = .ok (.goto 7, 3) := by decide +kernel
theorem dX10_copyFrom_84 : decode cX10_copyFrom 84 = .ok (.aload_n 3, 1) := by decide +kernel
theorem dX10_copyFrom_85 : decode cX10_copyFrom 85 = .ok (.invokevirtual 69, 3) := by decide +kernel
theorem dX10_copyFrom_88 : decode cX10_copyFrom 88 = .ok (.aastore, 1) := by decide +kernel
theorem dX10_copyFrom_89 : decode cX10_copyFrom 89 = .ok (.iinc 2 1, 3) := by decide +kernel
theorem dX10_copyFrom_92 : decode cX10_copyFrom 92 = .ok (.goto (-42), 3) := by decide +kernel
theorem dX10_copyFrom_95 : decode cX10_copyFrom 95 = .ok (.iconst 0, 1) := by decide +kernel
theorem dX10_copyFrom_96 : decode cX10_copyFrom 96 = .ok (.istore_n 2, 1) := by decide +kernel
theorem dX10_copyFrom_97 : decode cX10_copyFrom 97 = .ok (.iload_n 2, 1) := by decide +kernel
theorem dX10_copyFrom_98 : decode cX10_copyFrom 98 = .ok (.iconst 5, 1) := by decide +kernel
theorem dX10_copyFrom_99 : decode cX10_copyFrom 99 = .ok (.if_icmp .ge 21, 3) := by decide +kernel
theorem dX10_copyFrom_102 : decode cX10_copyFrom 102 = .ok (.aload_n 0, 1) := by decide +kernel
theorem dX10_copyFrom_103 : decode cX10_copyFrom 103 = .ok (.getfield 19, 3) := by decide +kernel
theorem dX10_copyFrom_106 : decode cX10_copyFrom 106 = .ok (.iload_n 2, 1) := by decide +kernel
theorem dX10_copyFrom_107 : decode cX10_copyFrom 107 = .ok (.aload_n 1, 1) := by decide +kernel
theorem dX10_copyFrom_108 : decode cX10_copyFrom 108 = .ok (.getfield 19, 3) := by decide +kernel
theorem dX10_copyFrom_111 : decode cX10_copyFrom 111 = .ok (.iload_n 2, 1) := by decide +kernel
theorem dX10_copyFrom_112 : decode cX10_copyFrom 112 = .ok (.aaload, 1) := by decide +kernel
theorem dX10_copyFrom_113 : decode cX10_copyFrom 113 = .ok (.aastore, 1) := by decide +kernel
theorem dX10_copyFrom_114 : decode cX10_copyFrom 114 = .ok (.iinc 2 1, 3) := by decide +kernel
theorem dX10_copyFrom_117 : decode cX10_copyFrom 117 = .ok (.goto (-20), 3) := by decide +kernel
theorem dX10_copyFrom_120 : decode cX10_copyFrom 120 = .ok (.aload_n 1, 1) := by decide +kernel
theorem dX10_copyFrom_121 : decode cX10_copyFrom 121 = .ok (.getfield 23, 3) := by decide +kernel
theorem dX10_copyFrom_124 : decode cX10_copyFrom 124 = .ok (.iconst 0, 1) := by decide +kernel
theorem dX10_copyFrom_125 : decode cX10_copyFrom 125 = .ok (.aload_n 0, 1) := by decide +kernel
theorem dX10_copyFrom_126 : decode cX10_copyFrom 126 = .ok (.getfield 23, 3) := by decide +kernel
theorem dX10_copyFrom_129 : decode cX10_copyFrom 129 = .ok (.iconst 0, 1) := by decide +kernel
theorem dX10_copyFrom_130 : decode cX10_copyFrom 130 = .ok (.bipush 100, 2) := by decide +kernel
theorem dX10_copyFrom_132 : decode cX10_copyFrom 132 = .ok (.invokestatic 73, 3) := by decide +kernel
theorem dX10_copyFrom_135 : decode cX10_copyFrom 135 = .ok (.aload_n 1, 1) := by decide +kernel
theorem dX10_copyFrom_136 : decode cX10_copyFrom 136 = .ok (.getfield 27, 3) := by decide +kernel
theorem dX10_copyFrom_139 : decode cX10_copyFrom 139 = .ok (.iconst 0, 1) := by decide +kernel
theorem dX10_copyFrom_140 : decode cX10_copyFrom 140 = .ok (.aload_n 0, 1) := by decide +kernel
theorem dX10_copyFrom_141 : decode cX10_copyFrom 141 = .ok (.getfield 27, 3) := by decide +kernel
theorem dX10_copyFrom_144 : decode cX10_copyFrom 144 = .ok (.iconst 0, 1) := by decide +kernel
theorem dX10_copyFrom_145 : decode cX10_copyFrom 145 = .ok (.bipush 8, 2) := by decide +kernel
theorem dX10_copyFrom_147 : decode cX10_copyFrom 147 = .ok (.invokestatic 73, 3) := by decide +kernel
theorem dX10_copyFrom_150 : decode cX10_copyFrom 150 = .ok (.aload_n 1, 1) := by decide +kernel
theorem dX10_copyFrom_151 : decode cX10_copyFrom 151 = .ok (.getfield 30, 3) := by decide +kernel
theorem dX10_copyFrom_154 : decode cX10_copyFrom 154 = .ok (.iconst 0, 1) := by decide +kernel
theorem dX10_copyFrom_155 : decode cX10_copyFrom 155 = .ok (.aload_n 0, 1) := by decide +kernel
theorem dX10_copyFrom_156 : decode cX10_copyFrom 156 = .ok (.getfield 30, 3) := by decide +kernel
theorem dX10_copyFrom_159 : decode cX10_copyFrom 159 = .ok (.iconst 0, 1) := by decide +kernel
theorem dX10_copyFrom_160 : decode cX10_copyFrom 160 = .ok (.bipush 8, 2) := by decide +kernel
theorem dX10_copyFrom_162 : decode cX10_copyFrom 162 = .ok (.invokestatic 73, 3) := by decide +kernel
theorem dX10_copyFrom_165 : decode cX10_copyFrom 165 = .ok (.aload_n 1, 1) := by decide +kernel
theorem dX10_copyFrom_166 : decode cX10_copyFrom 166 = .ok (.getfield 33, 3) := by decide +kernel
theorem dX10_copyFrom_169 : decode cX10_copyFrom 169 = .ok (.iconst 0, 1) := by decide +kernel
theorem dX10_copyFrom_170 : decode cX10_copyFrom 170 = .ok (.aload_n 0, 1) := by decide +kernel
theorem dX10_copyFrom_171 : decode cX10_copyFrom 171 = .ok (.getfield 33, 3) := by decide +kernel
theorem dX10_copyFrom_174 : decode cX10_copyFrom 174 = .ok (.iconst 0, 1) := by decide +kernel
theorem dX10_copyFrom_175 : decode cX10_copyFrom 175 = .ok (.bipush 8, 2) := by decide +kernel
theorem dX10_copyFrom_177 : decode cX10_copyFrom 177 = .ok (.invokestatic 73, 3) := by decide +kernel
theorem dX10_copyFrom_180 : decode cX10_copyFrom 180 = .ok (.aload_n 1, 1) := by decide +kernel
theorem dX10_copyFrom_181 : decode cX10_copyFrom 181 = .ok (.getfield 36, 3) := by decide +kernel
theorem dX10_copyFrom_184 : decode cX10_copyFrom 184 = .ok (.iconst 0, 1) := by decide +kernel
theorem dX10_copyFrom_185 : decode cX10_copyFrom 185 = .ok (.aload_n 0, 1) := by decide +kernel
theorem dX10_copyFrom_186 : decode cX10_copyFrom 186 = .ok (.getfield 36, 3) := by decide +kernel
theorem dX10_copyFrom_189 : decode cX10_copyFrom 189 = .ok (.iconst 0, 1) := by decide +kernel
theorem dX10_copyFrom_190 : decode cX10_copyFrom 190 = .ok (.bipush 8, 2) := by decide +kernel
theorem dX10_copyFrom_192 : decode cX10_copyFrom 192 = .ok (.invokestatic 73, 3) := by decide +kernel
theorem dX10_copyFrom_195 : decode cX10_copyFrom 195 = .ok (.aload_n 1, 1) := by decide +kernel
theorem dX10_copyFrom_196 : decode cX10_copyFrom 196 = .ok (.getfield 39, 3) := by decide +kernel
theorem dX10_copyFrom_199 : decode cX10_copyFrom 199 = .ok (.iconst 0, 1) := by decide +kernel
theorem dX10_copyFrom_200 : decode cX10_copyFrom 200 = .ok (.aload_n 0, 1) := by decide +kernel
theorem dX10_copyFrom_201 : decode cX10_copyFrom 201 = .ok (.getfield 39, 3) := by decide +kernel
theorem dX10_copyFrom_204 : decode cX10_copyFrom 204 = .ok (.iconst 0, 1) := by decide +kernel
theorem dX10_copyFrom_205 : decode cX10_copyFrom 205 = .ok (.bipush 8, 2) := by decide +kernel
theorem dX10_copyFrom_207 : decode cX10_copyFrom 207 = .ok (.invokestatic 73, 3) := by decide +kernel
theorem dX10_copyFrom_210 : decode cX10_copyFrom 210 = .ok (.aload_n 1, 1) := by decide +kernel
theorem dX10_copyFrom_211 : decode cX10_copyFrom 211 = .ok (.getfield 42, 3) := by decide +kernel
theorem dX10_copyFrom_214 : decode cX10_copyFrom 214 = .ok (.iconst 0, 1) := by decide +kernel
theorem dX10_copyFrom_215 : decode cX10_copyFrom 215 = .ok (.aload_n 0, 1) := by decide +kernel
theorem dX10_copyFrom_216 : decode cX10_copyFrom 216 = .ok (.getfield 42, 3) := by decide +kernel
theorem dX10_copyFrom_219 : decode cX10_copyFrom 219 = .ok (.iconst 0, 1) := by decide +kernel
theorem dX10_copyFrom_220 : decode cX10_copyFrom 220 = .ok (.bipush 8, 2) := by decide +kernel
theorem dX10_copyFrom_222 : decode cX10_copyFrom 222 = .ok (.invokestatic 73, 3) := by decide +kernel
theorem dX10_copyFrom_225 : decode cX10_copyFrom 225 = .ok (.return_, 1) := by decide +kernel
theorem dX12_init_0 : decode cX12_init 0 = .ok (.aload_n 0, 1) := by decide +kernel
theorem dX12_init_1 : decode cX12_init 1 = .ok (.invokespecial 3, 3) := by decide +kernel
theorem dX12_init_4 : decode cX12_init 4 = .ok (.aload_n 0, 1) := by decide +kernel
theorem dX12_init_5 : decode cX12_init 5 = .ok (.sipush 936, 3) := by decide +kernel
theorem dX12_init_8 : decode cX12_init 8 = .ok (.newarray .int, 2) := by decide +kernel
theorem dX12_init_10 : decode cX12_init 10 = .ok (.putfield 9, 3) := by decide +kernel
theorem dX12_init_13 : decode cX12_init 13 = .ok (.aload_n 0, 1) := by decide +kernel
theorem dX12_init_14 : decode cX12_init 14 = .ok (.sipush 936, 3) := by decide +kernel
theorem dX12_init_17 : decode cX12_init 17 = .ok (.newarray .int, 2) := by decide +kernel
theorem dX12_init_19 : decode cX12_init 19 = .ok (.putfield 15, 3) := by decide +kernel
theorem dX12_init_22 : decode cX12_init 22 = .ok (.aload_n 0, 1) := by decide +kernel
theorem dX12_init_23 : decode cX12_init 23 = .ok (.bipush 6, 2) := by decide +kernel
theorem dX12_init_25 : decode cX12_init 25 = .ok (.newarray .int, 2) := by decide +kernel
theorem dX12_init_27 : decode cX12_init 27 = .ok (.putfield 18, 3) := by decide +kernel
theorem dX12_init_30 : decode cX12_init 30 = .ok (.aload_n 0, 1) := by decide +kernel
theorem dX12_init_31 : decode cX12_init 31 = .ok (.bipush 64, 2) := by decide +kernel
theorem dX12_init_33 : decode cX12_init 33 = .ok (.newarray .boolean, 2) := by decide +kernel
theorem dX12_init_35 : decode cX12_init 35 = .ok (.putfield 21, 3) := by decide +kernel
theorem dX12_init_38 : decode cX12_init 38 = .ok (.aload_n 0, 1) := by decide +kernel
theorem dX12_init_39 : decode cX12_init 39 = .ok (.sipush 252, 3) := by decide +kernel
theorem dX12_init_42 : decode cX12_init 42 = .ok (.newarray .int, 2) := by decide +kernel
theorem dX12_init_44 : decode cX12_init 44 = .ok (.putfield 25, 3) := by decide +kernel
theorem dX12_init_47 : decode cX12_init 47 = .ok (.aload_n 0, 1) := by decide +kernel
theorem dX12_init_48 : decode cX12_init 48 = .ok (.bipush 6, 2) := by decide +kernel
theorem dX12_init_50 : decode cX12_init 50 = .ok (.newarray .int, 2) := by decide +kernel
theorem dX12_init_52 : decode cX12_init 52 = .ok (.putfield 28, 3) := by decide +kernel
theorem dX12_init_55 : decode cX12_init 55 = .ok (.aload_n 0, 1) := by decide +kernel
theorem dX12_init_56 : decode cX12_init 56 = .ok (.bipush 6, 2) := by decide +kernel
theorem dX12_init_58 : decode cX12_init 58 = .ok (.newarray .int, 2) := by decide +kernel
theorem dX12_init_60 : decode cX12_init 60 = .ok (.putfield 31, 3) := by decide +kernel
theorem dX12_init_63 : decode cX12_init 63 = .ok (.aload_n 0, 1) := by decide +kernel
theorem dX12_init_64 : decode cX12_init 64 = .ok (.bipush 20, 2) := by decide +kernel
theorem dX12_init_66 : decode cX12_init 66 = .ok (.newarray .int, 2) := by decide +kernel
theorem dX12_init_68 : decode cX12_init 68 = .ok (.putfield 34, 3) := by decide +kernel
theorem dX12_init_71 : decode cX12_init 71 = .ok (.aload_n 0, 1) := by decide +kernel
theorem dX12_init_72 : decode cX12_init 72 = .ok (.getfield 9, 3) := by decide +kernel
theorem dX12_init_75 : decode cX12_init 75 = .ok (.iconst 5, 1) := by decide +kernel
theorem dX12_init_76 : decode cX12_init 76 = .ok (.iconst (-1), 1) := by decide +kernel
theorem dX12_init_77 : decode cX12_init 77 = .ok (.iastore, 1) := by decide +kernel
theorem dX12_init_78 : decode cX12_init 78 = .ok (.return_, 1) := by decide +kernel
theorem dX12_in_0 : decode cX12_in 0 = .ok (.iload_n 0, 1) := by decide +kernel
theorem dX12_in_1 : decode cX12_in 1 = .ok (.iload_n 1, 1) := by decide +kernel
theorem dX12_in_2 : decode cX12_in 2 = .ok (.if_icmp .lt 12, 3) := by decide +kernel
theorem dX12_in_5 : decode cX12_in 5 = .ok (.iload_n 0, 1) := by decide +kernel
theorem dX12_in_6 : decode cX12_in 6 = .ok (.iload_n 2, 1) := by decide +kernel
theorem dX12_in_7 : decode cX12_in 7 = .ok (.if_icmp .gt 7, 3) := by decide +kernel
theorem dX12_in_10 : decode cX12_in 10 = .ok (.iconst 1, 1) := by decide +kernel
theorem dX12_in_11 : decode cX12_in 11 = .ok (.goto 4, 3) := by decide +kernel
theorem dX12_in_14 : decode cX12_in 14 = .ok (.iconst 0, 1) := by decide +kernel
theorem dX12_in_15 : decode cX12_in 15 = .ok (.ireturn, 1) := by decide +kernel
theorem dX12_isPlayer_0 : decode cX12_isPlayer 0 = .ok (.iload_n 1, 1) := by decide +kernel
theorem dX12_isPlayer_1 : decode cX12_isPlayer 1 = .ok (.iconst 0, 1) := by decide +kernel
theorem dX12_isPlayer_2 : decode cX12_isPlayer 2 = .ok (.aload_n 0, 1) := by decide +kernel
theorem dX12_isPlayer_3 : decode cX12_isPlayer 3 = .ok (.getfield 9, 3) := by decide +kernel
theorem dX12_isPlayer_6 : decode cX12_isPlayer 6 = .ok (.iconst 0, 1) := by decide +kernel
theorem dX12_isPlayer_7 : decode cX12_isPlayer 7 = .ok (.iaload, 1) := by decide +kernel
theorem dX12_isPlayer_8 : decode cX12_isPlayer 8 = .ok (.iconst 1, 1) := by decide +kernel
theorem dX12_isPlayer_9 : decode cX12_isPlayer 9 = .ok (.isub, 1) := by decide +kernel
theorem dX12_isPlayer_10 : decode cX12_isPlayer 10 = .ok (.invokestatic 41, 3) := by decide +kernel
theorem dX12_isPlayer_13 : decode cX12_isPlayer 13 = .ok (.ireturn, 1) := by decide +kernel
theorem dX12_isPile_0 : decode cX12_isPile 0 = .ok (.iload_n 0, 1) := by decide +kernel
theorem dX12_isPile_1 : decode cX12_isPile 1 = .ok (.iconst 1, 1) := by decide +kernel
theorem dX12_isPile_2 : decode cX12_isPile 2 = .ok (.bipush 99, 2) := by decide +kernel
theorem dX12_isPile_4 : decode cX12_isPile 4 = .ok (.invokestatic 41, 3) := by decide +kernel
theorem dX12_isPile_7 : decode cX12_isPile 7 = .ok (.ifCond .eq 17, 3) := by decide +kernel
theorem dX12_isPile_10 : decode cX12_isPile 10 = .ok (.iload_n 1, 1) := by decide +kernel
theorem dX12_isPile_11 : decode cX12_isPile 11 = .ok (.iconst 0, 1) := by decide +kernel
theorem dX12_isPile_12 : decode cX12_isPile 12 = .ok (.bipush 20, 2) := by decide +kernel
theorem dX12_isPile_14 : decode cX12_isPile 14 = .ok (.invokestatic 41, 3) := by decide +kernel
theorem dX12_isPile_17 : decode cX12_isPile 17 = .ok (.ifCond .eq 7, 3) := by decide +kernel
theorem dX12_isPile_20 : decode cX12_isPile 20 = .ok (.iconst 1, 1) := by decide +kernel
theorem dX12_isPile_21 : decode cX12_isPile 21 = .ok (.goto 4, 3) := by decide +kernel
theorem dX12_isPile_24 : decode cX12_isPile 24 = .ok (.iconst 0, 1) := by decide +kernel
theorem dX12_isPile_25 : decode cX12_isPile 25 = .ok (.ireturn, 1) := by decide +kernel
theorem dX12_feed_0 : decode cX12_feed 0 = .ok (.iload_n 1, 1) := by decide +kernel
theorem dX12_feed_1 : decode cX12_feed 1 = .ok (.iconst 0, 1) := by decide +kernel
theorem dX12_feed_2 : decode cX12_feed 2 = .ok (.bipush 127, 2) := by decide +kernel
theorem dX12_feed_4 : decode cX12_feed 4 = .ok (.invokestatic 41, 3) := by decide +kernel
theorem dX12_feed_7 : decode cX12_feed 7 = .ok (.ifCond .ne 6, 3) := by decide +kernel
theorem dX12_feed_10 : decode cX12_feed 10 = .ok (.bipush (-2), 2) := by decide +kernel
theorem dX12_feed_12 : decode cX12_feed 12 = .ok (.ireturn, 1) := by decide +kernel
theorem dX12_feed_13 : decode cX12_feed 13 = .ok (.aload_n 0, 1) := by decide +kernel
theorem dX12_feed_14 : decode cX12_feed 14 = .ok (.getfield 9, 3) := by decide +kernel
theorem dX12_feed_17 : decode cX12_feed 17 = .ok (.iconst 4, 1) := by decide +kernel
theorem dX12_feed_18 : decode cX12_feed 18 = .ok (.iaload, 1) := by decide +kernel
theorem dX12_feed_19 : decode cX12_feed 19 = .ok (.bipush 100, 2) := by decide +kernel
theorem dX12_feed_21 : decode cX12_feed 21 = .ok (.if_icmp .ne 6, 3) := by decide +kernel
theorem dX12_feed_24 : decode cX12_feed 24 = .ok (.bipush (-4), 2) := by decide +kernel
theorem dX12_feed_26 : decode cX12_feed 26 = .ok (.ireturn, 1) := by decide +kernel
theorem dX12_feed_27 : decode cX12_feed 27 = .ok (.aload_n 0, 1) := by decide +kernel
theorem dX12_feed_28 : decode cX12_feed 28 = .ok (.getfield 9, 3) := by decide +kernel
theorem dX12_feed_31 : decode cX12_feed 31 = .ok (.bipush 121, 2) := by decide +kernel
theorem dX12_feed_33 : decode cX12_feed 33 = .ok (.aload_n 0, 1) := by decide +kernel
theorem dX12_feed_34 : decode cX12_feed 34 = .ok (.getfield 9, 3) := by decide +kernel
theorem dX12_feed_37 : decode cX12_feed 37 = .ok (.iconst 4, 1) := by decide +kernel
theorem dX12_feed_38 : decode cX12_feed 38 = .ok (.iaload, 1) := by decide +kernel
theorem dX12_feed_39 : decode cX12_feed 39 = .ok (.iadd, 1) := by decide +kernel
theorem dX12_feed_40 : decode cX12_feed 40 = .ok (.iload_n 1, 1) := by decide +kernel
theorem dX12_feed_41 : decode cX12_feed 41 = .ok (.iastore, 1) := by decide +kernel
theorem dX12_feed_42 : decode cX12_feed 42 = .ok (.aload_n 0, 1) := by decide +kernel
theorem dX12_feed_43 : decode cX12_feed 43 = .ok (.getfield 9, 3) := by decide +kernel
theorem dX12_feed_46 : decode cX12_feed 46 = .ok (.iconst 4, 1) := by decide +kernel
theorem dX12_feed_47 : decode cX12_feed 47 = .ok (.dup2, 1) := by decide +kernel
theorem dX12_feed_48 : decode cX12_feed 48 = .ok (.iaload, 1) := by decide +kernel
theorem dX12_feed_49 : decode cX12_feed 49 = .ok (.iconst 1, 1) := by decide +kernel
theorem dX12_feed_50 : decode cX12_feed 50 = .ok (.iadd, 1) := by decide +kernel
theorem dX12_feed_51 : decode cX12_feed 51 = .ok (.iastore, 1) := by decide +kernel
theorem dX12_feed_52 : decode cX12_feed 52 = .ok (.aload_n 0, 1) := by decide +kernel
theorem dX12_feed_53 : decode cX12_feed 53 = .ok (.getfield 9, 3) := by decide +kernel
theorem dX12_feed_56 : decode cX12_feed 56 = .ok (.iconst 4, 1) := by decide +kernel
theorem dX12_feed_57 : decode cX12_feed 57 = .ok (.iaload, 1) := by decide +kernel
theorem dX12_feed_58 : decode cX12_feed 58 = .ok (.ireturn, 1) := by decide +kernel
