theorem dX12_here_0 : decode cX12_here 0 = .ok (.aload_n 0, 1) := by decide +kernel
theorem dX12_here_1 : decode cX12_here 1 = .ok (.getfield 45, 3) := by decide +kernel
theorem dX12_here_4 : decode cX12_here 4 = .ok (.aload_n 0, 1) := by decide +kernel
theorem dX12_here_5 : decode cX12_here 5 = .ok (.getfield 48, 3) := by decide +kernel
theorem dX12_here_8 : decode cX12_here 8 = .ok (.if_icmp .ge 18, 3) := by decide +kernel
theorem dX12_here_11 : decode cX12_here 11 = .ok (.aload_n 0, 1) := by decide +kernel
theorem dX12_here_12 : decode cX12_here 12 = .ok (.getfield 9, 3) := by decide +kernel
theorem dX12_here_15 : decode cX12_here 15 = .ok (.bipush 121, 2) := by decide +kernel
theorem dX12_here_17 : decode cX12_here 17 = .ok (.aload_n 0, 1) := by decide +kernel
theorem dX12_here_18 : decode cX12_here 18 = .ok (.getfield 45, 3) := by decide +kernel
theorem dX12_here_21 : decode cX12_here 21 = .ok (.iadd, 1) := by decide +kernel
theorem dX12_here_22 : decode cX12_here 22 = .ok (.iaload, 1) := by decide +kernel
theorem dX12_here_23 : decode cX12_here 23 = .ok (.goto 4, 3) := by decide +kernel
theorem dX12_here_26 : decode cX12_here 26 = .ok (.iconst (-1), 1) := by decide +kernel
theorem dX12_here_27 : decode cX12_here 27 = .ok (.ireturn, 1) := by decide +kernel
theorem dX12_must_0 : decode cX12_must 0 = .ok (.aload_n 0, 1) := by decide +kernel
theorem dX12_must_1 : decode cX12_must 1 = .ok (.aload_n 0, 1) := by decide +kernel
theorem dX12_must_2 : decode cX12_must 2 = .ok (.getfield 51, 3) := by decide +kernel
theorem dX12_must_5 : decode cX12_must 5 = .ok (.ifCond .ne 11, 3) := by decide +kernel
theorem dX12_must_8 : decode cX12_must 8 = .ok (.aload_n 0, 1) := by decide +kernel
theorem dX12_must_9 : decode cX12_must 9 = .ok (.invokevirtual 55, 3) := by decide +kernel
theorem dX12_must_12 : decode cX12_must 12 = .ok (.iload_n 1, 1) := by decide +kernel
theorem dX12_must_13 : decode cX12_must 13 = .ok (.if_icmp .eq 7, 3) := by decide +kernel
theorem dX12_must_16 : decode cX12_must 16 = .ok (.iconst 1, 1) := by decide +kernel
theorem dX12_must_17 : decode cX12_must 17 = .ok (.goto 4, 3) := by decide +kernel
theorem dX12_must_20 : decode cX12_must 20 = .ok (.iconst 0, 1) := by decide +kernel
theorem dX12_must_21 : decode cX12_must 21 = .ok (.putfield 51, 3) := by decide +kernel
theorem dX12_must_24 : decode cX12_must 24 = .ok (.aload_n 0, 1) := by decide +kernel
theorem dX12_must_25 : decode cX12_must 25 = .ok (.dup, 1) := by decide +kernel
theorem dX12_must_26 : decode cX12_must 26 = .ok (.getfield 45, 3) := by decide +kernel
theorem dX12_must_29 : decode cX12_must 29 = .ok (.aload_n 0, 1) := by decide +kernel
theorem dX12_must_30 : decode cX12_must 30 = .ok (.getfield 51, 3) := by decide +kernel
theorem dX12_must_33 : decode cX12_must 33 = .ok (.ifCond .eq 7, 3) := by decide +kernel
theorem dX12_must_36 : decode cX12_must 36 = .ok (.iconst 0, 1) := by decide +kernel
theorem dX12_must_37 : decode cX12_must 37 = .ok (.goto 4, 3) := by decide +kernel
theorem dX12_must_40 : decode cX12_must 40 = .ok (.iconst 1, 1) := by decide +kernel
theorem dX12_must_41 : decode cX12_must 41 = .ok (.iadd, 1) := by decide +kernel
theorem dX12_must_42 : decode cX12_must 42 = .ok (.putfield 45, 3) := by decide +kernel
theorem dX12_must_45 : decode cX12_must 45 = .ok (.return_, 1) := by decide +kernel
theorem dX12_spells_0 : decode cX12_spells 0 = .ok (.iconst 0, 1) := by decide +kernel
theorem dX12_spells_1 : decode cX12_spells 1 = .ok (.istore_n 2, 1) := by decide +kernel
theorem dX12_spells_2 : decode cX12_spells 2 = .ok (.iload_n 2, 1) := by decide +kernel
theorem dX12_spells_3 : decode cX12_spells 3 = .ok (.aload_n 1, 1) := by decide +kernel
theorem dX12_spells_4 : decode cX12_spells 4 = .ok (.invokevirtual 59, 3) := by decide +kernel
theorem dX12_spells_7 : decode cX12_spells 7 = .ok (.if_icmp .ge 18, 3) := by decide +kernel
theorem dX12_spells_10 : decode cX12_spells 10 = .ok (.aload_n 0, 1) := by decide +kernel
theorem dX12_spells_11 : decode cX12_spells 11 = .ok (.aload_n 1, 1) := by decide +kernel
theorem dX12_spells_12 : decode cX12_spells 12 = .ok (.iload_n 2, 1) := by decide +kernel
theorem dX12_spells_13 : decode cX12_spells 13 = .ok (.invokevirtual 64, 3) := by decide +kernel
theorem dX12_spells_16 : decode cX12_spells 16 = .ok (.invokevirtual 68, 3) := by decide +kernel
theorem dX12_spells_19 : decode cX12_spells 19 = .ok (.iinc 2 1, 3) := by decide +kernel
theorem dX12_spells_22 : decode cX12_spells 22 = .ok (.goto (-20), 3) := by decide +kernel
theorem dX12_spells_25 : decode cX12_spells 25 = .ok (.return_, 1) := by decide +kernel
theorem dX12_figures_0 : decode cX12_figures 0 = .ok (.aload_n 0, 1) := by decide +kernel
theorem dX12_figures_1 : decode cX12_figures 1 = .ok (.aload_n 0, 1) := by decide +kernel
theorem dX12_figures_2 : decode cX12_figures 2 = .ok (.getfield 51, 3) := by decide +kernel
theorem dX12_figures_5 : decode cX12_figures 5 = .ok (.ifCond .ne 17, 3) := by decide +kernel
theorem dX12_figures_8 : decode cX12_figures 8 = .ok (.aload_n 0, 1) := by decide +kernel
theorem dX12_figures_9 : decode cX12_figures 9 = .ok (.invokevirtual 55, 3) := by decide +kernel
theorem dX12_figures_12 : decode cX12_figures 12 = .ok (.bipush 48, 2) := by decide +kernel
theorem dX12_figures_14 : decode cX12_figures 14 = .ok (.bipush 57, 2) := by decide +kernel
theorem dX12_figures_16 : decode cX12_figures 16 = .ok (.invokestatic 41, 3) := by decide +kernel
theorem dX12_figures_19 : decode cX12_figures 19 = .ok (.ifCond .ne 7, 3) := by decide +kernel
theorem dX12_figures_22 : decode cX12_figures 22 = .ok (.iconst 1, 1) := by decide +kernel
theorem dX12_figures_23 : decode cX12_figures 23 = .ok (.goto 4, 3) := by decide +kernel
theorem dX12_figures_26 : decode cX12_figures 26 = .ok (.iconst 0, 1) := by decide +kernel
theorem dX12_figures_27 : decode cX12_figures 27 = .ok (.putfield 51, 3) := by decide +kernel
theorem dX12_figures_30 : decode cX12_figures 30 = .ok (.iconst 0, 1) := by decide +kernel
theorem dX12_figures_31 : decode cX12_figures 31 = .ok (.istore_n 1, 1) := by decide +kernel
theorem dX12_figures_32 : decode cX12_figures 32 = .ok (.iconst 0, 1) := by decide +kernel
theorem dX12_figures_33 : decode cX12_figures 33 = .ok (.istore_n 2, 1) := by decide +kernel
theorem dX12_figures_34 : decode cX12_figures 34 = .ok (.iload_n 2, 1) := by decide +kernel
theorem dX12_figures_35 : decode cX12_figures 35 = .ok (.iconst 2, 1) := by decide +kernel
theorem dX12_figures_36 : decode cX12_figures 36 = .ok (.if_icmp .ge 61, 3) := by decide +kernel
theorem dX12_figures_39 : decode cX12_figures 39 = .ok (.aload_n 0, 1) := by decide +kernel
theorem dX12_figures_40 : decode cX12_figures 40 = .ok (.getfield 51, 3) := by decide +kernel
theorem dX12_figures_43 : decode cX12_figures 43 = .ok (.ifCond .ne 54, 3) := by decide +kernel
theorem dX12_figures_46 : decode cX12_figures 46 = .ok (.aload_n 0, 1) := by decide +kernel
theorem dX12_figures_47 : decode cX12_figures 47 = .ok (.invokevirtual 55, 3) := by decide +kernel
theorem dX12_figures_50 : decode cX12_figures 50 = .ok (.bipush 48, 2) := by decide +kernel
theorem dX12_figures_52 : decode cX12_figures 52 = .ok (.bipush 57, 2) := by decide +kernel
theorem dX12_figures_54 : decode cX12_figures 54 = .ok (.invokestatic 41, 3) := by decide +kernel
theorem dX12_figures_57 : decode cX12_figures 57 = .ok (.ifCond .eq 40, 3) := by decide +kernel
theorem dX12_figures_60 : decode cX12_figures 60 = .ok (.iload_n 2, 1) := by decide +kernel
theorem dX12_figures_61 : decode cX12_figures 61 = .ok (.ifCond .eq 7, 3) := by decide +kernel
theorem dX12_figures_64 : decode cX12_figures 64 = .ok (.iload_n 1, 1) := by decide +kernel
theorem dX12_figures_65 : decode cX12_figures 65 = .ok (.ifCond .le 32, 3) := by decide +kernel
theorem dX12_figures_68 : decode cX12_figures 68 = .ok (.bipush 10, 2) := by decide +kernel
theorem dX12_figures_70 : decode cX12_figures 70 = .ok (.iload_n 1, 1) := by decide +kernel
theorem dX12_figures_71 : decode cX12_figures 71 = .ok (.imul, 1) := by decide +kernel
theorem dX12_figures_72 : decode cX12_figures 72 = .ok (.aload_n 0, 1) := by decide +kernel
theorem dX12_figures_73 : decode cX12_figures 73 = .ok (.invokevirtual 55, 3) := by decide +kernel
theorem dX12_figures_76 : decode cX12_figures 76 = .ok (.iadd, 1) := by decide +kernel
theorem dX12_figures_77 : decode cX12_figures 77 = .ok (.bipush 48, 2) := by decide +kernel
theorem dX12_figures_79 : decode cX12_figures 79 = .ok (.isub, 1) := by decide +kernel
theorem dX12_figures_80 : decode cX12_figures 80 = .ok (.istore_n 1, 1) := by decide +kernel
theorem dX12_figures_81 : decode cX12_figures 81 = .ok (.aload_n 0, 1) := by decide +kernel
theorem dX12_figures_82 : decode cX12_figures 82 = .ok (.dup, 1) := by decide +kernel
theorem dX12_figures_83 : decode cX12_figures 83 = .ok (.getfield 45, 3) := by decide +kernel
theorem dX12_figures_86 : decode cX12_figures 86 = .ok (.iconst 1, 1) := by decide +kernel
theorem dX12_figures_87 : decode cX12_figures 87 = .ok (.iadd, 1) := by decide +kernel
theorem dX12_figures_88 : decode cX12_figures 88 = .ok (.putfield 45, 3) := by decide +kernel
theorem dX12_figures_91 : decode cX12_figures 91 = .ok (.iinc 2 1, 3) := by decide +kernel
theorem dX12_figures_94 : decode cX12_figures 94 = .ok (.goto (-60), 3) := by decide +kernel
theorem dX12_figures_97 : decode cX12_figures 97 = .ok (.iload_n 1, 1) := by decide +kernel
theorem dX12_figures_98 : decode cX12_figures 98 = .ok (.ireturn, 1) := by decide +kernel
theorem dX12_among_0 : decode cX12_among 0 = .ok (.iconst 0, 1) := by decide +kernel
theorem dX12_among_1 : decode cX12_among 1 = .ok (.istore_n 2, 1) := by decide +kernel
theorem dX12_among_2 : decode cX12_among 2 = .ok (.iload_n 2, 1) := by decide +kernel
theorem dX12_among_3 : decode cX12_among 3 = .ok (.aload_n 1, 1) := by decide +kernel
theorem dX12_among_4 : decode cX12_among 4 = .ok (.invokevirtual 59, 3) := by decide +kernel
theorem dX12_among_7 : decode cX12_among 7 = .ok (.if_icmp .ge 33, 3) := by decide +kernel
theorem dX12_among_10 : decode cX12_among 10 = .ok (.aload_n 0, 1) := by decide +kernel
theorem dX12_among_11 : decode cX12_among 11 = .ok (.invokevirtual 55, 3) := by decide +kernel
theorem dX12_among_14 : decode cX12_among 14 = .ok (.aload_n 1, 1) := by decide +kernel
theorem dX12_among_15 : decode cX12_among 15 = .ok (.iload_n 2, 1) := by decide +kernel
theorem dX12_among_16 : decode cX12_among 16 = .ok (.invokevirtual 64, 3) := by decide +kernel
theorem dX12_among_19 : decode cX12_among 19 = .ok (.if_icmp .ne 15, 3) := by decide +kernel
theorem dX12_among_22 : decode cX12_among 22 = .ok (.aload_n 0, 1) := by decide +kernel
theorem dX12_among_23 : decode cX12_among 23 = .ok (.dup, 1) := by decide +kernel
theorem dX12_among_24 : decode cX12_among 24 = .ok (.getfield 45, 3) := by decide +kernel
theorem dX12_among_27 : decode cX12_among 27 = .ok (.iconst 1, 1) := by decide +kernel
theorem dX12_among_28 : decode cX12_among 28 = .ok (.iadd, 1) := by decide +kernel
theorem dX12_among_29 : decode cX12_among 29 = .ok (.putfield 45, 3) := by decide +kernel
theorem dX12_among_32 : decode cX12_among 32 = .ok (.iload_n 2, 1) := by decide +kernel
theorem dX12_among_33 : decode cX12_among 33 = .ok (.ireturn, 1) := by decide +kernel
theorem dX12_among_34 : decode cX12_among 34 = .ok (.iinc 2 1, 3) := by decide +kernel
theorem dX12_among_37 : decode cX12_among 37 = .ok (.goto (-35), 3) := by decide +kernel
theorem dX12_among_40 : decode cX12_among 40 = .ok (.iconst (-1), 1) := by decide +kernel
theorem dX12_among_41 : decode cX12_among 41 = .ok (.ireturn, 1) := by decide +kernel
theorem dX12_emits_0 : decode cX12_emits 0 = .ok (.aload_n 0, 1) := by decide +kernel
theorem dX12_emits_1 : decode cX12_emits 1 = .ok (.getfield 51, 3) := by decide +kernel
theorem dX12_emits_4 : decode cX12_emits 4 = .ok (.ifCond .ne 52, 3) := by decide +kernel
theorem dX12_emits_7 : decode cX12_emits 7 = .ok (.aload_n 0, 1) := by decide +kernel
theorem dX12_emits_8 : decode cX12_emits 8 = .ok (.getfield 9, 3) := by decide +kernel
theorem dX12_emits_11 : decode cX12_emits 11 = .ok (.sipush 236, 3) := by decide +kernel
theorem dX12_emits_14 : decode cX12_emits 14 = .ok (.sipush 140, 3) := by decide +kernel
theorem dX12_emits_17 : decode cX12_emits 17 = .ok (.aload_n 0, 1) := by decide +kernel
theorem dX12_emits_18 : decode cX12_emits 18 = .ok (.getfield 72, 3) := by decide +kernel
theorem dX12_emits_21 : decode cX12_emits 21 = .ok (.imul, 1) := by decide +kernel
theorem dX12_emits_22 : decode cX12_emits 22 = .ok (.iadd, 1) := by decide +kernel
theorem dX12_emits_23 : decode cX12_emits 23 = .ok (.aload_n 0, 1) := by decide +kernel
theorem dX12_emits_24 : decode cX12_emits 24 = .ok (.getfield 9, 3) := by decide +kernel
theorem dX12_emits_27 : decode cX12_emits 27 = .ok (.sipush 231, 3) := by decide +kernel
theorem dX12_emits_30 : decode cX12_emits 30 = .ok (.aload_n 0, 1) := by decide +kernel
theorem dX12_emits_31 : decode cX12_emits 31 = .ok (.getfield 72, 3) := by decide +kernel
theorem dX12_emits_34 : decode cX12_emits 34 = .ok (.iadd, 1) := by decide +kernel
theorem dX12_emits_35 : decode cX12_emits 35 = .ok (.iaload, 1) := by decide +kernel
theorem dX12_emits_36 : decode cX12_emits 36 = .ok (.iadd, 1) := by decide +kernel
theorem dX12_emits_37 : decode cX12_emits 37 = .ok (.iload_n 1, 1) := by decide +kernel
theorem dX12_emits_38 : decode cX12_emits 38 = .ok (.iastore, 1) := by decide +kernel
theorem dX12_emits_39 : decode cX12_emits 39 = .ok (.aload_n 0, 1) := by decide +kernel
theorem dX12_emits_40 : decode cX12_emits 40 = .ok (.getfield 9, 3) := by decide +kernel
theorem dX12_emits_43 : decode cX12_emits 43 = .ok (.sipush 231, 3) := by decide +kernel
theorem dX12_emits_46 : decode cX12_emits 46 = .ok (.aload_n 0, 1) := by decide +kernel
theorem dX12_emits_47 : decode cX12_emits 47 = .ok (.getfield 72, 3) := by decide +kernel
theorem dX12_emits_50 : decode cX12_emits 50 = .ok (.iadd, 1) := by decide +kernel
theorem dX12_emits_51 : decode cX12_emits 51 = .ok (.dup2, 1) := by decide +kernel
theorem dX12_emits_52 : decode cX12_emits 52 = .ok (.iaload, 1) := by decide +kernel
theorem dX12_emits_53 : decode cX12_emits 53 = .ok (.iconst 1, 1) := by decide +kernel
theorem dX12_emits_54 : decode cX12_emits 54 = .ok (.iadd, 1) := by decide +kernel
theorem dX12_emits_55 : decode cX12_emits 55 = .ok (.iastore, 1) := by decide +kernel
theorem dX12_emits_56 : decode cX12_emits 56 = .ok (.return_, 1) := by decide +kernel
theorem dX12_factor_0 : decode cX12_factor 0 = .ok (.aload_n 0, 1) := by decide +kernel
theorem dX12_factor_1 : decode cX12_factor 1 = .ok (.getfield 51, 3) := by decide +kernel
theorem dX12_factor_4 : decode cX12_factor 4 = .ok (.ifCond .eq 4, 3) := by decide +kernel
theorem dX12_factor_7 : decode cX12_factor 7 = .ok (.return_, 1) := by decide +kernel
theorem dX12_factor_8 : decode cX12_factor 8 = .ok (.aload_n 0, 1) := by decide +kernel
theorem dX12_factor_9 : decode cX12_factor 9 = .ok (.invokevirtual 55, 3) := by decide +kernel
theorem dX12_factor_12 : decode cX12_factor 12 = .ok (.istore_n 1, 1) := by decide +kernel
theorem dX12_factor_13 : decode cX12_factor 13 = .ok (.iload_n 1, 1) := by decide +kernel
theorem dX12_factor_14 : decode cX12_factor 14 = .ok (.bipush 33, 2) := by decide +kernel
theorem dX12_factor_16 : decode cX12_factor 16 = .ok (.if_icmp .eq 9, 3) := by decide +kernel
theorem dX12_factor_19 : decode cX12_factor 19 = .ok (.iload_n 1, 1) := by decide +kernel
theorem dX12_factor_20 : decode cX12_factor 20 = .ok (.bipush 40, 2) := by decide +kernel
theorem dX12_factor_22 : decode cX12_factor 22 = .ok (.if_icmp .ne 90, 3) := by decide +kernel
theorem dX12_factor_25 : decode cX12_factor 25 = .ok (.aload_n 0, 1) := by decide +kernel
theorem dX12_factor_26 : decode cX12_factor 26 = .ok (.aload_n 0, 1) := by decide +kernel
theorem dX12_factor_27 : decode cX12_factor 27 = .ok (.getfield 75, 3) := by decide +kernel
theorem dX12_factor_30 : decode cX12_factor 30 = .ok (.iconst 5, 1) := by decide +kernel
theorem dX12_factor_31 : decode cX12_factor 31 = .ok (.if_icmp .ne 7, 3) := by decide +kernel
theorem dX12_factor_34 : decode cX12_factor 34 = .ok (.iconst 1, 1) := by decide +kernel
theorem dX12_factor_35 : decode cX12_factor 35 = .ok (.goto 4, 3) := by decide +kernel
theorem dX12_factor_38 : decode cX12_factor 38 = .ok (.iconst 0, 1) := by decide +kernel
theorem dX12_factor_39 : decode cX12_factor 39 = .ok (.putfield 51, 3) := by decide +kernel
theorem dX12_factor_42 : decode cX12_factor 42 = .ok (.aload_n 0, 1) := by decide +kernel
theorem dX12_factor_43 : decode cX12_factor 43 = .ok (.dup, 1) := by decide +kernel
theorem dX12_factor_44 : decode cX12_factor 44 = .ok (.getfield 75, 3) := by decide +kernel
theorem dX12_factor_47 : decode cX12_factor 47 = .ok (.iconst 1, 1) := by decide +kernel
theorem dX12_factor_48 : decode cX12_factor 48 = .ok (.iadd, 1) := by decide +kernel
theorem dX12_factor_49 : decode cX12_factor 49 = .ok (.putfield 75, 3) := by decide +kernel
theorem dX12_factor_52 : decode cX12_factor 52 = .ok (.aload_n 0, 1) := by decide +kernel
theorem dX12_factor_53 : decode cX12_factor 53 = .ok (.dup, 1) := by decide +kernel
theorem dX12_factor_54 : decode cX12_factor 54 = .ok (.getfield 45, 3) := by decide +kernel
theorem dX12_factor_57 : decode cX12_factor 57 = .ok (.aload_n 0, 1) := by decide +kernel
theorem dX12_factor_58 : decode cX12_factor 58 = .ok (.getfield 51, 3) := by decide +kernel
theorem dX12_factor_61 : decode cX12_factor 61 = .ok (.ifCond .eq 7, 3) := by decide +kernel
theorem dX12_factor_64 : decode cX12_factor 64 = .ok (.iconst 0, 1) := by decide +kernel
theorem dX12_factor_65 : decode cX12_factor 65 = .ok (.goto 4, 3) := by decide +kernel
theorem dX12_factor_68 : decode cX12_factor 68 = .ok (.iconst 1, 1) := by decide +kernel
theorem dX12_factor_69 : decode cX12_factor 69 = .ok (.iadd, 1) := by decide +kernel
theorem dX12_factor_70 : decode cX12_factor 70 = .ok (.putfield 45, 3) := by decide +kernel
theorem dX12_factor_73 : decode cX12_factor 73 = .ok (.iload_n 1, 1) := by decide +kernel
theorem dX12_factor_74 : decode cX12_factor 74 = .ok (.bipush 33, 2) := by decide +kernel
theorem dX12_factor_76 : decode cX12_factor 76 = .ok (.if_icmp .ne 15, 3) := by decide +kernel
theorem dX12_factor_79 : decode cX12_factor 79 = .ok (.aload_n 0, 1) := by decide +kernel
theorem dX12_factor_80 : decode cX12_factor 80 = .ok (.invokevirtual 78, 3) := by decide +kernel
theorem dX12_factor_83 : decode cX12_factor 83 = .ok (.aload_n 0, 1) := by decide +kernel
theorem dX12_factor_84 : decode cX12_factor 84 = .ok (.iconst (-1), 1) := by decide +kernel
theorem dX12_factor_85 : decode cX12_factor 85 = .ok (.invokevirtual 81, 3) := by decide +kernel
theorem dX12_factor_88 : decode cX12_factor 88 = .ok (.goto 13, 3) := by decide +kernel
theorem dX12_factor_91 : decode cX12_factor 91 = .ok (.aload_n 0, 1) := by decide +kernel
theorem dX12_factor_92 : decode cX12_factor 92 = .ok (.invokevirtual 84, 3) := by decide +kernel
theorem dX12_factor_95 : decode cX12_factor 95 = .ok (.aload_n 0, 1) := by decide +kernel
theorem dX12_factor_96 : decode cX12_factor 96 = .ok (.bipush 41, 2) := by decide +kernel
theorem dX12_factor_98 : decode cX12_factor 98 = .ok (.invokevirtual 68, 3) := by decide +kernel
theorem dX12_factor_101 : decode cX12_factor 101 = .ok (.aload_n 0, 1) := by decide +kernel
theorem dX12_factor_102 : decode cX12_factor 102 = .ok (.dup, 1) := by decide +kernel
theorem dX12_factor_103 : decode cX12_factor 103 = .ok (.getfield 75, 3) := by decide +kernel
theorem dX12_factor_106 : decode cX12_factor 106 = .ok (.iconst 1, 1) := by decide +kernel
theorem dX12_factor_107 : decode cX12_factor 107 = .ok (.isub, 1) := by decide +kernel
theorem dX12_factor_108 : decode cX12_factor 108 = .ok (.putfield 75, 3) := by decide +kernel
theorem dX12_factor_111 : decode cX12_factor 111 = .ok (.return_, 1) := by decide +kernel
theorem dX12_factor_112 : decode cX12_factor 112 = .ok (.aload_n 0, 1) := by decide +kernel
theorem dX12_factor_113 : decode cX12_factor 113 = .ok (.ldc 87, 2) := by decide +kernel
theorem dX12_factor_115 : decode cX12_factor 115 = .ok (.invokevirtual 89, 3) := by decide +kernel
theorem dX12_factor_118 : decode cX12_factor 118 = .ok (.istore_n 2, 1) := by decide +kernel
theorem dX12_factor_119 : decode cX12_factor 119 = .ok (.aload_n 0, 1) := by decide +kernel
theorem dX12_factor_120 : decode cX12_factor 120 = .ok (.iload_n 2, 1) := by decide +kernel
theorem dX12_factor_121 : decode cX12_factor 121 = .ok (.iconst (-1), 1) := by decide +kernel
theorem dX12_factor_122 : decode cX12_factor 122 = .ok (.if_icmp .ne 7, 3) := by decide +kernel
theorem dX12_factor_125 : decode cX12_factor 125 = .ok (.iconst 1, 1) := by decide +kernel
theorem dX12_factor_126 : decode cX12_factor 126 = .ok (.goto 4, 3) := by decide +kernel
theorem dX12_factor_129 : decode cX12_factor 129 = .ok (.iconst 0, 1) := by decide +kernel
theorem dX12_factor_130 : decode cX12_factor 130 = .ok (.putfield 51, 3) := by decide +kernel
theorem dX12_factor_133 : decode cX12_factor 133 = .ok (.aload_n 0, 1) := by decide +kernel
theorem dX12_factor_134 : decode cX12_factor 134 = .ok (.getfield 51, 3) := by decide +kernel
theorem dX12_factor_137 : decode cX12_factor 137 = .ok (.ifCond .eq 7, 3) := by decide +kernel
theorem dX12_factor_140 : decode cX12_factor 140 = .ok (.iconst 0, 1) := by decide +kernel
theorem dX12_factor_141 : decode cX12_factor 141 = .ok (.goto 9, 3) := by decide +kernel
theorem dX12_factor_144 : decode cX12_factor 144 = .ok (.aload_n 0, 1) := by decide +kernel
theorem dX12_factor_145 : decode cX12_factor 145 = .ok (.ldc 93, 2) := by decide +kernel
theorem dX12_factor_147 : decode cX12_factor 147 = .ok (.invokevirtual 89, 3) := by decide +kernel
theorem dX12_factor_150 : decode cX12_factor 150 = .ok (.istore_n 3, 1) := by decide +kernel
theorem dX12_factor_151 : decode cX12_factor 151 = .ok (.aload_n 0, 1) := by decide +kernel
theorem dX12_factor_152 : decode cX12_factor 152 = .ok (.aload_n 0, 1) := by decide +kernel
theorem dX12_factor_153 : decode cX12_factor 153 = .ok (.getfield 51, 3) := by decide +kernel
theorem dX12_factor_156 : decode cX12_factor 156 = .ok (.ifCond .ne 8, 3) := by decide +kernel
theorem dX12_factor_159 : decode cX12_factor 159 = .ok (.iload_n 3, 1) := by decide +kernel
theorem dX12_factor_160 : decode cX12_factor 160 = .ok (.iconst (-1), 1) := by decide +kernel
theorem dX12_factor_161 : decode cX12_factor 161 = .ok (.if_icmp .ne 7, 3) := by decide +kernel
theorem dX12_factor_164 : decode cX12_factor 164 = .ok (.iconst 1, 1) := by decide +kernel
theorem dX12_factor_165 : decode cX12_factor 165 = .ok (.goto 4, 3) := by decide +kernel
theorem dX12_factor_168 : decode cX12_factor 168 = .ok (.iconst 0, 1) := by decide +kernel
theorem dX12_factor_169 : decode cX12_factor 169 = .ok (.putfield 51, 3) := by decide +kernel
theorem dX12_factor_172 : decode cX12_factor 172 = .ok (.aload_n 0, 1) := by decide +kernel
theorem dX12_factor_173 : decode cX12_factor 173 = .ok (.invokevirtual 95, 3) := by decide +kernel
theorem dX12_factor_176 : decode cX12_factor 176 = .ok (.istore 4, 2) := by decide +kernel
theorem dX12_factor_178 : decode cX12_factor 178 = .ok (.aload_n 0, 1) := by decide +kernel
theorem dX12_factor_179 : decode cX12_factor 179 = .ok (.iload_n 2, 1) := by decide +kernel
theorem dX12_factor_180 : decode cX12_factor 180 = .ok (.bipush 8, 2) := by decide +kernel
theorem dX12_factor_182 : decode cX12_factor 182 = .ok (.iload_n 3, 1) := by decide +kernel
theorem dX12_factor_183 : decode cX12_factor 183 = .ok (.imul, 1) := by decide +kernel
theorem dX12_factor_184 : decode cX12_factor 184 = .ok (.iadd, 1) := by decide +kernel
theorem dX12_factor_185 : decode cX12_factor 185 = .ok (.bipush 32, 2) := by decide +kernel
theorem dX12_factor_187 : decode cX12_factor 187 = .ok (.iload 4, 2) := by decide +kernel
theorem dX12_factor_189 : decode cX12_factor 189 = .ok (.imul, 1) := by decide +kernel
theorem dX12_factor_190 : decode cX12_factor 190 = .ok (.iadd, 1) := by decide +kernel
theorem dX12_factor_191 : decode cX12_factor 191 = .ok (.invokevirtual 81, 3) := by decide +kernel
theorem dX12_factor_194 : decode cX12_factor 194 = .ok (.return_, 1) := by decide +kernel
theorem dX12_every_0 : decode cX12_every 0 = .ok (.aload_n 0, 1) := by decide +kernel
theorem dX12_every_1 : decode cX12_every 1 = .ok (.invokevirtual 78, 3) := by decide +kernel
theorem dX12_every_4 : decode cX12_every 4 = .ok (.aload_n 0, 1) := by decide +kernel
theorem dX12_every_5 : decode cX12_every 5 = .ok (.getfield 51, 3) := by decide +kernel
theorem dX12_every_8 : decode cX12_every 8 = .ok (.ifCond .ne 35, 3) := by decide +kernel
theorem dX12_every_11 : decode cX12_every 11 = .ok (.aload_n 0, 1) := by decide +kernel
theorem dX12_every_12 : decode cX12_every 12 = .ok (.invokevirtual 55, 3) := by decide +kernel
theorem dX12_every_15 : decode cX12_every 15 = .ok (.bipush 38, 2) := by decide +kernel
theorem dX12_every_17 : decode cX12_every 17 = .ok (.if_icmp .ne 26, 3) := by decide +kernel
theorem dX12_every_20 : decode cX12_every 20 = .ok (.aload_n 0, 1) := by decide +kernel
theorem dX12_every_21 : decode cX12_every 21 = .ok (.dup, 1) := by decide +kernel
theorem dX12_every_22 : decode cX12_every 22 = .ok (.getfield 45, 3) := by decide +kernel
theorem dX12_every_25 : decode cX12_every 25 = .ok (.iconst 1, 1) := by decide +kernel
theorem dX12_every_26 : decode cX12_every 26 = .ok (.iadd, 1) := by decide +kernel
theorem dX12_every_27 : decode cX12_every 27 = .ok (.putfield 45, 3) := by decide +kernel
theorem dX12_every_30 : decode cX12_every 30 = .ok (.aload_n 0, 1) := by decide +kernel
theorem dX12_every_31 : decode cX12_every 31 = .ok (.invokevirtual 78, 3) := by decide +kernel
theorem dX12_every_34 : decode cX12_every 34 = .ok (.aload_n 0, 1) := by decide +kernel
theorem dX12_every_35 : decode cX12_every 35 = .ok (.bipush (-2), 2) := by decide +kernel
theorem dX12_every_37 : decode cX12_every 37 = .ok (.invokevirtual 81, 3) := by decide +kernel
theorem dX12_every_40 : decode cX12_every 40 = .ok (.goto (-36), 3) := by decide +kernel
theorem dX12_every_43 : decode cX12_every 43 = .ok (.return_, 1) := by decide +kernel
theorem dX12_some_0 : decode cX12_some 0 = .ok (.aload_n 0, 1) := by decide +kernel
theorem dX12_some_1 : decode cX12_some 1 = .ok (.invokevirtual 98, 3) := by decide +kernel
theorem dX12_some_4 : decode cX12_some 4 = .ok (.aload_n 0, 1) := by decide +kernel
theorem dX12_some_5 : decode cX12_some 5 = .ok (.getfield 51, 3) := by decide +kernel
theorem dX12_some_8 : decode cX12_some 8 = .ok (.ifCond .ne 35, 3) := by decide +kernel
theorem dX12_some_11 : decode cX12_some 11 = .ok (.aload_n 0, 1) := by decide +kernel
theorem dX12_some_12 : decode cX12_some 12 = .ok (.invokevirtual 55, 3) := by decide +kernel
theorem dX12_some_15 : decode cX12_some 15 = .ok (.bipush 124, 2) := by decide +kernel
theorem dX12_some_17 : decode cX12_some 17 = .ok (.if_icmp .ne 26, 3) := by decide +kernel
theorem dX12_some_20 : decode cX12_some 20 = .ok (.aload_n 0, 1) := by decide +kernel
theorem dX12_some_21 : decode cX12_some 21 = .ok (.dup, 1) := by decide +kernel
theorem dX12_some_22 : decode cX12_some 22 = .ok (.getfield 45, 3) := by decide +kernel
theorem dX12_some_25 : decode cX12_some 25 = .ok (.iconst 1, 1) := by decide +kernel
theorem dX12_some_26 : decode cX12_some 26 = .ok (.iadd, 1) := by decide +kernel
theorem dX12_some_27 : decode cX12_some 27 = .ok (.putfield 45, 3) := by decide +kernel
theorem dX12_some_30 : decode cX12_some 30 = .ok (.aload_n 0, 1) := by decide +kernel
theorem dX12_some_31 : decode cX12_some 31 = .ok (.invokevirtual 98, 3) := by decide +kernel
theorem dX12_some_34 : decode cX12_some 34 = .ok (.aload_n 0, 1) := by decide +kernel
theorem dX12_some_35 : decode cX12_some 35 = .ok (.bipush (-3), 2) := by decide +kernel
theorem dX12_some_37 : decode cX12_some 37 = .ok (.invokevirtual 81, 3) := by decide +kernel
theorem dX12_some_40 : decode cX12_some 40 = .ok (.goto (-36), 3) := by decide +kernel
theorem dX12_some_43 : decode cX12_some 43 = .ok (.return_, 1) := by decide +kernel
theorem dX12_much_0 : decode cX12_much 0 = .ok (.aload_n 0, 1) := by decide +kernel
theorem dX12_much_1 : decode cX12_much 1 = .ok (.aload_n 2, 1) := by decide +kernel
theorem dX12_much_2 : decode cX12_much 2 = .ok (.invokevirtual 101, 3) := by decide +kernel
theorem dX12_much_5 : decode cX12_much 5 = .ok (.aload_n 0, 1) := by decide +kernel
theorem dX12_much_6 : decode cX12_much 6 = .ok (.invokevirtual 95, 3) := by decide +kernel
theorem dX12_much_9 : decode cX12_much 9 = .ok (.istore_n 3, 1) := by decide +kernel
theorem dX12_much_10 : decode cX12_much 10 = .ok (.aload_n 0, 1) := by decide +kernel
theorem dX12_much_11 : decode cX12_much 11 = .ok (.bipush 32, 2) := by decide +kernel
theorem dX12_much_13 : decode cX12_much 13 = .ok (.invokevirtual 68, 3) := by decide +kernel
theorem dX12_much_16 : decode cX12_much 16 = .ok (.aload_n 0, 1) := by decide +kernel
theorem dX12_much_17 : decode cX12_much 17 = .ok (.invokevirtual 84, 3) := by decide +kernel
theorem dX12_much_20 : decode cX12_much 20 = .ok (.aload_n 0, 1) := by decide +kernel
theorem dX12_much_21 : decode cX12_much 21 = .ok (.iload_n 1, 1) := by decide +kernel
theorem dX12_much_22 : decode cX12_much 22 = .ok (.iload_n 3, 1) := by decide +kernel
theorem dX12_much_23 : decode cX12_much 23 = .ok (.isub, 1) := by decide +kernel
theorem dX12_much_24 : decode cX12_much 24 = .ok (.invokevirtual 81, 3) := by decide +kernel
theorem dX12_much_27 : decode cX12_much 27 = .ok (.return_, 1) := by decide +kernel
theorem dX12_tellsHere_0 : decode cX12_tellsHere 0 = .ok (.aload_n 0, 1) := by decide +kernel
theorem dX12_tellsHere_1 : decode cX12_tellsHere 1 = .ok (.aload_n 2, 1) := by decide +kernel
theorem dX12_tellsHere_2 : decode cX12_tellsHere 2 = .ok (.invokevirtual 101, 3) := by decide +kernel
theorem dX12_tellsHere_5 : decode cX12_tellsHere 5 = .ok (.aload_n 0, 1) := by decide +kernel
theorem dX12_tellsHere_6 : decode cX12_tellsHere 6 = .ok (.invokevirtual 95, 3) := by decide +kernel
theorem dX12_tellsHere_9 : decode cX12_tellsHere 9 = .ok (.istore_n 3, 1) := by decide +kernel
theorem dX12_tellsHere_10 : decode cX12_tellsHere 10 = .ok (.aload_n 0, 1) := by decide +kernel
theorem dX12_tellsHere_11 : decode cX12_tellsHere 11 = .ok (.getfield 51, 3) := by decide +kernel
theorem dX12_tellsHere_14 : decode cX12_tellsHere 14 = .ok (.ifCond .ne 15, 3) := by decide +kernel
theorem dX12_tellsHere_17 : decode cX12_tellsHere 17 = .ok (.aload_n 0, 1) := by decide +kernel
theorem dX12_tellsHere_18 : decode cX12_tellsHere 18 = .ok (.getfield 9, 3) := by decide +kernel
theorem dX12_tellsHere_21 : decode cX12_tellsHere 21 = .ok (.iload_n 1, 1) := by decide +kernel
theorem dX12_tellsHere_22 : decode cX12_tellsHere 22 = .ok (.aload_n 0, 1) := by decide +kernel
theorem dX12_tellsHere_23 : decode cX12_tellsHere 23 = .ok (.getfield 72, 3) := by decide +kernel
theorem dX12_tellsHere_26 : decode cX12_tellsHere 26 = .ok (.iadd, 1) := by decide +kernel
theorem dX12_tellsHere_27 : decode cX12_tellsHere 27 = .ok (.iload_n 3, 1) := by decide +kernel
theorem dX12_tellsHere_28 : decode cX12_tellsHere 28 = .ok (.iastore, 1) := by decide +kernel
theorem dX12_tellsHere_29 : decode cX12_tellsHere 29 = .ok (.return_, 1) := by decide +kernel
theorem dX12_clauseHere_0 : decode cX12_clauseHere 0 = .ok (.aload_n 0, 1) := by decide +kernel
theorem dX12_clauseHere_1 : decode cX12_clauseHere 1 = .ok (.invokevirtual 55, 3) := by decide +kernel
theorem dX12_clauseHere_4 : decode cX12_clauseHere 4 = .ok (.lookupswitch 91 #[(103, 79), (112, 56), (115, 68), (119, 44)], 44) := by decide +kernel
theorem dX12_clauseHere_48 : decode cX12_clauseHere 48 = .ok (.aload_n 0, 1) := by decide +kernel
theorem dX12_clauseHere_49 : decode cX12_clauseHere 49 = .ok (.sipush 221, 3) := by decide +kernel
theorem dX12_clauseHere_52 : decode cX12_clauseHere 52 = .ok (.ldc 105, 2) := by decide +kernel
theorem dX12_clauseHere_54 : decode cX12_clauseHere 54 = .ok (.invokevirtual 107, 3) := by decide +kernel
theorem dX12_clauseHere_57 : decode cX12_clauseHere 57 = .ok (.goto 43, 3) := by decide +kernel
theorem dX12_clauseHere_60 : decode cX12_clauseHere 60 = .ok (.aload_n 0, 1) := by decide +kernel
theorem dX12_clauseHere_61 : decode cX12_clauseHere 61 = .ok (.sipush 226, 3) := by decide +kernel
theorem dX12_clauseHere_64 : decode cX12_clauseHere 64 = .ok (.ldc 111, 2) := by decide +kernel
theorem dX12_clauseHere_66 : decode cX12_clauseHere 66 = .ok (.invokevirtual 107, 3) := by decide +kernel
theorem dX12_clauseHere_69 : decode cX12_clauseHere 69 = .ok (.goto 31, 3) := by decide +kernel
theorem dX12_clauseHere_72 : decode cX12_clauseHere 72 = .ok (.aload_n 0, 1) := by decide +kernel
theorem dX12_clauseHere_73 : decode cX12_clauseHere 73 = .ok (.bipush (-10), 2) := by decide +kernel
theorem dX12_clauseHere_75 : decode cX12_clauseHere 75 = .ok (.ldc 113, 2) := by decide +kernel
theorem dX12_clauseHere_77 : decode cX12_clauseHere 77 = .ok (.invokevirtual 115, 3) := by decide +kernel
theorem dX12_clauseHere_80 : decode cX12_clauseHere 80 = .ok (.goto 20, 3) := by decide +kernel
theorem dX12_clauseHere_83 : decode cX12_clauseHere 83 = .ok (.aload_n 0, 1) := by decide +kernel
theorem dX12_clauseHere_84 : decode cX12_clauseHere 84 = .ok (.sipush (-200), 3) := by decide +kernel
theorem dX12_clauseHere_87 : decode cX12_clauseHere 87 = .ok (.ldc 118, 2) := by decide +kernel
theorem dX12_clauseHere_89 : decode cX12_clauseHere 89 = .ok (.invokevirtual 115, 3) := by decide +kernel
theorem dX12_clauseHere_92 : decode cX12_clauseHere 92 = .ok (.goto 8, 3) := by decide +kernel
theorem dX12_clauseHere_95 : decode cX12_clauseHere 95 = .ok (.aload_n 0, 1) := by decide +kernel
theorem dX12_clauseHere_96 : decode cX12_clauseHere 96 = .ok (.iconst 1, 1) := by decide +kernel
theorem dX12_clauseHere_97 : decode cX12_clauseHere 97 = .ok (.putfield 51, 3) := by decide +kernel
theorem dX12_clauseHere_100 : decode cX12_clauseHere 100 = .ok (.return_, 1) := by decide +kernel
theorem dX12_inn_0 : decode cX12_inn 0 = .ok (.aload_n 0, 1) := by decide +kernel
theorem dX12_inn_1 : decode cX12_inn 1 = .ok (.getfield 9, 3) := by decide +kernel
theorem dX12_inn_4 : decode cX12_inn 4 = .ok (.iconst 1, 1) := by decide +kernel
theorem dX12_inn_5 : decode cX12_inn 5 = .ok (.iaload, 1) := by decide +kernel
theorem dX12_inn_6 : decode cX12_inn 6 = .ok (.iconst 5, 1) := by decide +kernel
theorem dX12_inn_7 : decode cX12_inn 7 = .ok (.if_icmp .ne 6, 3) := by decide +kernel
theorem dX12_inn_10 : decode cX12_inn 10 = .ok (.bipush (-4), 2) := by decide +kernel
theorem dX12_inn_12 : decode cX12_inn 12 = .ok (.ireturn, 1) := by decide +kernel
theorem dX12_inn_13 : decode cX12_inn 13 = .ok (.aload_n 0, 1) := by decide +kernel
theorem dX12_inn_14 : decode cX12_inn 14 = .ok (.aload_n 0, 1) := by decide +kernel
theorem dX12_inn_15 : decode cX12_inn 15 = .ok (.getfield 9, 3) := by decide +kernel
theorem dX12_inn_18 : decode cX12_inn 18 = .ok (.iconst 1, 1) := by decide +kernel
theorem dX12_inn_19 : decode cX12_inn 19 = .ok (.iaload, 1) := by decide +kernel
theorem dX12_inn_20 : decode cX12_inn 20 = .ok (.putfield 72, 3) := by decide +kernel
theorem dX12_inn_23 : decode cX12_inn 23 = .ok (.aload_n 0, 1) := by decide +kernel
theorem dX12_inn_24 : decode cX12_inn 24 = .ok (.aload_n 0, 1) := by decide +kernel
theorem dX12_inn_25 : decode cX12_inn 25 = .ok (.getfield 9, 3) := by decide +kernel
theorem dX12_inn_28 : decode cX12_inn 28 = .ok (.iconst 4, 1) := by decide +kernel
theorem dX12_inn_29 : decode cX12_inn 29 = .ok (.iaload, 1) := by decide +kernel
theorem dX12_inn_30 : decode cX12_inn 30 = .ok (.putfield 48, 3) := by decide +kernel
theorem dX12_inn_33 : decode cX12_inn 33 = .ok (.aload_n 0, 1) := by decide +kernel
theorem dX12_inn_34 : decode cX12_inn 34 = .ok (.getfield 9, 3) := by decide +kernel
theorem dX12_inn_37 : decode cX12_inn 37 = .ok (.iconst 4, 1) := by decide +kernel
theorem dX12_inn_38 : decode cX12_inn 38 = .ok (.iconst 0, 1) := by decide +kernel
theorem dX12_inn_39 : decode cX12_inn 39 = .ok (.iastore, 1) := by decide +kernel
theorem dX12_inn_40 : decode cX12_inn 40 = .ok (.aload_n 0, 1) := by decide +kernel
theorem dX12_inn_41 : decode cX12_inn 41 = .ok (.getfield 9, 3) := by decide +kernel
theorem dX12_inn_44 : decode cX12_inn 44 = .ok (.sipush 221, 3) := by decide +kernel
theorem dX12_inn_47 : decode cX12_inn 47 = .ok (.aload_n 0, 1) := by decide +kernel
theorem dX12_inn_48 : decode cX12_inn 48 = .ok (.getfield 72, 3) := by decide +kernel
theorem dX12_inn_51 : decode cX12_inn 51 = .ok (.iadd, 1) := by decide +kernel
theorem dX12_inn_52 : decode cX12_inn 52 = .ok (.bipush 6, 2) := by decide +kernel
theorem dX12_inn_54 : decode cX12_inn 54 = .ok (.iastore, 1) := by decide +kernel
theorem dX12_inn_55 : decode cX12_inn 55 = .ok (.aload_n 0, 1) := by decide +kernel
theorem dX12_inn_56 : decode cX12_inn 56 = .ok (.getfield 9, 3) := by decide +kernel
theorem dX12_inn_59 : decode cX12_inn 59 = .ok (.sipush 226, 3) := by decide +kernel
theorem dX12_inn_62 : decode cX12_inn 62 = .ok (.aload_n 0, 1) := by decide +kernel
theorem dX12_inn_63 : decode cX12_inn 63 = .ok (.getfield 72, 3) := by decide +kernel
theorem dX12_inn_66 : decode cX12_inn 66 = .ok (.iadd, 1) := by decide +kernel
theorem dX12_inn_67 : decode cX12_inn 67 = .ok (.iconst 1, 1) := by decide +kernel
theorem dX12_inn_68 : decode cX12_inn 68 = .ok (.iastore, 1) := by decide +kernel
theorem dX12_inn_69 : decode cX12_inn 69 = .ok (.aload_n 0, 1) := by decide +kernel
theorem dX12_inn_70 : decode cX12_inn 70 = .ok (.getfield 9, 3) := by decide +kernel
theorem dX12_inn_73 : decode cX12_inn 73 = .ok (.sipush 231, 3) := by decide +kernel
theorem dX12_inn_76 : decode cX12_inn 76 = .ok (.aload_n 0, 1) := by decide +kernel
theorem dX12_inn_77 : decode cX12_inn 77 = .ok (.getfield 72, 3) := by decide +kernel
theorem dX12_inn_80 : decode cX12_inn 80 = .ok (.iadd, 1) := by decide +kernel
theorem dX12_inn_81 : decode cX12_inn 81 = .ok (.iconst 0, 1) := by decide +kernel
theorem dX12_inn_82 : decode cX12_inn 82 = .ok (.iastore, 1) := by decide +kernel
theorem dX12_inn_83 : decode cX12_inn 83 = .ok (.aload_n 0, 1) := by decide +kernel
theorem dX12_inn_84 : decode cX12_inn 84 = .ok (.iconst 0, 1) := by decide +kernel
theorem dX12_inn_85 : decode cX12_inn 85 = .ok (.putfield 45, 3) := by decide +kernel
theorem dX12_inn_88 : decode cX12_inn 88 = .ok (.aload_n 0, 1) := by decide +kernel
theorem dX12_inn_89 : decode cX12_inn 89 = .ok (.iconst 0, 1) := by decide +kernel
theorem dX12_inn_90 : decode cX12_inn 90 = .ok (.putfield 51, 3) := by decide +kernel
theorem dX12_inn_93 : decode cX12_inn 93 = .ok (.aload_n 0, 1) := by decide +kernel
theorem dX12_inn_94 : decode cX12_inn 94 = .ok (.iconst 0, 1) := by decide +kernel
theorem dX12_inn_95 : decode cX12_inn 95 = .ok (.putfield 75, 3) := by decide +kernel
theorem dX12_inn_98 : decode cX12_inn 98 = .ok (.iconst 1, 1) := by decide +kernel
theorem dX12_inn_99 : decode cX12_inn 99 = .ok (.istore_n 1, 1) := by decide +kernel
theorem dX12_inn_100 : decode cX12_inn 100 = .ok (.aload_n 0, 1) := by decide +kernel
theorem dX12_inn_101 : decode cX12_inn 101 = .ok (.invokevirtual 120, 3) := by decide +kernel
theorem dX12_inn_104 : decode cX12_inn 104 = .ok (.aload_n 0, 1) := by decide +kernel
theorem dX12_inn_105 : decode cX12_inn 105 = .ok (.getfield 51, 3) := by decide +kernel
theorem dX12_inn_108 : decode cX12_inn 108 = .ok (.ifCond .ne 38, 3) := by decide +kernel
theorem dX12_inn_111 : decode cX12_inn 111 = .ok (.iload_n 1, 1) := by decide +kernel
theorem dX12_inn_112 : decode cX12_inn 112 = .ok (.bipush 10, 2) := by decide +kernel
theorem dX12_inn_114 : decode cX12_inn 114 = .ok (.if_icmp .ge 32, 3) := by decide +kernel
theorem dX12_inn_117 : decode cX12_inn 117 = .ok (.aload_n 0, 1) := by decide +kernel
theorem dX12_inn_118 : decode cX12_inn 118 = .ok (.invokevirtual 55, 3) := by decide +kernel
theorem dX12_inn_121 : decode cX12_inn 121 = .ok (.bipush 59, 2) := by decide +kernel
theorem dX12_inn_123 : decode cX12_inn 123 = .ok (.if_icmp .ne 23, 3) := by decide +kernel
theorem dX12_inn_126 : decode cX12_inn 126 = .ok (.aload_n 0, 1) := by decide +kernel
theorem dX12_inn_127 : decode cX12_inn 127 = .ok (.dup, 1) := by decide +kernel
theorem dX12_inn_128 : decode cX12_inn 128 = .ok (.getfield 45, 3) := by decide +kernel
theorem dX12_inn_131 : decode cX12_inn 131 = .ok (.iconst 1, 1) := by decide +kernel
theorem dX12_inn_132 : decode cX12_inn 132 = .ok (.iadd, 1) := by decide +kernel
theorem dX12_inn_133 : decode cX12_inn 133 = .ok (.putfield 45, 3) := by decide +kernel
theorem dX12_inn_136 : decode cX12_inn 136 = .ok (.aload_n 0, 1) := by decide +kernel
theorem dX12_inn_137 : decode cX12_inn 137 = .ok (.invokevirtual 120, 3) := by decide +kernel
theorem dX12_inn_140 : decode cX12_inn 140 = .ok (.iinc 1 1, 3) := by decide +kernel
theorem dX12_inn_143 : decode cX12_inn 143 = .ok (.goto (-39), 3) := by decide +kernel
theorem dX12_inn_146 : decode cX12_inn 146 = .ok (.aload_n 0, 1) := by decide +kernel
theorem dX12_inn_147 : decode cX12_inn 147 = .ok (.getfield 51, 3) := by decide +kernel
theorem dX12_inn_150 : decode cX12_inn 150 = .ok (.ifCond .ne 14, 3) := by decide +kernel
theorem dX12_inn_153 : decode cX12_inn 153 = .ok (.aload_n 0, 1) := by decide +kernel
theorem dX12_inn_154 : decode cX12_inn 154 = .ok (.getfield 45, 3) := by decide +kernel
theorem dX12_inn_157 : decode cX12_inn 157 = .ok (.aload_n 0, 1) := by decide +kernel
theorem dX12_inn_158 : decode cX12_inn 158 = .ok (.getfield 48, 3) := by decide +kernel
theorem dX12_inn_161 : decode cX12_inn 161 = .ok (.if_icmp .eq 11, 3) := by decide +kernel
theorem dX12_inn_164 : decode cX12_inn 164 = .ok (.bipush (-10), 2) := by decide +kernel
theorem dX12_inn_166 : decode cX12_inn 166 = .ok (.aload_n 0, 1) := by decide +kernel
theorem dX12_inn_167 : decode cX12_inn 167 = .ok (.getfield 45, 3) := by decide +kernel
theorem dX12_inn_170 : decode cX12_inn 170 = .ok (.isub, 1) := by decide +kernel
theorem dX12_inn_171 : decode cX12_inn 171 = .ok (.ireturn, 1) := by decide +kernel
theorem dX12_inn_172 : decode cX12_inn 172 = .ok (.aload_n 0, 1) := by decide +kernel
theorem dX12_inn_173 : decode cX12_inn 173 = .ok (.getfield 9, 3) := by decide +kernel
theorem dX12_inn_176 : decode cX12_inn 176 = .ok (.iconst 1, 1) := by decide +kernel
theorem dX12_inn_177 : decode cX12_inn 177 = .ok (.dup2, 1) := by decide +kernel
theorem dX12_inn_178 : decode cX12_inn 178 = .ok (.iaload, 1) := by decide +kernel
theorem dX12_inn_179 : decode cX12_inn 179 = .ok (.iconst 1, 1) := by decide +kernel
theorem dX12_inn_180 : decode cX12_inn 180 = .ok (.iadd, 1) := by decide +kernel
theorem dX12_inn_181 : decode cX12_inn 181 = .ok (.iastore, 1) := by decide +kernel
theorem dX12_inn_182 : decode cX12_inn 182 = .ok (.aload_n 0, 1) := by decide +kernel
theorem dX12_inn_183 : decode cX12_inn 183 = .ok (.getfield 9, 3) := by decide +kernel
theorem dX12_inn_186 : decode cX12_inn 186 = .ok (.iconst 5, 1) := by decide +kernel
theorem dX12_inn_187 : decode cX12_inn 187 = .ok (.aload_n 0, 1) := by decide +kernel
theorem dX12_inn_188 : decode cX12_inn 188 = .ok (.getfield 72, 3) := by decide +kernel
theorem dX12_inn_191 : decode cX12_inn 191 = .ok (.iastore, 1) := by decide +kernel
theorem dX12_inn_192 : decode cX12_inn 192 = .ok (.aload_n 0, 1) := by decide +kernel
theorem dX12_inn_193 : decode cX12_inn 193 = .ok (.getfield 72, 3) := by decide +kernel
theorem dX12_inn_196 : decode cX12_inn 196 = .ok (.ireturn, 1) := by decide +kernel
theorem dX12_tellsOf_0 : decode cX12_tellsOf 0 = .ok (.aload_n 0, 1) := by decide +kernel
theorem dX12_tellsOf_1 : decode cX12_tellsOf 1 = .ok (.getfield 9, 3) := by decide +kernel
theorem dX12_tellsOf_4 : decode cX12_tellsOf 4 = .ok (.iconst 5, 1) := by decide +kernel
theorem dX12_tellsOf_5 : decode cX12_tellsOf 5 = .ok (.iaload, 1) := by decide +kernel
theorem dX12_tellsOf_6 : decode cX12_tellsOf 6 = .ok (.iconst (-1), 1) := by decide +kernel
theorem dX12_tellsOf_7 : decode cX12_tellsOf 7 = .ok (.if_icmp .ne 7, 3) := by decide +kernel
theorem dX12_tellsOf_10 : decode cX12_tellsOf 10 = .ok (.iload_n 2, 1) := by decide +kernel
theorem dX12_tellsOf_11 : decode cX12_tellsOf 11 = .ok (.goto 16, 3) := by decide +kernel
theorem dX12_tellsOf_14 : decode cX12_tellsOf 14 = .ok (.aload_n 0, 1) := by decide +kernel
theorem dX12_tellsOf_15 : decode cX12_tellsOf 15 = .ok (.getfield 9, 3) := by decide +kernel
theorem dX12_tellsOf_18 : decode cX12_tellsOf 18 = .ok (.iload_n 1, 1) := by decide +kernel
theorem dX12_tellsOf_19 : decode cX12_tellsOf 19 = .ok (.aload_n 0, 1) := by decide +kernel
theorem dX12_tellsOf_20 : decode cX12_tellsOf 20 = .ok (.getfield 9, 3) := by decide +kernel
theorem dX12_tellsOf_23 : decode cX12_tellsOf 23 = .ok (.iconst 5, 1) := by decide +kernel
theorem dX12_tellsOf_24 : decode cX12_tellsOf 24 = .ok (.iaload, 1) := by decide +kernel
theorem dX12_tellsOf_25 : decode cX12_tellsOf 25 = .ok (.iadd, 1) := by decide +kernel
theorem dX12_tellsOf_26 : decode cX12_tellsOf 26 = .ok (.iaload, 1) := by decide +kernel
theorem dX12_tellsOf_27 : decode cX12_tellsOf 27 = .ok (.ireturn, 1) := by decide +kernel
theorem dX12_looks_0 : decode cX12_looks 0 = .ok (.aload_n 0, 1) := by decide +kernel
theorem dX12_looks_1 : decode cX12_looks 1 = .ok (.getfield 18, 3) := by decide +kernel
theorem dX12_looks_4 : decode cX12_looks 4 = .ok (.iconst 0, 1) := by decide +kernel
theorem dX12_looks_5 : decode cX12_looks 5 = .ok (.iload_n 1, 1) := by decide +kernel
theorem dX12_looks_6 : decode cX12_looks 6 = .ok (.iastore, 1) := by decide +kernel
theorem dX12_looks_7 : decode cX12_looks 7 = .ok (.aload_n 0, 1) := by decide +kernel
theorem dX12_looks_8 : decode cX12_looks 8 = .ok (.getfield 18, 3) := by decide +kernel
theorem dX12_looks_11 : decode cX12_looks 11 = .ok (.iconst 1, 1) := by decide +kernel
theorem dX12_looks_12 : decode cX12_looks 12 = .ok (.aload_n 0, 1) := by decide +kernel
theorem dX12_looks_13 : decode cX12_looks 13 = .ok (.getfield 9, 3) := by decide +kernel
theorem dX12_looks_16 : decode cX12_looks 16 = .ok (.bipush 7, 2) := by decide +kernel
theorem dX12_looks_18 : decode cX12_looks 18 = .ok (.iload_n 1, 1) := by decide +kernel
theorem dX12_looks_19 : decode cX12_looks 19 = .ok (.iadd, 1) := by decide +kernel
theorem dX12_looks_20 : decode cX12_looks 20 = .ok (.iaload, 1) := by decide +kernel
theorem dX12_looks_21 : decode cX12_looks 21 = .ok (.iastore, 1) := by decide +kernel
theorem dX12_looks_22 : decode cX12_looks 22 = .ok (.aload_n 0, 1) := by decide +kernel
theorem dX12_looks_23 : decode cX12_looks 23 = .ok (.getfield 18, 3) := by decide +kernel
theorem dX12_looks_26 : decode cX12_looks 26 = .ok (.iconst 2, 1) := by decide +kernel
theorem dX12_looks_27 : decode cX12_looks 27 = .ok (.iload_n 2, 1) := by decide +kernel
theorem dX12_looks_28 : decode cX12_looks 28 = .ok (.bipush 10, 2) := by decide +kernel
theorem dX12_looks_30 : decode cX12_looks 30 = .ok (.idiv, 1) := by decide +kernel
theorem dX12_looks_31 : decode cX12_looks 31 = .ok (.iastore, 1) := by decide +kernel
theorem dX12_looks_32 : decode cX12_looks 32 = .ok (.aload_n 0, 1) := by decide +kernel
theorem dX12_looks_33 : decode cX12_looks 33 = .ok (.getfield 18, 3) := by decide +kernel
theorem dX12_looks_36 : decode cX12_looks 36 = .ok (.iconst 3, 1) := by decide +kernel
theorem dX12_looks_37 : decode cX12_looks 37 = .ok (.aload_n 0, 1) := by decide +kernel
theorem dX12_looks_38 : decode cX12_looks 38 = .ok (.getfield 9, 3) := by decide +kernel
theorem dX12_looks_41 : decode cX12_looks 41 = .ok (.bipush 31, 2) := by decide +kernel
theorem dX12_looks_43 : decode cX12_looks 43 = .ok (.iload_n 1, 1) := by decide +kernel
theorem dX12_looks_44 : decode cX12_looks 44 = .ok (.iadd, 1) := by decide +kernel
theorem dX12_looks_45 : decode cX12_looks 45 = .ok (.iaload, 1) := by decide +kernel
theorem dX12_looks_46 : decode cX12_looks 46 = .ok (.iastore, 1) := by decide +kernel
theorem dX12_looks_47 : decode cX12_looks 47 = .ok (.aload_n 0, 1) := by decide +kernel
theorem dX12_looks_48 : decode cX12_looks 48 = .ok (.getfield 18, 3) := by decide +kernel
theorem dX12_looks_51 : decode cX12_looks 51 = .ok (.iconst 4, 1) := by decide +kernel
theorem dX12_looks_52 : decode cX12_looks 52 = .ok (.aload_n 0, 1) := by decide +kernel
theorem dX12_looks_53 : decode cX12_looks 53 = .ok (.getfield 9, 3) := by decide +kernel
theorem dX12_looks_56 : decode cX12_looks 56 = .ok (.bipush 19, 2) := by decide +kernel
theorem dX12_looks_58 : decode cX12_looks 58 = .ok (.iload_n 1, 1) := by decide +kernel
theorem dX12_looks_59 : decode cX12_looks 59 = .ok (.iadd, 1) := by decide +kernel
theorem dX12_looks_60 : decode cX12_looks 60 = .ok (.iaload, 1) := by decide +kernel
theorem dX12_looks_61 : decode cX12_looks 61 = .ok (.iastore, 1) := by decide +kernel
theorem dX12_looks_62 : decode cX12_looks 62 = .ok (.aload_n 0, 1) := by decide +kernel
theorem dX12_looks_63 : decode cX12_looks 63 = .ok (.getfield 18, 3) := by decide +kernel
theorem dX12_looks_66 : decode cX12_looks 66 = .ok (.iconst 5, 1) := by decide +kernel
theorem dX12_looks_67 : decode cX12_looks 67 = .ok (.aload_n 0, 1) := by decide +kernel
theorem dX12_looks_68 : decode cX12_looks 68 = .ok (.getfield 9, 3) := by decide +kernel
theorem dX12_looks_71 : decode cX12_looks 71 = .ok (.bipush 6, 2) := by decide +kernel
theorem dX12_looks_73 : decode cX12_looks 73 = .ok (.iaload, 1) := by decide +kernel
theorem dX12_looks_74 : decode cX12_looks 74 = .ok (.bipush 10, 2) := by decide +kernel
theorem dX12_looks_76 : decode cX12_looks 76 = .ok (.irem, 1) := by decide +kernel
theorem dX12_looks_77 : decode cX12_looks 77 = .ok (.iastore, 1) := by decide +kernel
theorem dX12_looks_78 : decode cX12_looks 78 = .ok (.aload_n 0, 1) := by decide +kernel
theorem dX12_looks_79 : decode cX12_looks 79 = .ok (.iconst 0, 1) := by decide +kernel
theorem dX12_looks_80 : decode cX12_looks 80 = .ok (.putfield 123, 3) := by decide +kernel
theorem dX12_looks_83 : decode cX12_looks 83 = .ok (.aload_n 0, 1) := by decide +kernel
theorem dX12_looks_84 : decode cX12_looks 84 = .ok (.iconst 0, 1) := by decide +kernel
theorem dX12_looks_85 : decode cX12_looks 85 = .ok (.putfield 126, 3) := by decide +kernel
theorem dX12_looks_88 : decode cX12_looks 88 = .ok (.aload_n 0, 1) := by decide +kernel
theorem dX12_looks_89 : decode cX12_looks 89 = .ok (.sipush 231, 3) := by decide +kernel
theorem dX12_looks_92 : decode cX12_looks 92 = .ok (.iconst 0, 1) := by decide +kernel
theorem dX12_looks_93 : decode cX12_looks 93 = .ok (.invokevirtual 129, 3) := by decide +kernel
theorem dX12_looks_96 : decode cX12_looks 96 = .ok (.istore_n 3, 1) := by decide +kernel
theorem dX12_looks_97 : decode cX12_looks 97 = .ok (.sipush 236, 3) := by decide +kernel
theorem dX12_looks_100 : decode cX12_looks 100 = .ok (.sipush 140, 3) := by decide +kernel
theorem dX12_looks_103 : decode cX12_looks 103 = .ok (.aload_n 0, 1) := by decide +kernel
theorem dX12_looks_104 : decode cX12_looks 104 = .ok (.getfield 9, 3) := by decide +kernel
theorem dX12_looks_107 : decode cX12_looks 107 = .ok (.iconst 5, 1) := by decide +kernel
theorem dX12_looks_108 : decode cX12_looks 108 = .ok (.iaload, 1) := by decide +kernel
theorem dX12_looks_109 : decode cX12_looks 109 = .ok (.imul, 1) := by decide +kernel
theorem dX12_looks_110 : decode cX12_looks 110 = .ok (.iadd, 1) := by decide +kernel
theorem dX12_looks_111 : decode cX12_looks 111 = .ok (.istore 4, 2) := by decide +kernel
theorem dX12_looks_113 : decode cX12_looks 113 = .ok (.iconst 0, 1) := by decide +kernel
theorem dX12_looks_114 : decode cX12_looks 114 = .ok (.istore 5, 2) := by decide +kernel
theorem dX12_looks_116 : decode cX12_looks 116 = .ok (.iload 4, 2) := by decide +kernel
theorem dX12_looks_118 : decode cX12_looks 118 = .ok (.istore 6, 2) := by decide +kernel
theorem dX12_looks_120 : decode cX12_looks 120 = .ok (.iload 6, 2) := by decide +kernel
theorem dX12_looks_122 : decode cX12_looks 122 = .ok (.iload 4, 2) := by decide +kernel
theorem dX12_looks_124 : decode cX12_looks 124 = .ok (.iload_n 3, 1) := by decide +kernel
theorem dX12_looks_125 : decode cX12_looks 125 = .ok (.iadd, 1) := by decide +kernel
theorem dX12_looks_126 : decode cX12_looks 126 = .ok (.if_icmp .ge 312, 3) := by decide +kernel
theorem dX12_looks_129 : decode cX12_looks 129 = .ok (.aload_n 0, 1) := by decide +kernel
theorem dX12_looks_130 : decode cX12_looks 130 = .ok (.getfield 9, 3) := by decide +kernel
theorem dX12_looks_133 : decode cX12_looks 133 = .ok (.iload 6, 2) := by decide +kernel
theorem dX12_looks_135 : decode cX12_looks 135 = .ok (.iaload, 1) := by decide +kernel
theorem dX12_looks_136 : decode cX12_looks 136 = .ok (.istore 7, 2) := by decide +kernel
theorem dX12_looks_138 : decode cX12_looks 138 = .ok (.iload 7, 2) := by decide +kernel
theorem dX12_looks_140 : decode cX12_looks 140 = .ok (.ifCond .lt 97, 3) := by decide +kernel
theorem dX12_looks_143 : decode cX12_looks 143 = .ok (.aload_n 0, 1) := by decide +kernel
theorem dX12_looks_144 : decode cX12_looks 144 = .ok (.getfield 18, 3) := by decide +kernel
theorem dX12_looks_147 : decode cX12_looks 147 = .ok (.iload 7, 2) := by decide +kernel
theorem dX12_looks_149 : decode cX12_looks 149 = .ok (.bipush 8, 2) := by decide +kernel
theorem dX12_looks_151 : decode cX12_looks 151 = .ok (.irem, 1) := by decide +kernel
theorem dX12_looks_152 : decode cX12_looks 152 = .ok (.iaload, 1) := by decide +kernel
theorem dX12_looks_153 : decode cX12_looks 153 = .ok (.istore 8, 2) := by decide +kernel
theorem dX12_looks_155 : decode cX12_looks 155 = .ok (.iload 7, 2) := by decide +kernel
theorem dX12_looks_157 : decode cX12_looks 157 = .ok (.bipush 8, 2) := by decide +kernel
theorem dX12_looks_159 : decode cX12_looks 159 = .ok (.idiv, 1) := by decide +kernel
theorem dX12_looks_160 : decode cX12_looks 160 = .ok (.iconst 4, 1) := by decide +kernel
theorem dX12_looks_161 : decode cX12_looks 161 = .ok (.irem, 1) := by decide +kernel
theorem dX12_looks_162 : decode cX12_looks 162 = .ok (.istore 9, 2) := by decide +kernel
theorem dX12_looks_164 : decode cX12_looks 164 = .ok (.iload 7, 2) := by decide +kernel
theorem dX12_looks_166 : decode cX12_looks 166 = .ok (.bipush 32, 2) := by decide +kernel
theorem dX12_looks_168 : decode cX12_looks 168 = .ok (.idiv, 1) := by decide +kernel
theorem dX12_looks_169 : decode cX12_looks 169 = .ok (.istore 10, 2) := by decide +kernel
theorem dX12_looks_171 : decode cX12_looks 171 = .ok (.aload_n 0, 1) := by decide +kernel
theorem dX12_looks_172 : decode cX12_looks 172 = .ok (.getfield 21, 3) := by decide +kernel
theorem dX12_looks_175 : decode cX12_looks 175 = .ok (.iload 5, 2) := by decide +kernel
theorem dX12_looks_177 : decode cX12_looks 177 = .ok (.iload 9, 2) := by decide +kernel
theorem dX12_looks_179 : decode cX12_looks 179 = .ok (.ifCond .ne 18, 3) := by decide +kernel
theorem dX12_looks_182 : decode cX12_looks 182 = .ok (.iload 8, 2) := by decide +kernel
theorem dX12_looks_184 : decode cX12_looks 184 = .ok (.iload 10, 2) := by decide +kernel
theorem dX12_looks_186 : decode cX12_looks 186 = .ok (.if_icmp .ge 7, 3) := by decide +kernel
theorem dX12_looks_189 : decode cX12_looks 189 = .ok (.iconst 1, 1) := by decide +kernel
theorem dX12_looks_190 : decode cX12_looks 190 = .ok (.goto 40, 3) := by decide +kernel
theorem dX12_looks_193 : decode cX12_looks 193 = .ok (.iconst 0, 1) := by decide +kernel
theorem dX12_looks_194 : decode cX12_looks 194 = .ok (.goto 36, 3) := by decide +kernel
theorem dX12_looks_197 : decode cX12_looks 197 = .ok (.iload 9, 2) := by decide +kernel
theorem dX12_looks_199 : decode cX12_looks 199 = .ok (.iconst 1, 1) := by decide +kernel
theorem dX12_looks_200 : decode cX12_looks 200 = .ok (.if_icmp .ne 18, 3) := by decide +kernel
theorem dX12_looks_203 : decode cX12_looks 203 = .ok (.iload 8, 2) := by decide +kernel
theorem dX12_looks_205 : decode cX12_looks 205 = .ok (.iload 10, 2) := by decide +kernel
theorem dX12_looks_207 : decode cX12_looks 207 = .ok (.if_icmp .ne 7, 3) := by decide +kernel
theorem dX12_looks_210 : decode cX12_looks 210 = .ok (.iconst 1, 1) := by decide +kernel
theorem dX12_looks_211 : decode cX12_looks 211 = .ok (.goto 19, 3) := by decide +kernel
theorem dX12_looks_214 : decode cX12_looks 214 = .ok (.iconst 0, 1) := by decide +kernel
theorem dX12_looks_215 : decode cX12_looks 215 = .ok (.goto 15, 3) := by decide +kernel
theorem dX12_looks_218 : decode cX12_looks 218 = .ok (.iload 8, 2) := by decide +kernel
theorem dX12_looks_220 : decode cX12_looks 220 = .ok (.iload 10, 2) := by decide +kernel
theorem dX12_looks_222 : decode cX12_looks 222 = .ok (.if_icmp .le 7, 3) := by decide +kernel
theorem dX12_looks_225 : decode cX12_looks 225 = .ok (.iconst 1, 1) := by decide +kernel
theorem dX12_looks_226 : decode cX12_looks 226 = .ok (.goto 4, 3) := by decide +kernel
theorem dX12_looks_229 : decode cX12_looks 229 = .ok (.iconst 0, 1) := by decide +kernel
theorem dX12_looks_230 : decode cX12_looks 230 = .ok (.bastore, 1) := by decide +kernel
theorem dX12_looks_231 : decode cX12_looks 231 = .ok (.iinc 5 1, 3) := by decide +kernel
theorem dX12_looks_234 : decode cX12_looks 234 = .ok (.goto 198, 3) := by decide +kernel
theorem dX12_looks_237 : decode cX12_looks 237 = .ok (.iload 7, 2) := by decide +kernel
theorem dX12_looks_239 : decode cX12_looks 239 = .ok (.iconst (-1), 1) := by decide +kernel
theorem dX12_looks_240 : decode cX12_looks 240 = .ok (.if_icmp .ne 32, 3) := by decide +kernel
theorem dX12_looks_243 : decode cX12_looks 243 = .ok (.aload_n 0, 1) := by decide +kernel
theorem dX12_looks_244 : decode cX12_looks 244 = .ok (.getfield 21, 3) := by decide +kernel
theorem dX12_looks_247 : decode cX12_looks 247 = .ok (.iload 5, 2) := by decide +kernel
theorem dX12_looks_249 : decode cX12_looks 249 = .ok (.iconst 1, 1) := by decide +kernel
theorem dX12_looks_250 : decode cX12_looks 250 = .ok (.isub, 1) := by decide +kernel
theorem dX12_looks_251 : decode cX12_looks 251 = .ok (.aload_n 0, 1) := by decide +kernel
theorem dX12_looks_252 : decode cX12_looks 252 = .ok (.getfield 21, 3) := by decide +kernel
theorem dX12_looks_255 : decode cX12_looks 255 = .ok (.iload 5, 2) := by decide +kernel
theorem dX12_looks_257 : decode cX12_looks 257 = .ok (.iconst 1, 1) := by decide +kernel
theorem dX12_looks_258 : decode cX12_looks 258 = .ok (.isub, 1) := by decide +kernel
theorem dX12_looks_259 : decode cX12_looks 259 = .ok (.baload, 1) := by decide +kernel
theorem dX12_looks_260 : decode cX12_looks 260 = .ok (.ifCond .ne 7, 3) := by decide +kernel
theorem dX12_looks_263 : decode cX12_looks 263 = .ok (.iconst 1, 1) := by decide +kernel
theorem dX12_looks_264 : decode cX12_looks 264 = .ok (.goto 4, 3) := by decide +kernel
theorem dX12_looks_267 : decode cX12_looks 267 = .ok (.iconst 0, 1) := by decide +kernel
theorem dX12_looks_268 : decode cX12_looks 268 = .ok (.bastore, 1) := by decide +kernel
theorem dX12_looks_269 : decode cX12_looks 269 = .ok (.goto 163, 3) := by decide +kernel
theorem dX12_looks_272 : decode cX12_looks 272 = .ok (.iload 7, 2) := by decide +kernel
theorem dX12_looks_274 : decode cX12_looks 274 = .ok (.bipush (-10), 2) := by decide +kernel
theorem dX12_looks_276 : decode cX12_looks 276 = .ok (.if_icmp .le 82, 3) := by decide +kernel
theorem dX12_looks_279 : decode cX12_looks 279 = .ok (.iinc 5 (-1), 3) := by decide +kernel
theorem dX12_looks_282 : decode cX12_looks 282 = .ok (.aload_n 0, 1) := by decide +kernel
theorem dX12_looks_283 : decode cX12_looks 283 = .ok (.getfield 21, 3) := by decide +kernel
theorem dX12_looks_286 : decode cX12_looks 286 = .ok (.iload 5, 2) := by decide +kernel
theorem dX12_looks_288 : decode cX12_looks 288 = .ok (.iconst 1, 1) := by decide +kernel
theorem dX12_looks_289 : decode cX12_looks 289 = .ok (.isub, 1) := by decide +kernel
theorem dX12_looks_290 : decode cX12_looks 290 = .ok (.iload 7, 2) := by decide +kernel
theorem dX12_looks_292 : decode cX12_looks 292 = .ok (.bipush (-2), 2) := by decide +kernel
theorem dX12_looks_294 : decode cX12_looks 294 = .ok (.if_icmp .ne 33, 3) := by decide +kernel
theorem dX12_looks_297 : decode cX12_looks 297 = .ok (.aload_n 0, 1) := by decide +kernel
theorem dX12_looks_298 : decode cX12_looks 298 = .ok (.getfield 21, 3) := by decide +kernel
theorem dX12_looks_301 : decode cX12_looks 301 = .ok (.iload 5, 2) := by decide +kernel
theorem dX12_looks_303 : decode cX12_looks 303 = .ok (.iconst 1, 1) := by decide +kernel
theorem dX12_looks_304 : decode cX12_looks 304 = .ok (.isub, 1) := by decide +kernel
theorem dX12_looks_305 : decode cX12_looks 305 = .ok (.baload, 1) := by decide +kernel
theorem dX12_looks_306 : decode cX12_looks 306 = .ok (.ifCond .eq 17, 3) := by decide +kernel
theorem dX12_looks_309 : decode cX12_looks 309 = .ok (.aload_n 0, 1) := by decide +kernel
theorem dX12_looks_310 : decode cX12_looks 310 = .ok (.getfield 21, 3) := by decide +kernel
theorem dX12_looks_313 : decode cX12_looks 313 = .ok (.iload 5, 2) := by decide +kernel
theorem dX12_looks_315 : decode cX12_looks 315 = .ok (.baload, 1) := by decide +kernel
theorem dX12_looks_316 : decode cX12_looks 316 = .ok (.ifCond .eq 7, 3) := by decide +kernel
theorem dX12_looks_319 : decode cX12_looks 319 = .ok (.iconst 1, 1) := by decide +kernel
theorem dX12_looks_320 : decode cX12_looks 320 = .ok (.goto 34, 3) := by decide +kernel
theorem dX12_looks_323 : decode cX12_looks 323 = .ok (.iconst 0, 1) := by decide +kernel
theorem dX12_looks_324 : decode cX12_looks 324 = .ok (.goto 30, 3) := by decide +kernel
theorem dX12_looks_327 : decode cX12_looks 327 = .ok (.aload_n 0, 1) := by decide +kernel
theorem dX12_looks_328 : decode cX12_looks 328 = .ok (.getfield 21, 3) := by decide +kernel
theorem dX12_looks_331 : decode cX12_looks 331 = .ok (.iload 5, 2) := by decide +kernel
theorem dX12_looks_333 : decode cX12_looks 333 = .ok (.iconst 1, 1) := by decide +kernel
theorem dX12_looks_334 : decode cX12_looks 334 = .ok (.isub, 1) := by decide +kernel
theorem dX12_looks_335 : decode cX12_looks 335 = .ok (.baload, 1) := by decide +kernel
theorem dX12_looks_336 : decode cX12_looks 336 = .ok (.ifCond .ne 13, 3) := by decide +kernel
theorem dX12_looks_339 : decode cX12_looks 339 = .ok (.aload_n 0, 1) := by decide +kernel
theorem dX12_looks_340 : decode cX12_looks 340 = .ok (.getfield 21, 3) := by decide +kernel
theorem dX12_looks_343 : decode cX12_looks 343 = .ok (.iload 5, 2) := by decide +kernel
theorem dX12_looks_345 : decode cX12_looks 345 = .ok (.baload, 1) := by decide +kernel
theorem dX12_looks_346 : decode cX12_looks 346 = .ok (.ifCond .eq 7, 3) := by decide +kernel
theorem dX12_looks_349 : decode cX12_looks 349 = .ok (.iconst 1, 1) := by decide +kernel
theorem dX12_looks_350 : decode cX12_looks 350 = .ok (.goto 4, 3) := by decide +kernel
theorem dX12_looks_353 : decode cX12_looks 353 = .ok (.iconst 0, 1) := by decide +kernel
theorem dX12_looks_354 : decode cX12_looks 354 = .ok (.bastore, 1) := by decide +kernel
theorem dX12_looks_355 : decode cX12_looks 355 = .ok (.goto 77, 3) := by decide +kernel
theorem dX12_looks_358 : decode cX12_looks 358 = .ok (.iconst 0, 1) := by decide +kernel
theorem dX12_looks_359 : decode cX12_looks 359 = .ok (.istore 5, 2) := by decide +kernel
theorem dX12_looks_361 : decode cX12_looks 361 = .ok (.aload_n 0, 1) := by decide +kernel
theorem dX12_looks_362 : decode cX12_looks 362 = .ok (.getfield 21, 3) := by decide +kernel
theorem dX12_looks_365 : decode cX12_looks 365 = .ok (.iconst 0, 1) := by decide +kernel
theorem dX12_looks_366 : decode cX12_looks 366 = .ok (.baload, 1) := by decide +kernel
theorem dX12_looks_367 : decode cX12_looks 367 = .ok (.istore 8, 2) := by decide +kernel
theorem dX12_looks_369 : decode cX12_looks 369 = .ok (.aload_n 0, 1) := by decide +kernel
theorem dX12_looks_370 : decode cX12_looks 370 = .ok (.dup, 1) := by decide +kernel
theorem dX12_looks_371 : decode cX12_looks 371 = .ok (.getfield 123, 3) := by decide +kernel
theorem dX12_looks_374 : decode cX12_looks 374 = .ok (.iload 8, 2) := by decide +kernel
theorem dX12_looks_376 : decode cX12_looks 376 = .ok (.ifCond .eq 19, 3) := by decide +kernel
theorem dX12_looks_379 : decode cX12_looks 379 = .ok (.iload 7, 2) := by decide +kernel
theorem dX12_looks_381 : decode cX12_looks 381 = .ok (.sipush (-200), 3) := by decide +kernel
theorem dX12_looks_384 : decode cX12_looks 384 = .ok (.if_icmp .le 11, 3) := by decide +kernel
theorem dX12_looks_387 : decode cX12_looks 387 = .ok (.bipush (-10), 2) := by decide +kernel
theorem dX12_looks_389 : decode cX12_looks 389 = .ok (.iload 7, 2) := by decide +kernel
theorem dX12_looks_391 : decode cX12_looks 391 = .ok (.isub, 1) := by decide +kernel
theorem dX12_looks_392 : decode cX12_looks 392 = .ok (.goto 4, 3) := by decide +kernel
theorem dX12_looks_395 : decode cX12_looks 395 = .ok (.iconst 0, 1) := by decide +kernel
theorem dX12_looks_396 : decode cX12_looks 396 = .ok (.iadd, 1) := by decide +kernel
theorem dX12_looks_397 : decode cX12_looks 397 = .ok (.putfield 123, 3) := by decide +kernel
theorem dX12_looks_400 : decode cX12_looks 400 = .ok (.aload_n 0, 1) := by decide +kernel
theorem dX12_looks_401 : decode cX12_looks 401 = .ok (.dup, 1) := by decide +kernel
theorem dX12_looks_402 : decode cX12_looks 402 = .ok (.getfield 126, 3) := by decide +kernel
theorem dX12_looks_405 : decode cX12_looks 405 = .ok (.iload 8, 2) := by decide +kernel
theorem dX12_looks_407 : decode cX12_looks 407 = .ok (.ifCond .eq 20, 3) := by decide +kernel
theorem dX12_looks_410 : decode cX12_looks 410 = .ok (.iload 7, 2) := by decide +kernel
theorem dX12_looks_412 : decode cX12_looks 412 = .ok (.sipush (-200), 3) := by decide +kernel
theorem dX12_looks_415 : decode cX12_looks 415 = .ok (.if_icmp .gt 12, 3) := by decide +kernel
theorem dX12_looks_418 : decode cX12_looks 418 = .ok (.sipush (-200), 3) := by decide +kernel
theorem dX12_looks_421 : decode cX12_looks 421 = .ok (.iload 7, 2) := by decide +kernel
theorem dX12_looks_423 : decode cX12_looks 423 = .ok (.isub, 1) := by decide +kernel
theorem dX12_looks_424 : decode cX12_looks 424 = .ok (.goto 4, 3) := by decide +kernel
theorem dX12_looks_427 : decode cX12_looks 427 = .ok (.iconst 0, 1) := by decide +kernel
theorem dX12_looks_428 : decode cX12_looks 428 = .ok (.iadd, 1) := by decide +kernel
theorem dX12_looks_429 : decode cX12_looks 429 = .ok (.putfield 126, 3) := by decide +kernel
theorem dX12_looks_432 : decode cX12_looks 432 = .ok (.iinc 6 1, 3) := by decide +kernel
theorem dX12_looks_435 : decode cX12_looks 435 = .ok (.goto (-315), 3) := by decide +kernel
theorem dX12_looks_438 : decode cX12_looks 438 = .ok (.return_, 1) := by decide +kernel
theorem dX12_player_0 : decode cX12_player 0 = .ok (.iload_n 1, 1) := by decide +kernel
theorem dX12_player_1 : decode cX12_player 1 = .ok (.iconst 0, 1) := by decide +kernel
theorem dX12_player_2 : decode cX12_player 2 = .ok (.bipush 6, 2) := by decide +kernel
theorem dX12_player_4 : decode cX12_player 4 = .ok (.invokestatic 41, 3) := by decide +kernel
theorem dX12_player_7 : decode cX12_player 7 = .ok (.ifCond .ne 5, 3) := by decide +kernel
theorem dX12_player_10 : decode cX12_player 10 = .ok (.iconst (-1), 1) := by decide +kernel
theorem dX12_player_11 : decode cX12_player 11 = .ok (.ireturn, 1) := by decide +kernel
theorem dX12_player_12 : decode cX12_player 12 = .ok (.iload_n 2, 1) := by decide +kernel
theorem dX12_player_13 : decode cX12_player 13 = .ok (.iconst 0, 1) := by decide +kernel
theorem dX12_player_14 : decode cX12_player 14 = .ok (.bipush 9, 2) := by decide +kernel
theorem dX12_player_16 : decode cX12_player 16 = .ok (.invokestatic 41, 3) := by decide +kernel
theorem dX12_player_19 : decode cX12_player 19 = .ok (.ifCond .eq 36, 3) := by decide +kernel
theorem dX12_player_22 : decode cX12_player 22 = .ok (.iload_n 3, 1) := by decide +kernel
theorem dX12_player_23 : decode cX12_player 23 = .ok (.iconst 0, 1) := by decide +kernel
theorem dX12_player_24 : decode cX12_player 24 = .ok (.bipush 20, 2) := by decide +kernel
theorem dX12_player_26 : decode cX12_player 26 = .ok (.invokestatic 41, 3) := by decide +kernel
theorem dX12_player_29 : decode cX12_player 29 = .ok (.ifCond .eq 26, 3) := by decide +kernel
theorem dX12_player_32 : decode cX12_player 32 = .ok (.iload 4, 2) := by decide +kernel
theorem dX12_player_34 : decode cX12_player 34 = .ok (.iconst 1, 1) := by decide +kernel
theorem dX12_player_35 : decode cX12_player 35 = .ok (.bipush 9, 2) := by decide +kernel
theorem dX12_player_37 : decode cX12_player 37 = .ok (.invokestatic 41, 3) := by decide +kernel
theorem dX12_player_40 : decode cX12_player 40 = .ok (.ifCond .eq 15, 3) := by decide +kernel
theorem dX12_player_43 : decode cX12_player 43 = .ok (.iload 5, 2) := by decide +kernel
theorem dX12_player_45 : decode cX12_player 45 = .ok (.iconst 0, 1) := by decide +kernel
theorem dX12_player_46 : decode cX12_player 46 = .ok (.sipush 9999, 3) := by decide +kernel
theorem dX12_player_49 : decode cX12_player 49 = .ok (.invokestatic 41, 3) := by decide +kernel
theorem dX12_player_52 : decode cX12_player 52 = .ok (.ifCond .ne 6, 3) := by decide +kernel
theorem dX12_player_55 : decode cX12_player 55 = .ok (.bipush (-2), 2) := by decide +kernel
theorem dX12_player_57 : decode cX12_player 57 = .ok (.ireturn, 1) := by decide +kernel
theorem dX12_player_58 : decode cX12_player 58 = .ok (.aload_n 0, 1) := by decide +kernel
theorem dX12_player_59 : decode cX12_player 59 = .ok (.getfield 9, 3) := by decide +kernel
theorem dX12_player_62 : decode cX12_player 62 = .ok (.iconst 0, 1) := by decide +kernel
theorem dX12_player_63 : decode cX12_player 63 = .ok (.iaload, 1) := by decide +kernel
theorem dX12_player_64 : decode cX12_player 64 = .ok (.bipush 6, 2) := by decide +kernel
theorem dX12_player_66 : decode cX12_player 66 = .ok (.if_icmp .ne 6, 3) := by decide +kernel
theorem dX12_player_69 : decode cX12_player 69 = .ok (.bipush (-4), 2) := by decide +kernel
theorem dX12_player_71 : decode cX12_player 71 = .ok (.ireturn, 1) := by decide +kernel
theorem dX12_player_72 : decode cX12_player 72 = .ok (.aload_n 0, 1) := by decide +kernel
theorem dX12_player_73 : decode cX12_player 73 = .ok (.getfield 9, 3) := by decide +kernel
theorem dX12_player_76 : decode cX12_player 76 = .ok (.iconst 0, 1) := by decide +kernel
theorem dX12_player_77 : decode cX12_player 77 = .ok (.iaload, 1) := by decide +kernel
theorem dX12_player_78 : decode cX12_player 78 = .ok (.istore 6, 2) := by decide +kernel
theorem dX12_player_80 : decode cX12_player 80 = .ok (.aload_n 0, 1) := by decide +kernel
theorem dX12_player_81 : decode cX12_player 81 = .ok (.getfield 9, 3) := by decide +kernel
theorem dX12_player_84 : decode cX12_player 84 = .ok (.bipush 7, 2) := by decide +kernel
theorem dX12_player_86 : decode cX12_player 86 = .ok (.iload 6, 2) := by decide +kernel
theorem dX12_player_88 : decode cX12_player 88 = .ok (.iadd, 1) := by decide +kernel
theorem dX12_player_89 : decode cX12_player 89 = .ok (.iload_n 1, 1) := by decide +kernel
theorem dX12_player_90 : decode cX12_player 90 = .ok (.iastore, 1) := by decide +kernel
theorem dX12_player_91 : decode cX12_player 91 = .ok (.aload_n 0, 1) := by decide +kernel
theorem dX12_player_92 : decode cX12_player 92 = .ok (.getfield 9, 3) := by decide +kernel
theorem dX12_player_95 : decode cX12_player 95 = .ok (.bipush 13, 2) := by decide +kernel
theorem dX12_player_97 : decode cX12_player 97 = .ok (.iload 6, 2) := by decide +kernel
theorem dX12_player_99 : decode cX12_player 99 = .ok (.iadd, 1) := by decide +kernel
theorem dX12_player_100 : decode cX12_player 100 = .ok (.iload_n 2, 1) := by decide +kernel
theorem dX12_player_101 : decode cX12_player 101 = .ok (.iastore, 1) := by decide +kernel
theorem dX12_player_102 : decode cX12_player 102 = .ok (.aload_n 0, 1) := by decide +kernel
theorem dX12_player_103 : decode cX12_player 103 = .ok (.getfield 9, 3) := by decide +kernel
theorem dX12_player_106 : decode cX12_player 106 = .ok (.bipush 19, 2) := by decide +kernel
theorem dX12_player_108 : decode cX12_player 108 = .ok (.iload 6, 2) := by decide +kernel
theorem dX12_player_110 : decode cX12_player 110 = .ok (.iadd, 1) := by decide +kernel
theorem dX12_player_111 : decode cX12_player 111 = .ok (.iload_n 3, 1) := by decide +kernel
theorem dX12_player_112 : decode cX12_player 112 = .ok (.iastore, 1) := by decide +kernel
theorem dX12_player_113 : decode cX12_player 113 = .ok (.aload_n 0, 1) := by decide +kernel
theorem dX12_player_114 : decode cX12_player 114 = .ok (.getfield 9, 3) := by decide +kernel
theorem dX12_player_117 : decode cX12_player 117 = .ok (.bipush 25, 2) := by decide +kernel
theorem dX12_player_119 : decode cX12_player 119 = .ok (.iload 6, 2) := by decide +kernel
theorem dX12_player_121 : decode cX12_player 121 = .ok (.iadd, 1) := by decide +kernel
theorem dX12_player_122 : decode cX12_player 122 = .ok (.iload 4, 2) := by decide +kernel
theorem dX12_player_124 : decode cX12_player 124 = .ok (.iastore, 1) := by decide +kernel
theorem dX12_player_125 : decode cX12_player 125 = .ok (.aload_n 0, 1) := by decide +kernel
theorem dX12_player_126 : decode cX12_player 126 = .ok (.getfield 9, 3) := by decide +kernel
theorem dX12_player_129 : decode cX12_player 129 = .ok (.bipush 31, 2) := by decide +kernel
theorem dX12_player_131 : decode cX12_player 131 = .ok (.iload 6, 2) := by decide +kernel
theorem dX12_player_133 : decode cX12_player 133 = .ok (.iadd, 1) := by decide +kernel
theorem dX12_player_134 : decode cX12_player 134 = .ok (.iconst 0, 1) := by decide +kernel
theorem dX12_player_135 : decode cX12_player 135 = .ok (.iastore, 1) := by decide +kernel
theorem dX12_player_136 : decode cX12_player 136 = .ok (.aload_n 0, 1) := by decide +kernel
theorem dX12_player_137 : decode cX12_player 137 = .ok (.getfield 9, 3) := by decide +kernel
theorem dX12_player_140 : decode cX12_player 140 = .ok (.bipush 37, 2) := by decide +kernel
theorem dX12_player_142 : decode cX12_player 142 = .ok (.iload 6, 2) := by decide +kernel
theorem dX12_player_144 : decode cX12_player 144 = .ok (.iadd, 1) := by decide +kernel
theorem dX12_player_145 : decode cX12_player 145 = .ok (.iconst 0, 1) := by decide +kernel
theorem dX12_player_146 : decode cX12_player 146 = .ok (.iastore, 1) := by decide +kernel
theorem dX12_player_147 : decode cX12_player 147 = .ok (.aload_n 0, 1) := by decide +kernel
theorem dX12_player_148 : decode cX12_player 148 = .ok (.getfield 9, 3) := by decide +kernel
theorem dX12_player_151 : decode cX12_player 151 = .ok (.bipush 43, 2) := by decide +kernel
theorem dX12_player_153 : decode cX12_player 153 = .ok (.iload 6, 2) := by decide +kernel
theorem dX12_player_155 : decode cX12_player 155 = .ok (.iadd, 1) := by decide +kernel
theorem dX12_player_156 : decode cX12_player 156 = .ok (.iload 5, 2) := by decide +kernel
theorem dX12_player_158 : decode cX12_player 158 = .ok (.iastore, 1) := by decide +kernel
theorem dX12_player_159 : decode cX12_player 159 = .ok (.iconst 0, 1) := by decide +kernel
theorem dX12_player_160 : decode cX12_player 160 = .ok (.istore 7, 2) := by decide +kernel
theorem dX12_player_162 : decode cX12_player 162 = .ok (.iload 7, 2) := by decide +kernel
theorem dX12_player_164 : decode cX12_player 164 = .ok (.iconst 4, 1) := by decide +kernel
theorem dX12_player_165 : decode cX12_player 165 = .ok (.if_icmp .ge 25, 3) := by decide +kernel
theorem dX12_player_168 : decode cX12_player 168 = .ok (.aload_n 0, 1) := by decide +kernel
theorem dX12_player_169 : decode cX12_player 169 = .ok (.getfield 9, 3) := by decide +kernel
theorem dX12_player_172 : decode cX12_player 172 = .ok (.bipush 49, 2) := by decide +kernel
theorem dX12_player_174 : decode cX12_player 174 = .ok (.iconst 4, 1) := by decide +kernel
theorem dX12_player_175 : decode cX12_player 175 = .ok (.iload 6, 2) := by decide +kernel
theorem dX12_player_177 : decode cX12_player 177 = .ok (.imul, 1) := by decide +kernel
theorem dX12_player_178 : decode cX12_player 178 = .ok (.iadd, 1) := by decide +kernel
theorem dX12_player_179 : decode cX12_player 179 = .ok (.iload 7, 2) := by decide +kernel
theorem dX12_player_181 : decode cX12_player 181 = .ok (.iadd, 1) := by decide +kernel
theorem dX12_player_182 : decode cX12_player 182 = .ok (.iconst 4, 1) := by decide +kernel
theorem dX12_player_183 : decode cX12_player 183 = .ok (.iastore, 1) := by decide +kernel
theorem dX12_player_184 : decode cX12_player 184 = .ok (.iinc 7 1, 3) := by decide +kernel
theorem dX12_player_187 : decode cX12_player 187 = .ok (.goto (-25), 3) := by decide +kernel
theorem dX12_player_190 : decode cX12_player 190 = .ok (.aload_n 0, 1) := by decide +kernel
theorem dX12_player_191 : decode cX12_player 191 = .ok (.getfield 9, 3) := by decide +kernel
theorem dX12_player_194 : decode cX12_player 194 = .ok (.iconst 0, 1) := by decide +kernel
theorem dX12_player_195 : decode cX12_player 195 = .ok (.dup2, 1) := by decide +kernel
theorem dX12_player_196 : decode cX12_player 196 = .ok (.iaload, 1) := by decide +kernel
theorem dX12_player_197 : decode cX12_player 197 = .ok (.iconst 1, 1) := by decide +kernel
theorem dX12_player_198 : decode cX12_player 198 = .ok (.iadd, 1) := by decide +kernel
theorem dX12_player_199 : decode cX12_player 199 = .ok (.iastore, 1) := by decide +kernel
theorem dX12_player_200 : decode cX12_player 200 = .ok (.iload 6, 2) := by decide +kernel
theorem dX12_player_202 : decode cX12_player 202 = .ok (.ireturn, 1) := by decide +kernel
theorem dX12_unsure_0 : decode cX12_unsure 0 = .ok (.iconst 3, 1) := by decide +kernel
theorem dX12_unsure_1 : decode cX12_unsure 1 = .ok (.iload_n 2, 1) := by decide +kernel
theorem dX12_unsure_2 : decode cX12_unsure 2 = .ok (.iadd, 1) := by decide +kernel
theorem dX12_unsure_3 : decode cX12_unsure 3 = .ok (.aload_n 0, 1) := by decide +kernel
theorem dX12_unsure_4 : decode cX12_unsure 4 = .ok (.getfield 9, 3) := by decide +kernel
theorem dX12_unsure_7 : decode cX12_unsure 7 = .ok (.bipush 19, 2) := by decide +kernel
theorem dX12_unsure_9 : decode cX12_unsure 9 = .ok (.iload_n 1, 1) := by decide +kernel
theorem dX12_unsure_10 : decode cX12_unsure 10 = .ok (.iadd, 1) := by decide +kernel
theorem dX12_unsure_11 : decode cX12_unsure 11 = .ok (.iaload, 1) := by decide +kernel
theorem dX12_unsure_12 : decode cX12_unsure 12 = .ok (.iconst 4, 1) := by decide +kernel
theorem dX12_unsure_13 : decode cX12_unsure 13 = .ok (.idiv, 1) := by decide +kernel
theorem dX12_unsure_14 : decode cX12_unsure 14 = .ok (.isub, 1) := by decide +kernel
theorem dX12_unsure_15 : decode cX12_unsure 15 = .ok (.istore_n 3, 1) := by decide +kernel
theorem dX12_unsure_16 : decode cX12_unsure 16 = .ok (.iload_n 3, 1) := by decide +kernel
theorem dX12_unsure_17 : decode cX12_unsure 17 = .ok (.ifCond .ge 7, 3) := by decide +kernel
theorem dX12_unsure_20 : decode cX12_unsure 20 = .ok (.iconst 0, 1) := by decide +kernel
theorem dX12_unsure_21 : decode cX12_unsure 21 = .ok (.goto 4, 3) := by decide +kernel
theorem dX12_unsure_24 : decode cX12_unsure 24 = .ok (.iload_n 3, 1) := by decide +kernel
theorem dX12_unsure_25 : decode cX12_unsure 25 = .ok (.ireturn, 1) := by decide +kernel
theorem dX12_unsureOf_0 : decode cX12_unsureOf 0 = .ok (.aload_n 0, 1) := by decide +kernel
theorem dX12_unsureOf_1 : decode cX12_unsureOf 1 = .ok (.getfield 9, 3) := by decide +kernel
theorem dX12_unsureOf_4 : decode cX12_unsureOf 4 = .ok (.bipush 31, 2) := by decide +kernel
theorem dX12_unsureOf_6 : decode cX12_unsureOf 6 = .ok (.iload_n 1, 1) := by decide +kernel
theorem dX12_unsureOf_7 : decode cX12_unsureOf 7 = .ok (.iadd, 1) := by decide +kernel
theorem dX12_unsureOf_8 : decode cX12_unsureOf 8 = .ok (.iaload, 1) := by decide +kernel
theorem dX12_unsureOf_9 : decode cX12_unsureOf 9 = .ok (.istore_n 2, 1) := by decide +kernel
theorem dX12_unsureOf_10 : decode cX12_unsureOf 10 = .ok (.aload_n 0, 1) := by decide +kernel
theorem dX12_unsureOf_11 : decode cX12_unsureOf 11 = .ok (.getfield 9, 3) := by decide +kernel
theorem dX12_unsureOf_14 : decode cX12_unsureOf 14 = .ok (.bipush 7, 2) := by decide +kernel
theorem dX12_unsureOf_16 : decode cX12_unsureOf 16 = .ok (.iload_n 1, 1) := by decide +kernel
theorem dX12_unsureOf_17 : decode cX12_unsureOf 17 = .ok (.iadd, 1) := by decide +kernel
theorem dX12_unsureOf_18 : decode cX12_unsureOf 18 = .ok (.iaload, 1) := by decide +kernel
theorem dX12_unsureOf_19 : decode cX12_unsureOf 19 = .ok (.tableswitch 60 1 5 #[33, 60, 60, 42, 51], 33) := by decide +kernel
theorem dX12_unsureOf_52 : decode cX12_unsureOf 52 = .ok (.aload_n 0, 1) := by decide +kernel
theorem dX12_unsureOf_53 : decode cX12_unsureOf 53 = .ok (.iload_n 1, 1) := by decide +kernel
theorem dX12_unsureOf_54 : decode cX12_unsureOf 54 = .ok (.iload_n 2, 1) := by decide +kernel
theorem dX12_unsureOf_55 : decode cX12_unsureOf 55 = .ok (.invokevirtual 133, 3) := by decide +kernel
theorem dX12_unsureOf_58 : decode cX12_unsureOf 58 = .ok (.iconst 2, 1) := by decide +kernel
theorem dX12_unsureOf_59 : decode cX12_unsureOf 59 = .ok (.idiv, 1) := by decide +kernel
theorem dX12_unsureOf_60 : decode cX12_unsureOf 60 = .ok (.ireturn, 1) := by decide +kernel
theorem dX12_unsureOf_61 : decode cX12_unsureOf 61 = .ok (.aload_n 0, 1) := by decide +kernel
theorem dX12_unsureOf_62 : decode cX12_unsureOf 62 = .ok (.iload_n 1, 1) := by decide +kernel
theorem dX12_unsureOf_63 : decode cX12_unsureOf 63 = .ok (.iconst 0, 1) := by decide +kernel
theorem dX12_unsureOf_64 : decode cX12_unsureOf 64 = .ok (.invokevirtual 133, 3) := by decide +kernel
theorem dX12_unsureOf_67 : decode cX12_unsureOf 67 = .ok (.iconst 2, 1) := by decide +kernel
theorem dX12_unsureOf_68 : decode cX12_unsureOf 68 = .ok (.idiv, 1) := by decide +kernel
theorem dX12_unsureOf_69 : decode cX12_unsureOf 69 = .ok (.ireturn, 1) := by decide +kernel
theorem dX12_unsureOf_70 : decode cX12_unsureOf 70 = .ok (.aload_n 0, 1) := by decide +kernel
theorem dX12_unsureOf_71 : decode cX12_unsureOf 71 = .ok (.iload_n 1, 1) := by decide +kernel
theorem dX12_unsureOf_72 : decode cX12_unsureOf 72 = .ok (.iconst 2, 1) := by decide +kernel
theorem dX12_unsureOf_73 : decode cX12_unsureOf 73 = .ok (.iload_n 2, 1) := by decide +kernel
theorem dX12_unsureOf_74 : decode cX12_unsureOf 74 = .ok (.imul, 1) := by decide +kernel
theorem dX12_unsureOf_75 : decode cX12_unsureOf 75 = .ok (.invokevirtual 133, 3) := by decide +kernel
theorem dX12_unsureOf_78 : decode cX12_unsureOf 78 = .ok (.ireturn, 1) := by decide +kernel
theorem dX12_unsureOf_79 : decode cX12_unsureOf 79 = .ok (.aload_n 0, 1) := by decide +kernel
theorem dX12_unsureOf_80 : decode cX12_unsureOf 80 = .ok (.iload_n 1, 1) := by decide +kernel
theorem dX12_unsureOf_81 : decode cX12_unsureOf 81 = .ok (.iload_n 2, 1) := by decide +kernel
theorem dX12_unsureOf_82 : decode cX12_unsureOf 82 = .ok (.invokevirtual 133, 3) := by decide +kernel
theorem dX12_unsureOf_85 : decode cX12_unsureOf 85 = .ok (.ireturn, 1) := by decide +kernel
theorem dX12_of_0 : decode cX12_of 0 = .ok (.aload_n 0, 1) := by decide +kernel
theorem dX12_of_1 : decode cX12_of 1 = .ok (.iload_n 1, 1) := by decide +kernel
theorem dX12_of_2 : decode cX12_of 2 = .ok (.invokevirtual 136, 3) := by decide +kernel
theorem dX12_of_5 : decode cX12_of 5 = .ok (.ifCond .ne 5, 3) := by decide +kernel
theorem dX12_of_8 : decode cX12_of 8 = .ok (.iconst (-1), 1) := by decide +kernel
theorem dX12_of_9 : decode cX12_of 9 = .ok (.ireturn, 1) := by decide +kernel
theorem dX12_of_10 : decode cX12_of 10 = .ok (.iload_n 2, 1) := by decide +kernel
theorem dX12_of_11 : decode cX12_of 11 = .ok (.bipush 7, 2) := by decide +kernel
theorem dX12_of_13 : decode cX12_of 13 = .ok (.if_icmp .ne 11, 3) := by decide +kernel
theorem dX12_of_16 : decode cX12_of 16 = .ok (.aload_n 0, 1) := by decide +kernel
theorem dX12_of_17 : decode cX12_of 17 = .ok (.iload_n 1, 1) := by decide +kernel
theorem dX12_of_18 : decode cX12_of 18 = .ok (.invokevirtual 140, 3) := by decide +kernel
theorem dX12_of_21 : decode cX12_of 21 = .ok (.goto 31, 3) := by decide +kernel
theorem dX12_of_24 : decode cX12_of 24 = .ok (.iload_n 2, 1) := by decide +kernel
theorem dX12_of_25 : decode cX12_of 25 = .ok (.iconst 0, 1) := by decide +kernel
theorem dX12_of_26 : decode cX12_of 26 = .ok (.bipush 6, 2) := by decide +kernel
theorem dX12_of_28 : decode cX12_of 28 = .ok (.invokestatic 41, 3) := by decide +kernel
theorem dX12_of_31 : decode cX12_of 31 = .ok (.ifCond .eq 20, 3) := by decide +kernel
theorem dX12_of_34 : decode cX12_of 34 = .ok (.aload_n 0, 1) := by decide +kernel
theorem dX12_of_35 : decode cX12_of 35 = .ok (.getfield 9, 3) := by decide +kernel
theorem dX12_of_38 : decode cX12_of 38 = .ok (.bipush 7, 2) := by decide +kernel
theorem dX12_of_40 : decode cX12_of 40 = .ok (.bipush 6, 2) := by decide +kernel
theorem dX12_of_42 : decode cX12_of 42 = .ok (.iload_n 2, 1) := by decide +kernel
theorem dX12_of_43 : decode cX12_of 43 = .ok (.imul, 1) := by decide +kernel
theorem dX12_of_44 : decode cX12_of 44 = .ok (.iadd, 1) := by decide +kernel
theorem dX12_of_45 : decode cX12_of 45 = .ok (.iload_n 1, 1) := by decide +kernel
theorem dX12_of_46 : decode cX12_of 46 = .ok (.iadd, 1) := by decide +kernel
theorem dX12_of_47 : decode cX12_of 47 = .ok (.iaload, 1) := by decide +kernel
theorem dX12_of_48 : decode cX12_of 48 = .ok (.goto 4, 3) := by decide +kernel
theorem dX12_of_51 : decode cX12_of 51 = .ok (.iconst (-1), 1) := by decide +kernel
theorem dX12_of_52 : decode cX12_of 52 = .ok (.ireturn, 1) := by decide +kernel
theorem dX12_set_0 : decode cX12_set 0 = .ok (.aload_n 0, 1) := by decide +kernel
theorem dX12_set_1 : decode cX12_set 1 = .ok (.iload_n 1, 1) := by decide +kernel
theorem dX12_set_2 : decode cX12_set 2 = .ok (.invokevirtual 136, 3) := by decide +kernel
theorem dX12_set_5 : decode cX12_set 5 = .ok (.ifCond .eq 12, 3) := by decide +kernel
theorem dX12_set_8 : decode cX12_set 8 = .ok (.iload_n 2, 1) := by decide +kernel
theorem dX12_set_9 : decode cX12_set 9 = .ok (.iconst 0, 1) := by decide +kernel
theorem dX12_set_10 : decode cX12_set 10 = .ok (.iconst 2, 1) := by decide +kernel
theorem dX12_set_11 : decode cX12_set 11 = .ok (.invokestatic 41, 3) := by decide +kernel
theorem dX12_set_14 : decode cX12_set 14 = .ok (.ifCond .ne 5, 3) := by decide +kernel
theorem dX12_set_17 : decode cX12_set 17 = .ok (.iconst (-1), 1) := by decide +kernel
theorem dX12_set_18 : decode cX12_set 18 = .ok (.ireturn, 1) := by decide +kernel
theorem dX12_set_19 : decode cX12_set 19 = .ok (.iload_n 3, 1) := by decide +kernel
theorem dX12_set_20 : decode cX12_set 20 = .ok (.iconst 0, 1) := by decide +kernel
theorem dX12_set_21 : decode cX12_set 21 = .ok (.iload_n 2, 1) := by decide +kernel
theorem dX12_set_22 : decode cX12_set 22 = .ok (.ifCond .ne 8, 3) := by decide +kernel
theorem dX12_set_25 : decode cX12_set 25 = .ok (.bipush 20, 2) := by decide +kernel
theorem dX12_set_27 : decode cX12_set 27 = .ok (.goto 15, 3) := by decide +kernel
theorem dX12_set_30 : decode cX12_set 30 = .ok (.iload_n 2, 1) := by decide +kernel
theorem dX12_set_31 : decode cX12_set 31 = .ok (.iconst 1, 1) := by decide +kernel
theorem dX12_set_32 : decode cX12_set 32 = .ok (.if_icmp .ne 8, 3) := by decide +kernel
theorem dX12_set_35 : decode cX12_set 35 = .ok (.bipush 9, 2) := by decide +kernel
theorem dX12_set_37 : decode cX12_set 37 = .ok (.goto 5, 3) := by decide +kernel
theorem dX12_set_40 : decode cX12_set 40 = .ok (.bipush 99, 2) := by decide +kernel
theorem dX12_set_42 : decode cX12_set 42 = .ok (.invokestatic 41, 3) := by decide +kernel
theorem dX12_set_45 : decode cX12_set 45 = .ok (.ifCond .ne 6, 3) := by decide +kernel
theorem dX12_set_48 : decode cX12_set 48 = .ok (.bipush (-2), 2) := by decide +kernel
theorem dX12_set_50 : decode cX12_set 50 = .ok (.ireturn, 1) := by decide +kernel
theorem dX12_set_51 : decode cX12_set 51 = .ok (.iload_n 2, 1) := by decide +kernel
theorem dX12_set_52 : decode cX12_set 52 = .ok (.ifCond .ne 8, 3) := by decide +kernel
theorem dX12_set_55 : decode cX12_set 55 = .ok (.bipush 19, 2) := by decide +kernel
theorem dX12_set_57 : decode cX12_set 57 = .ok (.goto 15, 3) := by decide +kernel
theorem dX12_set_60 : decode cX12_set 60 = .ok (.iload_n 2, 1) := by decide +kernel
theorem dX12_set_61 : decode cX12_set 61 = .ok (.iconst 1, 1) := by decide +kernel
theorem dX12_set_62 : decode cX12_set 62 = .ok (.if_icmp .ne 8, 3) := by decide +kernel
theorem dX12_set_65 : decode cX12_set 65 = .ok (.bipush 31, 2) := by decide +kernel
theorem dX12_set_67 : decode cX12_set 67 = .ok (.goto 5, 3) := by decide +kernel
theorem dX12_set_70 : decode cX12_set 70 = .ok (.bipush 37, 2) := by decide +kernel
theorem dX12_set_72 : decode cX12_set 72 = .ok (.iload_n 1, 1) := by decide +kernel
theorem dX12_set_73 : decode cX12_set 73 = .ok (.iadd, 1) := by decide +kernel
theorem dX12_set_74 : decode cX12_set 74 = .ok (.istore 4, 2) := by decide +kernel
theorem dX12_set_76 : decode cX12_set 76 = .ok (.aload_n 0, 1) := by decide +kernel
theorem dX12_set_77 : decode cX12_set 77 = .ok (.getfield 9, 3) := by decide +kernel
theorem dX12_set_80 : decode cX12_set 80 = .ok (.iload 4, 2) := by decide +kernel
theorem dX12_set_82 : decode cX12_set 82 = .ok (.iaload, 1) := by decide +kernel
theorem dX12_set_83 : decode cX12_set 83 = .ok (.istore 5, 2) := by decide +kernel
theorem dX12_set_85 : decode cX12_set 85 = .ok (.aload_n 0, 1) := by decide +kernel
theorem dX12_set_86 : decode cX12_set 86 = .ok (.getfield 9, 3) := by decide +kernel
theorem dX12_set_89 : decode cX12_set 89 = .ok (.iload 4, 2) := by decide +kernel
theorem dX12_set_91 : decode cX12_set 91 = .ok (.iload_n 3, 1) := by decide +kernel
theorem dX12_set_92 : decode cX12_set 92 = .ok (.iastore, 1) := by decide +kernel
theorem dX12_set_93 : decode cX12_set 93 = .ok (.iload 5, 2) := by decide +kernel
theorem dX12_set_95 : decode cX12_set 95 = .ok (.ireturn, 1) := by decide +kernel
theorem dX12_row_0 : decode cX12_row 0 = .ok (.aload_n 0, 1) := by decide +kernel
theorem dX12_row_1 : decode cX12_row 1 = .ok (.iload_n 1, 1) := by decide +kernel
theorem dX12_row_2 : decode cX12_row 2 = .ok (.invokevirtual 136, 3) := by decide +kernel
theorem dX12_row_5 : decode cX12_row 5 = .ok (.ifCond .eq 12, 3) := by decide +kernel
theorem dX12_row_8 : decode cX12_row 8 = .ok (.iload_n 2, 1) := by decide +kernel
theorem dX12_row_9 : decode cX12_row 9 = .ok (.iconst 0, 1) := by decide +kernel
theorem dX12_row_10 : decode cX12_row 10 = .ok (.iconst 3, 1) := by decide +kernel
theorem dX12_row_11 : decode cX12_row 11 = .ok (.invokestatic 41, 3) := by decide +kernel
theorem dX12_row_14 : decode cX12_row 14 = .ok (.ifCond .ne 5, 3) := by decide +kernel
theorem dX12_row_17 : decode cX12_row 17 = .ok (.iconst (-1), 1) := by decide +kernel
theorem dX12_row_18 : decode cX12_row 18 = .ok (.ireturn, 1) := by decide +kernel
theorem dX12_row_19 : decode cX12_row 19 = .ok (.iload_n 3, 1) := by decide +kernel
theorem dX12_row_20 : decode cX12_row 20 = .ok (.iconst 0, 1) := by decide +kernel
theorem dX12_row_21 : decode cX12_row 21 = .ok (.bipush 9, 2) := by decide +kernel
theorem dX12_row_23 : decode cX12_row 23 = .ok (.invokestatic 41, 3) := by decide +kernel
theorem dX12_row_26 : decode cX12_row 26 = .ok (.ifCond .ne 6, 3) := by decide +kernel
theorem dX12_row_29 : decode cX12_row 29 = .ok (.bipush (-2), 2) := by decide +kernel
theorem dX12_row_31 : decode cX12_row 31 = .ok (.ireturn, 1) := by decide +kernel
theorem dX12_row_32 : decode cX12_row 32 = .ok (.aload_n 0, 1) := by decide +kernel
theorem dX12_row_33 : decode cX12_row 33 = .ok (.getfield 9, 3) := by decide +kernel
theorem dX12_row_36 : decode cX12_row 36 = .ok (.bipush 7, 2) := by decide +kernel
theorem dX12_row_38 : decode cX12_row 38 = .ok (.iload_n 1, 1) := by decide +kernel
theorem dX12_row_39 : decode cX12_row 39 = .ok (.iadd, 1) := by decide +kernel
theorem dX12_row_40 : decode cX12_row 40 = .ok (.iaload, 1) := by decide +kernel
theorem dX12_row_41 : decode cX12_row 41 = .ok (.bipush 6, 2) := by decide +kernel
theorem dX12_row_43 : decode cX12_row 43 = .ok (.if_icmp .eq 6, 3) := by decide +kernel
theorem dX12_row_46 : decode cX12_row 46 = .ok (.bipush (-3), 2) := by decide +kernel
theorem dX12_row_48 : decode cX12_row 48 = .ok (.ireturn, 1) := by decide +kernel
theorem dX12_row_49 : decode cX12_row 49 = .ok (.aload_n 0, 1) := by decide +kernel
theorem dX12_row_50 : decode cX12_row 50 = .ok (.getfield 9, 3) := by decide +kernel
theorem dX12_row_53 : decode cX12_row 53 = .ok (.bipush 49, 2) := by decide +kernel
theorem dX12_row_55 : decode cX12_row 55 = .ok (.iconst 4, 1) := by decide +kernel
theorem dX12_row_56 : decode cX12_row 56 = .ok (.iload_n 1, 1) := by decide +kernel
theorem dX12_row_57 : decode cX12_row 57 = .ok (.imul, 1) := by decide +kernel
theorem dX12_row_58 : decode cX12_row 58 = .ok (.iadd, 1) := by decide +kernel
theorem dX12_row_59 : decode cX12_row 59 = .ok (.iload_n 2, 1) := by decide +kernel
theorem dX12_row_60 : decode cX12_row 60 = .ok (.iadd, 1) := by decide +kernel
theorem dX12_row_61 : decode cX12_row 61 = .ok (.iaload, 1) := by decide +kernel
theorem dX12_row_62 : decode cX12_row 62 = .ok (.istore 4, 2) := by decide +kernel
theorem dX12_row_64 : decode cX12_row 64 = .ok (.aload_n 0, 1) := by decide +kernel
theorem dX12_row_65 : decode cX12_row 65 = .ok (.getfield 9, 3) := by decide +kernel
theorem dX12_row_68 : decode cX12_row 68 = .ok (.bipush 49, 2) := by decide +kernel
theorem dX12_row_70 : decode cX12_row 70 = .ok (.iconst 4, 1) := by decide +kernel
theorem dX12_row_71 : decode cX12_row 71 = .ok (.iload_n 1, 1) := by decide +kernel
theorem dX12_row_72 : decode cX12_row 72 = .ok (.imul, 1) := by decide +kernel
theorem dX12_row_73 : decode cX12_row 73 = .ok (.iadd, 1) := by decide +kernel
theorem dX12_row_74 : decode cX12_row 74 = .ok (.iload_n 2, 1) := by decide +kernel
theorem dX12_row_75 : decode cX12_row 75 = .ok (.iadd, 1) := by decide +kernel
theorem dX12_row_76 : decode cX12_row 76 = .ok (.iload_n 3, 1) := by decide +kernel
theorem dX12_row_77 : decode cX12_row 77 = .ok (.iastore, 1) := by decide +kernel
theorem dX12_row_78 : decode cX12_row 78 = .ok (.iload 4, 2) := by decide +kernel
theorem dX12_row_80 : decode cX12_row 80 = .ok (.ireturn, 1) := by decide +kernel
theorem dX12_told_0 : decode cX12_told 0 = .ok (.iload_n 1, 1) := by decide +kernel
theorem dX12_told_1 : decode cX12_told 1 = .ok (.ifCond .ne 13, 3) := by decide +kernel
theorem dX12_told_4 : decode cX12_told 4 = .ok (.aload_n 0, 1) := by decide +kernel
theorem dX12_told_5 : decode cX12_told 5 = .ok (.getfield 9, 3) := by decide +kernel
theorem dX12_told_8 : decode cX12_told 8 = .ok (.bipush 6, 2) := by decide +kernel
theorem dX12_told_10 : decode cX12_told 10 = .ok (.iaload, 1) := by decide +kernel
theorem dX12_told_11 : decode cX12_told 11 = .ok (.goto 37, 3) := by decide +kernel
theorem dX12_told_14 : decode cX12_told 14 = .ok (.iload_n 1, 1) := by decide +kernel
theorem dX12_told_15 : decode cX12_told 15 = .ok (.iconst 1, 1) := by decide +kernel
theorem dX12_told_16 : decode cX12_told 16 = .ok (.if_icmp .ne 15, 3) := by decide +kernel
theorem dX12_told_19 : decode cX12_told 19 = .ok (.aload_n 0, 1) := by decide +kernel
theorem dX12_told_20 : decode cX12_told 20 = .ok (.sipush 221, 3) := by decide +kernel
theorem dX12_told_23 : decode cX12_told 23 = .ok (.bipush 6, 2) := by decide +kernel
theorem dX12_told_25 : decode cX12_told 25 = .ok (.invokevirtual 129, 3) := by decide +kernel
theorem dX12_told_28 : decode cX12_told 28 = .ok (.goto 20, 3) := by decide +kernel
theorem dX12_told_31 : decode cX12_told 31 = .ok (.iload_n 1, 1) := by decide +kernel
theorem dX12_told_32 : decode cX12_told 32 = .ok (.iconst 2, 1) := by decide +kernel
theorem dX12_told_33 : decode cX12_told 33 = .ok (.if_icmp .ne 14, 3) := by decide +kernel
theorem dX12_told_36 : decode cX12_told 36 = .ok (.aload_n 0, 1) := by decide +kernel
theorem dX12_told_37 : decode cX12_told 37 = .ok (.sipush 226, 3) := by decide +kernel
theorem dX12_told_40 : decode cX12_told 40 = .ok (.iconst 1, 1) := by decide +kernel
theorem dX12_told_41 : decode cX12_told 41 = .ok (.invokevirtual 129, 3) := by decide +kernel
theorem dX12_told_44 : decode cX12_told 44 = .ok (.goto 4, 3) := by decide +kernel
theorem dX12_told_47 : decode cX12_told 47 = .ok (.iconst (-1), 1) := by decide +kernel
theorem dX12_told_48 : decode cX12_told 48 = .ok (.ireturn, 1) := by decide +kernel
theorem dX12_turnOf_0 : decode cX12_turnOf 0 = .ok (.iconst 5, 1) := by decide +kernel
theorem dX12_turnOf_1 : decode cX12_turnOf 1 = .ok (.iload_n 3, 1) := by decide +kernel
theorem dX12_turnOf_2 : decode cX12_turnOf 2 = .ok (.imul, 1) := by decide +kernel
theorem dX12_turnOf_3 : decode cX12_turnOf 3 = .ok (.iload_n 2, 1) := by decide +kernel
theorem dX12_turnOf_4 : decode cX12_turnOf 4 = .ok (.iconst 2, 1) := by decide +kernel
theorem dX12_turnOf_5 : decode cX12_turnOf 5 = .ok (.idiv, 1) := by decide +kernel
theorem dX12_turnOf_6 : decode cX12_turnOf 6 = .ok (.isub, 1) := by decide +kernel
theorem dX12_turnOf_7 : decode cX12_turnOf 7 = .ok (.istore 4, 2) := by decide +kernel
theorem dX12_turnOf_9 : decode cX12_turnOf 9 = .ok (.aload_n 0, 1) := by decide +kernel
theorem dX12_turnOf_10 : decode cX12_turnOf 10 = .ok (.getfield 9, 3) := by decide +kernel
theorem dX12_turnOf_13 : decode cX12_turnOf 13 = .ok (.bipush 7, 2) := by decide +kernel
theorem dX12_turnOf_15 : decode cX12_turnOf 15 = .ok (.iload_n 1, 1) := by decide +kernel
theorem dX12_turnOf_16 : decode cX12_turnOf 16 = .ok (.iadd, 1) := by decide +kernel
theorem dX12_turnOf_17 : decode cX12_turnOf 17 = .ok (.iaload, 1) := by decide +kernel
theorem dX12_turnOf_18 : decode cX12_turnOf 18 = .ok (.tableswitch 97 2 6 #[34, 47, 97, 34, 60], 34) := by decide +kernel
theorem dX12_turnOf_52 : decode cX12_turnOf 52 = .ok (.iload 4, 2) := by decide +kernel
theorem dX12_turnOf_54 : decode cX12_turnOf 54 = .ok (.aload_n 0, 1) := by decide +kernel
theorem dX12_turnOf_55 : decode cX12_turnOf 55 = .ok (.getfield 9, 3) := by decide +kernel
theorem dX12_turnOf_58 : decode cX12_turnOf 58 = .ok (.bipush 13, 2) := by decide +kernel
theorem dX12_turnOf_60 : decode cX12_turnOf 60 = .ok (.iload_n 1, 1) := by decide +kernel
theorem dX12_turnOf_61 : decode cX12_turnOf 61 = .ok (.iadd, 1) := by decide +kernel
theorem dX12_turnOf_62 : decode cX12_turnOf 62 = .ok (.iaload, 1) := by decide +kernel
theorem dX12_turnOf_63 : decode cX12_turnOf 63 = .ok (.iadd, 1) := by decide +kernel
theorem dX12_turnOf_64 : decode cX12_turnOf 64 = .ok (.ireturn, 1) := by decide +kernel
theorem dX12_turnOf_65 : decode cX12_turnOf 65 = .ok (.iload 4, 2) := by decide +kernel
theorem dX12_turnOf_67 : decode cX12_turnOf 67 = .ok (.aload_n 0, 1) := by decide +kernel
theorem dX12_turnOf_68 : decode cX12_turnOf 68 = .ok (.getfield 9, 3) := by decide +kernel
theorem dX12_turnOf_71 : decode cX12_turnOf 71 = .ok (.bipush 13, 2) := by decide +kernel
theorem dX12_turnOf_73 : decode cX12_turnOf 73 = .ok (.iload_n 1, 1) := by decide +kernel
theorem dX12_turnOf_74 : decode cX12_turnOf 74 = .ok (.iadd, 1) := by decide +kernel
theorem dX12_turnOf_75 : decode cX12_turnOf 75 = .ok (.iaload, 1) := by decide +kernel
theorem dX12_turnOf_76 : decode cX12_turnOf 76 = .ok (.isub, 1) := by decide +kernel
theorem dX12_turnOf_77 : decode cX12_turnOf 77 = .ok (.ireturn, 1) := by decide +kernel
theorem dX12_turnOf_78 : decode cX12_turnOf 78 = .ok (.iload 4, 2) := by decide +kernel
theorem dX12_turnOf_80 : decode cX12_turnOf 80 = .ok (.aload_n 0, 1) := by decide +kernel
theorem dX12_turnOf_81 : decode cX12_turnOf 81 = .ok (.getfield 9, 3) := by decide +kernel
theorem dX12_turnOf_84 : decode cX12_turnOf 84 = .ok (.bipush 13, 2) := by decide +kernel
theorem dX12_turnOf_86 : decode cX12_turnOf 86 = .ok (.iload_n 1, 1) := by decide +kernel
theorem dX12_turnOf_87 : decode cX12_turnOf 87 = .ok (.iadd, 1) := by decide +kernel
theorem dX12_turnOf_88 : decode cX12_turnOf 88 = .ok (.iaload, 1) := by decide +kernel
theorem dX12_turnOf_89 : decode cX12_turnOf 89 = .ok (.isub, 1) := by decide +kernel
theorem dX12_turnOf_90 : decode cX12_turnOf 90 = .ok (.aload_n 0, 1) := by decide +kernel
theorem dX12_turnOf_91 : decode cX12_turnOf 91 = .ok (.getfield 9, 3) := by decide +kernel
theorem dX12_turnOf_94 : decode cX12_turnOf 94 = .ok (.bipush 49, 2) := by decide +kernel
theorem dX12_turnOf_96 : decode cX12_turnOf 96 = .ok (.iconst 4, 1) := by decide +kernel
theorem dX12_turnOf_97 : decode cX12_turnOf 97 = .ok (.iload_n 1, 1) := by decide +kernel
theorem dX12_turnOf_98 : decode cX12_turnOf 98 = .ok (.imul, 1) := by decide +kernel
theorem dX12_turnOf_99 : decode cX12_turnOf 99 = .ok (.iadd, 1) := by decide +kernel
theorem dX12_turnOf_100 : decode cX12_turnOf 100 = .ok (.aload_n 0, 1) := by decide +kernel
theorem dX12_turnOf_101 : decode cX12_turnOf 101 = .ok (.getfield 9, 3) := by decide +kernel
theorem dX12_turnOf_104 : decode cX12_turnOf 104 = .ok (.bipush 6, 2) := by decide +kernel
theorem dX12_turnOf_106 : decode cX12_turnOf 106 = .ok (.iaload, 1) := by decide +kernel
theorem dX12_turnOf_107 : decode cX12_turnOf 107 = .ok (.iconst 4, 1) := by decide +kernel
theorem dX12_turnOf_108 : decode cX12_turnOf 108 = .ok (.irem, 1) := by decide +kernel
theorem dX12_turnOf_109 : decode cX12_turnOf 109 = .ok (.iadd, 1) := by decide +kernel
theorem dX12_turnOf_110 : decode cX12_turnOf 110 = .ok (.iaload, 1) := by decide +kernel
theorem dX12_turnOf_111 : decode cX12_turnOf 111 = .ok (.iadd, 1) := by decide +kernel
theorem dX12_turnOf_112 : decode cX12_turnOf 112 = .ok (.iconst 4, 1) := by decide +kernel
theorem dX12_turnOf_113 : decode cX12_turnOf 113 = .ok (.isub, 1) := by decide +kernel
theorem dX12_turnOf_114 : decode cX12_turnOf 114 = .ok (.ireturn, 1) := by decide +kernel
theorem dX12_turnOf_115 : decode cX12_turnOf 115 = .ok (.iload 4, 2) := by decide +kernel
theorem dX12_turnOf_117 : decode cX12_turnOf 117 = .ok (.ireturn, 1) := by decide +kernel
theorem dX12_opensBy_0 : decode cX12_opensBy 0 = .ok (.aload_n 0, 1) := by decide +kernel
theorem dX12_opensBy_1 : decode cX12_opensBy 1 = .ok (.iload_n 1, 1) := by decide +kernel
theorem dX12_opensBy_2 : decode cX12_opensBy 2 = .ok (.iload_n 2, 1) := by decide +kernel
theorem dX12_opensBy_3 : decode cX12_opensBy 3 = .ok (.invokevirtual 144, 3) := by decide +kernel
theorem dX12_opensBy_6 : decode cX12_opensBy 6 = .ok (.iload_n 2, 1) := by decide +kernel
theorem dX12_opensBy_7 : decode cX12_opensBy 7 = .ok (.aload_n 0, 1) := by decide +kernel
theorem dX12_opensBy_8 : decode cX12_opensBy 8 = .ok (.getfield 123, 3) := by decide +kernel
theorem dX12_opensBy_11 : decode cX12_opensBy 11 = .ok (.iadd, 1) := by decide +kernel
theorem dX12_opensBy_12 : decode cX12_opensBy 12 = .ok (.aload_n 0, 1) := by decide +kernel
theorem dX12_opensBy_13 : decode cX12_opensBy 13 = .ok (.getfield 126, 3) := by decide +kernel
theorem dX12_opensBy_16 : decode cX12_opensBy 16 = .ok (.isub, 1) := by decide +kernel
theorem dX12_opensBy_17 : decode cX12_opensBy 17 = .ok (.iload_n 3, 1) := by decide +kernel
theorem dX12_opensBy_18 : decode cX12_opensBy 18 = .ok (.isub, 1) := by decide +kernel
theorem dX12_opensBy_19 : decode cX12_opensBy 19 = .ok (.istore 4, 2) := by decide +kernel
theorem dX12_opensBy_21 : decode cX12_opensBy 21 = .ok (.iload 4, 2) := by decide +kernel
theorem dX12_opensBy_23 : decode cX12_opensBy 23 = .ok (.ifCond .ge 7, 3) := by decide +kernel
theorem dX12_opensBy_26 : decode cX12_opensBy 26 = .ok (.iconst 0, 1) := by decide +kernel
theorem dX12_opensBy_27 : decode cX12_opensBy 27 = .ok (.goto 5, 3) := by decide +kernel
theorem dX12_opensBy_30 : decode cX12_opensBy 30 = .ok (.iload 4, 2) := by decide +kernel
theorem dX12_opensBy_32 : decode cX12_opensBy 32 = .ok (.ireturn, 1) := by decide +kernel
theorem dX12_pile_0 : decode cX12_pile 0 = .ok (.aload_n 0, 1) := by decide +kernel
theorem dX12_pile_1 : decode cX12_pile 1 = .ok (.iload_n 1, 1) := by decide +kernel
theorem dX12_pile_2 : decode cX12_pile 2 = .ok (.invokevirtual 136, 3) := by decide +kernel
theorem dX12_pile_5 : decode cX12_pile 5 = .ok (.ifCond .eq 13, 3) := by decide +kernel
theorem dX12_pile_8 : decode cX12_pile 8 = .ok (.iload 4, 2) := by decide +kernel
theorem dX12_pile_10 : decode cX12_pile 10 = .ok (.iconst 0, 1) := by decide +kernel
theorem dX12_pile_11 : decode cX12_pile 11 = .ok (.iconst 1, 1) := by decide +kernel
theorem dX12_pile_12 : decode cX12_pile 12 = .ok (.invokestatic 41, 3) := by decide +kernel
theorem dX12_pile_15 : decode cX12_pile 15 = .ok (.ifCond .ne 7, 3) := by decide +kernel
theorem dX12_pile_18 : decode cX12_pile 18 = .ok (.sipush (-1001), 3) := by decide +kernel
theorem dX12_pile_21 : decode cX12_pile 21 = .ok (.ireturn, 1) := by decide +kernel
theorem dX12_pile_22 : decode cX12_pile 22 = .ok (.iload_n 2, 1) := by decide +kernel
theorem dX12_pile_23 : decode cX12_pile 23 = .ok (.iload_n 3, 1) := by decide +kernel
theorem dX12_pile_24 : decode cX12_pile 24 = .ok (.invokestatic 148, 3) := by decide +kernel
theorem dX12_pile_27 : decode cX12_pile 27 = .ok (.ifCond .ne 7, 3) := by decide +kernel
theorem dX12_pile_30 : decode cX12_pile 30 = .ok (.sipush (-1002), 3) := by decide +kernel
theorem dX12_pile_33 : decode cX12_pile 33 = .ok (.ireturn, 1) := by decide +kernel
theorem dX12_pile_34 : decode cX12_pile 34 = .ok (.iload 4, 2) := by decide +kernel
theorem dX12_pile_36 : decode cX12_pile 36 = .ok (.ifCond .ne 13, 3) := by decide +kernel
theorem dX12_pile_39 : decode cX12_pile 39 = .ok (.aload_n 0, 1) := by decide +kernel
theorem dX12_pile_40 : decode cX12_pile 40 = .ok (.iload_n 1, 1) := by decide +kernel
theorem dX12_pile_41 : decode cX12_pile 41 = .ok (.iload_n 2, 1) := by decide +kernel
theorem dX12_pile_42 : decode cX12_pile 42 = .ok (.iload_n 3, 1) := by decide +kernel
theorem dX12_pile_43 : decode cX12_pile 43 = .ok (.invokevirtual 152, 3) := by decide +kernel
theorem dX12_pile_46 : decode cX12_pile 46 = .ok (.goto 10, 3) := by decide +kernel
theorem dX12_pile_49 : decode cX12_pile 49 = .ok (.aload_n 0, 1) := by decide +kernel
theorem dX12_pile_50 : decode cX12_pile 50 = .ok (.iload_n 1, 1) := by decide +kernel
theorem dX12_pile_51 : decode cX12_pile 51 = .ok (.iload_n 2, 1) := by decide +kernel
theorem dX12_pile_52 : decode cX12_pile 52 = .ok (.iconst 0, 1) := by decide +kernel
theorem dX12_pile_53 : decode cX12_pile 53 = .ok (.invokevirtual 156, 3) := by decide +kernel
theorem dX12_pile_56 : decode cX12_pile 56 = .ok (.ireturn, 1) := by decide +kernel
theorem dX12_catches_0 : decode cX12_catches 0 = .ok (.aload_n 0, 1) := by decide +kernel
theorem dX12_catches_1 : decode cX12_catches 1 = .ok (.iload_n 1, 1) := by decide +kernel
theorem dX12_catches_2 : decode cX12_catches 2 = .ok (.iload_n 2, 1) := by decide +kernel
theorem dX12_catches_3 : decode cX12_catches 3 = .ok (.iload_n 3, 1) := by decide +kernel
theorem dX12_catches_4 : decode cX12_catches 4 = .ok (.invokevirtual 152, 3) := by decide +kernel
theorem dX12_catches_7 : decode cX12_catches 7 = .ok (.aload_n 0, 1) := by decide +kernel
theorem dX12_catches_8 : decode cX12_catches 8 = .ok (.iload_n 1, 1) := by decide +kernel
theorem dX12_catches_9 : decode cX12_catches 9 = .ok (.invokevirtual 140, 3) := by decide +kernel
theorem dX12_catches_12 : decode cX12_catches 12 = .ok (.iload 4, 2) := by decide +kernel
theorem dX12_catches_14 : decode cX12_catches 14 = .ok (.iconst 4, 1) := by decide +kernel
theorem dX12_catches_15 : decode cX12_catches 15 = .ok (.isub, 1) := by decide +kernel
theorem dX12_catches_16 : decode cX12_catches 16 = .ok (.imul, 1) := by decide +kernel
theorem dX12_catches_17 : decode cX12_catches 17 = .ok (.iadd, 1) := by decide +kernel
theorem dX12_catches_18 : decode cX12_catches 18 = .ok (.bipush 50, 2) := by decide +kernel
theorem dX12_catches_20 : decode cX12_catches 20 = .ok (.isub, 1) := by decide +kernel
theorem dX12_catches_21 : decode cX12_catches 21 = .ok (.istore 6, 2) := by decide +kernel
theorem dX12_catches_23 : decode cX12_catches 23 = .ok (.iload 6, 2) := by decide +kernel
theorem dX12_catches_25 : decode cX12_catches 25 = .ok (.ifCond .ge 9, 3) := by decide +kernel
theorem dX12_catches_28 : decode cX12_catches 28 = .ok (.iload 6, 2) := by decide +kernel
theorem dX12_catches_30 : decode cX12_catches 30 = .ok (.ineg, 1) := by decide +kernel
theorem dX12_catches_31 : decode cX12_catches 31 = .ok (.goto 5, 3) := by decide +kernel
theorem dX12_catches_34 : decode cX12_catches 34 = .ok (.iload 6, 2) := by decide +kernel
theorem dX12_catches_36 : decode cX12_catches 36 = .ok (.istore 6, 2) := by decide +kernel
theorem dX12_catches_38 : decode cX12_catches 38 = .ok (.aload_n 0, 1) := by decide +kernel
theorem dX12_catches_39 : decode cX12_catches 39 = .ok (.sipush 221, 3) := by decide +kernel
theorem dX12_catches_42 : decode cX12_catches 42 = .ok (.bipush 6, 2) := by decide +kernel
theorem dX12_catches_44 : decode cX12_catches 44 = .ok (.invokevirtual 129, 3) := by decide +kernel
theorem dX12_catches_47 : decode cX12_catches 47 = .ok (.istore 7, 2) := by decide +kernel
theorem dX12_catches_49 : decode cX12_catches 49 = .ok (.iload 6, 2) := by decide +kernel
theorem dX12_catches_51 : decode cX12_catches 51 = .ok (.iload 7, 2) := by decide +kernel
theorem dX12_catches_53 : decode cX12_catches 53 = .ok (.if_icmp .gt 22, 3) := by decide +kernel
theorem dX12_catches_56 : decode cX12_catches 56 = .ok (.iload 5, 2) := by decide +kernel
theorem dX12_catches_58 : decode cX12_catches 58 = .ok (.bipush 10, 2) := by decide +kernel
theorem dX12_catches_60 : decode cX12_catches 60 = .ok (.aload_n 0, 1) := by decide +kernel
theorem dX12_catches_61 : decode cX12_catches 61 = .ok (.getfield 9, 3) := by decide +kernel
theorem dX12_catches_64 : decode cX12_catches 64 = .ok (.bipush 25, 2) := by decide +kernel
theorem dX12_catches_66 : decode cX12_catches 66 = .ok (.iload_n 1, 1) := by decide +kernel
theorem dX12_catches_67 : decode cX12_catches 67 = .ok (.iadd, 1) := by decide +kernel
theorem dX12_catches_68 : decode cX12_catches 68 = .ok (.iaload, 1) := by decide +kernel
theorem dX12_catches_69 : decode cX12_catches 69 = .ok (.imul, 1) := by decide +kernel
theorem dX12_catches_70 : decode cX12_catches 70 = .ok (.if_icmp .gt 5, 3) := by decide +kernel
theorem dX12_catches_73 : decode cX12_catches 73 = .ok (.iload_n 2, 1) := by decide +kernel
theorem dX12_catches_74 : decode cX12_catches 74 = .ok (.ireturn, 1) := by decide +kernel
theorem dX12_catches_75 : decode cX12_catches 75 = .ok (.iload 6, 2) := by decide +kernel
theorem dX12_catches_77 : decode cX12_catches 77 = .ok (.iconst 2, 1) := by decide +kernel
theorem dX12_catches_78 : decode cX12_catches 78 = .ok (.iload 7, 2) := by decide +kernel
theorem dX12_catches_80 : decode cX12_catches 80 = .ok (.imul, 1) := by decide +kernel
theorem dX12_catches_81 : decode cX12_catches 81 = .ok (.if_icmp .gt 26, 3) := by decide +kernel
theorem dX12_catches_84 : decode cX12_catches 84 = .ok (.iload 5, 2) := by decide +kernel
theorem dX12_catches_86 : decode cX12_catches 86 = .ok (.bipush 20, 2) := by decide +kernel
theorem dX12_catches_88 : decode cX12_catches 88 = .ok (.aload_n 0, 1) := by decide +kernel
theorem dX12_catches_89 : decode cX12_catches 89 = .ok (.getfield 9, 3) := by decide +kernel
theorem dX12_catches_92 : decode cX12_catches 92 = .ok (.bipush 25, 2) := by decide +kernel
theorem dX12_catches_94 : decode cX12_catches 94 = .ok (.iload_n 1, 1) := by decide +kernel
theorem dX12_catches_95 : decode cX12_catches 95 = .ok (.iadd, 1) := by decide +kernel
theorem dX12_catches_96 : decode cX12_catches 96 = .ok (.iaload, 1) := by decide +kernel
theorem dX12_catches_97 : decode cX12_catches 97 = .ok (.imul, 1) := by decide +kernel
theorem dX12_catches_98 : decode cX12_catches 98 = .ok (.if_icmp .gt 9, 3) := by decide +kernel
theorem dX12_catches_101 : decode cX12_catches 101 = .ok (.iload_n 2, 1) := by decide +kernel
theorem dX12_catches_102 : decode cX12_catches 102 = .ok (.iconst 2, 1) := by decide +kernel
theorem dX12_catches_103 : decode cX12_catches 103 = .ok (.idiv, 1) := by decide +kernel
theorem dX12_catches_104 : decode cX12_catches 104 = .ok (.goto 4, 3) := by decide +kernel
theorem dX12_catches_107 : decode cX12_catches 107 = .ok (.iconst 0, 1) := by decide +kernel
theorem dX12_catches_108 : decode cX12_catches 108 = .ok (.ireturn, 1) := by decide +kernel
theorem dX12_caught_0 : decode cX12_caught 0 = .ok (.aload_n 0, 1) := by decide +kernel
theorem dX12_caught_1 : decode cX12_caught 1 = .ok (.iload_n 1, 1) := by decide +kernel
theorem dX12_caught_2 : decode cX12_caught 2 = .ok (.iload_n 2, 1) := by decide +kernel
theorem dX12_caught_3 : decode cX12_caught 3 = .ok (.iload_n 3, 1) := by decide +kernel
theorem dX12_caught_4 : decode cX12_caught 4 = .ok (.iload 4, 2) := by decide +kernel
theorem dX12_caught_6 : decode cX12_caught 6 = .ok (.aload_n 0, 1) := by decide +kernel
theorem dX12_caught_7 : decode cX12_caught 7 = .ok (.iload_n 1, 1) := by decide +kernel
theorem dX12_caught_8 : decode cX12_caught 8 = .ok (.iload_n 2, 1) := by decide +kernel
theorem dX12_caught_9 : decode cX12_caught 9 = .ok (.iconst 0, 1) := by decide +kernel
theorem dX12_caught_10 : decode cX12_caught 10 = .ok (.invokevirtual 156, 3) := by decide +kernel
theorem dX12_caught_13 : decode cX12_caught 13 = .ok (.invokevirtual 159, 3) := by decide +kernel
theorem dX12_caught_16 : decode cX12_caught 16 = .ok (.ireturn, 1) := by decide +kernel
theorem dX12_would_0 : decode cX12_would 0 = .ok (.aload_n 0, 1) := by decide +kernel
theorem dX12_would_1 : decode cX12_would 1 = .ok (.iload_n 1, 1) := by decide +kernel
theorem dX12_would_2 : decode cX12_would 2 = .ok (.invokevirtual 136, 3) := by decide +kernel
theorem dX12_would_5 : decode cX12_would 5 = .ok (.ifCond .ne 5, 3) := by decide +kernel
theorem dX12_would_8 : decode cX12_would 8 = .ok (.iconst (-1), 1) := by decide +kernel
theorem dX12_would_9 : decode cX12_would 9 = .ok (.ireturn, 1) := by decide +kernel
theorem dX12_would_10 : decode cX12_would 10 = .ok (.iload_n 2, 1) := by decide +kernel
theorem dX12_would_11 : decode cX12_would 11 = .ok (.iload_n 3, 1) := by decide +kernel
theorem dX12_would_12 : decode cX12_would 12 = .ok (.invokestatic 148, 3) := by decide +kernel
theorem dX12_would_15 : decode cX12_would 15 = .ok (.ifCond .eq 26, 3) := by decide +kernel
theorem dX12_would_18 : decode cX12_would 18 = .ok (.iload 4, 2) := by decide +kernel
theorem dX12_would_20 : decode cX12_would 20 = .ok (.iconst 0, 1) := by decide +kernel
theorem dX12_would_21 : decode cX12_would 21 = .ok (.bipush 9, 2) := by decide +kernel
theorem dX12_would_23 : decode cX12_would 23 = .ok (.invokestatic 41, 3) := by decide +kernel
theorem dX12_would_26 : decode cX12_would 26 = .ok (.ifCond .eq 15, 3) := by decide +kernel
theorem dX12_would_29 : decode cX12_would 29 = .ok (.aload_n 0, 1) := by decide +kernel
theorem dX12_would_30 : decode cX12_would 30 = .ok (.iload_n 1, 1) := by decide +kernel
theorem dX12_would_31 : decode cX12_would 31 = .ok (.iload_n 2, 1) := by decide +kernel
theorem dX12_would_32 : decode cX12_would 32 = .ok (.iload_n 3, 1) := by decide +kernel
theorem dX12_would_33 : decode cX12_would 33 = .ok (.iload 4, 2) := by decide +kernel
theorem dX12_would_35 : decode cX12_would 35 = .ok (.invokevirtual 163, 3) := by decide +kernel
theorem dX12_would_38 : decode cX12_would 38 = .ok (.goto 5, 3) := by decide +kernel
theorem dX12_would_41 : decode cX12_would 41 = .ok (.bipush (-2), 2) := by decide +kernel
theorem dX12_would_43 : decode cX12_would 43 = .ok (.ireturn, 1) := by decide +kernel
theorem dX12_learnsBy_0 : decode cX12_learnsBy 0 = .ok (.aload_n 0, 1) := by decide +kernel
theorem dX12_learnsBy_1 : decode cX12_learnsBy 1 = .ok (.getfield 9, 3) := by decide +kernel
theorem dX12_learnsBy_4 : decode cX12_learnsBy 4 = .ok (.bipush 37, 2) := by decide +kernel
theorem dX12_learnsBy_6 : decode cX12_learnsBy 6 = .ok (.iload_n 1, 1) := by decide +kernel
theorem dX12_learnsBy_7 : decode cX12_learnsBy 7 = .ok (.iadd, 1) := by decide +kernel
theorem dX12_learnsBy_8 : decode cX12_learnsBy 8 = .ok (.iaload, 1) := by decide +kernel
theorem dX12_learnsBy_9 : decode cX12_learnsBy 9 = .ok (.istore_n 3, 1) := by decide +kernel
theorem dX12_learnsBy_10 : decode cX12_learnsBy 10 = .ok (.iload_n 2, 1) := by decide +kernel
theorem dX12_learnsBy_11 : decode cX12_learnsBy 11 = .ok (.iload_n 3, 1) := by decide +kernel
theorem dX12_learnsBy_12 : decode cX12_learnsBy 12 = .ok (.isub, 1) := by decide +kernel
theorem dX12_learnsBy_13 : decode cX12_learnsBy 13 = .ok (.bipush (-5), 2) := by decide +kernel
theorem dX12_learnsBy_15 : decode cX12_learnsBy 15 = .ok (.iconst 5, 1) := by decide +kernel
theorem dX12_learnsBy_16 : decode cX12_learnsBy 16 = .ok (.invokestatic 41, 3) := by decide +kernel
theorem dX12_learnsBy_19 : decode cX12_learnsBy 19 = .ok (.istore 4, 2) := by decide +kernel
theorem dX12_learnsBy_21 : decode cX12_learnsBy 21 = .ok (.aload_n 0, 1) := by decide +kernel
theorem dX12_learnsBy_22 : decode cX12_learnsBy 22 = .ok (.getfield 9, 3) := by decide +kernel
theorem dX12_learnsBy_25 : decode cX12_learnsBy 25 = .ok (.bipush 19, 2) := by decide +kernel
theorem dX12_learnsBy_27 : decode cX12_learnsBy 27 = .ok (.iload_n 1, 1) := by decide +kernel
theorem dX12_learnsBy_28 : decode cX12_learnsBy 28 = .ok (.iadd, 1) := by decide +kernel
theorem dX12_learnsBy_29 : decode cX12_learnsBy 29 = .ok (.dup2, 1) := by decide +kernel
theorem dX12_learnsBy_30 : decode cX12_learnsBy 30 = .ok (.iaload, 1) := by decide +kernel
theorem dX12_learnsBy_31 : decode cX12_learnsBy 31 = .ok (.iload 4, 2) := by decide +kernel
theorem dX12_learnsBy_33 : decode cX12_learnsBy 33 = .ok (.ifCond .eq 21, 3) := by decide +kernel
theorem dX12_learnsBy_36 : decode cX12_learnsBy 36 = .ok (.aload_n 0, 1) := by decide +kernel
theorem dX12_learnsBy_37 : decode cX12_learnsBy 37 = .ok (.getfield 9, 3) := by decide +kernel
theorem dX12_learnsBy_40 : decode cX12_learnsBy 40 = .ok (.bipush 19, 2) := by decide +kernel
theorem dX12_learnsBy_42 : decode cX12_learnsBy 42 = .ok (.iload_n 1, 1) := by decide +kernel
theorem dX12_learnsBy_43 : decode cX12_learnsBy 43 = .ok (.iadd, 1) := by decide +kernel
theorem dX12_learnsBy_44 : decode cX12_learnsBy 44 = .ok (.iaload, 1) := by decide +kernel
theorem dX12_learnsBy_45 : decode cX12_learnsBy 45 = .ok (.bipush 20, 2) := by decide +kernel
theorem dX12_learnsBy_47 : decode cX12_learnsBy 47 = .ok (.if_icmp .ge 7, 3) := by decide +kernel
theorem dX12_learnsBy_50 : decode cX12_learnsBy 50 = .ok (.iconst 1, 1) := by decide +kernel
theorem dX12_learnsBy_51 : decode cX12_learnsBy 51 = .ok (.goto 4, 3) := by decide +kernel
theorem dX12_learnsBy_54 : decode cX12_learnsBy 54 = .ok (.iconst 0, 1) := by decide +kernel
theorem dX12_learnsBy_55 : decode cX12_learnsBy 55 = .ok (.iadd, 1) := by decide +kernel
theorem dX12_learnsBy_56 : decode cX12_learnsBy 56 = .ok (.iastore, 1) := by decide +kernel
theorem dX12_learnsBy_57 : decode cX12_learnsBy 57 = .ok (.aload_n 0, 1) := by decide +kernel
theorem dX12_learnsBy_58 : decode cX12_learnsBy 58 = .ok (.getfield 9, 3) := by decide +kernel
theorem dX12_learnsBy_61 : decode cX12_learnsBy 61 = .ok (.bipush 37, 2) := by decide +kernel
theorem dX12_learnsBy_63 : decode cX12_learnsBy 63 = .ok (.iload_n 1, 1) := by decide +kernel
theorem dX12_learnsBy_64 : decode cX12_learnsBy 64 = .ok (.iadd, 1) := by decide +kernel
theorem dX12_learnsBy_65 : decode cX12_learnsBy 65 = .ok (.iload_n 2, 1) := by decide +kernel
theorem dX12_learnsBy_66 : decode cX12_learnsBy 66 = .ok (.iload_n 3, 1) := by decide +kernel
theorem dX12_learnsBy_67 : decode cX12_learnsBy 67 = .ok (.if_icmp .le 7, 3) := by decide +kernel
theorem dX12_learnsBy_70 : decode cX12_learnsBy 70 = .ok (.iload_n 2, 1) := by decide +kernel
theorem dX12_learnsBy_71 : decode cX12_learnsBy 71 = .ok (.goto 4, 3) := by decide +kernel
theorem dX12_learnsBy_74 : decode cX12_learnsBy 74 = .ok (.iload_n 3, 1) := by decide +kernel
theorem dX12_learnsBy_75 : decode cX12_learnsBy 75 = .ok (.iastore, 1) := by decide +kernel
theorem dX12_learnsBy_76 : decode cX12_learnsBy 76 = .ok (.return_, 1) := by decide +kernel
theorem dX12_go_0 : decode cX12_go 0 = .ok (.aload_n 0, 1) := by decide +kernel
theorem dX12_go_1 : decode cX12_go 1 = .ok (.iload_n 1, 1) := by decide +kernel
theorem dX12_go_2 : decode cX12_go 2 = .ok (.invokevirtual 136, 3) := by decide +kernel
theorem dX12_go_5 : decode cX12_go 5 = .ok (.ifCond .ne 5, 3) := by decide +kernel
theorem dX12_go_8 : decode cX12_go 8 = .ok (.iconst (-1), 1) := by decide +kernel
theorem dX12_go_9 : decode cX12_go 9 = .ok (.ireturn, 1) := by decide +kernel
theorem dX12_go_10 : decode cX12_go 10 = .ok (.iload_n 2, 1) := by decide +kernel
theorem dX12_go_11 : decode cX12_go 11 = .ok (.iload_n 3, 1) := by decide +kernel
theorem dX12_go_12 : decode cX12_go 12 = .ok (.invokestatic 148, 3) := by decide +kernel
theorem dX12_go_15 : decode cX12_go 15 = .ok (.ifCond .eq 14, 3) := by decide +kernel
theorem dX12_go_18 : decode cX12_go 18 = .ok (.iload 4, 2) := by decide +kernel
theorem dX12_go_20 : decode cX12_go 20 = .ok (.iconst 0, 1) := by decide +kernel
theorem dX12_go_21 : decode cX12_go 21 = .ok (.bipush 9, 2) := by decide +kernel
theorem dX12_go_23 : decode cX12_go 23 = .ok (.invokestatic 41, 3) := by decide +kernel
theorem dX12_go_26 : decode cX12_go 26 = .ok (.ifCond .ne 6, 3) := by decide +kernel
theorem dX12_go_29 : decode cX12_go 29 = .ok (.bipush (-2), 2) := by decide +kernel
theorem dX12_go_31 : decode cX12_go 31 = .ok (.ireturn, 1) := by decide +kernel
theorem dX12_go_32 : decode cX12_go 32 = .ok (.aload_n 0, 1) := by decide +kernel
theorem dX12_go_33 : decode cX12_go 33 = .ok (.getfield 9, 3) := by decide +kernel
theorem dX12_go_36 : decode cX12_go 36 = .ok (.bipush 6, 2) := by decide +kernel
theorem dX12_go_38 : decode cX12_go 38 = .ok (.iaload, 1) := by decide +kernel
theorem dX12_go_39 : decode cX12_go 39 = .ok (.sipush 9999, 3) := by decide +kernel
theorem dX12_go_42 : decode cX12_go 42 = .ok (.if_icmp .ne 6, 3) := by decide +kernel
theorem dX12_go_45 : decode cX12_go 45 = .ok (.bipush (-3), 2) := by decide +kernel
theorem dX12_go_47 : decode cX12_go 47 = .ok (.ireturn, 1) := by decide +kernel
theorem dX12_go_48 : decode cX12_go 48 = .ok (.aload_n 0, 1) := by decide +kernel
theorem dX12_go_49 : decode cX12_go 49 = .ok (.iload_n 1, 1) := by decide +kernel
theorem dX12_go_50 : decode cX12_go 50 = .ok (.iload_n 2, 1) := by decide +kernel
theorem dX12_go_51 : decode cX12_go 51 = .ok (.iload_n 3, 1) := by decide +kernel
theorem dX12_go_52 : decode cX12_go 52 = .ok (.iload 4, 2) := by decide +kernel
theorem dX12_go_54 : decode cX12_go 54 = .ok (.invokevirtual 163, 3) := by decide +kernel
theorem dX12_go_57 : decode cX12_go 57 = .ok (.istore 5, 2) := by decide +kernel
theorem dX12_go_59 : decode cX12_go 59 = .ok (.aload_n 0, 1) := by decide +kernel
theorem dX12_go_60 : decode cX12_go 60 = .ok (.getfield 9, 3) := by decide +kernel
theorem dX12_go_63 : decode cX12_go 63 = .ok (.bipush 43, 2) := by decide +kernel
theorem dX12_go_65 : decode cX12_go 65 = .ok (.iload_n 1, 1) := by decide +kernel
theorem dX12_go_66 : decode cX12_go 66 = .ok (.iadd, 1) := by decide +kernel
theorem dX12_go_67 : decode cX12_go 67 = .ok (.iaload, 1) := by decide +kernel
theorem dX12_go_68 : decode cX12_go 68 = .ok (.aload_n 0, 1) := by decide +kernel
theorem dX12_go_69 : decode cX12_go 69 = .ok (.sipush 226, 3) := by decide +kernel
theorem dX12_go_72 : decode cX12_go 72 = .ok (.iconst 1, 1) := by decide +kernel
theorem dX12_go_73 : decode cX12_go 73 = .ok (.invokevirtual 129, 3) := by decide +kernel
theorem dX12_go_76 : decode cX12_go 76 = .ok (.iload_n 2, 1) := by decide +kernel
theorem dX12_go_77 : decode cX12_go 77 = .ok (.iload 5, 2) := by decide +kernel
theorem dX12_go_79 : decode cX12_go 79 = .ok (.isub, 1) := by decide +kernel
theorem dX12_go_80 : decode cX12_go 80 = .ok (.imul, 1) := by decide +kernel
theorem dX12_go_81 : decode cX12_go 81 = .ok (.isub, 1) := by decide +kernel
theorem dX12_go_82 : decode cX12_go 82 = .ok (.istore 6, 2) := by decide +kernel
theorem dX12_go_84 : decode cX12_go 84 = .ok (.aload_n 0, 1) := by decide +kernel
theorem dX12_go_85 : decode cX12_go 85 = .ok (.getfield 9, 3) := by decide +kernel
theorem dX12_go_88 : decode cX12_go 88 = .ok (.bipush 43, 2) := by decide +kernel
theorem dX12_go_90 : decode cX12_go 90 = .ok (.iload_n 1, 1) := by decide +kernel
theorem dX12_go_91 : decode cX12_go 91 = .ok (.iadd, 1) := by decide +kernel
theorem dX12_go_92 : decode cX12_go 92 = .ok (.iload 6, 2) := by decide +kernel
theorem dX12_go_94 : decode cX12_go 94 = .ok (.ifCond .ge 7, 3) := by decide +kernel
theorem dX12_go_97 : decode cX12_go 97 = .ok (.iconst 0, 1) := by decide +kernel
theorem dX12_go_98 : decode cX12_go 98 = .ok (.goto 5, 3) := by decide +kernel
theorem dX12_go_101 : decode cX12_go 101 = .ok (.iload 6, 2) := by decide +kernel
theorem dX12_go_103 : decode cX12_go 103 = .ok (.iastore, 1) := by decide +kernel
theorem dX12_go_104 : decode cX12_go 104 = .ok (.iload 5, 2) := by decide +kernel
theorem dX12_go_106 : decode cX12_go 106 = .ok (.iload_n 2, 1) := by decide +kernel
theorem dX12_go_107 : decode cX12_go 107 = .ok (.if_icmp .ne 9, 3) := by decide +kernel
theorem dX12_go_110 : decode cX12_go 110 = .ok (.aload_n 0, 1) := by decide +kernel
theorem dX12_go_111 : decode cX12_go 111 = .ok (.iload_n 1, 1) := by decide +kernel
theorem dX12_go_112 : decode cX12_go 112 = .ok (.iload_n 2, 1) := by decide +kernel
theorem dX12_go_113 : decode cX12_go 113 = .ok (.invokevirtual 167, 3) := by decide +kernel
theorem dX12_go_116 : decode cX12_go 116 = .ok (.aload_n 0, 1) := by decide +kernel
theorem dX12_go_117 : decode cX12_go 117 = .ok (.getfield 9, 3) := by decide +kernel
theorem dX12_go_120 : decode cX12_go 120 = .ok (.bipush 6, 2) := by decide +kernel
theorem dX12_go_122 : decode cX12_go 122 = .ok (.dup2, 1) := by decide +kernel
theorem dX12_go_123 : decode cX12_go 123 = .ok (.iaload, 1) := by decide +kernel
theorem dX12_go_124 : decode cX12_go 124 = .ok (.iconst 1, 1) := by decide +kernel
theorem dX12_go_125 : decode cX12_go 125 = .ok (.iadd, 1) := by decide +kernel
theorem dX12_go_126 : decode cX12_go 126 = .ok (.iastore, 1) := by decide +kernel
theorem dX12_go_127 : decode cX12_go 127 = .ok (.iload 5, 2) := by decide +kernel
theorem dX12_go_129 : decode cX12_go 129 = .ok (.ireturn, 1) := by decide +kernel
theorem dX12_allBy_0 : decode cX12_allBy 0 = .ok (.iload 4, 2) := by decide +kernel
theorem dX12_allBy_2 : decode cX12_allBy 2 = .ok (.bipush 10, 2) := by decide +kernel
theorem dX12_allBy_4 : decode cX12_allBy 4 = .ok (.aload_n 0, 1) := by decide +kernel
theorem dX12_allBy_5 : decode cX12_allBy 5 = .ok (.getfield 9, 3) := by decide +kernel
theorem dX12_allBy_8 : decode cX12_allBy 8 = .ok (.bipush 25, 2) := by decide +kernel
theorem dX12_allBy_10 : decode cX12_allBy 10 = .ok (.iload_n 1, 1) := by decide +kernel
theorem dX12_allBy_11 : decode cX12_allBy 11 = .ok (.iadd, 1) := by decide +kernel
theorem dX12_allBy_12 : decode cX12_allBy 12 = .ok (.iaload, 1) := by decide +kernel
theorem dX12_allBy_13 : decode cX12_allBy 13 = .ok (.imul, 1) := by decide +kernel
theorem dX12_allBy_14 : decode cX12_allBy 14 = .ok (.if_icmp .le 5, 3) := by decide +kernel
theorem dX12_allBy_17 : decode cX12_allBy 17 = .ok (.iconst 0, 1) := by decide +kernel
theorem dX12_allBy_18 : decode cX12_allBy 18 = .ok (.ireturn, 1) := by decide +kernel
theorem dX12_allBy_19 : decode cX12_allBy 19 = .ok (.aload_n 0, 1) := by decide +kernel
theorem dX12_allBy_20 : decode cX12_allBy 20 = .ok (.iload_n 1, 1) := by decide +kernel
theorem dX12_allBy_21 : decode cX12_allBy 21 = .ok (.invokevirtual 140, 3) := by decide +kernel
theorem dX12_allBy_24 : decode cX12_allBy 24 = .ok (.istore 5, 2) := by decide +kernel
theorem dX12_allBy_26 : decode cX12_allBy 26 = .ok (.aload_n 0, 1) := by decide +kernel
theorem dX12_allBy_27 : decode cX12_allBy 27 = .ok (.sipush 221, 3) := by decide +kernel
theorem dX12_allBy_30 : decode cX12_allBy 30 = .ok (.bipush 6, 2) := by decide +kernel
theorem dX12_allBy_32 : decode cX12_allBy 32 = .ok (.invokevirtual 129, 3) := by decide +kernel
theorem dX12_allBy_35 : decode cX12_allBy 35 = .ok (.istore 6, 2) := by decide +kernel
theorem dX12_allBy_37 : decode cX12_allBy 37 = .ok (.aload_n 0, 1) := by decide +kernel
theorem dX12_allBy_38 : decode cX12_allBy 38 = .ok (.iload_n 1, 1) := by decide +kernel
theorem dX12_allBy_39 : decode cX12_allBy 39 = .ok (.iload_n 2, 1) := by decide +kernel
theorem dX12_allBy_40 : decode cX12_allBy 40 = .ok (.iload_n 3, 1) := by decide +kernel
theorem dX12_allBy_41 : decode cX12_allBy 41 = .ok (.invokevirtual 152, 3) := by decide +kernel
theorem dX12_allBy_44 : decode cX12_allBy 44 = .ok (.iconst 4, 1) := by decide +kernel
theorem dX12_allBy_45 : decode cX12_allBy 45 = .ok (.iload 5, 2) := by decide +kernel
theorem dX12_allBy_47 : decode cX12_allBy 47 = .ok (.imul, 1) := by decide +kernel
theorem dX12_allBy_48 : decode cX12_allBy 48 = .ok (.isub, 1) := by decide +kernel
theorem dX12_allBy_49 : decode cX12_allBy 49 = .ok (.bipush 50, 2) := by decide +kernel
theorem dX12_allBy_51 : decode cX12_allBy 51 = .ok (.isub, 1) := by decide +kernel
theorem dX12_allBy_52 : decode cX12_allBy 52 = .ok (.istore 7, 2) := by decide +kernel
theorem dX12_allBy_54 : decode cX12_allBy 54 = .ok (.iconst 0, 1) := by decide +kernel
theorem dX12_allBy_55 : decode cX12_allBy 55 = .ok (.istore 8, 2) := by decide +kernel
theorem dX12_allBy_57 : decode cX12_allBy 57 = .ok (.iconst 0, 1) := by decide +kernel
theorem dX12_allBy_58 : decode cX12_allBy 58 = .ok (.istore 9, 2) := by decide +kernel
theorem dX12_allBy_60 : decode cX12_allBy 60 = .ok (.iload 9, 2) := by decide +kernel
theorem dX12_allBy_62 : decode cX12_allBy 62 = .ok (.bipush 10, 2) := by decide +kernel
theorem dX12_allBy_64 : decode cX12_allBy 64 = .ok (.if_icmp .ge 41, 3) := by decide +kernel
theorem dX12_allBy_67 : decode cX12_allBy 67 = .ok (.iload 8, 2) := by decide +kernel
theorem dX12_allBy_69 : decode cX12_allBy 69 = .ok (.iload 7, 2) := by decide +kernel
theorem dX12_allBy_71 : decode cX12_allBy 71 = .ok (.iload 6, 2) := by decide +kernel
theorem dX12_allBy_73 : decode cX12_allBy 73 = .ok (.if_icmp .gt 15, 3) := by decide +kernel
theorem dX12_allBy_76 : decode cX12_allBy 76 = .ok (.iload 7, 2) := by decide +kernel
theorem dX12_allBy_78 : decode cX12_allBy 78 = .ok (.iload 6, 2) := by decide +kernel
theorem dX12_allBy_80 : decode cX12_allBy 80 = .ok (.ineg, 1) := by decide +kernel
theorem dX12_allBy_81 : decode cX12_allBy 81 = .ok (.if_icmp .lt 7, 3) := by decide +kernel
theorem dX12_allBy_84 : decode cX12_allBy 84 = .ok (.iconst 1, 1) := by decide +kernel
theorem dX12_allBy_85 : decode cX12_allBy 85 = .ok (.goto 4, 3) := by decide +kernel
theorem dX12_allBy_88 : decode cX12_allBy 88 = .ok (.iconst 0, 1) := by decide +kernel
theorem dX12_allBy_89 : decode cX12_allBy 89 = .ok (.iadd, 1) := by decide +kernel
theorem dX12_allBy_90 : decode cX12_allBy 90 = .ok (.istore 8, 2) := by decide +kernel
theorem dX12_allBy_92 : decode cX12_allBy 92 = .ok (.iload 7, 2) := by decide +kernel
theorem dX12_allBy_94 : decode cX12_allBy 94 = .ok (.iload 5, 2) := by decide +kernel
theorem dX12_allBy_96 : decode cX12_allBy 96 = .ok (.iadd, 1) := by decide +kernel
theorem dX12_allBy_97 : decode cX12_allBy 97 = .ok (.istore 7, 2) := by decide +kernel
theorem dX12_allBy_99 : decode cX12_allBy 99 = .ok (.iinc 9 1, 3) := by decide +kernel
theorem dX12_allBy_102 : decode cX12_allBy 102 = .ok (.goto (-42), 3) := by decide +kernel
theorem dX12_allBy_105 : decode cX12_allBy 105 = .ok (.iload 8, 2) := by decide +kernel
theorem dX12_allBy_107 : decode cX12_allBy 107 = .ok (.ireturn, 1) := by decide +kernel
theorem dX12_odds_0 : decode cX12_odds 0 = .ok (.aload_n 0, 1) := by decide +kernel
theorem dX12_odds_1 : decode cX12_odds 1 = .ok (.iload_n 1, 1) := by decide +kernel
theorem dX12_odds_2 : decode cX12_odds 2 = .ok (.invokevirtual 136, 3) := by decide +kernel
theorem dX12_odds_5 : decode cX12_odds 5 = .ok (.ifCond .ne 5, 3) := by decide +kernel
theorem dX12_odds_8 : decode cX12_odds 8 = .ok (.iconst (-1), 1) := by decide +kernel
theorem dX12_odds_9 : decode cX12_odds 9 = .ok (.ireturn, 1) := by decide +kernel
theorem dX12_odds_10 : decode cX12_odds 10 = .ok (.iload_n 2, 1) := by decide +kernel
theorem dX12_odds_11 : decode cX12_odds 11 = .ok (.iload_n 3, 1) := by decide +kernel
theorem dX12_odds_12 : decode cX12_odds 12 = .ok (.invokestatic 148, 3) := by decide +kernel
theorem dX12_odds_15 : decode cX12_odds 15 = .ok (.ifCond .eq 20, 3) := by decide +kernel
theorem dX12_odds_18 : decode cX12_odds 18 = .ok (.aload_n 0, 1) := by decide +kernel
theorem dX12_odds_19 : decode cX12_odds 19 = .ok (.iload_n 1, 1) := by decide +kernel
theorem dX12_odds_20 : decode cX12_odds 20 = .ok (.iload_n 2, 1) := by decide +kernel
theorem dX12_odds_21 : decode cX12_odds 21 = .ok (.iload_n 3, 1) := by decide +kernel
theorem dX12_odds_22 : decode cX12_odds 22 = .ok (.aload_n 0, 1) := by decide +kernel
theorem dX12_odds_23 : decode cX12_odds 23 = .ok (.iload_n 1, 1) := by decide +kernel
theorem dX12_odds_24 : decode cX12_odds 24 = .ok (.iload_n 2, 1) := by decide +kernel
theorem dX12_odds_25 : decode cX12_odds 25 = .ok (.iconst 0, 1) := by decide +kernel
theorem dX12_odds_26 : decode cX12_odds 26 = .ok (.invokevirtual 156, 3) := by decide +kernel
theorem dX12_odds_29 : decode cX12_odds 29 = .ok (.invokevirtual 170, 3) := by decide +kernel
theorem dX12_odds_32 : decode cX12_odds 32 = .ok (.goto 5, 3) := by decide +kernel
theorem dX12_odds_35 : decode cX12_odds 35 = .ok (.bipush (-2), 2) := by decide +kernel
theorem dX12_odds_37 : decode cX12_odds 37 = .ok (.ireturn, 1) := by decide +kernel
