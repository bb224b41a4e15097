theorem dX5_stands_0 : decode cX5_stands 0 = .ok (.aload_n 0, 1) := by decide +kernel
theorem dX5_stands_1 : decode cX5_stands 1 = .ok (.getfield 33, 3) := by decide +kernel
theorem dX5_stands_4 : decode cX5_stands 4 = .ok (.ifCond .le 7, 3) := by decide +kernel
theorem dX5_stands_7 : decode cX5_stands 7 = .ok (.iconst 1, 1) := by decide +kernel
theorem dX5_stands_8 : decode cX5_stands 8 = .ok (.goto 4, 3) := by decide +kernel
theorem dX5_stands_11 : decode cX5_stands 11 = .ok (.iconst 0, 1) := by decide +kernel
theorem dX5_stands_12 : decode cX5_stands 12 = .ok (.ireturn, 1) := by decide +kernel
theorem dX5_hasCase_0 : decode cX5_hasCase 0 = .ok (.iload_n 1, 1) := by decide +kernel
theorem dX5_hasCase_1 : decode cX5_hasCase 1 = .ok (.ifCond .lt 15, 3) := by decide +kernel
theorem dX5_hasCase_4 : decode cX5_hasCase 4 = .ok (.iload_n 1, 1) := by decide +kernel
theorem dX5_hasCase_5 : decode cX5_hasCase 5 = .ok (.aload_n 0, 1) := by decide +kernel
theorem dX5_hasCase_6 : decode cX5_hasCase 6 = .ok (.getfield 33, 3) := by decide +kernel
theorem dX5_hasCase_9 : decode cX5_hasCase 9 = .ok (.if_icmp .ge 7, 3) := by decide +kernel
theorem dX5_hasCase_12 : decode cX5_hasCase 12 = .ok (.iconst 1, 1) := by decide +kernel
theorem dX5_hasCase_13 : decode cX5_hasCase 13 = .ok (.goto 4, 3) := by decide +kernel
theorem dX5_hasCase_16 : decode cX5_hasCase 16 = .ok (.iconst 0, 1) := by decide +kernel
theorem dX5_hasCase_17 : decode cX5_hasCase 17 = .ok (.ireturn, 1) := by decide +kernel
theorem dX5_hasPerson_0 : decode cX5_hasPerson 0 = .ok (.iload_n 1, 1) := by decide +kernel
theorem dX5_hasPerson_1 : decode cX5_hasPerson 1 = .ok (.ifCond .lt 15, 3) := by decide +kernel
theorem dX5_hasPerson_4 : decode cX5_hasPerson 4 = .ok (.iload_n 1, 1) := by decide +kernel
theorem dX5_hasPerson_5 : decode cX5_hasPerson 5 = .ok (.aload_n 0, 1) := by decide +kernel
theorem dX5_hasPerson_6 : decode cX5_hasPerson 6 = .ok (.getfield 37, 3) := by decide +kernel
theorem dX5_hasPerson_9 : decode cX5_hasPerson 9 = .ok (.if_icmp .ge 7, 3) := by decide +kernel
theorem dX5_hasPerson_12 : decode cX5_hasPerson 12 = .ok (.iconst 1, 1) := by decide +kernel
theorem dX5_hasPerson_13 : decode cX5_hasPerson 13 = .ok (.goto 4, 3) := by decide +kernel
theorem dX5_hasPerson_16 : decode cX5_hasPerson 16 = .ok (.iconst 0, 1) := by decide +kernel
theorem dX5_hasPerson_17 : decode cX5_hasPerson 17 = .ok (.ireturn, 1) := by decide +kernel
theorem dX11_chance_0 : decode cX11_chance 0 = .ok (.aload_n 0, 1) := by decide +kernel
theorem dX11_chance_1 : decode cX11_chance 1 = .ok (.getfield 26, 3) := by decide +kernel
theorem dX11_chance_4 : decode cX11_chance 4 = .ok (.iload_n 1, 1) := by decide +kernel
theorem dX11_chance_5 : decode cX11_chance 5 = .ok (.invokevirtual 90, 3) := by decide +kernel
theorem dX11_chance_8 : decode cX11_chance 8 = .ok (.ifCond .ne 6, 3) := by decide +kernel
theorem dX11_chance_11 : decode cX11_chance 11 = .ok (.bipush (-101), 2) := by decide +kernel
theorem dX11_chance_13 : decode cX11_chance 13 = .ok (.ireturn, 1) := by decide +kernel
theorem dX11_chance_14 : decode cX11_chance 14 = .ok (.iload_n 2, 1) := by decide +kernel
theorem dX11_chance_15 : decode cX11_chance 15 = .ok (.iconst (-1), 1) := by decide +kernel
theorem dX11_chance_16 : decode cX11_chance 16 = .ok (.if_icmp .ne 13, 3) := by decide +kernel
theorem dX11_chance_19 : decode cX11_chance 19 = .ok (.aload_n 0, 1) := by decide +kernel
theorem dX11_chance_20 : decode cX11_chance 20 = .ok (.getfield 26, 3) := by decide +kernel
theorem dX11_chance_23 : decode cX11_chance 23 = .ok (.getfield 94, 3) := by decide +kernel
theorem dX11_chance_26 : decode cX11_chance 26 = .ok (.iload_n 1, 1) := by decide +kernel
theorem dX11_chance_27 : decode cX11_chance 27 = .ok (.iaload, 1) := by decide +kernel
theorem dX11_chance_28 : decode cX11_chance 28 = .ok (.ireturn, 1) := by decide +kernel
theorem dX11_chance_29 : decode cX11_chance 29 = .ok (.aload_n 0, 1) := by decide +kernel
theorem dX11_chance_30 : decode cX11_chance 30 = .ok (.getfield 26, 3) := by decide +kernel
theorem dX11_chance_33 : decode cX11_chance 33 = .ok (.iload_n 2, 1) := by decide +kernel
theorem dX11_chance_34 : decode cX11_chance 34 = .ok (.invokevirtual 98, 3) := by decide +kernel
theorem dX11_chance_37 : decode cX11_chance 37 = .ok (.ifCond .eq 17, 3) := by decide +kernel
theorem dX11_chance_40 : decode cX11_chance 40 = .ok (.aload_n 0, 1) := by decide +kernel
theorem dX11_chance_41 : decode cX11_chance 41 = .ok (.getfield 26, 3) := by decide +kernel
theorem dX11_chance_44 : decode cX11_chance 44 = .ok (.getfield 101, 3) := by decide +kernel
theorem dX11_chance_47 : decode cX11_chance 47 = .ok (.iload_n 1, 1) := by decide +kernel
theorem dX11_chance_48 : decode cX11_chance 48 = .ok (.aaload, 1) := by decide +kernel
theorem dX11_chance_49 : decode cX11_chance 49 = .ok (.iload_n 2, 1) := by decide +kernel
theorem dX11_chance_50 : decode cX11_chance 50 = .ok (.iaload, 1) := by decide +kernel
theorem dX11_chance_51 : decode cX11_chance 51 = .ok (.goto 5, 3) := by decide +kernel
theorem dX11_chance_54 : decode cX11_chance 54 = .ok (.bipush (-101), 2) := by decide +kernel
theorem dX11_chance_56 : decode cX11_chance 56 = .ok (.ireturn, 1) := by decide +kernel
theorem dX11_cost_0 : decode cX11_cost 0 = .ok (.aload_n 0, 1) := by decide +kernel
theorem dX11_cost_1 : decode cX11_cost 1 = .ok (.getfield 26, 3) := by decide +kernel
theorem dX11_cost_4 : decode cX11_cost 4 = .ok (.iload_n 1, 1) := by decide +kernel
theorem dX11_cost_5 : decode cX11_cost 5 = .ok (.invokevirtual 98, 3) := by decide +kernel
theorem dX11_cost_8 : decode cX11_cost 8 = .ok (.ifCond .ne 6, 3) := by decide +kernel
theorem dX11_cost_11 : decode cX11_cost 11 = .ok (.bipush (-101), 2) := by decide +kernel
theorem dX11_cost_13 : decode cX11_cost 13 = .ok (.ireturn, 1) := by decide +kernel
theorem dX11_cost_14 : decode cX11_cost 14 = .ok (.iload_n 2, 1) := by decide +kernel
theorem dX11_cost_15 : decode cX11_cost 15 = .ok (.iconst 0, 1) := by decide +kernel
theorem dX11_cost_16 : decode cX11_cost 16 = .ok (.sipush 999, 3) := by decide +kernel
theorem dX11_cost_19 : decode cX11_cost 19 = .ok (.invokestatic 105, 3) := by decide +kernel
theorem dX11_cost_22 : decode cX11_cost 22 = .ok (.ifCond .ne 6, 3) := by decide +kernel
theorem dX11_cost_25 : decode cX11_cost 25 = .ok (.bipush (-102), 2) := by decide +kernel
theorem dX11_cost_27 : decode cX11_cost 27 = .ok (.ireturn, 1) := by decide +kernel
theorem dX11_cost_28 : decode cX11_cost 28 = .ok (.aload_n 0, 1) := by decide +kernel
theorem dX11_cost_29 : decode cX11_cost 29 = .ok (.getfield 26, 3) := by decide +kernel
theorem dX11_cost_32 : decode cX11_cost 32 = .ok (.getfield 109, 3) := by decide +kernel
theorem dX11_cost_35 : decode cX11_cost 35 = .ok (.iload_n 1, 1) := by decide +kernel
theorem dX11_cost_36 : decode cX11_cost 36 = .ok (.iaload, 1) := by decide +kernel
theorem dX11_cost_37 : decode cX11_cost 37 = .ok (.istore_n 3, 1) := by decide +kernel
theorem dX11_cost_38 : decode cX11_cost 38 = .ok (.aload_n 0, 1) := by decide +kernel
theorem dX11_cost_39 : decode cX11_cost 39 = .ok (.getfield 26, 3) := by decide +kernel
theorem dX11_cost_42 : decode cX11_cost 42 = .ok (.getfield 109, 3) := by decide +kernel
theorem dX11_cost_45 : decode cX11_cost 45 = .ok (.iload_n 1, 1) := by decide +kernel
theorem dX11_cost_46 : decode cX11_cost 46 = .ok (.iload_n 2, 1) := by decide +kernel
theorem dX11_cost_47 : decode cX11_cost 47 = .ok (.iastore, 1) := by decide +kernel
theorem dX11_cost_48 : decode cX11_cost 48 = .ok (.iload_n 3, 1) := by decide +kernel
theorem dX11_cost_49 : decode cX11_cost 49 = .ok (.ireturn, 1) := by decide +kernel
theorem dX11_thinks_0 : decode cX11_thinks 0 = .ok (.aload_n 0, 1) := by decide +kernel
theorem dX11_thinks_1 : decode cX11_thinks 1 = .ok (.getfield 26, 3) := by decide +kernel
theorem dX11_thinks_4 : decode cX11_thinks 4 = .ok (.iload_n 1, 1) := by decide +kernel
theorem dX11_thinks_5 : decode cX11_thinks 5 = .ok (.invokevirtual 98, 3) := by decide +kernel
theorem dX11_thinks_8 : decode cX11_thinks 8 = .ok (.ifCond .eq 19, 3) := by decide +kernel
theorem dX11_thinks_11 : decode cX11_thinks 11 = .ok (.aload_n 0, 1) := by decide +kernel
theorem dX11_thinks_12 : decode cX11_thinks 12 = .ok (.getfield 26, 3) := by decide +kernel
theorem dX11_thinks_15 : decode cX11_thinks 15 = .ok (.iload_n 3, 1) := by decide +kernel
theorem dX11_thinks_16 : decode cX11_thinks 16 = .ok (.invokevirtual 98, 3) := by decide +kernel
theorem dX11_thinks_19 : decode cX11_thinks 19 = .ok (.ifCond .eq 8, 3) := by decide +kernel
theorem dX11_thinks_22 : decode cX11_thinks 22 = .ok (.iload_n 1, 1) := by decide +kernel
theorem dX11_thinks_23 : decode cX11_thinks 23 = .ok (.iload_n 3, 1) := by decide +kernel
theorem dX11_thinks_24 : decode cX11_thinks 24 = .ok (.if_icmp .ne 7, 3) := by decide +kernel
theorem dX11_thinks_27 : decode cX11_thinks 27 = .ok (.ldc2_w 112, 3) := by decide +kernel
theorem dX11_thinks_30 : decode cX11_thinks 30 = .ok (.lreturn, 1) := by decide +kernel
theorem dX11_thinks_31 : decode cX11_thinks 31 = .ok (.iload_n 2, 1) := by decide +kernel
theorem dX11_thinks_32 : decode cX11_thinks 32 = .ok (.iconst 0, 1) := by decide +kernel
theorem dX11_thinks_33 : decode cX11_thinks 33 = .ok (.iconst 1, 1) := by decide +kernel
theorem dX11_thinks_34 : decode cX11_thinks 34 = .ok (.invokestatic 105, 3) := by decide +kernel
theorem dX11_thinks_37 : decode cX11_thinks 37 = .ok (.ifCond .eq 13, 3) := by decide +kernel
theorem dX11_thinks_40 : decode cX11_thinks 40 = .ok (.iload 4, 2) := by decide +kernel
theorem dX11_thinks_42 : decode cX11_thinks 42 = .ok (.iconst 0, 1) := by decide +kernel
theorem dX11_thinks_43 : decode cX11_thinks 43 = .ok (.iconst 1, 1) := by decide +kernel
theorem dX11_thinks_44 : decode cX11_thinks 44 = .ok (.invokestatic 105, 3) := by decide +kernel
theorem dX11_thinks_47 : decode cX11_thinks 47 = .ok (.ifCond .ne 7, 3) := by decide +kernel
theorem dX11_thinks_50 : decode cX11_thinks 50 = .ok (.ldc2_w 114, 3) := by decide +kernel
theorem dX11_thinks_53 : decode cX11_thinks 53 = .ok (.lreturn, 1) := by decide +kernel
theorem dX11_thinks_54 : decode cX11_thinks 54 = .ok (.aload_n 0, 1) := by decide +kernel
theorem dX11_thinks_55 : decode cX11_thinks 55 = .ok (.getfield 26, 3) := by decide +kernel
theorem dX11_thinks_58 : decode cX11_thinks 58 = .ok (.iload_n 1, 1) := by decide +kernel
theorem dX11_thinks_59 : decode cX11_thinks 59 = .ok (.iload_n 2, 1) := by decide +kernel
theorem dX11_thinks_60 : decode cX11_thinks 60 = .ok (.invokevirtual 116, 3) := by decide +kernel
theorem dX11_thinks_63 : decode cX11_thinks 63 = .ok (.lstore 5, 2) := by decide +kernel
theorem dX11_thinks_65 : decode cX11_thinks 65 = .ok (.lload 5, 2) := by decide +kernel
theorem dX11_thinks_67 : decode cX11_thinks 67 = .ok (.lconst 0, 1) := by decide +kernel
theorem dX11_thinks_68 : decode cX11_thinks 68 = .ok (.lcmp, 1) := by decide +kernel
theorem dX11_thinks_69 : decode cX11_thinks 69 = .ok (.ifCond .ne 7, 3) := by decide +kernel
theorem dX11_thinks_72 : decode cX11_thinks 72 = .ok (.ldc2_w 120, 3) := by decide +kernel
theorem dX11_thinks_75 : decode cX11_thinks 75 = .ok (.lreturn, 1) := by decide +kernel
theorem dX11_thinks_76 : decode cX11_thinks 76 = .ok (.aload_n 0, 1) := by decide +kernel
theorem dX11_thinks_77 : decode cX11_thinks 77 = .ok (.getfield 26, 3) := by decide +kernel
theorem dX11_thinks_80 : decode cX11_thinks 80 = .ok (.iload_n 1, 1) := by decide +kernel
theorem dX11_thinks_81 : decode cX11_thinks 81 = .ok (.iload_n 2, 1) := by decide +kernel
theorem dX11_thinks_82 : decode cX11_thinks 82 = .ok (.iload_n 3, 1) := by decide +kernel
theorem dX11_thinks_83 : decode cX11_thinks 83 = .ok (.invokevirtual 122, 3) := by decide +kernel
theorem dX11_thinks_86 : decode cX11_thinks 86 = .ok (.lload 5, 2) := by decide +kernel
theorem dX11_thinks_88 : decode cX11_thinks 88 = .ok (.iload 4, 2) := by decide +kernel
theorem dX11_thinks_90 : decode cX11_thinks 90 = .ok (.invokestatic 126, 3) := by decide +kernel
theorem dX11_thinks_93 : decode cX11_thinks 93 = .ok (.lreturn, 1) := by decide +kernel
theorem dX11_as_0 : decode cX11_as 0 = .ok (.aload_n 0, 1) := by decide +kernel
theorem dX11_as_1 : decode cX11_as 1 = .ok (.iload_n 1, 1) := by decide +kernel
theorem dX11_as_2 : decode cX11_as 2 = .ok (.invokevirtual 145, 3) := by decide +kernel
theorem dX11_as_5 : decode cX11_as 5 = .ok (.astore_n 3, 1) := by decide +kernel
theorem dX11_as_6 : decode cX11_as 6 = .ok (.aload_n 3, 1) := by decide +kernel
theorem dX11_as_7 : decode cX11_as 7 = .ok (.ifnonnull 6, 3) := by decide +kernel
theorem dX11_as_10 : decode cX11_as 10 = .ok (.bipush (-101), 2) := by decide +kernel
theorem dX11_as_12 : decode cX11_as 12 = .ok (.ireturn, 1) := by decide +kernel
theorem dX11_as_13 : decode cX11_as 13 = .ok (.iload_n 2, 1) := by decide +kernel
theorem dX11_as_14 : decode cX11_as 14 = .ok (.iconst 0, 1) := by decide +kernel
theorem dX11_as_15 : decode cX11_as 15 = .ok (.iconst 4, 1) := by decide +kernel
theorem dX11_as_16 : decode cX11_as 16 = .ok (.invokestatic 105, 3) := by decide +kernel
theorem dX11_as_19 : decode cX11_as 19 = .ok (.ifCond .ne 6, 3) := by decide +kernel
theorem dX11_as_22 : decode cX11_as 22 = .ok (.bipush (-102), 2) := by decide +kernel
theorem dX11_as_24 : decode cX11_as 24 = .ok (.ireturn, 1) := by decide +kernel
theorem dX11_as_25 : decode cX11_as 25 = .ok (.aload_n 3, 1) := by decide +kernel
theorem dX11_as_26 : decode cX11_as 26 = .ok (.iload_n 2, 1) := by decide +kernel
theorem dX11_as_27 : decode cX11_as 27 = .ok (.invokestatic 148, 3) := by decide +kernel
theorem dX11_as_30 : decode cX11_as 30 = .ok (.ifCond .eq 7, 3) := by decide +kernel
theorem dX11_as_33 : decode cX11_as 33 = .ok (.iload_n 1, 1) := by decide +kernel
theorem dX11_as_34 : decode cX11_as 34 = .ok (.goto 4, 3) := by decide +kernel
theorem dX11_as_37 : decode cX11_as 37 = .ok (.iconst (-1), 1) := by decide +kernel
theorem dX11_as_38 : decode cX11_as 38 = .ok (.ireturn, 1) := by decide +kernel
theorem dX11_about_0 : decode cX11_about 0 = .ok (.aload_n 0, 1) := by decide +kernel
theorem dX11_about_1 : decode cX11_about 1 = .ok (.iload_n 1, 1) := by decide +kernel
theorem dX11_about_2 : decode cX11_about 2 = .ok (.invokevirtual 145, 3) := by decide +kernel
theorem dX11_about_5 : decode cX11_about 5 = .ok (.astore_n 3, 1) := by decide +kernel
theorem dX11_about_6 : decode cX11_about 6 = .ok (.aload_n 3, 1) := by decide +kernel
theorem dX11_about_7 : decode cX11_about 7 = .ok (.ifnonnull 6, 3) := by decide +kernel
theorem dX11_about_10 : decode cX11_about 10 = .ok (.bipush (-101), 2) := by decide +kernel
theorem dX11_about_12 : decode cX11_about 12 = .ok (.ireturn, 1) := by decide +kernel
theorem dX11_about_13 : decode cX11_about 13 = .ok (.iload_n 2, 1) := by decide +kernel
theorem dX11_about_14 : decode cX11_about 14 = .ok (.iconst 0, 1) := by decide +kernel
theorem dX11_about_15 : decode cX11_about 15 = .ok (.iconst 4, 1) := by decide +kernel
theorem dX11_about_16 : decode cX11_about 16 = .ok (.invokestatic 105, 3) := by decide +kernel
theorem dX11_about_19 : decode cX11_about 19 = .ok (.ifCond .ne 6, 3) := by decide +kernel
theorem dX11_about_22 : decode cX11_about 22 = .ok (.bipush (-102), 2) := by decide +kernel
theorem dX11_about_24 : decode cX11_about 24 = .ok (.ireturn, 1) := by decide +kernel
theorem dX11_about_25 : decode cX11_about 25 = .ok (.iload_n 2, 1) := by decide +kernel
theorem dX11_about_26 : decode cX11_about 26 = .ok (.iconst 4, 1) := by decide +kernel
theorem dX11_about_27 : decode cX11_about 27 = .ok (.if_icmp .ne 10, 3) := by decide +kernel
theorem dX11_about_30 : decode cX11_about 30 = .ok (.aload_n 3, 1) := by decide +kernel
theorem dX11_about_31 : decode cX11_about 31 = .ok (.invokevirtual 152, 3) := by decide +kernel
theorem dX11_about_34 : decode cX11_about 34 = .ok (.goto 9, 3) := by decide +kernel
theorem dX11_about_37 : decode cX11_about 37 = .ok (.aload_n 3, 1) := by decide +kernel
theorem dX11_about_38 : decode cX11_about 38 = .ok (.getfield 156, 3) := by decide +kernel
theorem dX11_about_41 : decode cX11_about 41 = .ok (.iload_n 2, 1) := by decide +kernel
theorem dX11_about_42 : decode cX11_about 42 = .ok (.iaload, 1) := by decide +kernel
theorem dX11_about_43 : decode cX11_about 43 = .ok (.ireturn, 1) := by decide +kernel
theorem dX11_gets_0 : decode cX11_gets 0 = .ok (.aload_n 0, 1) := by decide +kernel
theorem dX11_gets_1 : decode cX11_gets 1 = .ok (.iload_n 1, 1) := by decide +kernel
theorem dX11_gets_2 : decode cX11_gets 2 = .ok (.invokevirtual 145, 3) := by decide +kernel
theorem dX11_gets_5 : decode cX11_gets 5 = .ok (.astore 4, 2) := by decide +kernel
theorem dX11_gets_7 : decode cX11_gets 7 = .ok (.aload 4, 2) := by decide +kernel
theorem dX11_gets_9 : decode cX11_gets 9 = .ok (.ifnull 14, 3) := by decide +kernel
theorem dX11_gets_12 : decode cX11_gets 12 = .ok (.aload_n 0, 1) := by decide +kernel
theorem dX11_gets_13 : decode cX11_gets 13 = .ok (.getfield 26, 3) := by decide +kernel
theorem dX11_gets_16 : decode cX11_gets 16 = .ok (.iload_n 2, 1) := by decide +kernel
theorem dX11_gets_17 : decode cX11_gets 17 = .ok (.invokevirtual 98, 3) := by decide +kernel
theorem dX11_gets_20 : decode cX11_gets 20 = .ok (.ifCond .ne 6, 3) := by decide +kernel
theorem dX11_gets_23 : decode cX11_gets 23 = .ok (.bipush (-101), 2) := by decide +kernel
theorem dX11_gets_25 : decode cX11_gets 25 = .ok (.ireturn, 1) := by decide +kernel
theorem dX11_gets_26 : decode cX11_gets 26 = .ok (.iload_n 3, 1) := by decide +kernel
theorem dX11_gets_27 : decode cX11_gets 27 = .ok (.iconst 0, 1) := by decide +kernel
theorem dX11_gets_28 : decode cX11_gets 28 = .ok (.aload_n 0, 1) := by decide +kernel
theorem dX11_gets_29 : decode cX11_gets 29 = .ok (.getfield 26, 3) := by decide +kernel
theorem dX11_gets_32 : decode cX11_gets 32 = .ok (.invokevirtual 159, 3) := by decide +kernel
theorem dX11_gets_35 : decode cX11_gets 35 = .ok (.iconst 1, 1) := by decide +kernel
theorem dX11_gets_36 : decode cX11_gets 36 = .ok (.isub, 1) := by decide +kernel
theorem dX11_gets_37 : decode cX11_gets 37 = .ok (.invokestatic 105, 3) := by decide +kernel
theorem dX11_gets_40 : decode cX11_gets 40 = .ok (.ifCond .ne 6, 3) := by decide +kernel
theorem dX11_gets_43 : decode cX11_gets 43 = .ok (.bipush (-102), 2) := by decide +kernel
theorem dX11_gets_45 : decode cX11_gets 45 = .ok (.ireturn, 1) := by decide +kernel
theorem dX11_gets_46 : decode cX11_gets 46 = .ok (.iload_n 3, 1) := by decide +kernel
theorem dX11_gets_47 : decode cX11_gets 47 = .ok (.iload_n 2, 1) := by decide +kernel
theorem dX11_gets_48 : decode cX11_gets 48 = .ok (.ishr, 1) := by decide +kernel
theorem dX11_gets_49 : decode cX11_gets 49 = .ok (.iconst 1, 1) := by decide +kernel
theorem dX11_gets_50 : decode cX11_gets 50 = .ok (.iand, 1) := by decide +kernel
theorem dX11_gets_51 : decode cX11_gets 51 = .ok (.istore 5, 2) := by decide +kernel
theorem dX11_gets_53 : decode cX11_gets 53 = .ok (.iload_n 3, 1) := by decide +kernel
theorem dX11_gets_54 : decode cX11_gets 54 = .ok (.invokestatic 162, 3) := by decide +kernel
theorem dX11_gets_57 : decode cX11_gets 57 = .ok (.iload 5, 2) := by decide +kernel
theorem dX11_gets_59 : decode cX11_gets 59 = .ok (.isub, 1) := by decide +kernel
theorem dX11_gets_60 : decode cX11_gets 60 = .ok (.istore 6, 2) := by decide +kernel
theorem dX11_gets_62 : decode cX11_gets 62 = .ok (.aload 4, 2) := by decide +kernel
theorem dX11_gets_64 : decode cX11_gets 64 = .ok (.iload 5, 2) := by decide +kernel
theorem dX11_gets_66 : decode cX11_gets 66 = .ok (.aload_n 0, 1) := by decide +kernel
theorem dX11_gets_67 : decode cX11_gets 67 = .ok (.getfield 26, 3) := by decide +kernel
theorem dX11_gets_70 : decode cX11_gets 70 = .ok (.getfield 87, 3) := by decide +kernel
theorem dX11_gets_73 : decode cX11_gets 73 = .ok (.iconst 1, 1) := by decide +kernel
theorem dX11_gets_74 : decode cX11_gets 74 = .ok (.isub, 1) := by decide +kernel
theorem dX11_gets_75 : decode cX11_gets 75 = .ok (.iload 6, 2) := by decide +kernel
theorem dX11_gets_77 : decode cX11_gets 77 = .ok (.isub, 1) := by decide +kernel
theorem dX11_gets_78 : decode cX11_gets 78 = .ok (.iload 6, 2) := by decide +kernel
theorem dX11_gets_80 : decode cX11_gets 80 = .ok (.invokevirtual 168, 3) := by decide +kernel
theorem dX11_gets_83 : decode cX11_gets 83 = .ok (.ireturn, 1) := by decide +kernel
theorem dX11_worth_0 : decode cX11_worth 0 = .ok (.aload_n 0, 1) := by decide +kernel
theorem dX11_worth_1 : decode cX11_worth 1 = .ok (.iload_n 1, 1) := by decide +kernel
theorem dX11_worth_2 : decode cX11_worth 2 = .ok (.invokevirtual 145, 3) := by decide +kernel
theorem dX11_worth_5 : decode cX11_worth 5 = .ok (.astore 5, 2) := by decide +kernel
theorem dX11_worth_7 : decode cX11_worth 7 = .ok (.aload 5, 2) := by decide +kernel
theorem dX11_worth_9 : decode cX11_worth 9 = .ok (.ifnull 14, 3) := by decide +kernel
theorem dX11_worth_12 : decode cX11_worth 12 = .ok (.aload_n 0, 1) := by decide +kernel
theorem dX11_worth_13 : decode cX11_worth 13 = .ok (.getfield 26, 3) := by decide +kernel
theorem dX11_worth_16 : decode cX11_worth 16 = .ok (.iload_n 3, 1) := by decide +kernel
theorem dX11_worth_17 : decode cX11_worth 17 = .ok (.invokevirtual 98, 3) := by decide +kernel
theorem dX11_worth_20 : decode cX11_worth 20 = .ok (.ifCond .ne 7, 3) := by decide +kernel
theorem dX11_worth_23 : decode cX11_worth 23 = .ok (.ldc2_w 172, 3) := by decide +kernel
theorem dX11_worth_26 : decode cX11_worth 26 = .ok (.lreturn, 1) := by decide +kernel
theorem dX11_worth_27 : decode cX11_worth 27 = .ok (.aload_n 0, 1) := by decide +kernel
theorem dX11_worth_28 : decode cX11_worth 28 = .ok (.getfield 26, 3) := by decide +kernel
theorem dX11_worth_31 : decode cX11_worth 31 = .ok (.iload_n 2, 1) := by decide +kernel
theorem dX11_worth_32 : decode cX11_worth 32 = .ok (.invokevirtual 174, 3) := by decide +kernel
theorem dX11_worth_35 : decode cX11_worth 35 = .ok (.ifCond .eq 13, 3) := by decide +kernel
theorem dX11_worth_38 : decode cX11_worth 38 = .ok (.iload 4, 2) := by decide +kernel
theorem dX11_worth_40 : decode cX11_worth 40 = .ok (.iconst 0, 1) := by decide +kernel
theorem dX11_worth_41 : decode cX11_worth 41 = .ok (.iconst 1, 1) := by decide +kernel
theorem dX11_worth_42 : decode cX11_worth 42 = .ok (.invokestatic 105, 3) := by decide +kernel
theorem dX11_worth_45 : decode cX11_worth 45 = .ok (.ifCond .ne 7, 3) := by decide +kernel
theorem dX11_worth_48 : decode cX11_worth 48 = .ok (.ldc2_w 177, 3) := by decide +kernel
theorem dX11_worth_51 : decode cX11_worth 51 = .ok (.lreturn, 1) := by decide +kernel
theorem dX11_worth_52 : decode cX11_worth 52 = .ok (.aload_n 0, 1) := by decide +kernel
theorem dX11_worth_53 : decode cX11_worth 53 = .ok (.getfield 41, 3) := by decide +kernel
theorem dX11_worth_56 : decode cX11_worth 56 = .ok (.aload 5, 2) := by decide +kernel
theorem dX11_worth_58 : decode cX11_worth 58 = .ok (.invokevirtual 179, 3) := by decide +kernel
theorem dX11_worth_61 : decode cX11_worth 61 = .ok (.aload_n 0, 1) := by decide +kernel
theorem dX11_worth_62 : decode cX11_worth 62 = .ok (.getfield 41, 3) := by decide +kernel
theorem dX11_worth_65 : decode cX11_worth 65 = .ok (.iload_n 2, 1) := by decide +kernel
theorem dX11_worth_66 : decode cX11_worth 66 = .ok (.iload_n 3, 1) := by decide +kernel
theorem dX11_worth_67 : decode cX11_worth 67 = .ok (.invokevirtual 183, 3) := by decide +kernel
theorem dX11_worth_70 : decode cX11_worth 70 = .ok (.aload_n 0, 1) := by decide +kernel
theorem dX11_worth_71 : decode cX11_worth 71 = .ok (.getfield 41, 3) := by decide +kernel
theorem dX11_worth_74 : decode cX11_worth 74 = .ok (.getfield 186, 3) := by decide +kernel
theorem dX11_worth_77 : decode cX11_worth 77 = .ok (.iload 4, 2) := by decide +kernel
theorem dX11_worth_79 : decode cX11_worth 79 = .ok (.invokestatic 126, 3) := by decide +kernel
theorem dX11_worth_82 : decode cX11_worth 82 = .ok (.lreturn, 1) := by decide +kernel
theorem dX11_rests_0 : decode cX11_rests 0 = .ok (.aload_n 0, 1) := by decide +kernel
theorem dX11_rests_1 : decode cX11_rests 1 = .ok (.iload_n 1, 1) := by decide +kernel
theorem dX11_rests_2 : decode cX11_rests 2 = .ok (.invokevirtual 145, 3) := by decide +kernel
theorem dX11_rests_5 : decode cX11_rests 5 = .ok (.astore 4, 2) := by decide +kernel
theorem dX11_rests_7 : decode cX11_rests 7 = .ok (.aload_n 0, 1) := by decide +kernel
theorem dX11_rests_8 : decode cX11_rests 8 = .ok (.aload 4, 2) := by decide +kernel
theorem dX11_rests_10 : decode cX11_rests 10 = .ok (.iload_n 2, 1) := by decide +kernel
theorem dX11_rests_11 : decode cX11_rests 11 = .ok (.iload_n 3, 1) := by decide +kernel
theorem dX11_rests_12 : decode cX11_rests 12 = .ok (.iconst 2, 1) := by decide +kernel
theorem dX11_rests_13 : decode cX11_rests 13 = .ok (.invokevirtual 190, 3) := by decide +kernel
theorem dX11_rests_16 : decode cX11_rests 16 = .ok (.istore 5, 2) := by decide +kernel
theorem dX11_rests_18 : decode cX11_rests 18 = .ok (.aload 4, 2) := by decide +kernel
theorem dX11_rests_20 : decode cX11_rests 20 = .ok (.ifnull 8, 3) := by decide +kernel
theorem dX11_rests_23 : decode cX11_rests 23 = .ok (.iload 5, 2) := by decide +kernel
theorem dX11_rests_25 : decode cX11_rests 25 = .ok (.ifCond .eq 6, 3) := by decide +kernel
theorem dX11_rests_28 : decode cX11_rests 28 = .ok (.iload 5, 2) := by decide +kernel
theorem dX11_rests_30 : decode cX11_rests 30 = .ok (.ireturn, 1) := by decide +kernel
theorem dX11_rests_31 : decode cX11_rests 31 = .ok (.aload_n 0, 1) := by decide +kernel
theorem dX11_rests_32 : decode cX11_rests 32 = .ok (.getfield 41, 3) := by decide +kernel
theorem dX11_rests_35 : decode cX11_rests 35 = .ok (.aload 4, 2) := by decide +kernel
theorem dX11_rests_37 : decode cX11_rests 37 = .ok (.invokevirtual 179, 3) := by decide +kernel
theorem dX11_rests_40 : decode cX11_rests 40 = .ok (.aload_n 0, 1) := by decide +kernel
theorem dX11_rests_41 : decode cX11_rests 41 = .ok (.getfield 41, 3) := by decide +kernel
theorem dX11_rests_44 : decode cX11_rests 44 = .ok (.iload_n 2, 1) := by decide +kernel
theorem dX11_rests_45 : decode cX11_rests 45 = .ok (.invokevirtual 194, 3) := by decide +kernel
theorem dX11_rests_48 : decode cX11_rests 48 = .ok (.istore 6, 2) := by decide +kernel
theorem dX11_rests_50 : decode cX11_rests 50 = .ok (.iload_n 3, 1) := by decide +kernel
theorem dX11_rests_51 : decode cX11_rests 51 = .ok (.ifCond .ne 15, 3) := by decide +kernel
theorem dX11_rests_54 : decode cX11_rests 54 = .ok (.iload 6, 2) := by decide +kernel
theorem dX11_rests_56 : decode cX11_rests 56 = .ok (.iconst (-1), 1) := by decide +kernel
theorem dX11_rests_57 : decode cX11_rests 57 = .ok (.if_icmp .ne 7, 3) := by decide +kernel
theorem dX11_rests_60 : decode cX11_rests 60 = .ok (.iconst 1, 1) := by decide +kernel
theorem dX11_rests_61 : decode cX11_rests 61 = .ok (.goto 4, 3) := by decide +kernel
theorem dX11_rests_64 : decode cX11_rests 64 = .ok (.iconst 0, 1) := by decide +kernel
theorem dX11_rests_65 : decode cX11_rests 65 = .ok (.ireturn, 1) := by decide +kernel
theorem dX11_rests_66 : decode cX11_rests 66 = .ok (.iload_n 3, 1) := by decide +kernel
theorem dX11_rests_67 : decode cX11_rests 67 = .ok (.iconst 1, 1) := by decide +kernel
theorem dX11_rests_68 : decode cX11_rests 68 = .ok (.if_icmp .eq 9, 3) := by decide +kernel
theorem dX11_rests_71 : decode cX11_rests 71 = .ok (.iload 6, 2) := by decide +kernel
theorem dX11_rests_73 : decode cX11_rests 73 = .ok (.iconst (-1), 1) := by decide +kernel
theorem dX11_rests_74 : decode cX11_rests 74 = .ok (.if_icmp .ne 8, 3) := by decide +kernel
theorem dX11_rests_77 : decode cX11_rests 77 = .ok (.iload 6, 2) := by decide +kernel
theorem dX11_rests_79 : decode cX11_rests 79 = .ok (.goto 13, 3) := by decide +kernel
theorem dX11_rests_82 : decode cX11_rests 82 = .ok (.aload_n 0, 1) := by decide +kernel
theorem dX11_rests_83 : decode cX11_rests 83 = .ok (.getfield 41, 3) := by decide +kernel
theorem dX11_rests_86 : decode cX11_rests 86 = .ok (.iload_n 2, 1) := by decide +kernel
theorem dX11_rests_87 : decode cX11_rests 87 = .ok (.iload 6, 2) := by decide +kernel
theorem dX11_rests_89 : decode cX11_rests 89 = .ok (.invokevirtual 197, 3) := by decide +kernel
theorem dX11_rests_92 : decode cX11_rests 92 = .ok (.ireturn, 1) := by decide +kernel
theorem dX11_gain_0 : decode cX11_gain 0 = .ok (.aload_n 0, 1) := by decide +kernel
theorem dX11_gain_1 : decode cX11_gain 1 = .ok (.iload_n 1, 1) := by decide +kernel
theorem dX11_gain_2 : decode cX11_gain 2 = .ok (.invokevirtual 145, 3) := by decide +kernel
theorem dX11_gain_5 : decode cX11_gain 5 = .ok (.astore 5, 2) := by decide +kernel
theorem dX11_gain_7 : decode cX11_gain 7 = .ok (.aload 5, 2) := by decide +kernel
theorem dX11_gain_9 : decode cX11_gain 9 = .ok (.ifnull 14, 3) := by decide +kernel
theorem dX11_gain_12 : decode cX11_gain 12 = .ok (.aload_n 0, 1) := by decide +kernel
theorem dX11_gain_13 : decode cX11_gain 13 = .ok (.getfield 26, 3) := by decide +kernel
theorem dX11_gain_16 : decode cX11_gain 16 = .ok (.iload_n 3, 1) := by decide +kernel
theorem dX11_gain_17 : decode cX11_gain 17 = .ok (.invokevirtual 98, 3) := by decide +kernel
theorem dX11_gain_20 : decode cX11_gain 20 = .ok (.ifCond .ne 7, 3) := by decide +kernel
theorem dX11_gain_23 : decode cX11_gain 23 = .ok (.ldc2_w 112, 3) := by decide +kernel
theorem dX11_gain_26 : decode cX11_gain 26 = .ok (.lreturn, 1) := by decide +kernel
theorem dX11_gain_27 : decode cX11_gain 27 = .ok (.aload_n 0, 1) := by decide +kernel
theorem dX11_gain_28 : decode cX11_gain 28 = .ok (.getfield 26, 3) := by decide +kernel
theorem dX11_gain_31 : decode cX11_gain 31 = .ok (.iload_n 2, 1) := by decide +kernel
theorem dX11_gain_32 : decode cX11_gain 32 = .ok (.invokevirtual 174, 3) := by decide +kernel
theorem dX11_gain_35 : decode cX11_gain 35 = .ok (.ifCond .eq 13, 3) := by decide +kernel
theorem dX11_gain_38 : decode cX11_gain 38 = .ok (.iload 4, 2) := by decide +kernel
theorem dX11_gain_40 : decode cX11_gain 40 = .ok (.iconst 0, 1) := by decide +kernel
theorem dX11_gain_41 : decode cX11_gain 41 = .ok (.iconst 1, 1) := by decide +kernel
theorem dX11_gain_42 : decode cX11_gain 42 = .ok (.invokestatic 105, 3) := by decide +kernel
theorem dX11_gain_45 : decode cX11_gain 45 = .ok (.ifCond .ne 7, 3) := by decide +kernel
theorem dX11_gain_48 : decode cX11_gain 48 = .ok (.ldc2_w 114, 3) := by decide +kernel
theorem dX11_gain_51 : decode cX11_gain 51 = .ok (.lreturn, 1) := by decide +kernel
theorem dX11_gain_52 : decode cX11_gain 52 = .ok (.aload_n 0, 1) := by decide +kernel
theorem dX11_gain_53 : decode cX11_gain 53 = .ok (.getfield 41, 3) := by decide +kernel
theorem dX11_gain_56 : decode cX11_gain 56 = .ok (.aload 5, 2) := by decide +kernel
theorem dX11_gain_58 : decode cX11_gain 58 = .ok (.invokevirtual 179, 3) := by decide +kernel
theorem dX11_gain_61 : decode cX11_gain 61 = .ok (.aload_n 0, 1) := by decide +kernel
theorem dX11_gain_62 : decode cX11_gain 62 = .ok (.getfield 41, 3) := by decide +kernel
theorem dX11_gain_65 : decode cX11_gain 65 = .ok (.iload_n 2, 1) := by decide +kernel
theorem dX11_gain_66 : decode cX11_gain 66 = .ok (.iload_n 3, 1) := by decide +kernel
theorem dX11_gain_67 : decode cX11_gain 67 = .ok (.invokevirtual 201, 3) := by decide +kernel
theorem dX11_gain_70 : decode cX11_gain 70 = .ok (.aload_n 0, 1) := by decide +kernel
theorem dX11_gain_71 : decode cX11_gain 71 = .ok (.getfield 41, 3) := by decide +kernel
theorem dX11_gain_74 : decode cX11_gain 74 = .ok (.getfield 186, 3) := by decide +kernel
theorem dX11_gain_77 : decode cX11_gain 77 = .ok (.iload 4, 2) := by decide +kernel
theorem dX11_gain_79 : decode cX11_gain 79 = .ok (.invokestatic 126, 3) := by decide +kernel
theorem dX11_gain_82 : decode cX11_gain 82 = .ok (.lreturn, 1) := by decide +kernel
theorem dX11_all_0 : decode cX11_all 0 = .ok (.aload_n 0, 1) := by decide +kernel
theorem dX11_all_1 : decode cX11_all 1 = .ok (.iload_n 1, 1) := by decide +kernel
theorem dX11_all_2 : decode cX11_all 2 = .ok (.invokevirtual 145, 3) := by decide +kernel
theorem dX11_all_5 : decode cX11_all 5 = .ok (.astore_n 3, 1) := by decide +kernel
theorem dX11_all_6 : decode cX11_all 6 = .ok (.aload_n 3, 1) := by decide +kernel
theorem dX11_all_7 : decode cX11_all 7 = .ok (.ifnonnull 6, 3) := by decide +kernel
theorem dX11_all_10 : decode cX11_all 10 = .ok (.bipush (-101), 2) := by decide +kernel
theorem dX11_all_12 : decode cX11_all 12 = .ok (.ireturn, 1) := by decide +kernel
theorem dX11_all_13 : decode cX11_all 13 = .ok (.aload_n 0, 1) := by decide +kernel
theorem dX11_all_14 : decode cX11_all 14 = .ok (.getfield 26, 3) := by decide +kernel
theorem dX11_all_17 : decode cX11_all 17 = .ok (.invokevirtual 204, 3) := by decide +kernel
theorem dX11_all_20 : decode cX11_all 20 = .ok (.ifCond .ne 6, 3) := by decide +kernel
theorem dX11_all_23 : decode cX11_all 23 = .ok (.bipush (-103), 2) := by decide +kernel
theorem dX11_all_25 : decode cX11_all 25 = .ok (.ireturn, 1) := by decide +kernel
theorem dX11_all_26 : decode cX11_all 26 = .ok (.iload_n 2, 1) := by decide +kernel
theorem dX11_all_27 : decode cX11_all 27 = .ok (.iconst 0, 1) := by decide +kernel
theorem dX11_all_28 : decode cX11_all 28 = .ok (.iconst 1, 1) := by decide +kernel
theorem dX11_all_29 : decode cX11_all 29 = .ok (.invokestatic 105, 3) := by decide +kernel
theorem dX11_all_32 : decode cX11_all 32 = .ok (.ifCond .ne 17, 3) := by decide +kernel
theorem dX11_all_35 : decode cX11_all 35 = .ok (.iload_n 2, 1) := by decide +kernel
theorem dX11_all_36 : decode cX11_all 36 = .ok (.bipush 10, 2) := by decide +kernel
theorem dX11_all_38 : decode cX11_all 38 = .ok (.bipush 99, 2) := by decide +kernel
theorem dX11_all_40 : decode cX11_all 40 = .ok (.invokestatic 105, 3) := by decide +kernel
theorem dX11_all_43 : decode cX11_all 43 = .ok (.ifCond .ne 6, 3) := by decide +kernel
theorem dX11_all_46 : decode cX11_all 46 = .ok (.bipush (-102), 2) := by decide +kernel
theorem dX11_all_48 : decode cX11_all 48 = .ok (.ireturn, 1) := by decide +kernel
theorem dX11_all_49 : decode cX11_all 49 = .ok (.aload_n 0, 1) := by decide +kernel
theorem dX11_all_50 : decode cX11_all 50 = .ok (.getfield 41, 3) := by decide +kernel
theorem dX11_all_53 : decode cX11_all 53 = .ok (.aload_n 3, 1) := by decide +kernel
theorem dX11_all_54 : decode cX11_all 54 = .ok (.invokevirtual 179, 3) := by decide +kernel
theorem dX11_all_57 : decode cX11_all 57 = .ok (.iload_n 2, 1) := by decide +kernel
theorem dX11_all_58 : decode cX11_all 58 = .ok (.ifCond .ne 11, 3) := by decide +kernel
theorem dX11_all_61 : decode cX11_all 61 = .ok (.aload_n 0, 1) := by decide +kernel
theorem dX11_all_62 : decode cX11_all 62 = .ok (.getfield 41, 3) := by decide +kernel
theorem dX11_all_65 : decode cX11_all 65 = .ok (.invokevirtual 207, 3) := by decide +kernel
theorem dX11_all_68 : decode cX11_all 68 = .ok (.ireturn, 1) := by decide +kernel
theorem dX11_all_69 : decode cX11_all 69 = .ok (.iload_n 2, 1) := by decide +kernel
theorem dX11_all_70 : decode cX11_all 70 = .ok (.iconst 1, 1) := by decide +kernel
theorem dX11_all_71 : decode cX11_all 71 = .ok (.if_icmp .ne 13, 3) := by decide +kernel
theorem dX11_all_74 : decode cX11_all 74 = .ok (.aload_n 0, 1) := by decide +kernel
theorem dX11_all_75 : decode cX11_all 75 = .ok (.getfield 41, 3) := by decide +kernel
theorem dX11_all_78 : decode cX11_all 78 = .ok (.invokevirtual 210, 3) := by decide +kernel
theorem dX11_all_81 : decode cX11_all 81 = .ok (.goto 14, 3) := by decide +kernel
theorem dX11_all_84 : decode cX11_all 84 = .ok (.aload_n 0, 1) := by decide +kernel
theorem dX11_all_85 : decode cX11_all 85 = .ok (.getfield 41, 3) := by decide +kernel
theorem dX11_all_88 : decode cX11_all 88 = .ok (.iload_n 2, 1) := by decide +kernel
theorem dX11_all_89 : decode cX11_all 89 = .ok (.bipush 10, 2) := by decide +kernel
theorem dX11_all_91 : decode cX11_all 91 = .ok (.isub, 1) := by decide +kernel
theorem dX11_all_92 : decode cX11_all 92 = .ok (.invokevirtual 213, 3) := by decide +kernel
theorem dX11_all_95 : decode cX11_all 95 = .ok (.ireturn, 1) := by decide +kernel
theorem dX11_group_0 : decode cX11_group 0 = .ok (.aload_n 0, 1) := by decide +kernel
theorem dX11_group_1 : decode cX11_group 1 = .ok (.iload_n 1, 1) := by decide +kernel
theorem dX11_group_2 : decode cX11_group 2 = .ok (.invokevirtual 145, 3) := by decide +kernel
theorem dX11_group_5 : decode cX11_group 5 = .ok (.astore 4, 2) := by decide +kernel
theorem dX11_group_7 : decode cX11_group 7 = .ok (.aload_n 0, 1) := by decide +kernel
theorem dX11_group_8 : decode cX11_group 8 = .ok (.aload 4, 2) := by decide +kernel
theorem dX11_group_10 : decode cX11_group 10 = .ok (.iload_n 2, 1) := by decide +kernel
theorem dX11_group_11 : decode cX11_group 11 = .ok (.iload_n 3, 1) := by decide +kernel
theorem dX11_group_12 : decode cX11_group 12 = .ok (.iconst 1, 1) := by decide +kernel
theorem dX11_group_13 : decode cX11_group 13 = .ok (.invokevirtual 190, 3) := by decide +kernel
theorem dX11_group_16 : decode cX11_group 16 = .ok (.istore 5, 2) := by decide +kernel
theorem dX11_group_18 : decode cX11_group 18 = .ok (.aload 4, 2) := by decide +kernel
theorem dX11_group_20 : decode cX11_group 20 = .ok (.ifnull 8, 3) := by decide +kernel
theorem dX11_group_23 : decode cX11_group 23 = .ok (.iload 5, 2) := by decide +kernel
theorem dX11_group_25 : decode cX11_group 25 = .ok (.ifCond .eq 6, 3) := by decide +kernel
theorem dX11_group_28 : decode cX11_group 28 = .ok (.iload 5, 2) := by decide +kernel
theorem dX11_group_30 : decode cX11_group 30 = .ok (.ireturn, 1) := by decide +kernel
theorem dX11_group_31 : decode cX11_group 31 = .ok (.aload_n 0, 1) := by decide +kernel
theorem dX11_group_32 : decode cX11_group 32 = .ok (.getfield 41, 3) := by decide +kernel
theorem dX11_group_35 : decode cX11_group 35 = .ok (.aload 4, 2) := by decide +kernel
theorem dX11_group_37 : decode cX11_group 37 = .ok (.invokevirtual 179, 3) := by decide +kernel
theorem dX11_group_40 : decode cX11_group 40 = .ok (.aload_n 0, 1) := by decide +kernel
theorem dX11_group_41 : decode cX11_group 41 = .ok (.getfield 41, 3) := by decide +kernel
theorem dX11_group_44 : decode cX11_group 44 = .ok (.iload_n 2, 1) := by decide +kernel
theorem dX11_group_45 : decode cX11_group 45 = .ok (.invokevirtual 216, 3) := by decide +kernel
theorem dX11_group_48 : decode cX11_group 48 = .ok (.iload_n 3, 1) := by decide +kernel
theorem dX11_group_49 : decode cX11_group 49 = .ok (.ifCond .ne 13, 3) := by decide +kernel
theorem dX11_group_52 : decode cX11_group 52 = .ok (.aload_n 0, 1) := by decide +kernel
theorem dX11_group_53 : decode cX11_group 53 = .ok (.getfield 41, 3) := by decide +kernel
theorem dX11_group_56 : decode cX11_group 56 = .ok (.getfield 220, 3) := by decide +kernel
theorem dX11_group_59 : decode cX11_group 59 = .ok (.goto 10, 3) := by decide +kernel
theorem dX11_group_62 : decode cX11_group 62 = .ok (.aload_n 0, 1) := by decide +kernel
theorem dX11_group_63 : decode cX11_group 63 = .ok (.getfield 41, 3) := by decide +kernel
theorem dX11_group_66 : decode cX11_group 66 = .ok (.getfield 223, 3) := by decide +kernel
theorem dX11_group_69 : decode cX11_group 69 = .ok (.ireturn, 1) := by decide +kernel
theorem dX11_goes_0 : decode cX11_goes 0 = .ok (.aload_n 0, 1) := by decide +kernel
theorem dX11_goes_1 : decode cX11_goes 1 = .ok (.iload_n 1, 1) := by decide +kernel
theorem dX11_goes_2 : decode cX11_goes 2 = .ok (.invokevirtual 145, 3) := by decide +kernel
theorem dX11_goes_5 : decode cX11_goes 5 = .ok (.astore 4, 2) := by decide +kernel
theorem dX11_goes_7 : decode cX11_goes 7 = .ok (.aload_n 0, 1) := by decide +kernel
theorem dX11_goes_8 : decode cX11_goes 8 = .ok (.aload 4, 2) := by decide +kernel
theorem dX11_goes_10 : decode cX11_goes 10 = .ok (.iload_n 2, 1) := by decide +kernel
theorem dX11_goes_11 : decode cX11_goes 11 = .ok (.iload_n 3, 1) := by decide +kernel
theorem dX11_goes_12 : decode cX11_goes 12 = .ok (.iconst 2, 1) := by decide +kernel
theorem dX11_goes_13 : decode cX11_goes 13 = .ok (.invokevirtual 190, 3) := by decide +kernel
theorem dX11_goes_16 : decode cX11_goes 16 = .ok (.istore 5, 2) := by decide +kernel
theorem dX11_goes_18 : decode cX11_goes 18 = .ok (.aload 4, 2) := by decide +kernel
theorem dX11_goes_20 : decode cX11_goes 20 = .ok (.ifnull 8, 3) := by decide +kernel
theorem dX11_goes_23 : decode cX11_goes 23 = .ok (.iload 5, 2) := by decide +kernel
theorem dX11_goes_25 : decode cX11_goes 25 = .ok (.ifCond .eq 6, 3) := by decide +kernel
theorem dX11_goes_28 : decode cX11_goes 28 = .ok (.iload 5, 2) := by decide +kernel
theorem dX11_goes_30 : decode cX11_goes 30 = .ok (.ireturn, 1) := by decide +kernel
theorem dX11_goes_31 : decode cX11_goes 31 = .ok (.aload_n 0, 1) := by decide +kernel
theorem dX11_goes_32 : decode cX11_goes 32 = .ok (.getfield 41, 3) := by decide +kernel
theorem dX11_goes_35 : decode cX11_goes 35 = .ok (.aload 4, 2) := by decide +kernel
theorem dX11_goes_37 : decode cX11_goes 37 = .ok (.invokevirtual 179, 3) := by decide +kernel
theorem dX11_goes_40 : decode cX11_goes 40 = .ok (.aload_n 0, 1) := by decide +kernel
theorem dX11_goes_41 : decode cX11_goes 41 = .ok (.getfield 41, 3) := by decide +kernel
theorem dX11_goes_44 : decode cX11_goes 44 = .ok (.iload_n 2, 1) := by decide +kernel
theorem dX11_goes_45 : decode cX11_goes 45 = .ok (.invokevirtual 226, 3) := by decide +kernel
theorem dX11_goes_48 : decode cX11_goes 48 = .ok (.iload_n 3, 1) := by decide +kernel
theorem dX11_goes_49 : decode cX11_goes 49 = .ok (.ifCond .ne 11, 3) := by decide +kernel
theorem dX11_goes_52 : decode cX11_goes 52 = .ok (.aload_n 0, 1) := by decide +kernel
theorem dX11_goes_53 : decode cX11_goes 53 = .ok (.getfield 41, 3) := by decide +kernel
theorem dX11_goes_56 : decode cX11_goes 56 = .ok (.getfield 229, 3) := by decide +kernel
theorem dX11_goes_59 : decode cX11_goes 59 = .ok (.ireturn, 1) := by decide +kernel
theorem dX11_goes_60 : decode cX11_goes 60 = .ok (.iload_n 3, 1) := by decide +kernel
theorem dX11_goes_61 : decode cX11_goes 61 = .ok (.iconst 1, 1) := by decide +kernel
theorem dX11_goes_62 : decode cX11_goes 62 = .ok (.if_icmp .ne 13, 3) := by decide +kernel
theorem dX11_goes_65 : decode cX11_goes 65 = .ok (.aload_n 0, 1) := by decide +kernel
theorem dX11_goes_66 : decode cX11_goes 66 = .ok (.getfield 41, 3) := by decide +kernel
theorem dX11_goes_69 : decode cX11_goes 69 = .ok (.getfield 232, 3) := by decide +kernel
theorem dX11_goes_72 : decode cX11_goes 72 = .ok (.goto 10, 3) := by decide +kernel
theorem dX11_goes_75 : decode cX11_goes 75 = .ok (.aload_n 0, 1) := by decide +kernel
theorem dX11_goes_76 : decode cX11_goes 76 = .ok (.getfield 41, 3) := by decide +kernel
theorem dX11_goes_79 : decode cX11_goes 79 = .ok (.getfield 235, 3) := by decide +kernel
theorem dX11_goes_82 : decode cX11_goes 82 = .ok (.ireturn, 1) := by decide +kernel
theorem dX11_drawn_0 : decode cX11_drawn 0 = .ok (.aload_n 0, 1) := by decide +kernel
theorem dX11_drawn_1 : decode cX11_drawn 1 = .ok (.iload_n 1, 1) := by decide +kernel
theorem dX11_drawn_2 : decode cX11_drawn 2 = .ok (.invokevirtual 145, 3) := by decide +kernel
theorem dX11_drawn_5 : decode cX11_drawn 5 = .ok (.astore_n 2, 1) := by decide +kernel
theorem dX11_drawn_6 : decode cX11_drawn 6 = .ok (.aload_n 2, 1) := by decide +kernel
theorem dX11_drawn_7 : decode cX11_drawn 7 = .ok (.ifnonnull 6, 3) := by decide +kernel
theorem dX11_drawn_10 : decode cX11_drawn 10 = .ok (.bipush (-101), 2) := by decide +kernel
theorem dX11_drawn_12 : decode cX11_drawn 12 = .ok (.ireturn, 1) := by decide +kernel
theorem dX11_drawn_13 : decode cX11_drawn 13 = .ok (.aload_n 0, 1) := by decide +kernel
theorem dX11_drawn_14 : decode cX11_drawn 14 = .ok (.getfield 26, 3) := by decide +kernel
theorem dX11_drawn_17 : decode cX11_drawn 17 = .ok (.invokevirtual 204, 3) := by decide +kernel
theorem dX11_drawn_20 : decode cX11_drawn 20 = .ok (.ifCond .ne 6, 3) := by decide +kernel
theorem dX11_drawn_23 : decode cX11_drawn 23 = .ok (.bipush (-103), 2) := by decide +kernel
theorem dX11_drawn_25 : decode cX11_drawn 25 = .ok (.ireturn, 1) := by decide +kernel
theorem dX11_drawn_26 : decode cX11_drawn 26 = .ok (.aload_n 0, 1) := by decide +kernel
theorem dX11_drawn_27 : decode cX11_drawn 27 = .ok (.getfield 41, 3) := by decide +kernel
theorem dX11_drawn_30 : decode cX11_drawn 30 = .ok (.aload_n 2, 1) := by decide +kernel
theorem dX11_drawn_31 : decode cX11_drawn 31 = .ok (.invokevirtual 179, 3) := by decide +kernel
theorem dX11_drawn_34 : decode cX11_drawn 34 = .ok (.aload_n 0, 1) := by decide +kernel
theorem dX11_drawn_35 : decode cX11_drawn 35 = .ok (.getfield 41, 3) := by decide +kernel
theorem dX11_drawn_38 : decode cX11_drawn 38 = .ok (.invokevirtual 238, 3) := by decide +kernel
theorem dX11_drawn_41 : decode cX11_drawn 41 = .ok (.ireturn, 1) := by decide +kernel
theorem dX11_leastSame_0 : decode cX11_leastSame 0 = .ok (.aload_n 0, 1) := by decide +kernel
theorem dX11_leastSame_1 : decode cX11_leastSame 1 = .ok (.getfield 26, 3) := by decide +kernel
theorem dX11_leastSame_4 : decode cX11_leastSame 4 = .ok (.invokevirtual 204, 3) := by decide +kernel
theorem dX11_leastSame_7 : decode cX11_leastSame 7 = .ok (.ifCond .eq 13, 3) := by decide +kernel
theorem dX11_leastSame_10 : decode cX11_leastSame 10 = .ok (.aload_n 0, 1) := by decide +kernel
theorem dX11_leastSame_11 : decode cX11_leastSame 11 = .ok (.getfield 48, 3) := by decide +kernel
theorem dX11_leastSame_14 : decode cX11_leastSame 14 = .ok (.invokevirtual 241, 3) := by decide +kernel
theorem dX11_leastSame_17 : decode cX11_leastSame 17 = .ok (.goto 5, 3) := by decide +kernel
theorem dX11_leastSame_20 : decode cX11_leastSame 20 = .ok (.bipush (-103), 2) := by decide +kernel
theorem dX11_leastSame_22 : decode cX11_leastSame 22 = .ok (.ireturn, 1) := by decide +kernel
theorem dX11_leastTable_0 : decode cX11_leastTable 0 = .ok (.aload_n 0, 1) := by decide +kernel
theorem dX11_leastTable_1 : decode cX11_leastTable 1 = .ok (.getfield 26, 3) := by decide +kernel
theorem dX11_leastTable_4 : decode cX11_leastTable 4 = .ok (.invokevirtual 204, 3) := by decide +kernel
theorem dX11_leastTable_7 : decode cX11_leastTable 7 = .ok (.ifCond .ne 6, 3) := by decide +kernel
theorem dX11_leastTable_10 : decode cX11_leastTable 10 = .ok (.bipush (-103), 2) := by decide +kernel
theorem dX11_leastTable_12 : decode cX11_leastTable 12 = .ok (.ireturn, 1) := by decide +kernel
theorem dX11_leastTable_13 : decode cX11_leastTable 13 = .ok (.iload_n 1, 1) := by decide +kernel
theorem dX11_leastTable_14 : decode cX11_leastTable 14 = .ok (.iconst 0, 1) := by decide +kernel
theorem dX11_leastTable_15 : decode cX11_leastTable 15 = .ok (.iconst 4, 1) := by decide +kernel
theorem dX11_leastTable_16 : decode cX11_leastTable 16 = .ok (.invokestatic 105, 3) := by decide +kernel
theorem dX11_leastTable_19 : decode cX11_leastTable 19 = .ok (.ifCond .ne 6, 3) := by decide +kernel
theorem dX11_leastTable_22 : decode cX11_leastTable 22 = .ok (.bipush (-102), 2) := by decide +kernel
theorem dX11_leastTable_24 : decode cX11_leastTable 24 = .ok (.ireturn, 1) := by decide +kernel
theorem dX11_leastTable_25 : decode cX11_leastTable 25 = .ok (.aload_n 0, 1) := by decide +kernel
theorem dX11_leastTable_26 : decode cX11_leastTable 26 = .ok (.getfield 244, 3) := by decide +kernel
theorem dX11_leastTable_29 : decode cX11_leastTable 29 = .ok (.bipush 10, 2) := by decide +kernel
theorem dX11_leastTable_31 : decode cX11_leastTable 31 = .ok (.if_icmp .lt 6, 3) := by decide +kernel
theorem dX11_leastTable_34 : decode cX11_leastTable 34 = .ok (.bipush (-103), 2) := by decide +kernel
theorem dX11_leastTable_36 : decode cX11_leastTable 36 = .ok (.ireturn, 1) := by decide +kernel
theorem dX11_leastTable_37 : decode cX11_leastTable 37 = .ok (.aload_n 0, 1) := by decide +kernel
theorem dX11_leastTable_38 : decode cX11_leastTable 38 = .ok (.dup, 1) := by decide +kernel
theorem dX11_leastTable_39 : decode cX11_leastTable 39 = .ok (.getfield 244, 3) := by decide +kernel
theorem dX11_leastTable_42 : decode cX11_leastTable 42 = .ok (.iconst 1, 1) := by decide +kernel
theorem dX11_leastTable_43 : decode cX11_leastTable 43 = .ok (.iadd, 1) := by decide +kernel
theorem dX11_leastTable_44 : decode cX11_leastTable 44 = .ok (.putfield 244, 3) := by decide +kernel
theorem dX11_leastTable_47 : decode cX11_leastTable 47 = .ok (.aload_n 0, 1) := by decide +kernel
theorem dX11_leastTable_48 : decode cX11_leastTable 48 = .ok (.getfield 48, 3) := by decide +kernel
theorem dX11_leastTable_51 : decode cX11_leastTable 51 = .ok (.invokevirtual 247, 3) := by decide +kernel
theorem dX11_leastTable_54 : decode cX11_leastTable 54 = .ok (.iload_n 1, 1) := by decide +kernel
theorem dX11_leastTable_55 : decode cX11_leastTable 55 = .ok (.iconst 4, 1) := by decide +kernel
theorem dX11_leastTable_56 : decode cX11_leastTable 56 = .ok (.if_icmp .ne 13, 3) := by decide +kernel
theorem dX11_leastTable_59 : decode cX11_leastTable 59 = .ok (.aload_n 0, 1) := by decide +kernel
theorem dX11_leastTable_60 : decode cX11_leastTable 60 = .ok (.getfield 48, 3) := by decide +kernel
theorem dX11_leastTable_63 : decode cX11_leastTable 63 = .ok (.getfield 250, 3) := by decide +kernel
theorem dX11_leastTable_66 : decode cX11_leastTable 66 = .ok (.goto 12, 3) := by decide +kernel
theorem dX11_leastTable_69 : decode cX11_leastTable 69 = .ok (.aload_n 0, 1) := by decide +kernel
theorem dX11_leastTable_70 : decode cX11_leastTable 70 = .ok (.getfield 48, 3) := by decide +kernel
theorem dX11_leastTable_73 : decode cX11_leastTable 73 = .ok (.getfield 253, 3) := by decide +kernel
theorem dX11_leastTable_76 : decode cX11_leastTable 76 = .ok (.iload_n 1, 1) := by decide +kernel
theorem dX11_leastTable_77 : decode cX11_leastTable 77 = .ok (.iaload, 1) := by decide +kernel
theorem dX11_leastTable_78 : decode cX11_leastTable 78 = .ok (.ireturn, 1) := by decide +kernel
theorem dX11_leastLook_0 : decode cX11_leastLook 0 = .ok (.aload_n 0, 1) := by decide +kernel
theorem dX11_leastLook_1 : decode cX11_leastLook 1 = .ok (.iload_n 1, 1) := by decide +kernel
theorem dX11_leastLook_2 : decode cX11_leastLook 2 = .ok (.invokevirtual 145, 3) := by decide +kernel
theorem dX11_leastLook_5 : decode cX11_leastLook 5 = .ok (.astore_n 2, 1) := by decide +kernel
theorem dX11_leastLook_6 : decode cX11_leastLook 6 = .ok (.aload_n 2, 1) := by decide +kernel
theorem dX11_leastLook_7 : decode cX11_leastLook 7 = .ok (.ifnonnull 6, 3) := by decide +kernel
theorem dX11_leastLook_10 : decode cX11_leastLook 10 = .ok (.bipush (-101), 2) := by decide +kernel
theorem dX11_leastLook_12 : decode cX11_leastLook 12 = .ok (.ireturn, 1) := by decide +kernel
theorem dX11_leastLook_13 : decode cX11_leastLook 13 = .ok (.aload_n 0, 1) := by decide +kernel
theorem dX11_leastLook_14 : decode cX11_leastLook 14 = .ok (.getfield 26, 3) := by decide +kernel
theorem dX11_leastLook_17 : decode cX11_leastLook 17 = .ok (.invokevirtual 204, 3) := by decide +kernel
theorem dX11_leastLook_20 : decode cX11_leastLook 20 = .ok (.ifCond .eq 11, 3) := by decide +kernel
theorem dX11_leastLook_23 : decode cX11_leastLook 23 = .ok (.aload_n 2, 1) := by decide +kernel
theorem dX11_leastLook_24 : decode cX11_leastLook 24 = .ok (.invokevirtual 152, 3) := by decide +kernel
theorem dX11_leastLook_27 : decode cX11_leastLook 27 = .ok (.iconst 4, 1) := by decide +kernel
theorem dX11_leastLook_28 : decode cX11_leastLook 28 = .ok (.if_icmp .eq 6, 3) := by decide +kernel
theorem dX11_leastLook_31 : decode cX11_leastLook 31 = .ok (.bipush (-103), 2) := by decide +kernel
theorem dX11_leastLook_33 : decode cX11_leastLook 33 = .ok (.ireturn, 1) := by decide +kernel
theorem dX11_leastLook_34 : decode cX11_leastLook 34 = .ok (.aload_n 0, 1) := by decide +kernel
theorem dX11_leastLook_35 : decode cX11_leastLook 35 = .ok (.getfield 48, 3) := by decide +kernel
theorem dX11_leastLook_38 : decode cX11_leastLook 38 = .ok (.aload_n 2, 1) := by decide +kernel
theorem dX11_leastLook_39 : decode cX11_leastLook 39 = .ok (.invokevirtual 256, 3) := by decide +kernel
theorem dX11_leastLook_42 : decode cX11_leastLook 42 = .ok (.ireturn, 1) := by decide +kernel
theorem dX11_mayBe_0 : decode cX11_mayBe 0 = .ok (.aload_n 0, 1) := by decide +kernel
theorem dX11_mayBe_1 : decode cX11_mayBe 1 = .ok (.iload_n 1, 1) := by decide +kernel
theorem dX11_mayBe_2 : decode cX11_mayBe 2 = .ok (.invokevirtual 145, 3) := by decide +kernel
theorem dX11_mayBe_5 : decode cX11_mayBe 5 = .ok (.astore_n 3, 1) := by decide +kernel
theorem dX11_mayBe_6 : decode cX11_mayBe 6 = .ok (.aload_n 3, 1) := by decide +kernel
theorem dX11_mayBe_7 : decode cX11_mayBe 7 = .ok (.ifnonnull 6, 3) := by decide +kernel
theorem dX11_mayBe_10 : decode cX11_mayBe 10 = .ok (.bipush (-101), 2) := by decide +kernel
theorem dX11_mayBe_12 : decode cX11_mayBe 12 = .ok (.ireturn, 1) := by decide +kernel
theorem dX11_mayBe_13 : decode cX11_mayBe 13 = .ok (.aload_n 0, 1) := by decide +kernel
theorem dX11_mayBe_14 : decode cX11_mayBe 14 = .ok (.getfield 26, 3) := by decide +kernel
theorem dX11_mayBe_17 : decode cX11_mayBe 17 = .ok (.invokevirtual 204, 3) := by decide +kernel
theorem dX11_mayBe_20 : decode cX11_mayBe 20 = .ok (.ifCond .ne 6, 3) := by decide +kernel
theorem dX11_mayBe_23 : decode cX11_mayBe 23 = .ok (.bipush (-103), 2) := by decide +kernel
theorem dX11_mayBe_25 : decode cX11_mayBe 25 = .ok (.ireturn, 1) := by decide +kernel
theorem dX11_mayBe_26 : decode cX11_mayBe 26 = .ok (.iload_n 2, 1) := by decide +kernel
theorem dX11_mayBe_27 : decode cX11_mayBe 27 = .ok (.iconst 0, 1) := by decide +kernel
theorem dX11_mayBe_28 : decode cX11_mayBe 28 = .ok (.bipush 100, 2) := by decide +kernel
theorem dX11_mayBe_30 : decode cX11_mayBe 30 = .ok (.invokestatic 105, 3) := by decide +kernel
theorem dX11_mayBe_33 : decode cX11_mayBe 33 = .ok (.ifCond .eq 15, 3) := by decide +kernel
theorem dX11_mayBe_36 : decode cX11_mayBe 36 = .ok (.aload_n 0, 1) := by decide +kernel
theorem dX11_mayBe_37 : decode cX11_mayBe 37 = .ok (.getfield 48, 3) := by decide +kernel
theorem dX11_mayBe_40 : decode cX11_mayBe 40 = .ok (.aload_n 3, 1) := by decide +kernel
theorem dX11_mayBe_41 : decode cX11_mayBe 41 = .ok (.iload_n 2, 1) := by decide +kernel
theorem dX11_mayBe_42 : decode cX11_mayBe 42 = .ok (.invokevirtual 260, 3) := by decide +kernel
theorem dX11_mayBe_45 : decode cX11_mayBe 45 = .ok (.goto 5, 3) := by decide +kernel
theorem dX11_mayBe_48 : decode cX11_mayBe 48 = .ok (.bipush (-102), 2) := by decide +kernel
theorem dX11_mayBe_50 : decode cX11_mayBe 50 = .ok (.ireturn, 1) := by decide +kernel
theorem dX11_row_0 : decode cX11_row 0 = .ok (.aload_n 0, 1) := by decide +kernel
theorem dX11_row_1 : decode cX11_row 1 = .ok (.getfield 26, 3) := by decide +kernel
theorem dX11_row_4 : decode cX11_row 4 = .ok (.invokevirtual 204, 3) := by decide +kernel
theorem dX11_row_7 : decode cX11_row 7 = .ok (.ifCond .ne 6, 3) := by decide +kernel
theorem dX11_row_10 : decode cX11_row 10 = .ok (.bipush (-103), 2) := by decide +kernel
theorem dX11_row_12 : decode cX11_row 12 = .ok (.ireturn, 1) := by decide +kernel
theorem dX11_row_13 : decode cX11_row 13 = .ok (.iload_n 1, 1) := by decide +kernel
theorem dX11_row_14 : decode cX11_row 14 = .ok (.iconst 0, 1) := by decide +kernel
theorem dX11_row_15 : decode cX11_row 15 = .ok (.aload_n 0, 1) := by decide +kernel
theorem dX11_row_16 : decode cX11_row 16 = .ok (.getfield 26, 3) := by decide +kernel
theorem dX11_row_19 : decode cX11_row 19 = .ok (.getfield 87, 3) := by decide +kernel
theorem dX11_row_22 : decode cX11_row 22 = .ok (.invokestatic 264, 3) := by decide +kernel
theorem dX11_row_25 : decode cX11_row 25 = .ok (.iconst 1, 1) := by decide +kernel
theorem dX11_row_26 : decode cX11_row 26 = .ok (.isub, 1) := by decide +kernel
theorem dX11_row_27 : decode cX11_row 27 = .ok (.invokestatic 105, 3) := by decide +kernel
theorem dX11_row_30 : decode cX11_row 30 = .ok (.ifCond .ne 6, 3) := by decide +kernel
theorem dX11_row_33 : decode cX11_row 33 = .ok (.bipush (-102), 2) := by decide +kernel
theorem dX11_row_35 : decode cX11_row 35 = .ok (.ireturn, 1) := by decide +kernel
theorem dX11_row_36 : decode cX11_row 36 = .ok (.lload_n 2, 1) := by decide +kernel
theorem dX11_row_37 : decode cX11_row 37 = .ok (.ldc2_w 120, 3) := by decide +kernel
theorem dX11_row_40 : decode cX11_row 40 = .ok (.lcmp, 1) := by decide +kernel
theorem dX11_row_41 : decode cX11_row 41 = .ok (.ifCond .lt 18, 3) := by decide +kernel
theorem dX11_row_44 : decode cX11_row 44 = .ok (.lload_n 2, 1) := by decide +kernel
theorem dX11_row_45 : decode cX11_row 45 = .ok (.aload_n 0, 1) := by decide +kernel
theorem dX11_row_46 : decode cX11_row 46 = .ok (.getfield 26, 3) := by decide +kernel
theorem dX11_row_49 : decode cX11_row 49 = .ok (.getfield 87, 3) := by decide +kernel
theorem dX11_row_52 : decode cX11_row 52 = .ok (.invokestatic 267, 3) := by decide +kernel
theorem dX11_row_55 : decode cX11_row 55 = .ok (.lcmp, 1) := by decide +kernel
theorem dX11_row_56 : decode cX11_row 56 = .ok (.ifCond .lt 6, 3) := by decide +kernel
theorem dX11_row_59 : decode cX11_row 59 = .ok (.bipush (-102), 2) := by decide +kernel
theorem dX11_row_61 : decode cX11_row 61 = .ok (.ireturn, 1) := by decide +kernel
theorem dX11_row_62 : decode cX11_row 62 = .ok (.aload_n 0, 1) := by decide +kernel
theorem dX11_row_63 : decode cX11_row 63 = .ok (.getfield 55, 3) := by decide +kernel
theorem dX11_row_66 : decode cX11_row 66 = .ok (.getfield 83, 3) := by decide +kernel
theorem dX11_row_69 : decode cX11_row 69 = .ok (.bipush 24, 2) := by decide +kernel
theorem dX11_row_71 : decode cX11_row 71 = .ok (.if_icmp .lt 6, 3) := by decide +kernel
theorem dX11_row_74 : decode cX11_row 74 = .ok (.bipush (-104), 2) := by decide +kernel
theorem dX11_row_76 : decode cX11_row 76 = .ok (.ireturn, 1) := by decide +kernel
theorem dX11_row_77 : decode cX11_row 77 = .ok (.aload_n 0, 1) := by decide +kernel
theorem dX11_row_78 : decode cX11_row 78 = .ok (.getfield 55, 3) := by decide +kernel
theorem dX11_row_81 : decode cX11_row 81 = .ok (.iload_n 1, 1) := by decide +kernel
theorem dX11_row_82 : decode cX11_row 82 = .ok (.lload_n 2, 1) := by decide +kernel
theorem dX11_row_83 : decode cX11_row 83 = .ok (.invokevirtual 271, 3) := by decide +kernel
theorem dX11_row_86 : decode cX11_row 86 = .ok (.aload_n 0, 1) := by decide +kernel
theorem dX11_row_87 : decode cX11_row 87 = .ok (.getfield 55, 3) := by decide +kernel
theorem dX11_row_90 : decode cX11_row 90 = .ok (.getfield 83, 3) := by decide +kernel
theorem dX11_row_93 : decode cX11_row 93 = .ok (.ireturn, 1) := by decide +kernel
theorem dX11_alike_0 : decode cX11_alike 0 = .ok (.aload_n 0, 1) := by decide +kernel
theorem dX11_alike_1 : decode cX11_alike 1 = .ok (.getfield 26, 3) := by decide +kernel
theorem dX11_alike_4 : decode cX11_alike 4 = .ok (.iload_n 1, 1) := by decide +kernel
theorem dX11_alike_5 : decode cX11_alike 5 = .ok (.invokevirtual 98, 3) := by decide +kernel
theorem dX11_alike_8 : decode cX11_alike 8 = .ok (.ifCond .eq 19, 3) := by decide +kernel
theorem dX11_alike_11 : decode cX11_alike 11 = .ok (.aload_n 0, 1) := by decide +kernel
theorem dX11_alike_12 : decode cX11_alike 12 = .ok (.getfield 26, 3) := by decide +kernel
theorem dX11_alike_15 : decode cX11_alike 15 = .ok (.iload_n 2, 1) := by decide +kernel
theorem dX11_alike_16 : decode cX11_alike 16 = .ok (.invokevirtual 98, 3) := by decide +kernel
theorem dX11_alike_19 : decode cX11_alike 19 = .ok (.ifCond .eq 8, 3) := by decide +kernel
theorem dX11_alike_22 : decode cX11_alike 22 = .ok (.iload_n 1, 1) := by decide +kernel
theorem dX11_alike_23 : decode cX11_alike 23 = .ok (.iload_n 2, 1) := by decide +kernel
theorem dX11_alike_24 : decode cX11_alike 24 = .ok (.if_icmp .ne 7, 3) := by decide +kernel
theorem dX11_alike_27 : decode cX11_alike 27 = .ok (.ldc_w 274, 3) := by decide +kernel
theorem dX11_alike_30 : decode cX11_alike 30 = .ok (.ireturn, 1) := by decide +kernel
theorem dX11_alike_31 : decode cX11_alike 31 = .ok (.iload_n 3, 1) := by decide +kernel
theorem dX11_alike_32 : decode cX11_alike 32 = .ok (.iconst 0, 1) := by decide +kernel
theorem dX11_alike_33 : decode cX11_alike 33 = .ok (.iconst 3, 1) := by decide +kernel
theorem dX11_alike_34 : decode cX11_alike 34 = .ok (.invokestatic 105, 3) := by decide +kernel
theorem dX11_alike_37 : decode cX11_alike 37 = .ok (.ifCond .ne 7, 3) := by decide +kernel
theorem dX11_alike_40 : decode cX11_alike 40 = .ok (.ldc_w 275, 3) := by decide +kernel
theorem dX11_alike_43 : decode cX11_alike 43 = .ok (.ireturn, 1) := by decide +kernel
theorem dX11_alike_44 : decode cX11_alike 44 = .ok (.aload_n 0, 1) := by decide +kernel
theorem dX11_alike_45 : decode cX11_alike 45 = .ok (.getfield 55, 3) := by decide +kernel
theorem dX11_alike_48 : decode cX11_alike 48 = .ok (.iload_n 1, 1) := by decide +kernel
theorem dX11_alike_49 : decode cX11_alike 49 = .ok (.iload_n 2, 1) := by decide +kernel
theorem dX11_alike_50 : decode cX11_alike 50 = .ok (.invokevirtual 276, 3) := by decide +kernel
theorem dX11_alike_53 : decode cX11_alike 53 = .ok (.istore 4, 2) := by decide +kernel
theorem dX11_alike_55 : decode cX11_alike 55 = .ok (.iload_n 3, 1) := by decide +kernel
theorem dX11_alike_56 : decode cX11_alike 56 = .ok (.iconst 2, 1) := by decide +kernel
theorem dX11_alike_57 : decode cX11_alike 57 = .ok (.if_icmp .lt 7, 3) := by decide +kernel
theorem dX11_alike_60 : decode cX11_alike 60 = .ok (.iconst 1, 1) := by decide +kernel
theorem dX11_alike_61 : decode cX11_alike 61 = .ok (.goto 4, 3) := by decide +kernel
theorem dX11_alike_64 : decode cX11_alike 64 = .ok (.iconst 0, 1) := by decide +kernel
theorem dX11_alike_65 : decode cX11_alike 65 = .ok (.istore 5, 2) := by decide +kernel
theorem dX11_alike_67 : decode cX11_alike 67 = .ok (.iload 4, 2) := by decide +kernel
theorem dX11_alike_69 : decode cX11_alike 69 = .ok (.iload 5, 2) := by decide +kernel
theorem dX11_alike_71 : decode cX11_alike 71 = .ok (.ifCond .eq 7, 3) := by decide +kernel
theorem dX11_alike_74 : decode cX11_alike 74 = .ok (.iconst 2, 1) := by decide +kernel
theorem dX11_alike_75 : decode cX11_alike 75 = .ok (.goto 4, 3) := by decide +kernel
theorem dX11_alike_78 : decode cX11_alike 78 = .ok (.iconst 1, 1) := by decide +kernel
theorem dX11_alike_79 : decode cX11_alike 79 = .ok (.if_icmp .ge 7, 3) := by decide +kernel
theorem dX11_alike_82 : decode cX11_alike 82 = .ok (.ldc_w 279, 3) := by decide +kernel
theorem dX11_alike_85 : decode cX11_alike 85 = .ok (.ireturn, 1) := by decide +kernel
theorem dX11_alike_86 : decode cX11_alike 86 = .ok (.aload_n 0, 1) := by decide +kernel
theorem dX11_alike_87 : decode cX11_alike 87 = .ok (.getfield 55, 3) := by decide +kernel
theorem dX11_alike_90 : decode cX11_alike 90 = .ok (.iload_n 1, 1) := by decide +kernel
theorem dX11_alike_91 : decode cX11_alike 91 = .ok (.iload_n 2, 1) := by decide +kernel
theorem dX11_alike_92 : decode cX11_alike 92 = .ok (.invokevirtual 280, 3) := by decide +kernel
theorem dX11_alike_95 : decode cX11_alike 95 = .ok (.istore 6, 2) := by decide +kernel
theorem dX11_alike_97 : decode cX11_alike 97 = .ok (.iload 5, 2) := by decide +kernel
theorem dX11_alike_99 : decode cX11_alike 99 = .ok (.ifCond .ne 15, 3) := by decide +kernel
theorem dX11_alike_102 : decode cX11_alike 102 = .ok (.iload 6, 2) := by decide +kernel
theorem dX11_alike_104 : decode cX11_alike 104 = .ok (.i2l, 1) := by decide +kernel
theorem dX11_alike_105 : decode cX11_alike 105 = .ok (.iload 4, 2) := by decide +kernel
theorem dX11_alike_107 : decode cX11_alike 107 = .ok (.i2l, 1) := by decide +kernel
theorem dX11_alike_108 : decode cX11_alike 108 = .ok (.iload_n 3, 1) := by decide +kernel
theorem dX11_alike_109 : decode cX11_alike 109 = .ok (.invokestatic 126, 3) := by decide +kernel
theorem dX11_alike_112 : decode cX11_alike 112 = .ok (.l2i, 1) := by decide +kernel
theorem dX11_alike_113 : decode cX11_alike 113 = .ok (.ireturn, 1) := by decide +kernel
theorem dX11_alike_114 : decode cX11_alike 114 = .ok (.iload 4, 2) := by decide +kernel
theorem dX11_alike_116 : decode cX11_alike 116 = .ok (.iload 4, 2) := by decide +kernel
theorem dX11_alike_118 : decode cX11_alike 118 = .ok (.iconst 1, 1) := by decide +kernel
theorem dX11_alike_119 : decode cX11_alike 119 = .ok (.isub, 1) := by decide +kernel
theorem dX11_alike_120 : decode cX11_alike 120 = .ok (.imul, 1) := by decide +kernel
theorem dX11_alike_121 : decode cX11_alike 121 = .ok (.istore 7, 2) := by decide +kernel
theorem dX11_alike_123 : decode cX11_alike 123 = .ok (.iload 6, 2) := by decide +kernel
theorem dX11_alike_125 : decode cX11_alike 125 = .ok (.iload 4, 2) := by decide +kernel
theorem dX11_alike_127 : decode cX11_alike 127 = .ok (.iconst 1, 1) := by decide +kernel
theorem dX11_alike_128 : decode cX11_alike 128 = .ok (.isub, 1) := by decide +kernel
theorem dX11_alike_129 : decode cX11_alike 129 = .ok (.imul, 1) := by decide +kernel
theorem dX11_alike_130 : decode cX11_alike 130 = .ok (.aload_n 0, 1) := by decide +kernel
theorem dX11_alike_131 : decode cX11_alike 131 = .ok (.getfield 55, 3) := by decide +kernel
theorem dX11_alike_134 : decode cX11_alike 134 = .ok (.iload_n 1, 1) := by decide +kernel
theorem dX11_alike_135 : decode cX11_alike 135 = .ok (.iload_n 2, 1) := by decide +kernel
theorem dX11_alike_136 : decode cX11_alike 136 = .ok (.invokevirtual 283, 3) := by decide +kernel
theorem dX11_alike_139 : decode cX11_alike 139 = .ok (.isub, 1) := by decide +kernel
theorem dX11_alike_140 : decode cX11_alike 140 = .ok (.istore 8, 2) := by decide +kernel
theorem dX11_alike_142 : decode cX11_alike 142 = .ok (.iload 8, 2) := by decide +kernel
theorem dX11_alike_144 : decode cX11_alike 144 = .ok (.i2l, 1) := by decide +kernel
theorem dX11_alike_145 : decode cX11_alike 145 = .ok (.iload 7, 2) := by decide +kernel
theorem dX11_alike_147 : decode cX11_alike 147 = .ok (.i2l, 1) := by decide +kernel
theorem dX11_alike_148 : decode cX11_alike 148 = .ok (.iload_n 3, 1) := by decide +kernel
theorem dX11_alike_149 : decode cX11_alike 149 = .ok (.iconst 2, 1) := by decide +kernel
theorem dX11_alike_150 : decode cX11_alike 150 = .ok (.isub, 1) := by decide +kernel
theorem dX11_alike_151 : decode cX11_alike 151 = .ok (.invokestatic 126, 3) := by decide +kernel
theorem dX11_alike_154 : decode cX11_alike 154 = .ok (.l2i, 1) := by decide +kernel
theorem dX11_alike_155 : decode cX11_alike 155 = .ok (.ireturn, 1) := by decide +kernel
theorem dX11_crowd_0 : decode cX11_crowd 0 = .ok (.iload_n 1, 1) := by decide +kernel
theorem dX11_crowd_1 : decode cX11_crowd 1 = .ok (.iconst 0, 1) := by decide +kernel
theorem dX11_crowd_2 : decode cX11_crowd 2 = .ok (.aload_n 0, 1) := by decide +kernel
theorem dX11_crowd_3 : decode cX11_crowd 3 = .ok (.getfield 55, 3) := by decide +kernel
theorem dX11_crowd_6 : decode cX11_crowd 6 = .ok (.getfield 83, 3) := by decide +kernel
theorem dX11_crowd_9 : decode cX11_crowd 9 = .ok (.iconst 1, 1) := by decide +kernel
theorem dX11_crowd_10 : decode cX11_crowd 10 = .ok (.isub, 1) := by decide +kernel
theorem dX11_crowd_11 : decode cX11_crowd 11 = .ok (.invokestatic 105, 3) := by decide +kernel
theorem dX11_crowd_14 : decode cX11_crowd 14 = .ok (.ifCond .ne 6, 3) := by decide +kernel
theorem dX11_crowd_17 : decode cX11_crowd 17 = .ok (.bipush (-101), 2) := by decide +kernel
theorem dX11_crowd_19 : decode cX11_crowd 19 = .ok (.ireturn, 1) := by decide +kernel
theorem dX11_crowd_20 : decode cX11_crowd 20 = .ok (.iload_n 2, 1) := by decide +kernel
theorem dX11_crowd_21 : decode cX11_crowd 21 = .ok (.iconst 0, 1) := by decide +kernel
theorem dX11_crowd_22 : decode cX11_crowd 22 = .ok (.iconst 1, 1) := by decide +kernel
theorem dX11_crowd_23 : decode cX11_crowd 23 = .ok (.invokestatic 105, 3) := by decide +kernel
theorem dX11_crowd_26 : decode cX11_crowd 26 = .ok (.ifCond .ne 6, 3) := by decide +kernel
theorem dX11_crowd_29 : decode cX11_crowd 29 = .ok (.bipush (-102), 2) := by decide +kernel
theorem dX11_crowd_31 : decode cX11_crowd 31 = .ok (.ireturn, 1) := by decide +kernel
theorem dX11_crowd_32 : decode cX11_crowd 32 = .ok (.iload_n 2, 1) := by decide +kernel
theorem dX11_crowd_33 : decode cX11_crowd 33 = .ok (.ifCond .ne 21, 3) := by decide +kernel
theorem dX11_crowd_36 : decode cX11_crowd 36 = .ok (.aload_n 0, 1) := by decide +kernel
theorem dX11_crowd_37 : decode cX11_crowd 37 = .ok (.getfield 55, 3) := by decide +kernel
theorem dX11_crowd_40 : decode cX11_crowd 40 = .ok (.iload_n 1, 1) := by decide +kernel
theorem dX11_crowd_41 : decode cX11_crowd 41 = .ok (.aload_n 0, 1) := by decide +kernel
theorem dX11_crowd_42 : decode cX11_crowd 42 = .ok (.getfield 26, 3) := by decide +kernel
theorem dX11_crowd_45 : decode cX11_crowd 45 = .ok (.getfield 87, 3) := by decide +kernel
theorem dX11_crowd_48 : decode cX11_crowd 48 = .ok (.invokevirtual 286, 3) := by decide +kernel
theorem dX11_crowd_51 : decode cX11_crowd 51 = .ok (.goto 18, 3) := by decide +kernel
theorem dX11_crowd_54 : decode cX11_crowd 54 = .ok (.aload_n 0, 1) := by decide +kernel
theorem dX11_crowd_55 : decode cX11_crowd 55 = .ok (.getfield 55, 3) := by decide +kernel
theorem dX11_crowd_58 : decode cX11_crowd 58 = .ok (.iload_n 1, 1) := by decide +kernel
theorem dX11_crowd_59 : decode cX11_crowd 59 = .ok (.aload_n 0, 1) := by decide +kernel
theorem dX11_crowd_60 : decode cX11_crowd 60 = .ok (.getfield 26, 3) := by decide +kernel
theorem dX11_crowd_63 : decode cX11_crowd 63 = .ok (.getfield 87, 3) := by decide +kernel
theorem dX11_crowd_66 : decode cX11_crowd 66 = .ok (.invokevirtual 289, 3) := by decide +kernel
theorem dX11_crowd_69 : decode cX11_crowd 69 = .ok (.ireturn, 1) := by decide +kernel
theorem dX11_count_0 : decode cX11_count 0 = .ok (.iload_n 1, 1) := by decide +kernel
theorem dX11_count_1 : decode cX11_count 1 = .ok (.tableswitch 81 0 5 #[39, 47, 55, 60, 68, 76], 39) := by decide +kernel
theorem dX11_count_40 : decode cX11_count 40 = .ok (.aload_n 0, 1) := by decide +kernel
theorem dX11_count_41 : decode cX11_count 41 = .ok (.getfield 26, 3) := by decide +kernel
theorem dX11_count_44 : decode cX11_count 44 = .ok (.getfield 292, 3) := by decide +kernel
theorem dX11_count_47 : decode cX11_count 47 = .ok (.ireturn, 1) := by decide +kernel
theorem dX11_count_48 : decode cX11_count 48 = .ok (.aload_n 0, 1) := by decide +kernel
theorem dX11_count_49 : decode cX11_count 49 = .ok (.getfield 26, 3) := by decide +kernel
theorem dX11_count_52 : decode cX11_count 52 = .ok (.getfield 87, 3) := by decide +kernel
theorem dX11_count_55 : decode cX11_count 55 = .ok (.ireturn, 1) := by decide +kernel
theorem dX11_count_56 : decode cX11_count 56 = .ok (.aload_n 0, 1) := by decide +kernel
theorem dX11_count_57 : decode cX11_count 57 = .ok (.getfield 134, 3) := by decide +kernel
theorem dX11_count_60 : decode cX11_count 60 = .ok (.ireturn, 1) := by decide +kernel
theorem dX11_count_61 : decode cX11_count 61 = .ok (.aload_n 0, 1) := by decide +kernel
theorem dX11_count_62 : decode cX11_count 62 = .ok (.getfield 55, 3) := by decide +kernel
theorem dX11_count_65 : decode cX11_count 65 = .ok (.getfield 83, 3) := by decide +kernel
theorem dX11_count_68 : decode cX11_count 68 = .ok (.ireturn, 1) := by decide +kernel
theorem dX11_count_69 : decode cX11_count 69 = .ok (.aload_n 0, 1) := by decide +kernel
theorem dX11_count_70 : decode cX11_count 70 = .ok (.getfield 10, 3) := by decide +kernel
theorem dX11_count_73 : decode cX11_count 73 = .ok (.getfield 63, 3) := by decide +kernel
theorem dX11_count_76 : decode cX11_count 76 = .ok (.ireturn, 1) := by decide +kernel
theorem dX11_count_77 : decode cX11_count 77 = .ok (.aload_n 0, 1) := by decide +kernel
theorem dX11_count_78 : decode cX11_count 78 = .ok (.getfield 244, 3) := by decide +kernel
theorem dX11_count_81 : decode cX11_count 81 = .ok (.ireturn, 1) := by decide +kernel
theorem dX11_count_82 : decode cX11_count 82 = .ok (.bipush (-102), 2) := by decide +kernel
theorem dX11_count_84 : decode cX11_count 84 = .ok (.ireturn, 1) := by decide +kernel
theorem dX11_digest_0 : decode cX11_digest 0 = .ok (.aload_n 0, 1) := by decide +kernel
theorem dX11_digest_1 : decode cX11_digest 1 = .ok (.aload_n 0, 1) := by decide +kernel
theorem dX11_digest_2 : decode cX11_digest 2 = .ok (.aload_n 0, 1) := by decide +kernel
theorem dX11_digest_3 : decode cX11_digest 3 = .ok (.ldc2_w 295, 3) := by decide +kernel
theorem dX11_digest_6 : decode cX11_digest 6 = .ok (.invokevirtual 297, 3) := by decide +kernel
theorem dX11_digest_9 : decode cX11_digest 9 = .ok (.invokevirtual 301, 3) := by decide +kernel
theorem dX11_digest_12 : decode cX11_digest 12 = .ok (.invokevirtual 304, 3) := by decide +kernel
theorem dX11_digest_15 : decode cX11_digest 15 = .ok (.lstore_n 1, 1) := by decide +kernel
theorem dX11_digest_16 : decode cX11_digest 16 = .ok (.iconst 0, 1) := by decide +kernel
theorem dX11_digest_17 : decode cX11_digest 17 = .ok (.istore_n 3, 1) := by decide +kernel
theorem dX11_digest_18 : decode cX11_digest 18 = .ok (.iload_n 3, 1) := by decide +kernel
theorem dX11_digest_19 : decode cX11_digest 19 = .ok (.aload_n 0, 1) := by decide +kernel
theorem dX11_digest_20 : decode cX11_digest 20 = .ok (.getfield 10, 3) := by decide +kernel
theorem dX11_digest_23 : decode cX11_digest 23 = .ok (.getfield 63, 3) := by decide +kernel
theorem dX11_digest_26 : decode cX11_digest 26 = .ok (.if_icmp .ge 24, 3) := by decide +kernel
theorem dX11_digest_29 : decode cX11_digest 29 = .ok (.lload_n 1, 1) := by decide +kernel
theorem dX11_digest_30 : decode cX11_digest 30 = .ok (.aload_n 0, 1) := by decide +kernel
theorem dX11_digest_31 : decode cX11_digest 31 = .ok (.getfield 10, 3) := by decide +kernel
theorem dX11_digest_34 : decode cX11_digest 34 = .ok (.getfield 307, 3) := by decide +kernel
theorem dX11_digest_37 : decode cX11_digest 37 = .ok (.iload_n 3, 1) := by decide +kernel
theorem dX11_digest_38 : decode cX11_digest 38 = .ok (.iaload, 1) := by decide +kernel
theorem dX11_digest_39 : decode cX11_digest 39 = .ok (.i2l, 1) := by decide +kernel
theorem dX11_digest_40 : decode cX11_digest 40 = .ok (.invokestatic 310, 3) := by decide +kernel
theorem dX11_digest_43 : decode cX11_digest 43 = .ok (.lstore_n 1, 1) := by decide +kernel
theorem dX11_digest_44 : decode cX11_digest 44 = .ok (.iinc 3 1, 3) := by decide +kernel
theorem dX11_digest_47 : decode cX11_digest 47 = .ok (.goto (-29), 3) := by decide +kernel
theorem dX11_digest_50 : decode cX11_digest 50 = .ok (.iconst 0, 1) := by decide +kernel
theorem dX11_digest_51 : decode cX11_digest 51 = .ok (.istore_n 3, 1) := by decide +kernel
theorem dX11_digest_52 : decode cX11_digest 52 = .ok (.iload_n 3, 1) := by decide +kernel
theorem dX11_digest_53 : decode cX11_digest 53 = .ok (.iconst 5, 1) := by decide +kernel
theorem dX11_digest_54 : decode cX11_digest 54 = .ok (.if_icmp .gt 20, 3) := by decide +kernel
theorem dX11_digest_57 : decode cX11_digest 57 = .ok (.lload_n 1, 1) := by decide +kernel
theorem dX11_digest_58 : decode cX11_digest 58 = .ok (.aload_n 0, 1) := by decide +kernel
theorem dX11_digest_59 : decode cX11_digest 59 = .ok (.iload_n 3, 1) := by decide +kernel
theorem dX11_digest_60 : decode cX11_digest 60 = .ok (.invokevirtual 314, 3) := by decide +kernel
theorem dX11_digest_63 : decode cX11_digest 63 = .ok (.i2l, 1) := by decide +kernel
theorem dX11_digest_64 : decode cX11_digest 64 = .ok (.invokestatic 310, 3) := by decide +kernel
theorem dX11_digest_67 : decode cX11_digest 67 = .ok (.lstore_n 1, 1) := by decide +kernel
theorem dX11_digest_68 : decode cX11_digest 68 = .ok (.iinc 3 1, 3) := by decide +kernel
theorem dX11_digest_71 : decode cX11_digest 71 = .ok (.goto (-19), 3) := by decide +kernel
theorem dX11_digest_74 : decode cX11_digest 74 = .ok (.lload_n 1, 1) := by decide +kernel
theorem dX11_digest_75 : decode cX11_digest 75 = .ok (.lreturn, 1) := by decide +kernel
theorem dX11_withQuestion_0 : decode cX11_withQuestion 0 = .ok (.lload_n 1, 1) := by decide +kernel
theorem dX11_withQuestion_1 : decode cX11_withQuestion 1 = .ok (.lstore_n 3, 1) := by decide +kernel
theorem dX11_withQuestion_2 : decode cX11_withQuestion 2 = .ok (.iconst 0, 1) := by decide +kernel
theorem dX11_withQuestion_3 : decode cX11_withQuestion 3 = .ok (.istore 5, 2) := by decide +kernel
theorem dX11_withQuestion_5 : decode cX11_withQuestion 5 = .ok (.iload 5, 2) := by decide +kernel
theorem dX11_withQuestion_7 : decode cX11_withQuestion 7 = .ok (.aload_n 0, 1) := by decide +kernel
theorem dX11_withQuestion_8 : decode cX11_withQuestion 8 = .ok (.getfield 26, 3) := by decide +kernel
theorem dX11_withQuestion_11 : decode cX11_withQuestion 11 = .ok (.getfield 292, 3) := by decide +kernel
theorem dX11_withQuestion_14 : decode cX11_withQuestion 14 = .ok (.if_icmp .ge 65, 3) := by decide +kernel
theorem dX11_withQuestion_17 : decode cX11_withQuestion 17 = .ok (.lload_n 3, 1) := by decide +kernel
theorem dX11_withQuestion_18 : decode cX11_withQuestion 18 = .ok (.aload_n 0, 1) := by decide +kernel
theorem dX11_withQuestion_19 : decode cX11_withQuestion 19 = .ok (.getfield 26, 3) := by decide +kernel
theorem dX11_withQuestion_22 : decode cX11_withQuestion 22 = .ok (.getfield 94, 3) := by decide +kernel
theorem dX11_withQuestion_25 : decode cX11_withQuestion 25 = .ok (.iload 5, 2) := by decide +kernel
theorem dX11_withQuestion_27 : decode cX11_withQuestion 27 = .ok (.iaload, 1) := by decide +kernel
theorem dX11_withQuestion_28 : decode cX11_withQuestion 28 = .ok (.i2l, 1) := by decide +kernel
theorem dX11_withQuestion_29 : decode cX11_withQuestion 29 = .ok (.invokestatic 310, 3) := by decide +kernel
theorem dX11_withQuestion_32 : decode cX11_withQuestion 32 = .ok (.lstore_n 3, 1) := by decide +kernel
theorem dX11_withQuestion_33 : decode cX11_withQuestion 33 = .ok (.iconst 0, 1) := by decide +kernel
theorem dX11_withQuestion_34 : decode cX11_withQuestion 34 = .ok (.istore 6, 2) := by decide +kernel
theorem dX11_withQuestion_36 : decode cX11_withQuestion 36 = .ok (.iload 6, 2) := by decide +kernel
theorem dX11_withQuestion_38 : decode cX11_withQuestion 38 = .ok (.aload_n 0, 1) := by decide +kernel
theorem dX11_withQuestion_39 : decode cX11_withQuestion 39 = .ok (.getfield 26, 3) := by decide +kernel
theorem dX11_withQuestion_42 : decode cX11_withQuestion 42 = .ok (.getfield 87, 3) := by decide +kernel
theorem dX11_withQuestion_45 : decode cX11_withQuestion 45 = .ok (.if_icmp .ge 28, 3) := by decide +kernel
theorem dX11_withQuestion_48 : decode cX11_withQuestion 48 = .ok (.lload_n 3, 1) := by decide +kernel
theorem dX11_withQuestion_49 : decode cX11_withQuestion 49 = .ok (.aload_n 0, 1) := by decide +kernel
theorem dX11_withQuestion_50 : decode cX11_withQuestion 50 = .ok (.getfield 26, 3) := by decide +kernel
theorem dX11_withQuestion_53 : decode cX11_withQuestion 53 = .ok (.getfield 101, 3) := by decide +kernel
theorem dX11_withQuestion_56 : decode cX11_withQuestion 56 = .ok (.iload 5, 2) := by decide +kernel
theorem dX11_withQuestion_58 : decode cX11_withQuestion 58 = .ok (.aaload, 1) := by decide +kernel
theorem dX11_withQuestion_59 : decode cX11_withQuestion 59 = .ok (.iload 6, 2) := by decide +kernel
theorem dX11_withQuestion_61 : decode cX11_withQuestion 61 = .ok (.iaload, 1) := by decide +kernel
theorem dX11_withQuestion_62 : decode cX11_withQuestion 62 = .ok (.i2l, 1) := by decide +kernel
theorem dX11_withQuestion_63 : decode cX11_withQuestion 63 = .ok (.invokestatic 310, 3) := by decide +kernel
theorem dX11_withQuestion_66 : decode cX11_withQuestion 66 = .ok (.lstore_n 3, 1) := by decide +kernel
theorem dX11_withQuestion_67 : decode cX11_withQuestion 67 = .ok (.iinc 6 1, 3) := by decide +kernel
theorem dX11_withQuestion_70 : decode cX11_withQuestion 70 = .ok (.goto (-34), 3) := by decide +kernel
theorem dX11_withQuestion_73 : decode cX11_withQuestion 73 = .ok (.iinc 5 1, 3) := by decide +kernel
theorem dX11_withQuestion_76 : decode cX11_withQuestion 76 = .ok (.goto (-71), 3) := by decide +kernel
theorem dX11_withQuestion_79 : decode cX11_withQuestion 79 = .ok (.iconst 0, 1) := by decide +kernel
theorem dX11_withQuestion_80 : decode cX11_withQuestion 80 = .ok (.istore 5, 2) := by decide +kernel
theorem dX11_withQuestion_82 : decode cX11_withQuestion 82 = .ok (.iload 5, 2) := by decide +kernel
theorem dX11_withQuestion_84 : decode cX11_withQuestion 84 = .ok (.aload_n 0, 1) := by decide +kernel
theorem dX11_withQuestion_85 : decode cX11_withQuestion 85 = .ok (.getfield 26, 3) := by decide +kernel
theorem dX11_withQuestion_88 : decode cX11_withQuestion 88 = .ok (.getfield 87, 3) := by decide +kernel
theorem dX11_withQuestion_91 : decode cX11_withQuestion 91 = .ok (.if_icmp .ge 25, 3) := by decide +kernel
theorem dX11_withQuestion_94 : decode cX11_withQuestion 94 = .ok (.lload_n 3, 1) := by decide +kernel
theorem dX11_withQuestion_95 : decode cX11_withQuestion 95 = .ok (.aload_n 0, 1) := by decide +kernel
theorem dX11_withQuestion_96 : decode cX11_withQuestion 96 = .ok (.getfield 26, 3) := by decide +kernel
theorem dX11_withQuestion_99 : decode cX11_withQuestion 99 = .ok (.getfield 109, 3) := by decide +kernel
theorem dX11_withQuestion_102 : decode cX11_withQuestion 102 = .ok (.iload 5, 2) := by decide +kernel
theorem dX11_withQuestion_104 : decode cX11_withQuestion 104 = .ok (.iaload, 1) := by decide +kernel
theorem dX11_withQuestion_105 : decode cX11_withQuestion 105 = .ok (.i2l, 1) := by decide +kernel
theorem dX11_withQuestion_106 : decode cX11_withQuestion 106 = .ok (.invokestatic 310, 3) := by decide +kernel
theorem dX11_withQuestion_109 : decode cX11_withQuestion 109 = .ok (.lstore_n 3, 1) := by decide +kernel
theorem dX11_withQuestion_110 : decode cX11_withQuestion 110 = .ok (.iinc 5 1, 3) := by decide +kernel
theorem dX11_withQuestion_113 : decode cX11_withQuestion 113 = .ok (.goto (-31), 3) := by decide +kernel
theorem dX11_withQuestion_116 : decode cX11_withQuestion 116 = .ok (.lload_n 3, 1) := by decide +kernel
theorem dX11_withQuestion_117 : decode cX11_withQuestion 117 = .ok (.lreturn, 1) := by decide +kernel
theorem dX11_withPays_0 : decode cX11_withPays 0 = .ok (.lload_n 1, 1) := by decide +kernel
theorem dX11_withPays_1 : decode cX11_withPays 1 = .ok (.lstore_n 3, 1) := by decide +kernel
theorem dX11_withPays_2 : decode cX11_withPays 2 = .ok (.iconst 0, 1) := by decide +kernel
theorem dX11_withPays_3 : decode cX11_withPays 3 = .ok (.istore 5, 2) := by decide +kernel
theorem dX11_withPays_5 : decode cX11_withPays 5 = .ok (.iload 5, 2) := by decide +kernel
theorem dX11_withPays_7 : decode cX11_withPays 7 = .ok (.aload_n 0, 1) := by decide +kernel
theorem dX11_withPays_8 : decode cX11_withPays 8 = .ok (.getfield 134, 3) := by decide +kernel
theorem dX11_withPays_11 : decode cX11_withPays 11 = .ok (.if_icmp .ge 30, 3) := by decide +kernel
theorem dX11_withPays_14 : decode cX11_withPays 14 = .ok (.aload_n 0, 1) := by decide +kernel
theorem dX11_withPays_15 : decode cX11_withPays 15 = .ok (.iload 5, 2) := by decide +kernel
theorem dX11_withPays_17 : decode cX11_withPays 17 = .ok (.invokevirtual 145, 3) := by decide +kernel
theorem dX11_withPays_20 : decode cX11_withPays 20 = .ok (.astore 6, 2) := by decide +kernel
theorem dX11_withPays_22 : decode cX11_withPays 22 = .ok (.aload 6, 2) := by decide +kernel
theorem dX11_withPays_24 : decode cX11_withPays 24 = .ok (.ifnull 11, 3) := by decide +kernel
theorem dX11_withPays_27 : decode cX11_withPays 27 = .ok (.aload_n 0, 1) := by decide +kernel
theorem dX11_withPays_28 : decode cX11_withPays 28 = .ok (.lload_n 3, 1) := by decide +kernel
theorem dX11_withPays_29 : decode cX11_withPays 29 = .ok (.aload 6, 2) := by decide +kernel
theorem dX11_withPays_31 : decode cX11_withPays 31 = .ok (.invokevirtual 317, 3) := by decide +kernel
theorem dX11_withPays_34 : decode cX11_withPays 34 = .ok (.lstore_n 3, 1) := by decide +kernel
theorem dX11_withPays_35 : decode cX11_withPays 35 = .ok (.iinc 5 1, 3) := by decide +kernel
theorem dX11_withPays_38 : decode cX11_withPays 38 = .ok (.goto (-33), 3) := by decide +kernel
theorem dX11_withPays_41 : decode cX11_withPays 41 = .ok (.lload_n 3, 1) := by decide +kernel
theorem dX11_withPays_42 : decode cX11_withPays 42 = .ok (.lreturn, 1) := by decide +kernel
theorem dX11_withRows_0 : decode cX11_withRows 0 = .ok (.lload_n 1, 1) := by decide +kernel
theorem dX11_withRows_1 : decode cX11_withRows 1 = .ok (.lstore_n 3, 1) := by decide +kernel
theorem dX11_withRows_2 : decode cX11_withRows 2 = .ok (.iconst 0, 1) := by decide +kernel
theorem dX11_withRows_3 : decode cX11_withRows 3 = .ok (.istore 5, 2) := by decide +kernel
theorem dX11_withRows_5 : decode cX11_withRows 5 = .ok (.iload 5, 2) := by decide +kernel
theorem dX11_withRows_7 : decode cX11_withRows 7 = .ok (.aload_n 0, 1) := by decide +kernel
theorem dX11_withRows_8 : decode cX11_withRows 8 = .ok (.getfield 55, 3) := by decide +kernel
theorem dX11_withRows_11 : decode cX11_withRows 11 = .ok (.getfield 83, 3) := by decide +kernel
theorem dX11_withRows_14 : decode cX11_withRows 14 = .ok (.if_icmp .ge 84, 3) := by decide +kernel
theorem dX11_withRows_17 : decode cX11_withRows 17 = .ok (.lload_n 3, 1) := by decide +kernel
theorem dX11_withRows_18 : decode cX11_withRows 18 = .ok (.aload_n 0, 1) := by decide +kernel
theorem dX11_withRows_19 : decode cX11_withRows 19 = .ok (.getfield 55, 3) := by decide +kernel
theorem dX11_withRows_22 : decode cX11_withRows 22 = .ok (.getfield 321, 3) := by decide +kernel
theorem dX11_withRows_25 : decode cX11_withRows 25 = .ok (.iload 5, 2) := by decide +kernel
theorem dX11_withRows_27 : decode cX11_withRows 27 = .ok (.iaload, 1) := by decide +kernel
theorem dX11_withRows_28 : decode cX11_withRows 28 = .ok (.i2l, 1) := by decide +kernel
theorem dX11_withRows_29 : decode cX11_withRows 29 = .ok (.invokestatic 310, 3) := by decide +kernel
theorem dX11_withRows_32 : decode cX11_withRows 32 = .ok (.lstore_n 3, 1) := by decide +kernel
theorem dX11_withRows_33 : decode cX11_withRows 33 = .ok (.lload_n 3, 1) := by decide +kernel
theorem dX11_withRows_34 : decode cX11_withRows 34 = .ok (.aload_n 0, 1) := by decide +kernel
theorem dX11_withRows_35 : decode cX11_withRows 35 = .ok (.getfield 55, 3) := by decide +kernel
theorem dX11_withRows_38 : decode cX11_withRows 38 = .ok (.getfield 324, 3) := by decide +kernel
theorem dX11_withRows_41 : decode cX11_withRows 41 = .ok (.iload 5, 2) := by decide +kernel
theorem dX11_withRows_43 : decode cX11_withRows 43 = .ok (.laload, 1) := by decide +kernel
theorem dX11_withRows_44 : decode cX11_withRows 44 = .ok (.invokestatic 310, 3) := by decide +kernel
theorem dX11_withRows_47 : decode cX11_withRows 47 = .ok (.lstore_n 3, 1) := by decide +kernel
theorem dX11_withRows_48 : decode cX11_withRows 48 = .ok (.lload_n 3, 1) := by decide +kernel
theorem dX11_withRows_49 : decode cX11_withRows 49 = .ok (.aload_n 0, 1) := by decide +kernel
theorem dX11_withRows_50 : decode cX11_withRows 50 = .ok (.getfield 55, 3) := by decide +kernel
theorem dX11_withRows_53 : decode cX11_withRows 53 = .ok (.iload 5, 2) := by decide +kernel
theorem dX11_withRows_55 : decode cX11_withRows 55 = .ok (.aload_n 0, 1) := by decide +kernel
theorem dX11_withRows_56 : decode cX11_withRows 56 = .ok (.getfield 26, 3) := by decide +kernel
theorem dX11_withRows_59 : decode cX11_withRows 59 = .ok (.getfield 87, 3) := by decide +kernel
theorem dX11_withRows_62 : decode cX11_withRows 62 = .ok (.invokevirtual 286, 3) := by decide +kernel
theorem dX11_withRows_65 : decode cX11_withRows 65 = .ok (.i2l, 1) := by decide +kernel
theorem dX11_withRows_66 : decode cX11_withRows 66 = .ok (.invokestatic 310, 3) := by decide +kernel
theorem dX11_withRows_69 : decode cX11_withRows 69 = .ok (.lstore_n 3, 1) := by decide +kernel
theorem dX11_withRows_70 : decode cX11_withRows 70 = .ok (.lload_n 3, 1) := by decide +kernel
theorem dX11_withRows_71 : decode cX11_withRows 71 = .ok (.aload_n 0, 1) := by decide +kernel
theorem dX11_withRows_72 : decode cX11_withRows 72 = .ok (.getfield 55, 3) := by decide +kernel
theorem dX11_withRows_75 : decode cX11_withRows 75 = .ok (.iload 5, 2) := by decide +kernel
theorem dX11_withRows_77 : decode cX11_withRows 77 = .ok (.aload_n 0, 1) := by decide +kernel
theorem dX11_withRows_78 : decode cX11_withRows 78 = .ok (.getfield 26, 3) := by decide +kernel
theorem dX11_withRows_81 : decode cX11_withRows 81 = .ok (.getfield 87, 3) := by decide +kernel
theorem dX11_withRows_84 : decode cX11_withRows 84 = .ok (.invokevirtual 289, 3) := by decide +kernel
theorem dX11_withRows_87 : decode cX11_withRows 87 = .ok (.i2l, 1) := by decide +kernel
theorem dX11_withRows_88 : decode cX11_withRows 88 = .ok (.invokestatic 310, 3) := by decide +kernel
theorem dX11_withRows_91 : decode cX11_withRows 91 = .ok (.lstore_n 3, 1) := by decide +kernel
theorem dX11_withRows_92 : decode cX11_withRows 92 = .ok (.iinc 5 1, 3) := by decide +kernel
theorem dX11_withRows_95 : decode cX11_withRows 95 = .ok (.goto (-90), 3) := by decide +kernel
theorem dX11_withRows_98 : decode cX11_withRows 98 = .ok (.lload_n 3, 1) := by decide +kernel
theorem dX11_withRows_99 : decode cX11_withRows 99 = .ok (.lreturn, 1) := by decide +kernel
theorem dX11_mixed_0 : decode cX11_mixed 0 = .ok (.ldc2_w 328, 3) := by decide +kernel
theorem dX11_mixed_3 : decode cX11_mixed 3 = .ok (.lload_n 0, 1) := by decide +kernel
theorem dX11_mixed_4 : decode cX11_mixed 4 = .ok (.lmul, 1) := by decide +kernel
theorem dX11_mixed_5 : decode cX11_mixed 5 = .ok (.lload_n 2, 1) := by decide +kernel
theorem dX11_mixed_6 : decode cX11_mixed 6 = .ok (.ladd, 1) := by decide +kernel
theorem dX11_mixed_7 : decode cX11_mixed 7 = .ok (.lreturn, 1) := by decide +kernel
theorem dX11_payOf_0 : decode cX11_payOf 0 = .ok (.iload_n 1, 1) := by decide +kernel
theorem dX11_payOf_1 : decode cX11_payOf 1 = .ok (.iconst 0, 1) := by decide +kernel
theorem dX11_payOf_2 : decode cX11_payOf 2 = .ok (.aload_n 0, 1) := by decide +kernel
theorem dX11_payOf_3 : decode cX11_payOf 3 = .ok (.getfield 134, 3) := by decide +kernel
theorem dX11_payOf_6 : decode cX11_payOf 6 = .ok (.iconst 1, 1) := by decide +kernel
theorem dX11_payOf_7 : decode cX11_payOf 7 = .ok (.isub, 1) := by decide +kernel
theorem dX11_payOf_8 : decode cX11_payOf 8 = .ok (.invokestatic 105, 3) := by decide +kernel
theorem dX11_payOf_11 : decode cX11_payOf 11 = .ok (.ifCond .eq 12, 3) := by decide +kernel
theorem dX11_payOf_14 : decode cX11_payOf 14 = .ok (.aload_n 0, 1) := by decide +kernel
theorem dX11_payOf_15 : decode cX11_payOf 15 = .ok (.getfield 32, 3) := by decide +kernel
theorem dX11_payOf_18 : decode cX11_payOf 18 = .ok (.iload_n 1, 1) := by decide +kernel
theorem dX11_payOf_19 : decode cX11_payOf 19 = .ok (.aaload, 1) := by decide +kernel
theorem dX11_payOf_20 : decode cX11_payOf 20 = .ok (.goto 4, 3) := by decide +kernel
theorem dX11_payOf_23 : decode cX11_payOf 23 = .ok (.aconst_null, 1) := by decide +kernel
theorem dX11_payOf_24 : decode cX11_payOf 24 = .ok (.areturn, 1) := by decide +kernel
theorem dX11_refusalOf_0 : decode cX11_refusalOf 0 = .ok (.aload_n 1, 1) := by decide +kernel
theorem dX11_refusalOf_1 : decode cX11_refusalOf 1 = .ok (.ifnonnull 6, 3) := by decide +kernel
theorem dX11_refusalOf_4 : decode cX11_refusalOf 4 = .ok (.bipush (-101), 2) := by decide +kernel
theorem dX11_refusalOf_6 : decode cX11_refusalOf 6 = .ok (.ireturn, 1) := by decide +kernel
theorem dX11_refusalOf_7 : decode cX11_refusalOf 7 = .ok (.aload_n 0, 1) := by decide +kernel
theorem dX11_refusalOf_8 : decode cX11_refusalOf 8 = .ok (.getfield 26, 3) := by decide +kernel
theorem dX11_refusalOf_11 : decode cX11_refusalOf 11 = .ok (.invokevirtual 204, 3) := by decide +kernel
theorem dX11_refusalOf_14 : decode cX11_refusalOf 14 = .ok (.ifCond .ne 6, 3) := by decide +kernel
theorem dX11_refusalOf_17 : decode cX11_refusalOf 17 = .ok (.bipush (-103), 2) := by decide +kernel
theorem dX11_refusalOf_19 : decode cX11_refusalOf 19 = .ok (.ireturn, 1) := by decide +kernel
theorem dX11_refusalOf_20 : decode cX11_refusalOf 20 = .ok (.aload_n 0, 1) := by decide +kernel
theorem dX11_refusalOf_21 : decode cX11_refusalOf 21 = .ok (.getfield 26, 3) := by decide +kernel
theorem dX11_refusalOf_24 : decode cX11_refusalOf 24 = .ok (.iload_n 2, 1) := by decide +kernel
theorem dX11_refusalOf_25 : decode cX11_refusalOf 25 = .ok (.invokevirtual 174, 3) := by decide +kernel
theorem dX11_refusalOf_28 : decode cX11_refusalOf 28 = .ok (.ifCond .eq 17, 3) := by decide +kernel
theorem dX11_refusalOf_31 : decode cX11_refusalOf 31 = .ok (.iload_n 3, 1) := by decide +kernel
theorem dX11_refusalOf_32 : decode cX11_refusalOf 32 = .ok (.iconst 0, 1) := by decide +kernel
theorem dX11_refusalOf_33 : decode cX11_refusalOf 33 = .ok (.iload 4, 2) := by decide +kernel
theorem dX11_refusalOf_35 : decode cX11_refusalOf 35 = .ok (.invokestatic 105, 3) := by decide +kernel
theorem dX11_refusalOf_38 : decode cX11_refusalOf 38 = .ok (.ifCond .eq 7, 3) := by decide +kernel
theorem dX11_refusalOf_41 : decode cX11_refusalOf 41 = .ok (.iconst 0, 1) := by decide +kernel
theorem dX11_refusalOf_42 : decode cX11_refusalOf 42 = .ok (.goto 5, 3) := by decide +kernel
theorem dX11_refusalOf_45 : decode cX11_refusalOf 45 = .ok (.bipush (-102), 2) := by decide +kernel
theorem dX11_refusalOf_47 : decode cX11_refusalOf 47 = .ok (.ireturn, 1) := by decide +kernel
theorem dX11_isWithin_0 : decode cX11_isWithin 0 = .ok (.iload_n 0, 1) := by decide +kernel
theorem dX11_isWithin_1 : decode cX11_isWithin 1 = .ok (.iload_n 1, 1) := by decide +kernel
theorem dX11_isWithin_2 : decode cX11_isWithin 2 = .ok (.if_icmp .lt 12, 3) := by decide +kernel
theorem dX11_isWithin_5 : decode cX11_isWithin 5 = .ok (.iload_n 0, 1) := by decide +kernel
theorem dX11_isWithin_6 : decode cX11_isWithin 6 = .ok (.iload_n 2, 1) := by decide +kernel
theorem dX11_isWithin_7 : decode cX11_isWithin 7 = .ok (.if_icmp .gt 7, 3) := by decide +kernel
theorem dX11_isWithin_10 : decode cX11_isWithin 10 = .ok (.iconst 1, 1) := by decide +kernel
theorem dX11_isWithin_11 : decode cX11_isWithin 11 = .ok (.goto 4, 3) := by decide +kernel
theorem dX11_isWithin_14 : decode cX11_isWithin 14 = .ok (.iconst 0, 1) := by decide +kernel
theorem dX11_isWithin_15 : decode cX11_isWithin 15 = .ok (.ireturn, 1) := by decide +kernel
theorem dX12_in_0 : decode cX12_in 0 = .ok (.lload_n 0, 1) := by decide +kernel
theorem dX12_in_1 : decode cX12_in 1 = .ok (.lload_n 2, 1) := by decide +kernel
theorem dX12_in_2 : decode cX12_in 2 = .ok (.lcmp, 1) := by decide +kernel
theorem dX12_in_3 : decode cX12_in 3 = .ok (.ifCond .lt 14, 3) := by decide +kernel
theorem dX12_in_6 : decode cX12_in 6 = .ok (.lload_n 0, 1) := by decide +kernel
theorem dX12_in_7 : decode cX12_in 7 = .ok (.lload 4, 2) := by decide +kernel
theorem dX12_in_9 : decode cX12_in 9 = .ok (.lcmp, 1) := by decide +kernel
theorem dX12_in_10 : decode cX12_in 10 = .ok (.ifCond .gt 7, 3) := by decide +kernel
theorem dX12_in_13 : decode cX12_in 13 = .ok (.iconst 1, 1) := by decide +kernel
theorem dX12_in_14 : decode cX12_in 14 = .ok (.goto 4, 3) := by decide +kernel
theorem dX12_in_17 : decode cX12_in 17 = .ok (.iconst 0, 1) := by decide +kernel
theorem dX12_in_18 : decode cX12_in 18 = .ok (.ireturn, 1) := by decide +kernel
