theorem dX0_init_0 : decode cX0_init 0 = .ok (.aload_n 0, 1) := by decide +kernel
theorem dX0_init_1 : decode cX0_init 1 = .ok (.invokespecial 3, 3) := by decide +kernel
theorem dX0_init_4 : decode cX0_init 4 = .ok (.aload_n 0, 1) := by decide +kernel
theorem dX0_init_5 : decode cX0_init 5 = .ok (.bipush 64, 2) := by decide +kernel
theorem dX0_init_7 : decode cX0_init 7 = .ok (.newarray .int, 2) := by decide +kernel
theorem dX0_init_9 : decode cX0_init 9 = .ok (.putfield 11, 3) := by decide +kernel
theorem dX0_init_12 : decode cX0_init 12 = .ok (.aload_n 0, 1) := by decide +kernel
theorem dX0_init_13 : decode cX0_init 13 = .ok (.iconst 0, 1) := by decide +kernel
theorem dX0_init_14 : decode cX0_init 14 = .ok (.putfield 15, 3) := by decide +kernel
theorem dX0_init_17 : decode cX0_init 17 = .ok (.aload_n 0, 1) := by decide +kernel
theorem dX0_init_18 : decode cX0_init 18 = .ok (.iconst 0, 1) := by decide +kernel
theorem dX0_init_19 : decode cX0_init 19 = .ok (.putfield 19, 3) := by decide +kernel
theorem dX0_init_22 : decode cX0_init 22 = .ok (.aload_n 0, 1) := by decide +kernel
theorem dX0_init_23 : decode cX0_init 23 = .ok (.iconst 0, 1) := by decide +kernel
theorem dX0_init_24 : decode cX0_init 24 = .ok (.putfield 22, 3) := by decide +kernel
theorem dX0_init_27 : decode cX0_init 27 = .ok (.aload_n 0, 1) := by decide +kernel
theorem dX0_init_28 : decode cX0_init 28 = .ok (.iconst 0, 1) := by decide +kernel
theorem dX0_init_29 : decode cX0_init 29 = .ok (.putfield 25, 3) := by decide +kernel
theorem dX0_init_32 : decode cX0_init 32 = .ok (.aload_n 0, 1) := by decide +kernel
theorem dX0_init_33 : decode cX0_init 33 = .ok (.iconst 0, 1) := by decide +kernel
theorem dX0_init_34 : decode cX0_init 34 = .ok (.putfield 28, 3) := by decide +kernel
theorem dX0_init_37 : decode cX0_init 37 = .ok (.aload_n 0, 1) := by decide +kernel
theorem dX0_init_38 : decode cX0_init 38 = .ok (.aload_n 1, 1) := by decide +kernel
theorem dX0_init_39 : decode cX0_init 39 = .ok (.putfield 31, 3) := by decide +kernel
theorem dX0_init_42 : decode cX0_init 42 = .ok (.aload_n 0, 1) := by decide +kernel
theorem dX0_init_43 : decode cX0_init 43 = .ok (.aload_n 2, 1) := by decide +kernel
theorem dX0_init_44 : decode cX0_init 44 = .ok (.putfield 35, 3) := by decide +kernel
theorem dX0_init_47 : decode cX0_init 47 = .ok (.aload_n 0, 1) := by decide +kernel
theorem dX0_init_48 : decode cX0_init 48 = .ok (.aload_n 1, 1) := by decide +kernel
theorem dX0_init_49 : decode cX0_init 49 = .ok (.getfield 39, 3) := by decide +kernel
theorem dX0_init_52 : decode cX0_init 52 = .ok (.putfield 45, 3) := by decide +kernel
theorem dX0_init_55 : decode cX0_init 55 = .ok (.return_, 1) := by decide +kernel
theorem dX0_oddsOf_0 : decode cX0_oddsOf 0 = .ok (.aload_n 0, 1) := by decide +kernel
theorem dX0_oddsOf_1 : decode cX0_oddsOf 1 = .ok (.iload_n 2, 1) := by decide +kernel
theorem dX0_oddsOf_2 : decode cX0_oddsOf 2 = .ok (.invokevirtual 46, 3) := by decide +kernel
theorem dX0_oddsOf_5 : decode cX0_oddsOf 5 = .ok (.astore 6, 2) := by decide +kernel
theorem dX0_oddsOf_7 : decode cX0_oddsOf 7 = .ok (.aload 6, 2) := by decide +kernel
theorem dX0_oddsOf_9 : decode cX0_oddsOf 9 = .ok (.ifnull 22, 3) := by decide +kernel
theorem dX0_oddsOf_12 : decode cX0_oddsOf 12 = .ok (.aload 6, 2) := by decide +kernel
theorem dX0_oddsOf_14 : decode cX0_oddsOf 14 = .ok (.getfield 50, 3) := by decide +kernel
theorem dX0_oddsOf_17 : decode cX0_oddsOf 17 = .ok (.ifnull 14, 3) := by decide +kernel
theorem dX0_oddsOf_20 : decode cX0_oddsOf 20 = .ok (.aload_n 0, 1) := by decide +kernel
theorem dX0_oddsOf_21 : decode cX0_oddsOf 21 = .ok (.getfield 31, 3) := by decide +kernel
theorem dX0_oddsOf_24 : decode cX0_oddsOf 24 = .ok (.iload_n 3, 1) := by decide +kernel
theorem dX0_oddsOf_25 : decode cX0_oddsOf 25 = .ok (.invokevirtual 55, 3) := by decide +kernel
theorem dX0_oddsOf_28 : decode cX0_oddsOf 28 = .ok (.ifCond .ne 5, 3) := by decide +kernel
theorem dX0_oddsOf_31 : decode cX0_oddsOf 31 = .ok (.iconst 1, 1) := by decide +kernel
theorem dX0_oddsOf_32 : decode cX0_oddsOf 32 = .ok (.ireturn, 1) := by decide +kernel
theorem dX0_oddsOf_33 : decode cX0_oddsOf 33 = .ok (.aload_n 0, 1) := by decide +kernel
theorem dX0_oddsOf_34 : decode cX0_oddsOf 34 = .ok (.aload_n 1, 1) := by decide +kernel
theorem dX0_oddsOf_35 : decode cX0_oddsOf 35 = .ok (.putfield 45, 3) := by decide +kernel
theorem dX0_oddsOf_38 : decode cX0_oddsOf 38 = .ok (.aload_n 0, 1) := by decide +kernel
theorem dX0_oddsOf_39 : decode cX0_oddsOf 39 = .ok (.iload 4, 2) := by decide +kernel
theorem dX0_oddsOf_41 : decode cX0_oddsOf 41 = .ok (.putfield 15, 3) := by decide +kernel
theorem dX0_oddsOf_44 : decode cX0_oddsOf 44 = .ok (.aload_n 0, 1) := by decide +kernel
theorem dX0_oddsOf_45 : decode cX0_oddsOf 45 = .ok (.iload 5, 2) := by decide +kernel
theorem dX0_oddsOf_47 : decode cX0_oddsOf 47 = .ok (.putfield 19, 3) := by decide +kernel
theorem dX0_oddsOf_50 : decode cX0_oddsOf 50 = .ok (.aload_n 0, 1) := by decide +kernel
theorem dX0_oddsOf_51 : decode cX0_oddsOf 51 = .ok (.iload_n 3, 1) := by decide +kernel
theorem dX0_oddsOf_52 : decode cX0_oddsOf 52 = .ok (.putfield 22, 3) := by decide +kernel
theorem dX0_oddsOf_55 : decode cX0_oddsOf 55 = .ok (.aload_n 0, 1) := by decide +kernel
theorem dX0_oddsOf_56 : decode cX0_oddsOf 56 = .ok (.aload_n 0, 1) := by decide +kernel
theorem dX0_oddsOf_57 : decode cX0_oddsOf 57 = .ok (.getfield 31, 3) := by decide +kernel
theorem dX0_oddsOf_60 : decode cX0_oddsOf 60 = .ok (.getfield 59, 3) := by decide +kernel
theorem dX0_oddsOf_63 : decode cX0_oddsOf 63 = .ok (.iload_n 3, 1) := by decide +kernel
theorem dX0_oddsOf_64 : decode cX0_oddsOf 64 = .ok (.iaload, 1) := by decide +kernel
theorem dX0_oddsOf_65 : decode cX0_oddsOf 65 = .ok (.putfield 25, 3) := by decide +kernel
theorem dX0_oddsOf_68 : decode cX0_oddsOf 68 = .ok (.aload_n 0, 1) := by decide +kernel
theorem dX0_oddsOf_69 : decode cX0_oddsOf 69 = .ok (.aload_n 0, 1) := by decide +kernel
theorem dX0_oddsOf_70 : decode cX0_oddsOf 70 = .ok (.getfield 31, 3) := by decide +kernel
theorem dX0_oddsOf_73 : decode cX0_oddsOf 73 = .ok (.getfield 62, 3) := by decide +kernel
theorem dX0_oddsOf_76 : decode cX0_oddsOf 76 = .ok (.iload_n 3, 1) := by decide +kernel
theorem dX0_oddsOf_77 : decode cX0_oddsOf 77 = .ok (.iaload, 1) := by decide +kernel
theorem dX0_oddsOf_78 : decode cX0_oddsOf 78 = .ok (.putfield 28, 3) := by decide +kernel
theorem dX0_oddsOf_81 : decode cX0_oddsOf 81 = .ok (.aload_n 0, 1) := by decide +kernel
theorem dX0_oddsOf_82 : decode cX0_oddsOf 82 = .ok (.aload 6, 2) := by decide +kernel
theorem dX0_oddsOf_84 : decode cX0_oddsOf 84 = .ok (.getfield 50, 3) := by decide +kernel
theorem dX0_oddsOf_87 : decode cX0_oddsOf 87 = .ok (.invokevirtual 65, 3) := by decide +kernel
theorem dX0_oddsOf_90 : decode cX0_oddsOf 90 = .ok (.iconst 0, 1) := by decide +kernel
theorem dX0_oddsOf_91 : decode cX0_oddsOf 91 = .ok (.invokestatic 69, 3) := by decide +kernel
theorem dX0_oddsOf_94 : decode cX0_oddsOf 94 = .ok (.bipush 10, 2) := by decide +kernel
theorem dX0_oddsOf_96 : decode cX0_oddsOf 96 = .ok (.invokestatic 75, 3) := by decide +kernel
theorem dX0_oddsOf_99 : decode cX0_oddsOf 99 = .ok (.ireturn, 1) := by decide +kernel
theorem dX0_paintsOf_0 : decode cX0_paintsOf 0 = .ok (.aload_n 0, 1) := by decide +kernel
theorem dX0_paintsOf_1 : decode cX0_paintsOf 1 = .ok (.aload_n 0, 1) := by decide +kernel
theorem dX0_paintsOf_2 : decode cX0_paintsOf 2 = .ok (.getfield 31, 3) := by decide +kernel
theorem dX0_paintsOf_5 : decode cX0_paintsOf 5 = .ok (.getfield 78, 3) := by decide +kernel
theorem dX0_paintsOf_8 : decode cX0_paintsOf 8 = .ok (.invokevirtual 46, 3) := by decide +kernel
theorem dX0_paintsOf_11 : decode cX0_paintsOf 11 = .ok (.astore_n 3, 1) := by decide +kernel
theorem dX0_paintsOf_12 : decode cX0_paintsOf 12 = .ok (.aload_n 3, 1) := by decide +kernel
theorem dX0_paintsOf_13 : decode cX0_paintsOf 13 = .ok (.ifnull 10, 3) := by decide +kernel
theorem dX0_paintsOf_16 : decode cX0_paintsOf 16 = .ok (.aload_n 3, 1) := by decide +kernel
theorem dX0_paintsOf_17 : decode cX0_paintsOf 17 = .ok (.getfield 81, 3) := by decide +kernel
theorem dX0_paintsOf_20 : decode cX0_paintsOf 20 = .ok (.ifnonnull 5, 3) := by decide +kernel
theorem dX0_paintsOf_23 : decode cX0_paintsOf 23 = .ok (.iconst 1, 1) := by decide +kernel
theorem dX0_paintsOf_24 : decode cX0_paintsOf 24 = .ok (.ireturn, 1) := by decide +kernel
theorem dX0_paintsOf_25 : decode cX0_paintsOf 25 = .ok (.aload_n 0, 1) := by decide +kernel
theorem dX0_paintsOf_26 : decode cX0_paintsOf 26 = .ok (.aload_n 1, 1) := by decide +kernel
theorem dX0_paintsOf_27 : decode cX0_paintsOf 27 = .ok (.putfield 45, 3) := by decide +kernel
theorem dX0_paintsOf_30 : decode cX0_paintsOf 30 = .ok (.aload_n 0, 1) := by decide +kernel
theorem dX0_paintsOf_31 : decode cX0_paintsOf 31 = .ok (.iload_n 2, 1) := by decide +kernel
theorem dX0_paintsOf_32 : decode cX0_paintsOf 32 = .ok (.putfield 15, 3) := by decide +kernel
theorem dX0_paintsOf_35 : decode cX0_paintsOf 35 = .ok (.aload_n 0, 1) := by decide +kernel
theorem dX0_paintsOf_36 : decode cX0_paintsOf 36 = .ok (.aload_n 3, 1) := by decide +kernel
theorem dX0_paintsOf_37 : decode cX0_paintsOf 37 = .ok (.getfield 81, 3) := by decide +kernel
theorem dX0_paintsOf_40 : decode cX0_paintsOf 40 = .ok (.invokevirtual 65, 3) := by decide +kernel
theorem dX0_paintsOf_43 : decode cX0_paintsOf 43 = .ok (.iconst 0, 1) := by decide +kernel
theorem dX0_paintsOf_44 : decode cX0_paintsOf 44 = .ok (.invokestatic 69, 3) := by decide +kernel
theorem dX0_paintsOf_47 : decode cX0_paintsOf 47 = .ok (.bipush 9, 2) := by decide +kernel
theorem dX0_paintsOf_49 : decode cX0_paintsOf 49 = .ok (.invokestatic 75, 3) := by decide +kernel
theorem dX0_paintsOf_52 : decode cX0_paintsOf 52 = .ok (.ireturn, 1) := by decide +kernel
theorem dX0_allSaidBy_0 : decode cX0_allSaidBy 0 = .ok (.aload_n 0, 1) := by decide +kernel
theorem dX0_allSaidBy_1 : decode cX0_allSaidBy 1 = .ok (.getfield 31, 3) := by decide +kernel
theorem dX0_allSaidBy_4 : decode cX0_allSaidBy 4 = .ok (.getfield 84, 3) := by decide +kernel
theorem dX0_allSaidBy_7 : decode cX0_allSaidBy 7 = .ok (.astore_n 2, 1) := by decide +kernel
theorem dX0_allSaidBy_8 : decode cX0_allSaidBy 8 = .ok (.iconst 0, 1) := by decide +kernel
theorem dX0_allSaidBy_9 : decode cX0_allSaidBy 9 = .ok (.istore_n 3, 1) := by decide +kernel
theorem dX0_allSaidBy_10 : decode cX0_allSaidBy 10 = .ok (.iload_n 3, 1) := by decide +kernel
theorem dX0_allSaidBy_11 : decode cX0_allSaidBy 11 = .ok (.aload_n 2, 1) := by decide +kernel
theorem dX0_allSaidBy_12 : decode cX0_allSaidBy 12 = .ok (.getfield 88, 3) := by decide +kernel
theorem dX0_allSaidBy_15 : decode cX0_allSaidBy 15 = .ok (.if_icmp .ge 45, 3) := by decide +kernel
theorem dX0_allSaidBy_18 : decode cX0_allSaidBy 18 = .ok (.aload_n 0, 1) := by decide +kernel
theorem dX0_allSaidBy_19 : decode cX0_allSaidBy 19 = .ok (.aload_n 0, 1) := by decide +kernel
theorem dX0_allSaidBy_20 : decode cX0_allSaidBy 20 = .ok (.getfield 31, 3) := by decide +kernel
theorem dX0_allSaidBy_23 : decode cX0_allSaidBy 23 = .ok (.getfield 39, 3) := by decide +kernel
theorem dX0_allSaidBy_26 : decode cX0_allSaidBy 26 = .ok (.iload_n 1, 1) := by decide +kernel
theorem dX0_allSaidBy_27 : decode cX0_allSaidBy 27 = .ok (.aload_n 2, 1) := by decide +kernel
theorem dX0_allSaidBy_28 : decode cX0_allSaidBy 28 = .ok (.iload_n 3, 1) := by decide +kernel
theorem dX0_allSaidBy_29 : decode cX0_allSaidBy 29 = .ok (.iconst 0, 1) := by decide +kernel
theorem dX0_allSaidBy_30 : decode cX0_allSaidBy 30 = .ok (.invokevirtual 93, 3) := by decide +kernel
theorem dX0_allSaidBy_33 : decode cX0_allSaidBy 33 = .ok (.aload_n 2, 1) := by decide +kernel
theorem dX0_allSaidBy_34 : decode cX0_allSaidBy 34 = .ok (.iload_n 3, 1) := by decide +kernel
theorem dX0_allSaidBy_35 : decode cX0_allSaidBy 35 = .ok (.iconst 1, 1) := by decide +kernel
theorem dX0_allSaidBy_36 : decode cX0_allSaidBy 36 = .ok (.invokevirtual 93, 3) := by decide +kernel
theorem dX0_allSaidBy_39 : decode cX0_allSaidBy 39 = .ok (.iconst 1, 1) := by decide +kernel
theorem dX0_allSaidBy_40 : decode cX0_allSaidBy 40 = .ok (.invokevirtual 96, 3) := by decide +kernel
theorem dX0_allSaidBy_43 : decode cX0_allSaidBy 43 = .ok (.aload_n 2, 1) := by decide +kernel
theorem dX0_allSaidBy_44 : decode cX0_allSaidBy 44 = .ok (.iload_n 3, 1) := by decide +kernel
theorem dX0_allSaidBy_45 : decode cX0_allSaidBy 45 = .ok (.iconst 2, 1) := by decide +kernel
theorem dX0_allSaidBy_46 : decode cX0_allSaidBy 46 = .ok (.invokevirtual 93, 3) := by decide +kernel
theorem dX0_allSaidBy_49 : decode cX0_allSaidBy 49 = .ok (.if_icmp .eq 5, 3) := by decide +kernel
theorem dX0_allSaidBy_52 : decode cX0_allSaidBy 52 = .ok (.iconst 0, 1) := by decide +kernel
theorem dX0_allSaidBy_53 : decode cX0_allSaidBy 53 = .ok (.ireturn, 1) := by decide +kernel
theorem dX0_allSaidBy_54 : decode cX0_allSaidBy 54 = .ok (.iinc 3 1, 3) := by decide +kernel
theorem dX0_allSaidBy_57 : decode cX0_allSaidBy 57 = .ok (.goto (-47), 3) := by decide +kernel
theorem dX0_allSaidBy_60 : decode cX0_allSaidBy 60 = .ok (.iconst 1, 1) := by decide +kernel
theorem dX0_allSaidBy_61 : decode cX0_allSaidBy 61 = .ok (.ireturn, 1) := by decide +kernel
theorem dX0_textOf_0 : decode cX0_textOf 0 = .ok (.aload_n 0, 1) := by decide +kernel
theorem dX0_textOf_1 : decode cX0_textOf 1 = .ok (.getfield 31, 3) := by decide +kernel
theorem dX0_textOf_4 : decode cX0_textOf 4 = .ok (.iload_n 1, 1) := by decide +kernel
theorem dX0_textOf_5 : decode cX0_textOf 5 = .ok (.invokevirtual 100, 3) := by decide +kernel
theorem dX0_textOf_8 : decode cX0_textOf 8 = .ok (.ifCond .eq 21, 3) := by decide +kernel
theorem dX0_textOf_11 : decode cX0_textOf 11 = .ok (.iload_n 1, 1) := by decide +kernel
theorem dX0_textOf_12 : decode cX0_textOf 12 = .ok (.aload_n 0, 1) := by decide +kernel
theorem dX0_textOf_13 : decode cX0_textOf 13 = .ok (.getfield 35, 3) := by decide +kernel
theorem dX0_textOf_16 : decode cX0_textOf 16 = .ok (.arraylength, 1) := by decide +kernel
theorem dX0_textOf_17 : decode cX0_textOf 17 = .ok (.if_icmp .ge 12, 3) := by decide +kernel
theorem dX0_textOf_20 : decode cX0_textOf 20 = .ok (.aload_n 0, 1) := by decide +kernel
theorem dX0_textOf_21 : decode cX0_textOf 21 = .ok (.getfield 35, 3) := by decide +kernel
theorem dX0_textOf_24 : decode cX0_textOf 24 = .ok (.iload_n 1, 1) := by decide +kernel
theorem dX0_textOf_25 : decode cX0_textOf 25 = .ok (.aaload, 1) := by decide +kernel
theorem dX0_textOf_26 : decode cX0_textOf 26 = .ok (.goto 4, 3) := by decide +kernel
theorem dX0_textOf_29 : decode cX0_textOf 29 = .ok (.aconst_null, 1) := by decide +kernel
theorem dX0_textOf_30 : decode cX0_textOf 30 = .ok (.areturn, 1) := by decide +kernel
theorem dX0_valueOf_0 : decode cX0_valueOf 0 = .ok (.iconst 0, 1) := by decide +kernel
theorem dX0_valueOf_1 : decode cX0_valueOf 1 = .ok (.istore_n 2, 1) := by decide +kernel
theorem dX0_valueOf_2 : decode cX0_valueOf 2 = .ok (.iconst 0, 1) := by decide +kernel
theorem dX0_valueOf_3 : decode cX0_valueOf 3 = .ok (.istore_n 3, 1) := by decide +kernel
theorem dX0_valueOf_4 : decode cX0_valueOf 4 = .ok (.iload_n 3, 1) := by decide +kernel
theorem dX0_valueOf_5 : decode cX0_valueOf 5 = .ok (.iconst 1, 1) := by decide +kernel
theorem dX0_valueOf_6 : decode cX0_valueOf 6 = .ok (.iadd, 1) := by decide +kernel
theorem dX0_valueOf_7 : decode cX0_valueOf 7 = .ok (.aload_n 1, 1) := by decide +kernel
theorem dX0_valueOf_8 : decode cX0_valueOf 8 = .ok (.arraylength, 1) := by decide +kernel
theorem dX0_valueOf_9 : decode cX0_valueOf 9 = .ok (.if_icmp .ge 196, 3) := by decide +kernel
theorem dX0_valueOf_12 : decode cX0_valueOf 12 = .ok (.aload_n 1, 1) := by decide +kernel
theorem dX0_valueOf_13 : decode cX0_valueOf 13 = .ok (.iload_n 3, 1) := by decide +kernel
theorem dX0_valueOf_14 : decode cX0_valueOf 14 = .ok (.iaload, 1) := by decide +kernel
theorem dX0_valueOf_15 : decode cX0_valueOf 15 = .ok (.istore 4, 2) := by decide +kernel
theorem dX0_valueOf_17 : decode cX0_valueOf 17 = .ok (.aload_n 1, 1) := by decide +kernel
theorem dX0_valueOf_18 : decode cX0_valueOf 18 = .ok (.iload_n 3, 1) := by decide +kernel
theorem dX0_valueOf_19 : decode cX0_valueOf 19 = .ok (.iconst 1, 1) := by decide +kernel
theorem dX0_valueOf_20 : decode cX0_valueOf 20 = .ok (.iadd, 1) := by decide +kernel
theorem dX0_valueOf_21 : decode cX0_valueOf 21 = .ok (.iaload, 1) := by decide +kernel
theorem dX0_valueOf_22 : decode cX0_valueOf 22 = .ok (.istore 5, 2) := by decide +kernel
theorem dX0_valueOf_24 : decode cX0_valueOf 24 = .ok (.iinc 3 2, 3) := by decide +kernel
theorem dX0_valueOf_27 : decode cX0_valueOf 27 = .ok (.iload 4, 2) := by decide +kernel
theorem dX0_valueOf_29 : decode cX0_valueOf 29 = .ok (.bipush 18, 2) := by decide +kernel
theorem dX0_valueOf_31 : decode cX0_valueOf 31 = .ok (.if_icmp .ne 13, 3) := by decide +kernel
theorem dX0_valueOf_34 : decode cX0_valueOf 34 = .ok (.iload_n 3, 1) := by decide +kernel
theorem dX0_valueOf_35 : decode cX0_valueOf 35 = .ok (.iload 5, 2) := by decide +kernel
theorem dX0_valueOf_37 : decode cX0_valueOf 37 = .ok (.invokestatic 69, 3) := by decide +kernel
theorem dX0_valueOf_40 : decode cX0_valueOf 40 = .ok (.istore_n 3, 1) := by decide +kernel
theorem dX0_valueOf_41 : decode cX0_valueOf 41 = .ok (.goto 161, 3) := by decide +kernel
theorem dX0_valueOf_44 : decode cX0_valueOf 44 = .ok (.iload 4, 2) := by decide +kernel
theorem dX0_valueOf_46 : decode cX0_valueOf 46 = .ok (.invokestatic 105, 3) := by decide +kernel
theorem dX0_valueOf_49 : decode cX0_valueOf 49 = .ok (.ifCond .eq 39, 3) := by decide +kernel
theorem dX0_valueOf_52 : decode cX0_valueOf 52 = .ok (.iload_n 2, 1) := by decide +kernel
theorem dX0_valueOf_53 : decode cX0_valueOf 53 = .ok (.bipush 64, 2) := by decide +kernel
theorem dX0_valueOf_55 : decode cX0_valueOf 55 = .ok (.if_icmp .ge 147, 3) := by decide +kernel
theorem dX0_valueOf_58 : decode cX0_valueOf 58 = .ok (.aload_n 0, 1) := by decide +kernel
theorem dX0_valueOf_59 : decode cX0_valueOf 59 = .ok (.getfield 11, 3) := by decide +kernel
theorem dX0_valueOf_62 : decode cX0_valueOf 62 = .ok (.iload_n 2, 1) := by decide +kernel
theorem dX0_valueOf_63 : decode cX0_valueOf 63 = .ok (.iload 4, 2) := by decide +kernel
theorem dX0_valueOf_65 : decode cX0_valueOf 65 = .ok (.bipush 39, 2) := by decide +kernel
theorem dX0_valueOf_67 : decode cX0_valueOf 67 = .ok (.if_icmp .ne 8, 3) := by decide +kernel
theorem dX0_valueOf_70 : decode cX0_valueOf 70 = .ok (.iload 5, 2) := by decide +kernel
theorem dX0_valueOf_72 : decode cX0_valueOf 72 = .ok (.goto 9, 3) := by decide +kernel
theorem dX0_valueOf_75 : decode cX0_valueOf 75 = .ok (.aload_n 0, 1) := by decide +kernel
theorem dX0_valueOf_76 : decode cX0_valueOf 76 = .ok (.iload 4, 2) := by decide +kernel
theorem dX0_valueOf_78 : decode cX0_valueOf 78 = .ok (.invokevirtual 108, 3) := by decide +kernel
theorem dX0_valueOf_81 : decode cX0_valueOf 81 = .ok (.iastore, 1) := by decide +kernel
theorem dX0_valueOf_82 : decode cX0_valueOf 82 = .ok (.iinc 2 1, 3) := by decide +kernel
theorem dX0_valueOf_85 : decode cX0_valueOf 85 = .ok (.goto 117, 3) := by decide +kernel
theorem dX0_valueOf_88 : decode cX0_valueOf 88 = .ok (.iload 4, 2) := by decide +kernel
theorem dX0_valueOf_90 : decode cX0_valueOf 90 = .ok (.invokestatic 112, 3) := by decide +kernel
theorem dX0_valueOf_93 : decode cX0_valueOf 93 = .ok (.ifCond .eq 32, 3) := by decide +kernel
theorem dX0_valueOf_96 : decode cX0_valueOf 96 = .ok (.iload_n 2, 1) := by decide +kernel
theorem dX0_valueOf_97 : decode cX0_valueOf 97 = .ok (.ifCond .le 105, 3) := by decide +kernel
theorem dX0_valueOf_100 : decode cX0_valueOf 100 = .ok (.aload_n 0, 1) := by decide +kernel
theorem dX0_valueOf_101 : decode cX0_valueOf 101 = .ok (.getfield 11, 3) := by decide +kernel
theorem dX0_valueOf_104 : decode cX0_valueOf 104 = .ok (.iload_n 2, 1) := by decide +kernel
theorem dX0_valueOf_105 : decode cX0_valueOf 105 = .ok (.iconst 1, 1) := by decide +kernel
theorem dX0_valueOf_106 : decode cX0_valueOf 106 = .ok (.isub, 1) := by decide +kernel
theorem dX0_valueOf_107 : decode cX0_valueOf 107 = .ok (.aload_n 0, 1) := by decide +kernel
theorem dX0_valueOf_108 : decode cX0_valueOf 108 = .ok (.iload 4, 2) := by decide +kernel
theorem dX0_valueOf_110 : decode cX0_valueOf 110 = .ok (.aload_n 0, 1) := by decide +kernel
theorem dX0_valueOf_111 : decode cX0_valueOf 111 = .ok (.getfield 11, 3) := by decide +kernel
theorem dX0_valueOf_114 : decode cX0_valueOf 114 = .ok (.iload_n 2, 1) := by decide +kernel
theorem dX0_valueOf_115 : decode cX0_valueOf 115 = .ok (.iconst 1, 1) := by decide +kernel
theorem dX0_valueOf_116 : decode cX0_valueOf 116 = .ok (.isub, 1) := by decide +kernel
theorem dX0_valueOf_117 : decode cX0_valueOf 117 = .ok (.iaload, 1) := by decide +kernel
theorem dX0_valueOf_118 : decode cX0_valueOf 118 = .ok (.invokevirtual 115, 3) := by decide +kernel
theorem dX0_valueOf_121 : decode cX0_valueOf 121 = .ok (.iastore, 1) := by decide +kernel
theorem dX0_valueOf_122 : decode cX0_valueOf 122 = .ok (.goto 80, 3) := by decide +kernel
theorem dX0_valueOf_125 : decode cX0_valueOf 125 = .ok (.iload 4, 2) := by decide +kernel
theorem dX0_valueOf_127 : decode cX0_valueOf 127 = .ok (.bipush 16, 2) := by decide +kernel
theorem dX0_valueOf_129 : decode cX0_valueOf 129 = .ok (.if_icmp .ne 33, 3) := by decide +kernel
theorem dX0_valueOf_132 : decode cX0_valueOf 132 = .ok (.iload_n 2, 1) := by decide +kernel
theorem dX0_valueOf_133 : decode cX0_valueOf 133 = .ok (.ifCond .le 69, 3) := by decide +kernel
theorem dX0_valueOf_136 : decode cX0_valueOf 136 = .ok (.iinc 2 (-1), 3) := by decide +kernel
theorem dX0_valueOf_139 : decode cX0_valueOf 139 = .ok (.aload_n 0, 1) := by decide +kernel
theorem dX0_valueOf_140 : decode cX0_valueOf 140 = .ok (.getfield 11, 3) := by decide +kernel
theorem dX0_valueOf_143 : decode cX0_valueOf 143 = .ok (.iload_n 2, 1) := by decide +kernel
theorem dX0_valueOf_144 : decode cX0_valueOf 144 = .ok (.iaload, 1) := by decide +kernel
theorem dX0_valueOf_145 : decode cX0_valueOf 145 = .ok (.ifCond .ne 12, 3) := by decide +kernel
theorem dX0_valueOf_148 : decode cX0_valueOf 148 = .ok (.iload_n 3, 1) := by decide +kernel
theorem dX0_valueOf_149 : decode cX0_valueOf 149 = .ok (.iload 5, 2) := by decide +kernel
theorem dX0_valueOf_151 : decode cX0_valueOf 151 = .ok (.invokestatic 69, 3) := by decide +kernel
theorem dX0_valueOf_154 : decode cX0_valueOf 154 = .ok (.goto 4, 3) := by decide +kernel
theorem dX0_valueOf_157 : decode cX0_valueOf 157 = .ok (.iload_n 3, 1) := by decide +kernel
theorem dX0_valueOf_158 : decode cX0_valueOf 158 = .ok (.istore_n 3, 1) := by decide +kernel
theorem dX0_valueOf_159 : decode cX0_valueOf 159 = .ok (.goto 43, 3) := by decide +kernel
theorem dX0_valueOf_162 : decode cX0_valueOf 162 = .ok (.iload_n 2, 1) := by decide +kernel
theorem dX0_valueOf_163 : decode cX0_valueOf 163 = .ok (.iconst 1, 1) := by decide +kernel
theorem dX0_valueOf_164 : decode cX0_valueOf 164 = .ok (.if_icmp .le 38, 3) := by decide +kernel
theorem dX0_valueOf_167 : decode cX0_valueOf 167 = .ok (.iinc 2 (-1), 3) := by decide +kernel
theorem dX0_valueOf_170 : decode cX0_valueOf 170 = .ok (.aload_n 0, 1) := by decide +kernel
theorem dX0_valueOf_171 : decode cX0_valueOf 171 = .ok (.getfield 11, 3) := by decide +kernel
theorem dX0_valueOf_174 : decode cX0_valueOf 174 = .ok (.iload_n 2, 1) := by decide +kernel
theorem dX0_valueOf_175 : decode cX0_valueOf 175 = .ok (.iconst 1, 1) := by decide +kernel
theorem dX0_valueOf_176 : decode cX0_valueOf 176 = .ok (.isub, 1) := by decide +kernel
theorem dX0_valueOf_177 : decode cX0_valueOf 177 = .ok (.iload 4, 2) := by decide +kernel
theorem dX0_valueOf_179 : decode cX0_valueOf 179 = .ok (.aload_n 0, 1) := by decide +kernel
theorem dX0_valueOf_180 : decode cX0_valueOf 180 = .ok (.getfield 11, 3) := by decide +kernel
theorem dX0_valueOf_183 : decode cX0_valueOf 183 = .ok (.iload_n 2, 1) := by decide +kernel
theorem dX0_valueOf_184 : decode cX0_valueOf 184 = .ok (.iconst 1, 1) := by decide +kernel
theorem dX0_valueOf_185 : decode cX0_valueOf 185 = .ok (.isub, 1) := by decide +kernel
theorem dX0_valueOf_186 : decode cX0_valueOf 186 = .ok (.iaload, 1) := by decide +kernel
theorem dX0_valueOf_187 : decode cX0_valueOf 187 = .ok (.i2l, 1) := by decide +kernel
theorem dX0_valueOf_188 : decode cX0_valueOf 188 = .ok (.aload_n 0, 1) := by decide +kernel
theorem dX0_valueOf_189 : decode cX0_valueOf 189 = .ok (.getfield 11, 3) := by decide +kernel
theorem dX0_valueOf_192 : decode cX0_valueOf 192 = .ok (.iload_n 2, 1) := by decide +kernel
theorem dX0_valueOf_193 : decode cX0_valueOf 193 = .ok (.iaload, 1) := by decide +kernel
theorem dX0_valueOf_194 : decode cX0_valueOf 194 = .ok (.i2l, 1) := by decide +kernel
theorem dX0_valueOf_195 : decode cX0_valueOf 195 = .ok (.invokestatic 118, 3) := by decide +kernel
theorem dX0_valueOf_198 : decode cX0_valueOf 198 = .ok (.invokestatic 122, 3) := by decide +kernel
theorem dX0_valueOf_201 : decode cX0_valueOf 201 = .ok (.iastore, 1) := by decide +kernel
theorem dX0_valueOf_202 : decode cX0_valueOf 202 = .ok (.goto (-198), 3) := by decide +kernel
theorem dX0_valueOf_205 : decode cX0_valueOf 205 = .ok (.iload_n 2, 1) := by decide +kernel
theorem dX0_valueOf_206 : decode cX0_valueOf 206 = .ok (.ifCond .le 12, 3) := by decide +kernel
theorem dX0_valueOf_209 : decode cX0_valueOf 209 = .ok (.aload_n 0, 1) := by decide +kernel
theorem dX0_valueOf_210 : decode cX0_valueOf 210 = .ok (.getfield 11, 3) := by decide +kernel
theorem dX0_valueOf_213 : decode cX0_valueOf 213 = .ok (.iconst 0, 1) := by decide +kernel
theorem dX0_valueOf_214 : decode cX0_valueOf 214 = .ok (.iaload, 1) := by decide +kernel
theorem dX0_valueOf_215 : decode cX0_valueOf 215 = .ok (.goto 4, 3) := by decide +kernel
theorem dX0_valueOf_218 : decode cX0_valueOf 218 = .ok (.iconst 0, 1) := by decide +kernel
theorem dX0_valueOf_219 : decode cX0_valueOf 219 = .ok (.ireturn, 1) := by decide +kernel
theorem dX0_isLeaf_0 : decode cX0_isLeaf 0 = .ok (.iload_n 0, 1) := by decide +kernel
theorem dX0_isLeaf_1 : decode cX0_isLeaf 1 = .ok (.bipush 39, 2) := by decide +kernel
theorem dX0_isLeaf_3 : decode cX0_isLeaf 3 = .ok (.if_icmp .eq 37, 3) := by decide +kernel
theorem dX0_isLeaf_6 : decode cX0_isLeaf 6 = .ok (.iload_n 0, 1) := by decide +kernel
theorem dX0_isLeaf_7 : decode cX0_isLeaf 7 = .ok (.bipush 12, 2) := by decide +kernel
theorem dX0_isLeaf_9 : decode cX0_isLeaf 9 = .ok (.if_icmp .eq 31, 3) := by decide +kernel
theorem dX0_isLeaf_12 : decode cX0_isLeaf 12 = .ok (.iload_n 0, 1) := by decide +kernel
theorem dX0_isLeaf_13 : decode cX0_isLeaf 13 = .ok (.bipush 7, 2) := by decide +kernel
theorem dX0_isLeaf_15 : decode cX0_isLeaf 15 = .ok (.if_icmp .eq 25, 3) := by decide +kernel
theorem dX0_isLeaf_18 : decode cX0_isLeaf 18 = .ok (.iload_n 0, 1) := by decide +kernel
theorem dX0_isLeaf_19 : decode cX0_isLeaf 19 = .ok (.iconst 2, 1) := by decide +kernel
theorem dX0_isLeaf_20 : decode cX0_isLeaf 20 = .ok (.if_icmp .lt 8, 3) := by decide +kernel
theorem dX0_isLeaf_23 : decode cX0_isLeaf 23 = .ok (.iload_n 0, 1) := by decide +kernel
theorem dX0_isLeaf_24 : decode cX0_isLeaf 24 = .ok (.iconst 4, 1) := by decide +kernel
theorem dX0_isLeaf_25 : decode cX0_isLeaf 25 = .ok (.if_icmp .le 15, 3) := by decide +kernel
theorem dX0_isLeaf_28 : decode cX0_isLeaf 28 = .ok (.iload_n 0, 1) := by decide +kernel
theorem dX0_isLeaf_29 : decode cX0_isLeaf 29 = .ok (.bipush 23, 2) := by decide +kernel
theorem dX0_isLeaf_31 : decode cX0_isLeaf 31 = .ok (.if_icmp .lt 13, 3) := by decide +kernel
theorem dX0_isLeaf_34 : decode cX0_isLeaf 34 = .ok (.iload_n 0, 1) := by decide +kernel
theorem dX0_isLeaf_35 : decode cX0_isLeaf 35 = .ok (.bipush 25, 2) := by decide +kernel
theorem dX0_isLeaf_37 : decode cX0_isLeaf 37 = .ok (.if_icmp .gt 7, 3) := by decide +kernel
theorem dX0_isLeaf_40 : decode cX0_isLeaf 40 = .ok (.iconst 1, 1) := by decide +kernel
theorem dX0_isLeaf_41 : decode cX0_isLeaf 41 = .ok (.goto 4, 3) := by decide +kernel
theorem dX0_isLeaf_44 : decode cX0_isLeaf 44 = .ok (.iconst 0, 1) := by decide +kernel
theorem dX0_isLeaf_45 : decode cX0_isLeaf 45 = .ok (.ireturn, 1) := by decide +kernel
theorem dX0_isOfOne_0 : decode cX0_isOfOne 0 = .ok (.iload_n 0, 1) := by decide +kernel
theorem dX0_isOfOne_1 : decode cX0_isOfOne 1 = .ok (.bipush 22, 2) := by decide +kernel
theorem dX0_isOfOne_3 : decode cX0_isOfOne 3 = .ok (.if_icmp .eq 9, 3) := by decide +kernel
theorem dX0_isOfOne_6 : decode cX0_isOfOne 6 = .ok (.iload_n 0, 1) := by decide +kernel
theorem dX0_isOfOne_7 : decode cX0_isOfOne 7 = .ok (.bipush 15, 2) := by decide +kernel
theorem dX0_isOfOne_9 : decode cX0_isOfOne 9 = .ok (.if_icmp .ne 7, 3) := by decide +kernel
theorem dX0_isOfOne_12 : decode cX0_isOfOne 12 = .ok (.iconst 1, 1) := by decide +kernel
theorem dX0_isOfOne_13 : decode cX0_isOfOne 13 = .ok (.goto 4, 3) := by decide +kernel
theorem dX0_isOfOne_16 : decode cX0_isOfOne 16 = .ok (.iconst 0, 1) := by decide +kernel
theorem dX0_isOfOne_17 : decode cX0_isOfOne 17 = .ok (.ireturn, 1) := by decide +kernel
theorem dX0_named_0 : decode cX0_named 0 = .ok (.iload_n 1, 1) := by decide +kernel
theorem dX0_named_1 : decode cX0_named 1 = .ok (.tableswitch 201 2 24 #[115, 120, 153, 201, 201, 196, 201, 201, 201, 201, 107, 201, 201, 201, 201, 201, 201, 201, 201, 201, 201, 186, 191], 107) := by decide +kernel
theorem dX0_named_108 : decode cX0_named 108 = .ok (.aload_n 0, 1) := by decide +kernel
theorem dX0_named_109 : decode cX0_named 109 = .ok (.getfield 45, 3) := by decide +kernel
theorem dX0_named_112 : decode cX0_named 112 = .ok (.getfield 126, 3) := by decide +kernel
theorem dX0_named_115 : decode cX0_named 115 = .ok (.ireturn, 1) := by decide +kernel
theorem dX0_named_116 : decode cX0_named 116 = .ok (.aload_n 0, 1) := by decide +kernel
theorem dX0_named_117 : decode cX0_named 117 = .ok (.getfield 15, 3) := by decide +kernel
theorem dX0_named_120 : decode cX0_named 120 = .ok (.ireturn, 1) := by decide +kernel
theorem dX0_named_121 : decode cX0_named 121 = .ok (.aload_n 0, 1) := by decide +kernel
theorem dX0_named_122 : decode cX0_named 122 = .ok (.getfield 15, 3) := by decide +kernel
theorem dX0_named_125 : decode cX0_named 125 = .ok (.ifCond .lt 27, 3) := by decide +kernel
theorem dX0_named_128 : decode cX0_named 128 = .ok (.aload_n 0, 1) := by decide +kernel
theorem dX0_named_129 : decode cX0_named 129 = .ok (.getfield 15, 3) := by decide +kernel
theorem dX0_named_132 : decode cX0_named 132 = .ok (.bipush 30, 2) := by decide +kernel
theorem dX0_named_134 : decode cX0_named 134 = .ok (.if_icmp .ge 18, 3) := by decide +kernel
theorem dX0_named_137 : decode cX0_named 137 = .ok (.aload_n 0, 1) := by decide +kernel
theorem dX0_named_138 : decode cX0_named 138 = .ok (.getfield 45, 3) := by decide +kernel
theorem dX0_named_141 : decode cX0_named 141 = .ok (.getfield 131, 3) := by decide +kernel
theorem dX0_named_144 : decode cX0_named 144 = .ok (.aload_n 0, 1) := by decide +kernel
theorem dX0_named_145 : decode cX0_named 145 = .ok (.getfield 15, 3) := by decide +kernel
theorem dX0_named_148 : decode cX0_named 148 = .ok (.iaload, 1) := by decide +kernel
theorem dX0_named_149 : decode cX0_named 149 = .ok (.goto 4, 3) := by decide +kernel
theorem dX0_named_152 : decode cX0_named 152 = .ok (.iconst 0, 1) := by decide +kernel
theorem dX0_named_153 : decode cX0_named 153 = .ok (.ireturn, 1) := by decide +kernel
theorem dX0_named_154 : decode cX0_named 154 = .ok (.aload_n 0, 1) := by decide +kernel
theorem dX0_named_155 : decode cX0_named 155 = .ok (.getfield 15, 3) := by decide +kernel
theorem dX0_named_158 : decode cX0_named 158 = .ok (.ifCond .lt 27, 3) := by decide +kernel
theorem dX0_named_161 : decode cX0_named 161 = .ok (.aload_n 0, 1) := by decide +kernel
theorem dX0_named_162 : decode cX0_named 162 = .ok (.getfield 15, 3) := by decide +kernel
theorem dX0_named_165 : decode cX0_named 165 = .ok (.bipush 30, 2) := by decide +kernel
theorem dX0_named_167 : decode cX0_named 167 = .ok (.if_icmp .ge 18, 3) := by decide +kernel
theorem dX0_named_170 : decode cX0_named 170 = .ok (.aload_n 0, 1) := by decide +kernel
theorem dX0_named_171 : decode cX0_named 171 = .ok (.getfield 45, 3) := by decide +kernel
theorem dX0_named_174 : decode cX0_named 174 = .ok (.getfield 134, 3) := by decide +kernel
theorem dX0_named_177 : decode cX0_named 177 = .ok (.aload_n 0, 1) := by decide +kernel
theorem dX0_named_178 : decode cX0_named 178 = .ok (.getfield 15, 3) := by decide +kernel
theorem dX0_named_181 : decode cX0_named 181 = .ok (.iaload, 1) := by decide +kernel
theorem dX0_named_182 : decode cX0_named 182 = .ok (.goto 4, 3) := by decide +kernel
theorem dX0_named_185 : decode cX0_named 185 = .ok (.iconst 0, 1) := by decide +kernel
theorem dX0_named_186 : decode cX0_named 186 = .ok (.ireturn, 1) := by decide +kernel
theorem dX0_named_187 : decode cX0_named 187 = .ok (.aload_n 0, 1) := by decide +kernel
theorem dX0_named_188 : decode cX0_named 188 = .ok (.getfield 19, 3) := by decide +kernel
theorem dX0_named_191 : decode cX0_named 191 = .ok (.ireturn, 1) := by decide +kernel
theorem dX0_named_192 : decode cX0_named 192 = .ok (.aload_n 0, 1) := by decide +kernel
theorem dX0_named_193 : decode cX0_named 193 = .ok (.getfield 25, 3) := by decide +kernel
theorem dX0_named_196 : decode cX0_named 196 = .ok (.ireturn, 1) := by decide +kernel
theorem dX0_named_197 : decode cX0_named 197 = .ok (.aload_n 0, 1) := by decide +kernel
theorem dX0_named_198 : decode cX0_named 198 = .ok (.getfield 28, 3) := by decide +kernel
theorem dX0_named_201 : decode cX0_named 201 = .ok (.ireturn, 1) := by decide +kernel
theorem dX0_named_202 : decode cX0_named 202 = .ok (.aload_n 0, 1) := by decide +kernel
theorem dX0_named_203 : decode cX0_named 203 = .ok (.getfield 22, 3) := by decide +kernel
theorem dX0_named_206 : decode cX0_named 206 = .ok (.ireturn, 1) := by decide +kernel
theorem dX0_ofOne_0 : decode cX0_ofOne 0 = .ok (.iload_n 1, 1) := by decide +kernel
theorem dX0_ofOne_1 : decode cX0_ofOne 1 = .ok (.bipush 22, 2) := by decide +kernel
theorem dX0_ofOne_3 : decode cX0_ofOne 3 = .ok (.if_icmp .ne 13, 3) := by decide +kernel
theorem dX0_ofOne_6 : decode cX0_ofOne 6 = .ok (.iload_n 2, 1) := by decide +kernel
theorem dX0_ofOne_7 : decode cX0_ofOne 7 = .ok (.ifCond .ne 7, 3) := by decide +kernel
theorem dX0_ofOne_10 : decode cX0_ofOne 10 = .ok (.iconst 1, 1) := by decide +kernel
theorem dX0_ofOne_11 : decode cX0_ofOne 11 = .ok (.goto 4, 3) := by decide +kernel
theorem dX0_ofOne_14 : decode cX0_ofOne 14 = .ok (.iconst 0, 1) := by decide +kernel
theorem dX0_ofOne_15 : decode cX0_ofOne 15 = .ok (.ireturn, 1) := by decide +kernel
theorem dX0_ofOne_16 : decode cX0_ofOne 16 = .ok (.iload_n 2, 1) := by decide +kernel
theorem dX0_ofOne_17 : decode cX0_ofOne 17 = .ok (.ifCond .lt 21, 3) := by decide +kernel
theorem dX0_ofOne_20 : decode cX0_ofOne 20 = .ok (.iload_n 2, 1) := by decide +kernel
theorem dX0_ofOne_21 : decode cX0_ofOne 21 = .ok (.bipush 30, 2) := by decide +kernel
theorem dX0_ofOne_23 : decode cX0_ofOne 23 = .ok (.if_icmp .ge 15, 3) := by decide +kernel
theorem dX0_ofOne_26 : decode cX0_ofOne 26 = .ok (.aload_n 0, 1) := by decide +kernel
theorem dX0_ofOne_27 : decode cX0_ofOne 27 = .ok (.getfield 45, 3) := by decide +kernel
theorem dX0_ofOne_30 : decode cX0_ofOne 30 = .ok (.getfield 131, 3) := by decide +kernel
theorem dX0_ofOne_33 : decode cX0_ofOne 33 = .ok (.iload_n 2, 1) := by decide +kernel
theorem dX0_ofOne_34 : decode cX0_ofOne 34 = .ok (.iaload, 1) := by decide +kernel
theorem dX0_ofOne_35 : decode cX0_ofOne 35 = .ok (.goto 4, 3) := by decide +kernel
theorem dX0_ofOne_38 : decode cX0_ofOne 38 = .ok (.iconst 0, 1) := by decide +kernel
theorem dX0_ofOne_39 : decode cX0_ofOne 39 = .ok (.ireturn, 1) := by decide +kernel
theorem dX0_ofTwo_0 : decode cX0_ofTwo 0 = .ok (.iload_n 0, 1) := by decide +kernel
theorem dX0_ofTwo_1 : decode cX0_ofTwo 1 = .ok (.tableswitch 253 13 38 #[145, 253, 253, 253, 253, 253, 253, 253, 235, 253, 253, 253, 253, 163, 187, 211, 223, 119, 123, 127, 131, 253, 253, 253, 175, 199], 119) := by decide +kernel
theorem dX0_ofTwo_120 : decode cX0_ofTwo 120 = .ok (.lload_n 1, 1) := by decide +kernel
theorem dX0_ofTwo_121 : decode cX0_ofTwo 121 = .ok (.lload_n 3, 1) := by decide +kernel
theorem dX0_ofTwo_122 : decode cX0_ofTwo 122 = .ok (.ladd, 1) := by decide +kernel
theorem dX0_ofTwo_123 : decode cX0_ofTwo 123 = .ok (.lreturn, 1) := by decide +kernel
theorem dX0_ofTwo_124 : decode cX0_ofTwo 124 = .ok (.lload_n 1, 1) := by decide +kernel
theorem dX0_ofTwo_125 : decode cX0_ofTwo 125 = .ok (.lload_n 3, 1) := by decide +kernel
theorem dX0_ofTwo_126 : decode cX0_ofTwo 126 = .ok (.lsub, 1) := by decide +kernel
theorem dX0_ofTwo_127 : decode cX0_ofTwo 127 = .ok (.lreturn, 1) := by decide +kernel
theorem dX0_ofTwo_128 : decode cX0_ofTwo 128 = .ok (.lload_n 1, 1) := by decide +kernel
theorem dX0_ofTwo_129 : decode cX0_ofTwo 129 = .ok (.lload_n 3, 1) := by decide +kernel
theorem dX0_ofTwo_130 : decode cX0_ofTwo 130 = .ok (.lmul, 1) := by decide +kernel
theorem dX0_ofTwo_131 : decode cX0_ofTwo 131 = .ok (.lreturn, 1) := by decide +kernel
theorem dX0_ofTwo_132 : decode cX0_ofTwo 132 = .ok (.lload_n 3, 1) := by decide +kernel
theorem dX0_ofTwo_133 : decode cX0_ofTwo 133 = .ok (.lconst 0, 1) := by decide +kernel
theorem dX0_ofTwo_134 : decode cX0_ofTwo 134 = .ok (.lcmp, 1) := by decide +kernel
theorem dX0_ofTwo_135 : decode cX0_ofTwo 135 = .ok (.ifCond .ne 7, 3) := by decide +kernel
theorem dX0_ofTwo_138 : decode cX0_ofTwo 138 = .ok (.lconst 0, 1) := by decide +kernel
theorem dX0_ofTwo_139 : decode cX0_ofTwo 139 = .ok (.goto 6, 3) := by decide +kernel
theorem dX0_ofTwo_142 : decode cX0_ofTwo 142 = .ok (.lload_n 1, 1) := by decide +kernel
theorem dX0_ofTwo_143 : decode cX0_ofTwo 143 = .ok (.lload_n 3, 1) := by decide +kernel
theorem dX0_ofTwo_144 : decode cX0_ofTwo 144 = .ok (.ldiv, 1) := by decide +kernel
theorem dX0_ofTwo_145 : decode cX0_ofTwo 145 = .ok (.lreturn, 1) := by decide +kernel
theorem dX0_ofTwo_146 : decode cX0_ofTwo 146 = .ok (.lload_n 3, 1) := by decide +kernel
theorem dX0_ofTwo_147 : decode cX0_ofTwo 147 = .ok (.lconst 0, 1) := by decide +kernel
theorem dX0_ofTwo_148 : decode cX0_ofTwo 148 = .ok (.lcmp, 1) := by decide +kernel
theorem dX0_ofTwo_149 : decode cX0_ofTwo 149 = .ok (.ifCond .gt 7, 3) := by decide +kernel
theorem dX0_ofTwo_152 : decode cX0_ofTwo 152 = .ok (.lconst 0, 1) := by decide +kernel
theorem dX0_ofTwo_153 : decode cX0_ofTwo 153 = .ok (.goto 10, 3) := by decide +kernel
theorem dX0_ofTwo_156 : decode cX0_ofTwo 156 = .ok (.lload_n 1, 1) := by decide +kernel
theorem dX0_ofTwo_157 : decode cX0_ofTwo 157 = .ok (.lload_n 3, 1) := by decide +kernel
theorem dX0_ofTwo_158 : decode cX0_ofTwo 158 = .ok (.lrem, 1) := by decide +kernel
theorem dX0_ofTwo_159 : decode cX0_ofTwo 159 = .ok (.lload_n 3, 1) := by decide +kernel
theorem dX0_ofTwo_160 : decode cX0_ofTwo 160 = .ok (.ladd, 1) := by decide +kernel
theorem dX0_ofTwo_161 : decode cX0_ofTwo 161 = .ok (.lload_n 3, 1) := by decide +kernel
theorem dX0_ofTwo_162 : decode cX0_ofTwo 162 = .ok (.lrem, 1) := by decide +kernel
theorem dX0_ofTwo_163 : decode cX0_ofTwo 163 = .ok (.lreturn, 1) := by decide +kernel
theorem dX0_ofTwo_164 : decode cX0_ofTwo 164 = .ok (.lload_n 1, 1) := by decide +kernel
theorem dX0_ofTwo_165 : decode cX0_ofTwo 165 = .ok (.lload_n 3, 1) := by decide +kernel
theorem dX0_ofTwo_166 : decode cX0_ofTwo 166 = .ok (.lcmp, 1) := by decide +kernel
theorem dX0_ofTwo_167 : decode cX0_ofTwo 167 = .ok (.ifCond .ge 7, 3) := by decide +kernel
theorem dX0_ofTwo_170 : decode cX0_ofTwo 170 = .ok (.lconst 1, 1) := by decide +kernel
theorem dX0_ofTwo_171 : decode cX0_ofTwo 171 = .ok (.goto 4, 3) := by decide +kernel
theorem dX0_ofTwo_174 : decode cX0_ofTwo 174 = .ok (.lconst 0, 1) := by decide +kernel
theorem dX0_ofTwo_175 : decode cX0_ofTwo 175 = .ok (.lreturn, 1) := by decide +kernel
theorem dX0_ofTwo_176 : decode cX0_ofTwo 176 = .ok (.lload_n 1, 1) := by decide +kernel
theorem dX0_ofTwo_177 : decode cX0_ofTwo 177 = .ok (.lload_n 3, 1) := by decide +kernel
theorem dX0_ofTwo_178 : decode cX0_ofTwo 178 = .ok (.lcmp, 1) := by decide +kernel
theorem dX0_ofTwo_179 : decode cX0_ofTwo 179 = .ok (.ifCond .gt 7, 3) := by decide +kernel
theorem dX0_ofTwo_182 : decode cX0_ofTwo 182 = .ok (.lconst 1, 1) := by decide +kernel
theorem dX0_ofTwo_183 : decode cX0_ofTwo 183 = .ok (.goto 4, 3) := by decide +kernel
theorem dX0_ofTwo_186 : decode cX0_ofTwo 186 = .ok (.lconst 0, 1) := by decide +kernel
theorem dX0_ofTwo_187 : decode cX0_ofTwo 187 = .ok (.lreturn, 1) := by decide +kernel
theorem dX0_ofTwo_188 : decode cX0_ofTwo 188 = .ok (.lload_n 1, 1) := by decide +kernel
theorem dX0_ofTwo_189 : decode cX0_ofTwo 189 = .ok (.lload_n 3, 1) := by decide +kernel
theorem dX0_ofTwo_190 : decode cX0_ofTwo 190 = .ok (.lcmp, 1) := by decide +kernel
theorem dX0_ofTwo_191 : decode cX0_ofTwo 191 = .ok (.ifCond .le 7, 3) := by decide +kernel
theorem dX0_ofTwo_194 : decode cX0_ofTwo 194 = .ok (.lconst 1, 1) := by decide +kernel
theorem dX0_ofTwo_195 : decode cX0_ofTwo 195 = .ok (.goto 4, 3) := by decide +kernel
theorem dX0_ofTwo_198 : decode cX0_ofTwo 198 = .ok (.lconst 0, 1) := by decide +kernel
theorem dX0_ofTwo_199 : decode cX0_ofTwo 199 = .ok (.lreturn, 1) := by decide +kernel
theorem dX0_ofTwo_200 : decode cX0_ofTwo 200 = .ok (.lload_n 1, 1) := by decide +kernel
theorem dX0_ofTwo_201 : decode cX0_ofTwo 201 = .ok (.lload_n 3, 1) := by decide +kernel
theorem dX0_ofTwo_202 : decode cX0_ofTwo 202 = .ok (.lcmp, 1) := by decide +kernel
theorem dX0_ofTwo_203 : decode cX0_ofTwo 203 = .ok (.ifCond .lt 7, 3) := by decide +kernel
theorem dX0_ofTwo_206 : decode cX0_ofTwo 206 = .ok (.lconst 1, 1) := by decide +kernel
theorem dX0_ofTwo_207 : decode cX0_ofTwo 207 = .ok (.goto 4, 3) := by decide +kernel
theorem dX0_ofTwo_210 : decode cX0_ofTwo 210 = .ok (.lconst 0, 1) := by decide +kernel
theorem dX0_ofTwo_211 : decode cX0_ofTwo 211 = .ok (.lreturn, 1) := by decide +kernel
theorem dX0_ofTwo_212 : decode cX0_ofTwo 212 = .ok (.lload_n 1, 1) := by decide +kernel
theorem dX0_ofTwo_213 : decode cX0_ofTwo 213 = .ok (.lload_n 3, 1) := by decide +kernel
theorem dX0_ofTwo_214 : decode cX0_ofTwo 214 = .ok (.lcmp, 1) := by decide +kernel
theorem dX0_ofTwo_215 : decode cX0_ofTwo 215 = .ok (.ifCond .ne 7, 3) := by decide +kernel
theorem dX0_ofTwo_218 : decode cX0_ofTwo 218 = .ok (.lconst 1, 1) := by decide +kernel
theorem dX0_ofTwo_219 : decode cX0_ofTwo 219 = .ok (.goto 4, 3) := by decide +kernel
theorem dX0_ofTwo_222 : decode cX0_ofTwo 222 = .ok (.lconst 0, 1) := by decide +kernel
theorem dX0_ofTwo_223 : decode cX0_ofTwo 223 = .ok (.lreturn, 1) := by decide +kernel
theorem dX0_ofTwo_224 : decode cX0_ofTwo 224 = .ok (.lload_n 1, 1) := by decide +kernel
theorem dX0_ofTwo_225 : decode cX0_ofTwo 225 = .ok (.lload_n 3, 1) := by decide +kernel
theorem dX0_ofTwo_226 : decode cX0_ofTwo 226 = .ok (.lcmp, 1) := by decide +kernel
theorem dX0_ofTwo_227 : decode cX0_ofTwo 227 = .ok (.ifCond .eq 7, 3) := by decide +kernel
theorem dX0_ofTwo_230 : decode cX0_ofTwo 230 = .ok (.lconst 1, 1) := by decide +kernel
theorem dX0_ofTwo_231 : decode cX0_ofTwo 231 = .ok (.goto 4, 3) := by decide +kernel
theorem dX0_ofTwo_234 : decode cX0_ofTwo 234 = .ok (.lconst 0, 1) := by decide +kernel
theorem dX0_ofTwo_235 : decode cX0_ofTwo 235 = .ok (.lreturn, 1) := by decide +kernel
theorem dX0_ofTwo_236 : decode cX0_ofTwo 236 = .ok (.lload_n 1, 1) := by decide +kernel
theorem dX0_ofTwo_237 : decode cX0_ofTwo 237 = .ok (.lconst 0, 1) := by decide +kernel
theorem dX0_ofTwo_238 : decode cX0_ofTwo 238 = .ok (.lcmp, 1) := by decide +kernel
theorem dX0_ofTwo_239 : decode cX0_ofTwo 239 = .ok (.ifCond .eq 13, 3) := by decide +kernel
theorem dX0_ofTwo_242 : decode cX0_ofTwo 242 = .ok (.lload_n 3, 1) := by decide +kernel
theorem dX0_ofTwo_243 : decode cX0_ofTwo 243 = .ok (.lconst 0, 1) := by decide +kernel
theorem dX0_ofTwo_244 : decode cX0_ofTwo 244 = .ok (.lcmp, 1) := by decide +kernel
theorem dX0_ofTwo_245 : decode cX0_ofTwo 245 = .ok (.ifCond .eq 7, 3) := by decide +kernel
theorem dX0_ofTwo_248 : decode cX0_ofTwo 248 = .ok (.lconst 1, 1) := by decide +kernel
theorem dX0_ofTwo_249 : decode cX0_ofTwo 249 = .ok (.goto 4, 3) := by decide +kernel
theorem dX0_ofTwo_252 : decode cX0_ofTwo 252 = .ok (.lconst 0, 1) := by decide +kernel
theorem dX0_ofTwo_253 : decode cX0_ofTwo 253 = .ok (.lreturn, 1) := by decide +kernel
theorem dX0_ofTwo_254 : decode cX0_ofTwo 254 = .ok (.lload_n 1, 1) := by decide +kernel
theorem dX0_ofTwo_255 : decode cX0_ofTwo 255 = .ok (.lconst 0, 1) := by decide +kernel
theorem dX0_ofTwo_256 : decode cX0_ofTwo 256 = .ok (.lcmp, 1) := by decide +kernel
theorem dX0_ofTwo_257 : decode cX0_ofTwo 257 = .ok (.ifCond .ne 9, 3) := by decide +kernel
theorem dX0_ofTwo_260 : decode cX0_ofTwo 260 = .ok (.lload_n 3, 1) := by decide +kernel
theorem dX0_ofTwo_261 : decode cX0_ofTwo 261 = .ok (.lconst 0, 1) := by decide +kernel
theorem dX0_ofTwo_262 : decode cX0_ofTwo 262 = .ok (.lcmp, 1) := by decide +kernel
theorem dX0_ofTwo_263 : decode cX0_ofTwo 263 = .ok (.ifCond .eq 7, 3) := by decide +kernel
theorem dX0_ofTwo_266 : decode cX0_ofTwo 266 = .ok (.lconst 1, 1) := by decide +kernel
theorem dX0_ofTwo_267 : decode cX0_ofTwo 267 = .ok (.goto 4, 3) := by decide +kernel
theorem dX0_ofTwo_270 : decode cX0_ofTwo 270 = .ok (.lconst 0, 1) := by decide +kernel
theorem dX0_ofTwo_271 : decode cX0_ofTwo 271 = .ok (.lreturn, 1) := by decide +kernel
theorem dX0_within_0 : decode cX0_within 0 = .ok (.lload_n 0, 1) := by decide +kernel
theorem dX0_within_1 : decode cX0_within 1 = .ok (.ldc2_w 135, 3) := by decide +kernel
theorem dX0_within_4 : decode cX0_within 4 = .ok (.lcmp, 1) := by decide +kernel
theorem dX0_within_5 : decode cX0_within 5 = .ok (.ifCond .ge 9, 3) := by decide +kernel
theorem dX0_within_8 : decode cX0_within 8 = .ok (.ldc2_w 135, 3) := by decide +kernel
theorem dX0_within_11 : decode cX0_within 11 = .ok (.goto 4, 3) := by decide +kernel
theorem dX0_within_14 : decode cX0_within 14 = .ok (.lload_n 0, 1) := by decide +kernel
theorem dX0_within_15 : decode cX0_within 15 = .ok (.lstore_n 2, 1) := by decide +kernel
theorem dX0_within_16 : decode cX0_within 16 = .ok (.lload_n 2, 1) := by decide +kernel
theorem dX0_within_17 : decode cX0_within 17 = .ok (.ldc2_w 137, 3) := by decide +kernel
theorem dX0_within_20 : decode cX0_within 20 = .ok (.lcmp, 1) := by decide +kernel
theorem dX0_within_21 : decode cX0_within 21 = .ok (.ifCond .le 9, 3) := by decide +kernel
theorem dX0_within_24 : decode cX0_within 24 = .ok (.ldc2_w 137, 3) := by decide +kernel
theorem dX0_within_27 : decode cX0_within 27 = .ok (.goto 4, 3) := by decide +kernel
theorem dX0_within_30 : decode cX0_within 30 = .ok (.lload_n 2, 1) := by decide +kernel
theorem dX0_within_31 : decode cX0_within 31 = .ok (.l2i, 1) := by decide +kernel
theorem dX0_within_32 : decode cX0_within 32 = .ok (.ireturn, 1) := by decide +kernel
theorem dX1_init_0 : decode cX1_init 0 = .ok (.aload_n 0, 1) := by decide +kernel
theorem dX1_init_1 : decode cX1_init 1 = .ok (.invokespecial 3, 3) := by decide +kernel
theorem dX1_init_4 : decode cX1_init 4 = .ok (.aload_n 0, 1) := by decide +kernel
theorem dX1_init_5 : decode cX1_init 5 = .ok (.bipush 12, 2) := by decide +kernel
theorem dX1_init_7 : decode cX1_init 7 = .ok (.newarray .int, 2) := by decide +kernel
theorem dX1_init_9 : decode cX1_init 9 = .ok (.putfield 9, 3) := by decide +kernel
theorem dX1_init_12 : decode cX1_init 12 = .ok (.aload_n 0, 1) := by decide +kernel
theorem dX1_init_13 : decode cX1_init 13 = .ok (.iconst 0, 1) := by decide +kernel
theorem dX1_init_14 : decode cX1_init 14 = .ok (.putfield 15, 3) := by decide +kernel
theorem dX1_init_17 : decode cX1_init 17 = .ok (.aload_n 0, 1) := by decide +kernel
theorem dX1_init_18 : decode cX1_init 18 = .ok (.aload_n 1, 1) := by decide +kernel
theorem dX1_init_19 : decode cX1_init 19 = .ok (.putfield 19, 3) := by decide +kernel
theorem dX1_init_22 : decode cX1_init 22 = .ok (.aload_n 0, 1) := by decide +kernel
theorem dX1_init_23 : decode cX1_init 23 = .ok (.aload_n 2, 1) := by decide +kernel
theorem dX1_init_24 : decode cX1_init 24 = .ok (.putfield 23, 3) := by decide +kernel
theorem dX1_init_27 : decode cX1_init 27 = .ok (.return_, 1) := by decide +kernel
theorem dX1_look_0 : decode cX1_look 0 = .ok (.aload_n 0, 1) := by decide +kernel
theorem dX1_look_1 : decode cX1_look 1 = .ok (.getfield 19, 3) := by decide +kernel
theorem dX1_look_4 : decode cX1_look 4 = .ok (.getfield 27, 3) := by decide +kernel
theorem dX1_look_7 : decode cX1_look 7 = .ok (.astore_n 3, 1) := by decide +kernel
theorem dX1_look_8 : decode cX1_look 8 = .ok (.aload_n 0, 1) := by decide +kernel
theorem dX1_look_9 : decode cX1_look 9 = .ok (.iconst 0, 1) := by decide +kernel
theorem dX1_look_10 : decode cX1_look 10 = .ok (.putfield 15, 3) := by decide +kernel
theorem dX1_look_13 : decode cX1_look 13 = .ok (.iconst 0, 1) := by decide +kernel
theorem dX1_look_14 : decode cX1_look 14 = .ok (.istore 4, 2) := by decide +kernel
theorem dX1_look_16 : decode cX1_look 16 = .ok (.iload 4, 2) := by decide +kernel
theorem dX1_look_18 : decode cX1_look 18 = .ok (.bipush 60, 2) := by decide +kernel
theorem dX1_look_20 : decode cX1_look 20 = .ok (.if_icmp .ge 96, 3) := by decide +kernel
theorem dX1_look_23 : decode cX1_look 23 = .ok (.iload_n 2, 1) := by decide +kernel
theorem dX1_look_24 : decode cX1_look 24 = .ok (.iload 4, 2) := by decide +kernel
theorem dX1_look_26 : decode cX1_look 26 = .ok (.iadd, 1) := by decide +kernel
theorem dX1_look_27 : decode cX1_look 27 = .ok (.bipush 30, 2) := by decide +kernel
theorem dX1_look_29 : decode cX1_look 29 = .ok (.irem, 1) := by decide +kernel
theorem dX1_look_30 : decode cX1_look 30 = .ok (.istore 5, 2) := by decide +kernel
theorem dX1_look_32 : decode cX1_look 32 = .ok (.aload_n 3, 1) := by decide +kernel
theorem dX1_look_33 : decode cX1_look 33 = .ok (.getfield 33, 3) := by decide +kernel
theorem dX1_look_36 : decode cX1_look 36 = .ok (.iload 5, 2) := by decide +kernel
theorem dX1_look_38 : decode cX1_look 38 = .ok (.iaload, 1) := by decide +kernel
theorem dX1_look_39 : decode cX1_look 39 = .ok (.iconst 3, 1) := by decide +kernel
theorem dX1_look_40 : decode cX1_look 40 = .ok (.if_icmp .ne 4, 3) := by decide +kernel
theorem dX1_look_43 : decode cX1_look 43 = .ok (.return_, 1) := by decide +kernel
theorem dX1_look_44 : decode cX1_look 44 = .ok (.aload_n 3, 1) := by decide +kernel
theorem dX1_look_45 : decode cX1_look 45 = .ok (.getfield 33, 3) := by decide +kernel
theorem dX1_look_48 : decode cX1_look 48 = .ok (.iload 5, 2) := by decide +kernel
theorem dX1_look_50 : decode cX1_look 50 = .ok (.iaload, 1) := by decide +kernel
theorem dX1_look_51 : decode cX1_look 51 = .ok (.iconst 1, 1) := by decide +kernel
theorem dX1_look_52 : decode cX1_look 52 = .ok (.if_icmp .ne 58, 3) := by decide +kernel
theorem dX1_look_55 : decode cX1_look 55 = .ok (.aload_n 0, 1) := by decide +kernel
theorem dX1_look_56 : decode cX1_look 56 = .ok (.getfield 15, 3) := by decide +kernel
theorem dX1_look_59 : decode cX1_look 59 = .ok (.bipush 12, 2) := by decide +kernel
theorem dX1_look_61 : decode cX1_look 61 = .ok (.if_icmp .ge 39, 3) := by decide +kernel
theorem dX1_look_64 : decode cX1_look 64 = .ok (.aload_n 0, 1) := by decide +kernel
theorem dX1_look_65 : decode cX1_look 65 = .ok (.getfield 9, 3) := by decide +kernel
theorem dX1_look_68 : decode cX1_look 68 = .ok (.aload_n 0, 1) := by decide +kernel
theorem dX1_look_69 : decode cX1_look 69 = .ok (.getfield 15, 3) := by decide +kernel
theorem dX1_look_72 : decode cX1_look 72 = .ok (.bipush 10, 2) := by decide +kernel
theorem dX1_look_74 : decode cX1_look 74 = .ok (.aload_n 0, 1) := by decide +kernel
theorem dX1_look_75 : decode cX1_look 75 = .ok (.getfield 23, 3) := by decide +kernel
theorem dX1_look_78 : decode cX1_look 78 = .ok (.aload_n 3, 1) := by decide +kernel
theorem dX1_look_79 : decode cX1_look 79 = .ok (.aload_n 0, 1) := by decide +kernel
theorem dX1_look_80 : decode cX1_look 80 = .ok (.getfield 19, 3) := by decide +kernel
theorem dX1_look_83 : decode cX1_look 83 = .ok (.getfield 38, 3) := by decide +kernel
theorem dX1_look_86 : decode cX1_look 86 = .ok (.iload_n 1, 1) := by decide +kernel
theorem dX1_look_87 : decode cX1_look 87 = .ok (.iload 5, 2) := by decide +kernel
theorem dX1_look_89 : decode cX1_look 89 = .ok (.aload_n 0, 1) := by decide +kernel
theorem dX1_look_90 : decode cX1_look 90 = .ok (.getfield 15, 3) := by decide +kernel
theorem dX1_look_93 : decode cX1_look 93 = .ok (.iconst 1, 1) := by decide +kernel
theorem dX1_look_94 : decode cX1_look 94 = .ok (.iadd, 1) := by decide +kernel
theorem dX1_look_95 : decode cX1_look 95 = .ok (.invokevirtual 41, 3) := by decide +kernel
theorem dX1_look_98 : decode cX1_look 98 = .ok (.isub, 1) := by decide +kernel
theorem dX1_look_99 : decode cX1_look 99 = .ok (.iastore, 1) := by decide +kernel
theorem dX1_look_100 : decode cX1_look 100 = .ok (.aload_n 0, 1) := by decide +kernel
theorem dX1_look_101 : decode cX1_look 101 = .ok (.dup, 1) := by decide +kernel
theorem dX1_look_102 : decode cX1_look 102 = .ok (.getfield 15, 3) := by decide +kernel
theorem dX1_look_105 : decode cX1_look 105 = .ok (.iconst 1, 1) := by decide +kernel
theorem dX1_look_106 : decode cX1_look 106 = .ok (.iadd, 1) := by decide +kernel
theorem dX1_look_107 : decode cX1_look 107 = .ok (.putfield 15, 3) := by decide +kernel
theorem dX1_look_110 : decode cX1_look 110 = .ok (.iinc 4 1, 3) := by decide +kernel
theorem dX1_look_113 : decode cX1_look 113 = .ok (.goto (-97), 3) := by decide +kernel
theorem dX1_look_116 : decode cX1_look 116 = .ok (.return_, 1) := by decide +kernel
theorem dX1_chance_0 : decode cX1_chance 0 = .ok (.iload_n 1, 1) := by decide +kernel
theorem dX1_chance_1 : decode cX1_chance 1 = .ok (.aload_n 0, 1) := by decide +kernel
theorem dX1_chance_2 : decode cX1_chance 2 = .ok (.getfield 15, 3) := by decide +kernel
theorem dX1_chance_5 : decode cX1_chance 5 = .ok (.if_icmp .gt 9, 3) := by decide +kernel
theorem dX1_chance_8 : decode cX1_chance 8 = .ok (.iload_n 1, 1) := by decide +kernel
theorem dX1_chance_9 : decode cX1_chance 9 = .ok (.bipush 12, 2) := by decide +kernel
theorem dX1_chance_11 : decode cX1_chance 11 = .ok (.if_icmp .le 5, 3) := by decide +kernel
theorem dX1_chance_14 : decode cX1_chance 14 = .ok (.lconst 0, 1) := by decide +kernel
theorem dX1_chance_15 : decode cX1_chance 15 = .ok (.lreturn, 1) := by decide +kernel
theorem dX1_chance_16 : decode cX1_chance 16 = .ok (.iload_n 1, 1) := by decide +kernel
theorem dX1_chance_17 : decode cX1_chance 17 = .ok (.ifCond .gt 16, 3) := by decide +kernel
theorem dX1_chance_20 : decode cX1_chance 20 = .ok (.aload_n 0, 1) := by decide +kernel
theorem dX1_chance_21 : decode cX1_chance 21 = .ok (.getfield 15, 3) := by decide +kernel
theorem dX1_chance_24 : decode cX1_chance 24 = .ok (.ifCond .ne 7, 3) := by decide +kernel
theorem dX1_chance_27 : decode cX1_chance 27 = .ok (.lconst 1, 1) := by decide +kernel
theorem dX1_chance_28 : decode cX1_chance 28 = .ok (.goto 4, 3) := by decide +kernel
theorem dX1_chance_31 : decode cX1_chance 31 = .ok (.lconst 0, 1) := by decide +kernel
theorem dX1_chance_32 : decode cX1_chance 32 = .ok (.lreturn, 1) := by decide +kernel
theorem dX1_chance_33 : decode cX1_chance 33 = .ok (.lconst 1, 1) := by decide +kernel
theorem dX1_chance_34 : decode cX1_chance 34 = .ok (.lstore_n 2, 1) := by decide +kernel
theorem dX1_chance_35 : decode cX1_chance 35 = .ok (.iconst 0, 1) := by decide +kernel
theorem dX1_chance_36 : decode cX1_chance 36 = .ok (.istore 4, 2) := by decide +kernel
theorem dX1_chance_38 : decode cX1_chance 38 = .ok (.iload 4, 2) := by decide +kernel
theorem dX1_chance_40 : decode cX1_chance 40 = .ok (.iload_n 1, 1) := by decide +kernel
theorem dX1_chance_41 : decode cX1_chance 41 = .ok (.iconst 1, 1) := by decide +kernel
theorem dX1_chance_42 : decode cX1_chance 42 = .ok (.isub, 1) := by decide +kernel
theorem dX1_chance_43 : decode cX1_chance 43 = .ok (.if_icmp .ge 20, 3) := by decide +kernel
theorem dX1_chance_46 : decode cX1_chance 46 = .ok (.lload_n 2, 1) := by decide +kernel
theorem dX1_chance_47 : decode cX1_chance 47 = .ok (.aload_n 0, 1) := by decide +kernel
theorem dX1_chance_48 : decode cX1_chance 48 = .ok (.getfield 9, 3) := by decide +kernel
theorem dX1_chance_51 : decode cX1_chance 51 = .ok (.iload 4, 2) := by decide +kernel
theorem dX1_chance_53 : decode cX1_chance 53 = .ok (.iaload, 1) := by decide +kernel
theorem dX1_chance_54 : decode cX1_chance 54 = .ok (.i2l, 1) := by decide +kernel
theorem dX1_chance_55 : decode cX1_chance 55 = .ok (.lmul, 1) := by decide +kernel
theorem dX1_chance_56 : decode cX1_chance 56 = .ok (.lstore_n 2, 1) := by decide +kernel
theorem dX1_chance_57 : decode cX1_chance 57 = .ok (.iinc 4 1, 3) := by decide +kernel
theorem dX1_chance_60 : decode cX1_chance 60 = .ok (.goto (-22), 3) := by decide +kernel
theorem dX1_chance_63 : decode cX1_chance 63 = .ok (.lload_n 2, 1) := by decide +kernel
theorem dX1_chance_64 : decode cX1_chance 64 = .ok (.iload_n 1, 1) := by decide +kernel
theorem dX1_chance_65 : decode cX1_chance 65 = .ok (.aload_n 0, 1) := by decide +kernel
theorem dX1_chance_66 : decode cX1_chance 66 = .ok (.getfield 15, 3) := by decide +kernel
theorem dX1_chance_69 : decode cX1_chance 69 = .ok (.if_icmp .ne 8, 3) := by decide +kernel
theorem dX1_chance_72 : decode cX1_chance 72 = .ok (.bipush 10, 2) := by decide +kernel
theorem dX1_chance_74 : decode cX1_chance 74 = .ok (.goto 14, 3) := by decide +kernel
theorem dX1_chance_77 : decode cX1_chance 77 = .ok (.bipush 10, 2) := by decide +kernel
theorem dX1_chance_79 : decode cX1_chance 79 = .ok (.aload_n 0, 1) := by decide +kernel
theorem dX1_chance_80 : decode cX1_chance 80 = .ok (.getfield 9, 3) := by decide +kernel
theorem dX1_chance_83 : decode cX1_chance 83 = .ok (.iload_n 1, 1) := by decide +kernel
theorem dX1_chance_84 : decode cX1_chance 84 = .ok (.iconst 1, 1) := by decide +kernel
theorem dX1_chance_85 : decode cX1_chance 85 = .ok (.isub, 1) := by decide +kernel
theorem dX1_chance_86 : decode cX1_chance 86 = .ok (.iaload, 1) := by decide +kernel
theorem dX1_chance_87 : decode cX1_chance 87 = .ok (.isub, 1) := by decide +kernel
theorem dX1_chance_88 : decode cX1_chance 88 = .ok (.i2l, 1) := by decide +kernel
theorem dX1_chance_89 : decode cX1_chance 89 = .ok (.lmul, 1) := by decide +kernel
theorem dX1_chance_90 : decode cX1_chance 90 = .ok (.lreturn, 1) := by decide +kernel
theorem dX1_startFor_0 : decode cX1_startFor 0 = .ok (.lconst 0, 1) := by decide +kernel
theorem dX1_startFor_1 : decode cX1_startFor 1 = .ok (.lstore_n 3, 1) := by decide +kernel
theorem dX1_startFor_2 : decode cX1_startFor 2 = .ok (.iconst (-1), 1) := by decide +kernel
theorem dX1_startFor_3 : decode cX1_startFor 3 = .ok (.istore 5, 2) := by decide +kernel
theorem dX1_startFor_5 : decode cX1_startFor 5 = .ok (.iconst 0, 1) := by decide +kernel
theorem dX1_startFor_6 : decode cX1_startFor 6 = .ok (.istore 6, 2) := by decide +kernel
theorem dX1_startFor_8 : decode cX1_startFor 8 = .ok (.iload 6, 2) := by decide +kernel
theorem dX1_startFor_10 : decode cX1_startFor 10 = .ok (.bipush 30, 2) := by decide +kernel
theorem dX1_startFor_12 : decode cX1_startFor 12 = .ok (.if_icmp .ge 36, 3) := by decide +kernel
theorem dX1_startFor_15 : decode cX1_startFor 15 = .ok (.aload_n 0, 1) := by decide +kernel
theorem dX1_startFor_16 : decode cX1_startFor 16 = .ok (.iload_n 1, 1) := by decide +kernel
theorem dX1_startFor_17 : decode cX1_startFor 17 = .ok (.iload 6, 2) := by decide +kernel
theorem dX1_startFor_19 : decode cX1_startFor 19 = .ok (.invokevirtual 47, 3) := by decide +kernel
theorem dX1_startFor_22 : decode cX1_startFor 22 = .ok (.aload_n 0, 1) := by decide +kernel
theorem dX1_startFor_23 : decode cX1_startFor 23 = .ok (.iload_n 2, 1) := by decide +kernel
theorem dX1_startFor_24 : decode cX1_startFor 24 = .ok (.invokevirtual 51, 3) := by decide +kernel
theorem dX1_startFor_27 : decode cX1_startFor 27 = .ok (.lload_n 3, 1) := by decide +kernel
theorem dX1_startFor_28 : decode cX1_startFor 28 = .ok (.lcmp, 1) := by decide +kernel
theorem dX1_startFor_29 : decode cX1_startFor 29 = .ok (.ifCond .le 13, 3) := by decide +kernel
theorem dX1_startFor_32 : decode cX1_startFor 32 = .ok (.aload_n 0, 1) := by decide +kernel
theorem dX1_startFor_33 : decode cX1_startFor 33 = .ok (.iload_n 2, 1) := by decide +kernel
theorem dX1_startFor_34 : decode cX1_startFor 34 = .ok (.invokevirtual 51, 3) := by decide +kernel
theorem dX1_startFor_37 : decode cX1_startFor 37 = .ok (.lstore_n 3, 1) := by decide +kernel
theorem dX1_startFor_38 : decode cX1_startFor 38 = .ok (.iload 6, 2) := by decide +kernel
theorem dX1_startFor_40 : decode cX1_startFor 40 = .ok (.istore 5, 2) := by decide +kernel
theorem dX1_startFor_42 : decode cX1_startFor 42 = .ok (.iinc 6 1, 3) := by decide +kernel
theorem dX1_startFor_45 : decode cX1_startFor 45 = .ok (.goto (-37), 3) := by decide +kernel
theorem dX1_startFor_48 : decode cX1_startFor 48 = .ok (.iload 5, 2) := by decide +kernel
theorem dX1_startFor_50 : decode cX1_startFor 50 = .ok (.ireturn, 1) := by decide +kernel
theorem dX1_cutFor_0 : decode cX1_cutFor 0 = .ok (.aload_n 0, 1) := by decide +kernel
theorem dX1_cutFor_1 : decode cX1_cutFor 1 = .ok (.getfield 19, 3) := by decide +kernel
theorem dX1_cutFor_4 : decode cX1_cutFor 4 = .ok (.getfield 27, 3) := by decide +kernel
theorem dX1_cutFor_7 : decode cX1_cutFor 7 = .ok (.getfield 33, 3) := by decide +kernel
theorem dX1_cutFor_10 : decode cX1_cutFor 10 = .ok (.astore 4, 2) := by decide +kernel
theorem dX1_cutFor_12 : decode cX1_cutFor 12 = .ok (.aload_n 0, 1) := by decide +kernel
theorem dX1_cutFor_13 : decode cX1_cutFor 13 = .ok (.iload_n 1, 1) := by decide +kernel
theorem dX1_cutFor_14 : decode cX1_cutFor 14 = .ok (.iload_n 2, 1) := by decide +kernel
theorem dX1_cutFor_15 : decode cX1_cutFor 15 = .ok (.invokevirtual 47, 3) := by decide +kernel
theorem dX1_cutFor_18 : decode cX1_cutFor 18 = .ok (.aload_n 0, 1) := by decide +kernel
theorem dX1_cutFor_19 : decode cX1_cutFor 19 = .ok (.iload_n 3, 1) := by decide +kernel
theorem dX1_cutFor_20 : decode cX1_cutFor 20 = .ok (.invokevirtual 51, 3) := by decide +kernel
theorem dX1_cutFor_23 : decode cX1_cutFor 23 = .ok (.lstore 5, 2) := by decide +kernel
theorem dX1_cutFor_25 : decode cX1_cutFor 25 = .ok (.iconst (-1), 1) := by decide +kernel
theorem dX1_cutFor_26 : decode cX1_cutFor 26 = .ok (.istore 7, 2) := by decide +kernel
theorem dX1_cutFor_28 : decode cX1_cutFor 28 = .ok (.iconst 0, 1) := by decide +kernel
theorem dX1_cutFor_29 : decode cX1_cutFor 29 = .ok (.istore 8, 2) := by decide +kernel
theorem dX1_cutFor_31 : decode cX1_cutFor 31 = .ok (.iload 8, 2) := by decide +kernel
theorem dX1_cutFor_33 : decode cX1_cutFor 33 = .ok (.bipush 30, 2) := by decide +kernel
theorem dX1_cutFor_35 : decode cX1_cutFor 35 = .ok (.if_icmp .ge 58, 3) := by decide +kernel
theorem dX1_cutFor_38 : decode cX1_cutFor 38 = .ok (.aload 4, 2) := by decide +kernel
theorem dX1_cutFor_40 : decode cX1_cutFor 40 = .ok (.iload 8, 2) := by decide +kernel
theorem dX1_cutFor_42 : decode cX1_cutFor 42 = .ok (.iaload, 1) := by decide +kernel
theorem dX1_cutFor_43 : decode cX1_cutFor 43 = .ok (.iconst 1, 1) := by decide +kernel
theorem dX1_cutFor_44 : decode cX1_cutFor 44 = .ok (.if_icmp .ne 43, 3) := by decide +kernel
theorem dX1_cutFor_47 : decode cX1_cutFor 47 = .ok (.aload 4, 2) := by decide +kernel
theorem dX1_cutFor_49 : decode cX1_cutFor 49 = .ok (.iload 8, 2) := by decide +kernel
theorem dX1_cutFor_51 : decode cX1_cutFor 51 = .ok (.iconst 0, 1) := by decide +kernel
theorem dX1_cutFor_52 : decode cX1_cutFor 52 = .ok (.iastore, 1) := by decide +kernel
theorem dX1_cutFor_53 : decode cX1_cutFor 53 = .ok (.aload_n 0, 1) := by decide +kernel
theorem dX1_cutFor_54 : decode cX1_cutFor 54 = .ok (.iload_n 1, 1) := by decide +kernel
theorem dX1_cutFor_55 : decode cX1_cutFor 55 = .ok (.iload_n 2, 1) := by decide +kernel
theorem dX1_cutFor_56 : decode cX1_cutFor 56 = .ok (.invokevirtual 47, 3) := by decide +kernel
theorem dX1_cutFor_59 : decode cX1_cutFor 59 = .ok (.aload 4, 2) := by decide +kernel
theorem dX1_cutFor_61 : decode cX1_cutFor 61 = .ok (.iload 8, 2) := by decide +kernel
theorem dX1_cutFor_63 : decode cX1_cutFor 63 = .ok (.iconst 1, 1) := by decide +kernel
theorem dX1_cutFor_64 : decode cX1_cutFor 64 = .ok (.iastore, 1) := by decide +kernel
theorem dX1_cutFor_65 : decode cX1_cutFor 65 = .ok (.aload_n 0, 1) := by decide +kernel
theorem dX1_cutFor_66 : decode cX1_cutFor 66 = .ok (.iload_n 3, 1) := by decide +kernel
theorem dX1_cutFor_67 : decode cX1_cutFor 67 = .ok (.invokevirtual 51, 3) := by decide +kernel
theorem dX1_cutFor_70 : decode cX1_cutFor 70 = .ok (.lload 5, 2) := by decide +kernel
theorem dX1_cutFor_72 : decode cX1_cutFor 72 = .ok (.lcmp, 1) := by decide +kernel
theorem dX1_cutFor_73 : decode cX1_cutFor 73 = .ok (.ifCond .le 14, 3) := by decide +kernel
theorem dX1_cutFor_76 : decode cX1_cutFor 76 = .ok (.aload_n 0, 1) := by decide +kernel
theorem dX1_cutFor_77 : decode cX1_cutFor 77 = .ok (.iload_n 3, 1) := by decide +kernel
theorem dX1_cutFor_78 : decode cX1_cutFor 78 = .ok (.invokevirtual 51, 3) := by decide +kernel
theorem dX1_cutFor_81 : decode cX1_cutFor 81 = .ok (.lstore 5, 2) := by decide +kernel
theorem dX1_cutFor_83 : decode cX1_cutFor 83 = .ok (.iload 8, 2) := by decide +kernel
theorem dX1_cutFor_85 : decode cX1_cutFor 85 = .ok (.istore 7, 2) := by decide +kernel
theorem dX1_cutFor_87 : decode cX1_cutFor 87 = .ok (.iinc 8 1, 3) := by decide +kernel
theorem dX1_cutFor_90 : decode cX1_cutFor 90 = .ok (.goto (-59), 3) := by decide +kernel
theorem dX1_cutFor_93 : decode cX1_cutFor 93 = .ok (.iload 7, 2) := by decide +kernel
theorem dX1_cutFor_95 : decode cX1_cutFor 95 = .ok (.ireturn, 1) := by decide +kernel
theorem dX1_meanCount_0 : decode cX1_meanCount 0 = .ok (.lconst 0, 1) := by decide +kernel
theorem dX1_meanCount_1 : decode cX1_meanCount 1 = .ok (.lstore_n 1, 1) := by decide +kernel
theorem dX1_meanCount_2 : decode cX1_meanCount 2 = .ok (.aload_n 0, 1) := by decide +kernel
theorem dX1_meanCount_3 : decode cX1_meanCount 3 = .ok (.getfield 15, 3) := by decide +kernel
theorem dX1_meanCount_6 : decode cX1_meanCount 6 = .ok (.invokestatic 55, 3) := by decide +kernel
theorem dX1_meanCount_9 : decode cX1_meanCount 9 = .ok (.lstore_n 3, 1) := by decide +kernel
theorem dX1_meanCount_10 : decode cX1_meanCount 10 = .ok (.iconst 0, 1) := by decide +kernel
theorem dX1_meanCount_11 : decode cX1_meanCount 11 = .ok (.istore 5, 2) := by decide +kernel
theorem dX1_meanCount_13 : decode cX1_meanCount 13 = .ok (.iload 5, 2) := by decide +kernel
theorem dX1_meanCount_15 : decode cX1_meanCount 15 = .ok (.aload_n 0, 1) := by decide +kernel
theorem dX1_meanCount_16 : decode cX1_meanCount 16 = .ok (.getfield 15, 3) := by decide +kernel
theorem dX1_meanCount_19 : decode cX1_meanCount 19 = .ok (.if_icmp .ge 35, 3) := by decide +kernel
theorem dX1_meanCount_22 : decode cX1_meanCount 22 = .ok (.iload 5, 2) := by decide +kernel
theorem dX1_meanCount_24 : decode cX1_meanCount 24 = .ok (.bipush 12, 2) := by decide +kernel
theorem dX1_meanCount_26 : decode cX1_meanCount 26 = .ok (.if_icmp .ge 28, 3) := by decide +kernel
theorem dX1_meanCount_29 : decode cX1_meanCount 29 = .ok (.lload_n 1, 1) := by decide +kernel
theorem dX1_meanCount_30 : decode cX1_meanCount 30 = .ok (.lload_n 3, 1) := by decide +kernel
theorem dX1_meanCount_31 : decode cX1_meanCount 31 = .ok (.ladd, 1) := by decide +kernel
theorem dX1_meanCount_32 : decode cX1_meanCount 32 = .ok (.lstore_n 1, 1) := by decide +kernel
theorem dX1_meanCount_33 : decode cX1_meanCount 33 = .ok (.lload_n 3, 1) := by decide +kernel
theorem dX1_meanCount_34 : decode cX1_meanCount 34 = .ok (.ldc2_w 58, 3) := by decide +kernel
theorem dX1_meanCount_37 : decode cX1_meanCount 37 = .ok (.ldiv, 1) := by decide +kernel
theorem dX1_meanCount_38 : decode cX1_meanCount 38 = .ok (.aload_n 0, 1) := by decide +kernel
theorem dX1_meanCount_39 : decode cX1_meanCount 39 = .ok (.getfield 9, 3) := by decide +kernel
theorem dX1_meanCount_42 : decode cX1_meanCount 42 = .ok (.iload 5, 2) := by decide +kernel
theorem dX1_meanCount_44 : decode cX1_meanCount 44 = .ok (.iaload, 1) := by decide +kernel
theorem dX1_meanCount_45 : decode cX1_meanCount 45 = .ok (.i2l, 1) := by decide +kernel
theorem dX1_meanCount_46 : decode cX1_meanCount 46 = .ok (.lmul, 1) := by decide +kernel
theorem dX1_meanCount_47 : decode cX1_meanCount 47 = .ok (.lstore_n 3, 1) := by decide +kernel
theorem dX1_meanCount_48 : decode cX1_meanCount 48 = .ok (.iinc 5 1, 3) := by decide +kernel
theorem dX1_meanCount_51 : decode cX1_meanCount 51 = .ok (.goto (-38), 3) := by decide +kernel
theorem dX1_meanCount_54 : decode cX1_meanCount 54 = .ok (.lload_n 1, 1) := by decide +kernel
theorem dX1_meanCount_55 : decode cX1_meanCount 55 = .ok (.lreturn, 1) := by decide +kernel
theorem dX1_last_0 : decode cX1_last 0 = .ok (.aload_n 0, 1) := by decide +kernel
theorem dX1_last_1 : decode cX1_last 1 = .ok (.getfield 15, 3) := by decide +kernel
theorem dX1_last_4 : decode cX1_last 4 = .ok (.bipush 12, 2) := by decide +kernel
theorem dX1_last_6 : decode cX1_last 6 = .ok (.invokestatic 60, 3) := by decide +kernel
theorem dX1_last_9 : decode cX1_last 9 = .ok (.ireturn, 1) := by decide +kernel
theorem dX1_worthFrom_0 : decode cX1_worthFrom 0 = .ok (.aload_n 0, 1) := by decide +kernel
theorem dX1_worthFrom_1 : decode cX1_worthFrom 1 = .ok (.invokevirtual 66, 3) := by decide +kernel
theorem dX1_worthFrom_4 : decode cX1_worthFrom 4 = .ok (.istore_n 2, 1) := by decide +kernel
theorem dX1_worthFrom_5 : decode cX1_worthFrom 5 = .ok (.aload_n 0, 1) := by decide +kernel
theorem dX1_worthFrom_6 : decode cX1_worthFrom 6 = .ok (.getfield 19, 3) := by decide +kernel
theorem dX1_worthFrom_9 : decode cX1_worthFrom 9 = .ok (.getfield 70, 3) := by decide +kernel
theorem dX1_worthFrom_12 : decode cX1_worthFrom 12 = .ok (.iload_n 2, 1) := by decide +kernel
theorem dX1_worthFrom_13 : decode cX1_worthFrom 13 = .ok (.iaload, 1) := by decide +kernel
theorem dX1_worthFrom_14 : decode cX1_worthFrom 14 = .ok (.i2l, 1) := by decide +kernel
theorem dX1_worthFrom_15 : decode cX1_worthFrom 15 = .ok (.lstore_n 3, 1) := by decide +kernel
theorem dX1_worthFrom_16 : decode cX1_worthFrom 16 = .ok (.iload_n 2, 1) := by decide +kernel
theorem dX1_worthFrom_17 : decode cX1_worthFrom 17 = .ok (.iload_n 1, 1) := by decide +kernel
theorem dX1_worthFrom_18 : decode cX1_worthFrom 18 = .ok (.if_icmp .le 46, 3) := by decide +kernel
theorem dX1_worthFrom_21 : decode cX1_worthFrom 21 = .ok (.iload_n 2, 1) := by decide +kernel
theorem dX1_worthFrom_22 : decode cX1_worthFrom 22 = .ok (.ifCond .le 42, 3) := by decide +kernel
theorem dX1_worthFrom_25 : decode cX1_worthFrom 25 = .ok (.iinc 2 (-1), 3) := by decide +kernel
theorem dX1_worthFrom_28 : decode cX1_worthFrom 28 = .ok (.aload_n 0, 1) := by decide +kernel
theorem dX1_worthFrom_29 : decode cX1_worthFrom 29 = .ok (.getfield 19, 3) := by decide +kernel
theorem dX1_worthFrom_32 : decode cX1_worthFrom 32 = .ok (.getfield 70, 3) := by decide +kernel
theorem dX1_worthFrom_35 : decode cX1_worthFrom 35 = .ok (.iload_n 2, 1) := by decide +kernel
theorem dX1_worthFrom_36 : decode cX1_worthFrom 36 = .ok (.iaload, 1) := by decide +kernel
theorem dX1_worthFrom_37 : decode cX1_worthFrom 37 = .ok (.i2l, 1) := by decide +kernel
theorem dX1_worthFrom_38 : decode cX1_worthFrom 38 = .ok (.aload_n 0, 1) := by decide +kernel
theorem dX1_worthFrom_39 : decode cX1_worthFrom 39 = .ok (.invokevirtual 66, 3) := by decide +kernel
theorem dX1_worthFrom_42 : decode cX1_worthFrom 42 = .ok (.iload_n 2, 1) := by decide +kernel
theorem dX1_worthFrom_43 : decode cX1_worthFrom 43 = .ok (.isub, 1) := by decide +kernel
theorem dX1_worthFrom_44 : decode cX1_worthFrom 44 = .ok (.invokestatic 55, 3) := by decide +kernel
theorem dX1_worthFrom_47 : decode cX1_worthFrom 47 = .ok (.lmul, 1) := by decide +kernel
theorem dX1_worthFrom_48 : decode cX1_worthFrom 48 = .ok (.lload_n 3, 1) := by decide +kernel
theorem dX1_worthFrom_49 : decode cX1_worthFrom 49 = .ok (.aload_n 0, 1) := by decide +kernel
theorem dX1_worthFrom_50 : decode cX1_worthFrom 50 = .ok (.getfield 9, 3) := by decide +kernel
theorem dX1_worthFrom_53 : decode cX1_worthFrom 53 = .ok (.iload_n 2, 1) := by decide +kernel
theorem dX1_worthFrom_54 : decode cX1_worthFrom 54 = .ok (.iaload, 1) := by decide +kernel
theorem dX1_worthFrom_55 : decode cX1_worthFrom 55 = .ok (.i2l, 1) := by decide +kernel
theorem dX1_worthFrom_56 : decode cX1_worthFrom 56 = .ok (.lmul, 1) := by decide +kernel
theorem dX1_worthFrom_57 : decode cX1_worthFrom 57 = .ok (.invokestatic 73, 3) := by decide +kernel
theorem dX1_worthFrom_60 : decode cX1_worthFrom 60 = .ok (.lstore_n 3, 1) := by decide +kernel
theorem dX1_worthFrom_61 : decode cX1_worthFrom 61 = .ok (.goto (-45), 3) := by decide +kernel
theorem dX1_worthFrom_64 : decode cX1_worthFrom 64 = .ok (.lload_n 3, 1) := by decide +kernel
theorem dX1_worthFrom_65 : decode cX1_worthFrom 65 = .ok (.lreturn, 1) := by decide +kernel
theorem dX1_onIsMore_0 : decode cX1_onIsMore 0 = .ok (.iload_n 1, 1) := by decide +kernel
theorem dX1_onIsMore_1 : decode cX1_onIsMore 1 = .ok (.ifCond .lt 11, 3) := by decide +kernel
theorem dX1_onIsMore_4 : decode cX1_onIsMore 4 = .ok (.iload_n 1, 1) := by decide +kernel
theorem dX1_onIsMore_5 : decode cX1_onIsMore 5 = .ok (.aload_n 0, 1) := by decide +kernel
theorem dX1_onIsMore_6 : decode cX1_onIsMore 6 = .ok (.invokevirtual 66, 3) := by decide +kernel
theorem dX1_onIsMore_9 : decode cX1_onIsMore 9 = .ok (.if_icmp .lt 5, 3) := by decide +kernel
theorem dX1_onIsMore_12 : decode cX1_onIsMore 12 = .ok (.iconst 0, 1) := by decide +kernel
theorem dX1_onIsMore_13 : decode cX1_onIsMore 13 = .ok (.ireturn, 1) := by decide +kernel
theorem dX1_onIsMore_14 : decode cX1_onIsMore 14 = .ok (.aload_n 0, 1) := by decide +kernel
theorem dX1_onIsMore_15 : decode cX1_onIsMore 15 = .ok (.iload_n 1, 1) := by decide +kernel
theorem dX1_onIsMore_16 : decode cX1_onIsMore 16 = .ok (.iconst 1, 1) := by decide +kernel
theorem dX1_onIsMore_17 : decode cX1_onIsMore 17 = .ok (.iadd, 1) := by decide +kernel
theorem dX1_onIsMore_18 : decode cX1_onIsMore 18 = .ok (.invokevirtual 77, 3) := by decide +kernel
theorem dX1_onIsMore_21 : decode cX1_onIsMore 21 = .ok (.aload_n 0, 1) := by decide +kernel
theorem dX1_onIsMore_22 : decode cX1_onIsMore 22 = .ok (.getfield 9, 3) := by decide +kernel
theorem dX1_onIsMore_25 : decode cX1_onIsMore 25 = .ok (.iload_n 1, 1) := by decide +kernel
theorem dX1_onIsMore_26 : decode cX1_onIsMore 26 = .ok (.iaload, 1) := by decide +kernel
theorem dX1_onIsMore_27 : decode cX1_onIsMore 27 = .ok (.i2l, 1) := by decide +kernel
theorem dX1_onIsMore_28 : decode cX1_onIsMore 28 = .ok (.lmul, 1) := by decide +kernel
theorem dX1_onIsMore_29 : decode cX1_onIsMore 29 = .ok (.aload_n 0, 1) := by decide +kernel
theorem dX1_onIsMore_30 : decode cX1_onIsMore 30 = .ok (.getfield 19, 3) := by decide +kernel
theorem dX1_onIsMore_33 : decode cX1_onIsMore 33 = .ok (.getfield 70, 3) := by decide +kernel
theorem dX1_onIsMore_36 : decode cX1_onIsMore 36 = .ok (.iload_n 1, 1) := by decide +kernel
theorem dX1_onIsMore_37 : decode cX1_onIsMore 37 = .ok (.iaload, 1) := by decide +kernel
theorem dX1_onIsMore_38 : decode cX1_onIsMore 38 = .ok (.i2l, 1) := by decide +kernel
theorem dX1_onIsMore_39 : decode cX1_onIsMore 39 = .ok (.aload_n 0, 1) := by decide +kernel
theorem dX1_onIsMore_40 : decode cX1_onIsMore 40 = .ok (.invokevirtual 66, 3) := by decide +kernel
theorem dX1_onIsMore_43 : decode cX1_onIsMore 43 = .ok (.iload_n 1, 1) := by decide +kernel
theorem dX1_onIsMore_44 : decode cX1_onIsMore 44 = .ok (.isub, 1) := by decide +kernel
theorem dX1_onIsMore_45 : decode cX1_onIsMore 45 = .ok (.invokestatic 55, 3) := by decide +kernel
theorem dX1_onIsMore_48 : decode cX1_onIsMore 48 = .ok (.lmul, 1) := by decide +kernel
theorem dX1_onIsMore_49 : decode cX1_onIsMore 49 = .ok (.lcmp, 1) := by decide +kernel
theorem dX1_onIsMore_50 : decode cX1_onIsMore 50 = .ok (.ifCond .le 7, 3) := by decide +kernel
theorem dX1_onIsMore_53 : decode cX1_onIsMore 53 = .ok (.iconst 1, 1) := by decide +kernel
theorem dX1_onIsMore_54 : decode cX1_onIsMore 54 = .ok (.goto 4, 3) := by decide +kernel
theorem dX1_onIsMore_57 : decode cX1_onIsMore 57 = .ok (.iconst 0, 1) := by decide +kernel
theorem dX1_onIsMore_58 : decode cX1_onIsMore 58 = .ok (.ireturn, 1) := by decide +kernel
theorem dX1_bestStart_0 : decode cX1_bestStart 0 = .ok (.ldc2_w 80, 3) := by decide +kernel
theorem dX1_bestStart_3 : decode cX1_bestStart 3 = .ok (.lstore_n 2, 1) := by decide +kernel
theorem dX1_bestStart_4 : decode cX1_bestStart 4 = .ok (.iconst (-1), 1) := by decide +kernel
theorem dX1_bestStart_5 : decode cX1_bestStart 5 = .ok (.istore 4, 2) := by decide +kernel
theorem dX1_bestStart_7 : decode cX1_bestStart 7 = .ok (.iconst 0, 1) := by decide +kernel
theorem dX1_bestStart_8 : decode cX1_bestStart 8 = .ok (.istore 5, 2) := by decide +kernel
theorem dX1_bestStart_10 : decode cX1_bestStart 10 = .ok (.iload 5, 2) := by decide +kernel
theorem dX1_bestStart_12 : decode cX1_bestStart 12 = .ok (.bipush 30, 2) := by decide +kernel
theorem dX1_bestStart_14 : decode cX1_bestStart 14 = .ok (.if_icmp .ge 48, 3) := by decide +kernel
theorem dX1_bestStart_17 : decode cX1_bestStart 17 = .ok (.aload_n 0, 1) := by decide +kernel
theorem dX1_bestStart_18 : decode cX1_bestStart 18 = .ok (.iload_n 1, 1) := by decide +kernel
theorem dX1_bestStart_19 : decode cX1_bestStart 19 = .ok (.iload 5, 2) := by decide +kernel
theorem dX1_bestStart_21 : decode cX1_bestStart 21 = .ok (.invokevirtual 47, 3) := by decide +kernel
theorem dX1_bestStart_24 : decode cX1_bestStart 24 = .ok (.aload_n 0, 1) := by decide +kernel
theorem dX1_bestStart_25 : decode cX1_bestStart 25 = .ok (.iconst 0, 1) := by decide +kernel
theorem dX1_bestStart_26 : decode cX1_bestStart 26 = .ok (.invokevirtual 77, 3) := by decide +kernel
theorem dX1_bestStart_29 : decode cX1_bestStart 29 = .ok (.bipush 12, 2) := by decide +kernel
theorem dX1_bestStart_31 : decode cX1_bestStart 31 = .ok (.aload_n 0, 1) := by decide +kernel
theorem dX1_bestStart_32 : decode cX1_bestStart 32 = .ok (.invokevirtual 66, 3) := by decide +kernel
theorem dX1_bestStart_35 : decode cX1_bestStart 35 = .ok (.isub, 1) := by decide +kernel
theorem dX1_bestStart_36 : decode cX1_bestStart 36 = .ok (.invokestatic 55, 3) := by decide +kernel
theorem dX1_bestStart_39 : decode cX1_bestStart 39 = .ok (.lmul, 1) := by decide +kernel
theorem dX1_bestStart_40 : decode cX1_bestStart 40 = .ok (.lstore 6, 2) := by decide +kernel
theorem dX1_bestStart_42 : decode cX1_bestStart 42 = .ok (.lload 6, 2) := by decide +kernel
theorem dX1_bestStart_44 : decode cX1_bestStart 44 = .ok (.lload_n 2, 1) := by decide +kernel
theorem dX1_bestStart_45 : decode cX1_bestStart 45 = .ok (.lcmp, 1) := by decide +kernel
theorem dX1_bestStart_46 : decode cX1_bestStart 46 = .ok (.ifCond .le 10, 3) := by decide +kernel
theorem dX1_bestStart_49 : decode cX1_bestStart 49 = .ok (.lload 6, 2) := by decide +kernel
theorem dX1_bestStart_51 : decode cX1_bestStart 51 = .ok (.lstore_n 2, 1) := by decide +kernel
theorem dX1_bestStart_52 : decode cX1_bestStart 52 = .ok (.iload 5, 2) := by decide +kernel
theorem dX1_bestStart_54 : decode cX1_bestStart 54 = .ok (.istore 4, 2) := by decide +kernel
theorem dX1_bestStart_56 : decode cX1_bestStart 56 = .ok (.iinc 5 1, 3) := by decide +kernel
theorem dX1_bestStart_59 : decode cX1_bestStart 59 = .ok (.goto (-49), 3) := by decide +kernel
theorem dX1_bestStart_62 : decode cX1_bestStart 62 = .ok (.iload 4, 2) := by decide +kernel
theorem dX1_bestStart_64 : decode cX1_bestStart 64 = .ok (.ireturn, 1) := by decide +kernel
theorem dX1_ten_0 : decode cX1_ten 0 = .ok (.lconst 1, 1) := by decide +kernel
theorem dX1_ten_1 : decode cX1_ten 1 = .ok (.lstore_n 1, 1) := by decide +kernel
theorem dX1_ten_2 : decode cX1_ten 2 = .ok (.iconst 0, 1) := by decide +kernel
theorem dX1_ten_3 : decode cX1_ten 3 = .ok (.istore_n 3, 1) := by decide +kernel
theorem dX1_ten_4 : decode cX1_ten 4 = .ok (.iload_n 3, 1) := by decide +kernel
theorem dX1_ten_5 : decode cX1_ten 5 = .ok (.iload_n 0, 1) := by decide +kernel
theorem dX1_ten_6 : decode cX1_ten 6 = .ok (.if_icmp .ge 21, 3) := by decide +kernel
theorem dX1_ten_9 : decode cX1_ten 9 = .ok (.iload_n 3, 1) := by decide +kernel
theorem dX1_ten_10 : decode cX1_ten 10 = .ok (.bipush 18, 2) := by decide +kernel
theorem dX1_ten_12 : decode cX1_ten 12 = .ok (.if_icmp .ge 15, 3) := by decide +kernel
theorem dX1_ten_15 : decode cX1_ten 15 = .ok (.lload_n 1, 1) := by decide +kernel
theorem dX1_ten_16 : decode cX1_ten 16 = .ok (.ldc2_w 58, 3) := by decide +kernel
theorem dX1_ten_19 : decode cX1_ten 19 = .ok (.lmul, 1) := by decide +kernel
theorem dX1_ten_20 : decode cX1_ten 20 = .ok (.lstore_n 1, 1) := by decide +kernel
theorem dX1_ten_21 : decode cX1_ten 21 = .ok (.iinc 3 1, 3) := by decide +kernel
theorem dX1_ten_24 : decode cX1_ten 24 = .ok (.goto (-20), 3) := by decide +kernel
theorem dX1_ten_27 : decode cX1_ten 27 = .ok (.lload_n 1, 1) := by decide +kernel
theorem dX1_ten_28 : decode cX1_ten 28 = .ok (.lreturn, 1) := by decide +kernel
theorem dX1_lowest_0 : decode cX1_lowest 0 = .ok (.lload_n 0, 1) := by decide +kernel
theorem dX1_lowest_1 : decode cX1_lowest 1 = .ok (.lstore 5, 2) := by decide +kernel
theorem dX1_lowest_3 : decode cX1_lowest 3 = .ok (.lload_n 2, 1) := by decide +kernel
theorem dX1_lowest_4 : decode cX1_lowest 4 = .ok (.lstore 7, 2) := by decide +kernel
theorem dX1_lowest_6 : decode cX1_lowest 6 = .ok (.iconst 0, 1) := by decide +kernel
theorem dX1_lowest_7 : decode cX1_lowest 7 = .ok (.istore 9, 2) := by decide +kernel
theorem dX1_lowest_9 : decode cX1_lowest 9 = .ok (.iload 9, 2) := by decide +kernel
theorem dX1_lowest_11 : decode cX1_lowest 11 = .ok (.sipush 200, 3) := by decide +kernel
theorem dX1_lowest_14 : decode cX1_lowest 14 = .ok (.if_icmp .ge 31, 3) := by decide +kernel
theorem dX1_lowest_17 : decode cX1_lowest 17 = .ok (.lload 7, 2) := by decide +kernel
theorem dX1_lowest_19 : decode cX1_lowest 19 = .ok (.lconst 0, 1) := by decide +kernel
theorem dX1_lowest_20 : decode cX1_lowest 20 = .ok (.lcmp, 1) := by decide +kernel
theorem dX1_lowest_21 : decode cX1_lowest 21 = .ok (.ifCond .eq 24, 3) := by decide +kernel
theorem dX1_lowest_24 : decode cX1_lowest 24 = .ok (.lload 5, 2) := by decide +kernel
theorem dX1_lowest_26 : decode cX1_lowest 26 = .ok (.lload 7, 2) := by decide +kernel
theorem dX1_lowest_28 : decode cX1_lowest 28 = .ok (.lrem, 1) := by decide +kernel
theorem dX1_lowest_29 : decode cX1_lowest 29 = .ok (.lstore 10, 2) := by decide +kernel
theorem dX1_lowest_31 : decode cX1_lowest 31 = .ok (.lload 7, 2) := by decide +kernel
theorem dX1_lowest_33 : decode cX1_lowest 33 = .ok (.lstore 5, 2) := by decide +kernel
theorem dX1_lowest_35 : decode cX1_lowest 35 = .ok (.lload 10, 2) := by decide +kernel
theorem dX1_lowest_37 : decode cX1_lowest 37 = .ok (.lstore 7, 2) := by decide +kernel
theorem dX1_lowest_39 : decode cX1_lowest 39 = .ok (.iinc 9 1, 3) := by decide +kernel
theorem dX1_lowest_42 : decode cX1_lowest 42 = .ok (.goto (-33), 3) := by decide +kernel
theorem dX1_lowest_45 : decode cX1_lowest 45 = .ok (.lload 5, 2) := by decide +kernel
theorem dX1_lowest_47 : decode cX1_lowest 47 = .ok (.lconst 0, 1) := by decide +kernel
theorem dX1_lowest_48 : decode cX1_lowest 48 = .ok (.lcmp, 1) := by decide +kernel
theorem dX1_lowest_49 : decode cX1_lowest 49 = .ok (.ifCond .ne 7, 3) := by decide +kernel
theorem dX1_lowest_52 : decode cX1_lowest 52 = .ok (.ldc2_w 80, 3) := by decide +kernel
theorem dX1_lowest_55 : decode cX1_lowest 55 = .ok (.lreturn, 1) := by decide +kernel
theorem dX1_lowest_56 : decode cX1_lowest 56 = .ok (.iload 4, 2) := by decide +kernel
theorem dX1_lowest_58 : decode cX1_lowest 58 = .ok (.ifCond .eq 10, 3) := by decide +kernel
theorem dX1_lowest_61 : decode cX1_lowest 61 = .ok (.lload_n 2, 1) := by decide +kernel
theorem dX1_lowest_62 : decode cX1_lowest 62 = .ok (.lload 5, 2) := by decide +kernel
theorem dX1_lowest_64 : decode cX1_lowest 64 = .ok (.ldiv, 1) := by decide +kernel
theorem dX1_lowest_65 : decode cX1_lowest 65 = .ok (.goto 7, 3) := by decide +kernel
theorem dX1_lowest_68 : decode cX1_lowest 68 = .ok (.lload_n 0, 1) := by decide +kernel
theorem dX1_lowest_69 : decode cX1_lowest 69 = .ok (.lload 5, 2) := by decide +kernel
theorem dX1_lowest_71 : decode cX1_lowest 71 = .ok (.ldiv, 1) := by decide +kernel
theorem dX1_lowest_72 : decode cX1_lowest 72 = .ok (.lreturn, 1) := by decide +kernel
theorem dX2_init_0 : decode cX2_init 0 = .ok (.aload_n 0, 1) := by decide +kernel
theorem dX2_init_1 : decode cX2_init 1 = .ok (.invokespecial 3, 3) := by decide +kernel
theorem dX2_init_4 : decode cX2_init 4 = .ok (.aload_n 0, 1) := by decide +kernel
theorem dX2_init_5 : decode cX2_init 5 = .ok (.aload_n 1, 1) := by decide +kernel
theorem dX2_init_6 : decode cX2_init 6 = .ok (.putfield 9, 3) := by decide +kernel
theorem dX2_init_9 : decode cX2_init 9 = .ok (.aload_n 0, 1) := by decide +kernel
theorem dX2_init_10 : decode cX2_init 10 = .ok (.aload_n 2, 1) := by decide +kernel
theorem dX2_init_11 : decode cX2_init 11 = .ok (.putfield 15, 3) := by decide +kernel
theorem dX2_init_14 : decode cX2_init 14 = .ok (.return_, 1) := by decide +kernel
theorem dX2_tellKind_0 : decode cX2_tellKind 0 = .ok (.iload_n 1, 1) := by decide +kernel
theorem dX2_tellKind_1 : decode cX2_tellKind 1 = .ok (.invokestatic 19, 3) := by decide +kernel
theorem dX2_tellKind_4 : decode cX2_tellKind 4 = .ok (.ifCond .eq 12, 3) := by decide +kernel
theorem dX2_tellKind_7 : decode cX2_tellKind 7 = .ok (.iload_n 2, 1) := by decide +kernel
theorem dX2_tellKind_8 : decode cX2_tellKind 8 = .ok (.ifCond .lt 8, 3) := by decide +kernel
theorem dX2_tellKind_11 : decode cX2_tellKind 11 = .ok (.iload_n 2, 1) := by decide +kernel
theorem dX2_tellKind_12 : decode cX2_tellKind 12 = .ok (.iconst 3, 1) := by decide +kernel
theorem dX2_tellKind_13 : decode cX2_tellKind 13 = .ok (.if_icmp .le 5, 3) := by decide +kernel
theorem dX2_tellKind_16 : decode cX2_tellKind 16 = .ok (.iconst 0, 1) := by decide +kernel
theorem dX2_tellKind_17 : decode cX2_tellKind 17 = .ok (.ireturn, 1) := by decide +kernel
theorem dX2_tellKind_18 : decode cX2_tellKind 18 = .ok (.aload_n 0, 1) := by decide +kernel
theorem dX2_tellKind_19 : decode cX2_tellKind 19 = .ok (.getfield 9, 3) := by decide +kernel
theorem dX2_tellKind_22 : decode cX2_tellKind 22 = .ok (.getfield 23, 3) := by decide +kernel
theorem dX2_tellKind_25 : decode cX2_tellKind 25 = .ok (.getfield 29, 3) := by decide +kernel
theorem dX2_tellKind_28 : decode cX2_tellKind 28 = .ok (.iload_n 1, 1) := by decide +kernel
theorem dX2_tellKind_29 : decode cX2_tellKind 29 = .ok (.iload_n 2, 1) := by decide +kernel
theorem dX2_tellKind_30 : decode cX2_tellKind 30 = .ok (.iastore, 1) := by decide +kernel
theorem dX2_tellKind_31 : decode cX2_tellKind 31 = .ok (.aload_n 0, 1) := by decide +kernel
theorem dX2_tellKind_32 : decode cX2_tellKind 32 = .ok (.getfield 9, 3) := by decide +kernel
theorem dX2_tellKind_35 : decode cX2_tellKind 35 = .ok (.getfield 35, 3) := by decide +kernel
theorem dX2_tellKind_38 : decode cX2_tellKind 38 = .ok (.iload_n 1, 1) := by decide +kernel
theorem dX2_tellKind_39 : decode cX2_tellKind 39 = .ok (.iload_n 2, 1) := by decide +kernel
theorem dX2_tellKind_40 : decode cX2_tellKind 40 = .ok (.invokevirtual 39, 3) := by decide +kernel
theorem dX2_tellKind_43 : decode cX2_tellKind 43 = .ok (.iconst 1, 1) := by decide +kernel
theorem dX2_tellKind_44 : decode cX2_tellKind 44 = .ok (.ireturn, 1) := by decide +kernel
theorem dX2_tellPaint_0 : decode cX2_tellPaint 0 = .ok (.iload_n 1, 1) := by decide +kernel
theorem dX2_tellPaint_1 : decode cX2_tellPaint 1 = .ok (.invokestatic 19, 3) := by decide +kernel
theorem dX2_tellPaint_4 : decode cX2_tellPaint 4 = .ok (.ifCond .eq 13, 3) := by decide +kernel
theorem dX2_tellPaint_7 : decode cX2_tellPaint 7 = .ok (.iload_n 2, 1) := by decide +kernel
theorem dX2_tellPaint_8 : decode cX2_tellPaint 8 = .ok (.ifCond .lt 9, 3) := by decide +kernel
theorem dX2_tellPaint_11 : decode cX2_tellPaint 11 = .ok (.iload_n 2, 1) := by decide +kernel
theorem dX2_tellPaint_12 : decode cX2_tellPaint 12 = .ok (.bipush 9, 2) := by decide +kernel
theorem dX2_tellPaint_14 : decode cX2_tellPaint 14 = .ok (.if_icmp .le 5, 3) := by decide +kernel
theorem dX2_tellPaint_17 : decode cX2_tellPaint 17 = .ok (.iconst 0, 1) := by decide +kernel
theorem dX2_tellPaint_18 : decode cX2_tellPaint 18 = .ok (.ireturn, 1) := by decide +kernel
theorem dX2_tellPaint_19 : decode cX2_tellPaint 19 = .ok (.aload_n 0, 1) := by decide +kernel
theorem dX2_tellPaint_20 : decode cX2_tellPaint 20 = .ok (.getfield 9, 3) := by decide +kernel
theorem dX2_tellPaint_23 : decode cX2_tellPaint 23 = .ok (.getfield 23, 3) := by decide +kernel
theorem dX2_tellPaint_26 : decode cX2_tellPaint 26 = .ok (.getfield 45, 3) := by decide +kernel
theorem dX2_tellPaint_29 : decode cX2_tellPaint 29 = .ok (.iload_n 1, 1) := by decide +kernel
theorem dX2_tellPaint_30 : decode cX2_tellPaint 30 = .ok (.iload_n 2, 1) := by decide +kernel
theorem dX2_tellPaint_31 : decode cX2_tellPaint 31 = .ok (.iastore, 1) := by decide +kernel
theorem dX2_tellPaint_32 : decode cX2_tellPaint 32 = .ok (.aload_n 0, 1) := by decide +kernel
theorem dX2_tellPaint_33 : decode cX2_tellPaint 33 = .ok (.getfield 9, 3) := by decide +kernel
theorem dX2_tellPaint_36 : decode cX2_tellPaint 36 = .ok (.getfield 35, 3) := by decide +kernel
theorem dX2_tellPaint_39 : decode cX2_tellPaint 39 = .ok (.iload_n 1, 1) := by decide +kernel
theorem dX2_tellPaint_40 : decode cX2_tellPaint 40 = .ok (.iload_n 2, 1) := by decide +kernel
theorem dX2_tellPaint_41 : decode cX2_tellPaint 41 = .ok (.invokevirtual 48, 3) := by decide +kernel
theorem dX2_tellPaint_44 : decode cX2_tellPaint 44 = .ok (.iconst 1, 1) := by decide +kernel
theorem dX2_tellPaint_45 : decode cX2_tellPaint 45 = .ok (.ireturn, 1) := by decide +kernel
theorem dX2_tellChild_0 : decode cX2_tellChild 0 = .ok (.iload_n 1, 1) := by decide +kernel
theorem dX2_tellChild_1 : decode cX2_tellChild 1 = .ok (.iconst 1, 1) := by decide +kernel
theorem dX2_tellChild_2 : decode cX2_tellChild 2 = .ok (.if_icmp .lt 31, 3) := by decide +kernel
theorem dX2_tellChild_5 : decode cX2_tellChild 5 = .ok (.iload_n 1, 1) := by decide +kernel
theorem dX2_tellChild_6 : decode cX2_tellChild 6 = .ok (.bipush 9, 2) := by decide +kernel
theorem dX2_tellChild_8 : decode cX2_tellChild 8 = .ok (.if_icmp .gt 25, 3) := by decide +kernel
theorem dX2_tellChild_11 : decode cX2_tellChild 11 = .ok (.iload_n 2, 1) := by decide +kernel
theorem dX2_tellChild_12 : decode cX2_tellChild 12 = .ok (.ifCond .lt 21, 3) := by decide +kernel
theorem dX2_tellChild_15 : decode cX2_tellChild 15 = .ok (.iload_n 2, 1) := by decide +kernel
theorem dX2_tellChild_16 : decode cX2_tellChild 16 = .ok (.bipush 9, 2) := by decide +kernel
theorem dX2_tellChild_18 : decode cX2_tellChild 18 = .ok (.if_icmp .gt 15, 3) := by decide +kernel
theorem dX2_tellChild_21 : decode cX2_tellChild 21 = .ok (.aload_n 0, 1) := by decide +kernel
theorem dX2_tellChild_22 : decode cX2_tellChild 22 = .ok (.getfield 9, 3) := by decide +kernel
theorem dX2_tellChild_25 : decode cX2_tellChild 25 = .ok (.getfield 51, 3) := by decide +kernel
theorem dX2_tellChild_28 : decode cX2_tellChild 28 = .ok (.bipush 7, 2) := by decide +kernel
theorem dX2_tellChild_30 : decode cX2_tellChild 30 = .ok (.if_icmp .lt 5, 3) := by decide +kernel
theorem dX2_tellChild_33 : decode cX2_tellChild 33 = .ok (.iconst (-1), 1) := by decide +kernel
theorem dX2_tellChild_34 : decode cX2_tellChild 34 = .ok (.ireturn, 1) := by decide +kernel
theorem dX2_tellChild_35 : decode cX2_tellChild 35 = .ok (.aload_n 0, 1) := by decide +kernel
theorem dX2_tellChild_36 : decode cX2_tellChild 36 = .ok (.getfield 9, 3) := by decide +kernel
theorem dX2_tellChild_39 : decode cX2_tellChild 39 = .ok (.getfield 55, 3) := by decide +kernel
theorem dX2_tellChild_42 : decode cX2_tellChild 42 = .ok (.aload_n 0, 1) := by decide +kernel
theorem dX2_tellChild_43 : decode cX2_tellChild 43 = .ok (.getfield 9, 3) := by decide +kernel
theorem dX2_tellChild_46 : decode cX2_tellChild 46 = .ok (.getfield 51, 3) := by decide +kernel
theorem dX2_tellChild_49 : decode cX2_tellChild 49 = .ok (.iload_n 1, 1) := by decide +kernel
theorem dX2_tellChild_50 : decode cX2_tellChild 50 = .ok (.iastore, 1) := by decide +kernel
theorem dX2_tellChild_51 : decode cX2_tellChild 51 = .ok (.aload_n 0, 1) := by decide +kernel
theorem dX2_tellChild_52 : decode cX2_tellChild 52 = .ok (.getfield 9, 3) := by decide +kernel
theorem dX2_tellChild_55 : decode cX2_tellChild 55 = .ok (.getfield 58, 3) := by decide +kernel
theorem dX2_tellChild_58 : decode cX2_tellChild 58 = .ok (.aload_n 0, 1) := by decide +kernel
theorem dX2_tellChild_59 : decode cX2_tellChild 59 = .ok (.getfield 9, 3) := by decide +kernel
theorem dX2_tellChild_62 : decode cX2_tellChild 62 = .ok (.getfield 51, 3) := by decide +kernel
theorem dX2_tellChild_65 : decode cX2_tellChild 65 = .ok (.iload_n 2, 1) := by decide +kernel
theorem dX2_tellChild_66 : decode cX2_tellChild 66 = .ok (.iastore, 1) := by decide +kernel
theorem dX2_tellChild_67 : decode cX2_tellChild 67 = .ok (.aload_n 0, 1) := by decide +kernel
theorem dX2_tellChild_68 : decode cX2_tellChild 68 = .ok (.getfield 9, 3) := by decide +kernel
theorem dX2_tellChild_71 : decode cX2_tellChild 71 = .ok (.dup, 1) := by decide +kernel
theorem dX2_tellChild_72 : decode cX2_tellChild 72 = .ok (.getfield 51, 3) := by decide +kernel
theorem dX2_tellChild_75 : decode cX2_tellChild 75 = .ok (.iconst 1, 1) := by decide +kernel
theorem dX2_tellChild_76 : decode cX2_tellChild 76 = .ok (.iadd, 1) := by decide +kernel
theorem dX2_tellChild_77 : decode cX2_tellChild 77 = .ok (.putfield 51, 3) := by decide +kernel
theorem dX2_tellChild_80 : decode cX2_tellChild 80 = .ok (.aload_n 0, 1) := by decide +kernel
theorem dX2_tellChild_81 : decode cX2_tellChild 81 = .ok (.getfield 9, 3) := by decide +kernel
theorem dX2_tellChild_84 : decode cX2_tellChild 84 = .ok (.getfield 51, 3) := by decide +kernel
theorem dX2_tellChild_87 : decode cX2_tellChild 87 = .ok (.iconst 1, 1) := by decide +kernel
theorem dX2_tellChild_88 : decode cX2_tellChild 88 = .ok (.isub, 1) := by decide +kernel
theorem dX2_tellChild_89 : decode cX2_tellChild 89 = .ok (.ireturn, 1) := by decide +kernel
theorem dX2_runNow_0 : decode cX2_runNow 0 = .ok (.aload_n 0, 1) := by decide +kernel
theorem dX2_runNow_1 : decode cX2_runNow 1 = .ok (.aload_n 0, 1) := by decide +kernel
theorem dX2_runNow_2 : decode cX2_runNow 2 = .ok (.getfield 9, 3) := by decide +kernel
theorem dX2_runNow_5 : decode cX2_runNow 5 = .ok (.getfield 23, 3) := by decide +kernel
theorem dX2_runNow_8 : decode cX2_runNow 8 = .ok (.iload_n 1, 1) := by decide +kernel
theorem dX2_runNow_9 : decode cX2_runNow 9 = .ok (.invokevirtual 61, 3) := by decide +kernel
theorem dX2_runNow_12 : decode cX2_runNow 12 = .ok (.ifCond .eq 10, 3) := by decide +kernel
theorem dX2_runNow_15 : decode cX2_runNow 15 = .ok (.iload_n 2, 1) := by decide +kernel
theorem dX2_runNow_16 : decode cX2_runNow 16 = .ok (.invokestatic 19, 3) := by decide +kernel
theorem dX2_runNow_19 : decode cX2_runNow 19 = .ok (.ifCond .ne 5, 3) := by decide +kernel
theorem dX2_runNow_22 : decode cX2_runNow 22 = .ok (.iconst (-1), 1) := by decide +kernel
theorem dX2_runNow_23 : decode cX2_runNow 23 = .ok (.ireturn, 1) := by decide +kernel
theorem dX2_runNow_24 : decode cX2_runNow 24 = .ok (.aload_n 0, 1) := by decide +kernel
theorem dX2_runNow_25 : decode cX2_runNow 25 = .ok (.getfield 9, 3) := by decide +kernel
theorem dX2_runNow_28 : decode cX2_runNow 28 = .ok (.getfield 35, 3) := by decide +kernel
theorem dX2_runNow_31 : decode cX2_runNow 31 = .ok (.aload_n 0, 1) := by decide +kernel
theorem dX2_runNow_32 : decode cX2_runNow 32 = .ok (.getfield 9, 3) := by decide +kernel
theorem dX2_runNow_35 : decode cX2_runNow 35 = .ok (.getfield 23, 3) := by decide +kernel
theorem dX2_runNow_38 : decode cX2_runNow 38 = .ok (.invokevirtual 65, 3) := by decide +kernel
theorem dX2_runNow_41 : decode cX2_runNow 41 = .ok (.aload_n 0, 1) := by decide +kernel
theorem dX2_runNow_42 : decode cX2_runNow 42 = .ok (.aload_n 0, 1) := by decide +kernel
theorem dX2_runNow_43 : decode cX2_runNow 43 = .ok (.getfield 9, 3) := by decide +kernel
theorem dX2_runNow_46 : decode cX2_runNow 46 = .ok (.getfield 23, 3) := by decide +kernel
theorem dX2_runNow_49 : decode cX2_runNow 49 = .ok (.iload_n 1, 1) := by decide +kernel
theorem dX2_runNow_50 : decode cX2_runNow 50 = .ok (.iload_n 2, 1) := by decide +kernel
theorem dX2_runNow_51 : decode cX2_runNow 51 = .ok (.invokevirtual 69, 3) := by decide +kernel
theorem dX2_runNow_54 : decode cX2_runNow 54 = .ok (.ireturn, 1) := by decide +kernel
theorem dX2_cutNow_0 : decode cX2_cutNow 0 = .ok (.iload_n 1, 1) := by decide +kernel
theorem dX2_cutNow_1 : decode cX2_cutNow 1 = .ok (.invokestatic 19, 3) := by decide +kernel
theorem dX2_cutNow_4 : decode cX2_cutNow 4 = .ok (.ifCond .eq 19, 3) := by decide +kernel
theorem dX2_cutNow_7 : decode cX2_cutNow 7 = .ok (.aload_n 0, 1) := by decide +kernel
theorem dX2_cutNow_8 : decode cX2_cutNow 8 = .ok (.getfield 9, 3) := by decide +kernel
theorem dX2_cutNow_11 : decode cX2_cutNow 11 = .ok (.getfield 23, 3) := by decide +kernel
theorem dX2_cutNow_14 : decode cX2_cutNow 14 = .ok (.getfield 29, 3) := by decide +kernel
theorem dX2_cutNow_17 : decode cX2_cutNow 17 = .ok (.iload_n 1, 1) := by decide +kernel
theorem dX2_cutNow_18 : decode cX2_cutNow 18 = .ok (.iaload, 1) := by decide +kernel
theorem dX2_cutNow_19 : decode cX2_cutNow 19 = .ok (.iconst 1, 1) := by decide +kernel
theorem dX2_cutNow_20 : decode cX2_cutNow 20 = .ok (.if_icmp .eq 5, 3) := by decide +kernel
theorem dX2_cutNow_23 : decode cX2_cutNow 23 = .ok (.iconst 0, 1) := by decide +kernel
theorem dX2_cutNow_24 : decode cX2_cutNow 24 = .ok (.ireturn, 1) := by decide +kernel
theorem dX2_cutNow_25 : decode cX2_cutNow 25 = .ok (.aload_n 0, 1) := by decide +kernel
theorem dX2_cutNow_26 : decode cX2_cutNow 26 = .ok (.getfield 9, 3) := by decide +kernel
theorem dX2_cutNow_29 : decode cX2_cutNow 29 = .ok (.getfield 35, 3) := by decide +kernel
theorem dX2_cutNow_32 : decode cX2_cutNow 32 = .ok (.aload_n 0, 1) := by decide +kernel
theorem dX2_cutNow_33 : decode cX2_cutNow 33 = .ok (.getfield 9, 3) := by decide +kernel
theorem dX2_cutNow_36 : decode cX2_cutNow 36 = .ok (.getfield 23, 3) := by decide +kernel
theorem dX2_cutNow_39 : decode cX2_cutNow 39 = .ok (.invokevirtual 65, 3) := by decide +kernel
theorem dX2_cutNow_42 : decode cX2_cutNow 42 = .ok (.aload_n 0, 1) := by decide +kernel
theorem dX2_cutNow_43 : decode cX2_cutNow 43 = .ok (.getfield 9, 3) := by decide +kernel
theorem dX2_cutNow_46 : decode cX2_cutNow 46 = .ok (.getfield 23, 3) := by decide +kernel
theorem dX2_cutNow_49 : decode cX2_cutNow 49 = .ok (.iload_n 1, 1) := by decide +kernel
theorem dX2_cutNow_50 : decode cX2_cutNow 50 = .ok (.invokestatic 73, 3) := by decide +kernel
theorem dX2_cutNow_53 : decode cX2_cutNow 53 = .ok (.iconst 1, 1) := by decide +kernel
theorem dX2_cutNow_54 : decode cX2_cutNow 54 = .ok (.ireturn, 1) := by decide +kernel
theorem dX2_addNow_0 : decode cX2_addNow 0 = .ok (.iload_n 1, 1) := by decide +kernel
theorem dX2_addNow_1 : decode cX2_addNow 1 = .ok (.invokestatic 19, 3) := by decide +kernel
theorem dX2_addNow_4 : decode cX2_addNow 4 = .ok (.ifCond .eq 18, 3) := by decide +kernel
theorem dX2_addNow_7 : decode cX2_addNow 7 = .ok (.aload_n 0, 1) := by decide +kernel
theorem dX2_addNow_8 : decode cX2_addNow 8 = .ok (.getfield 9, 3) := by decide +kernel
theorem dX2_addNow_11 : decode cX2_addNow 11 = .ok (.getfield 23, 3) := by decide +kernel
theorem dX2_addNow_14 : decode cX2_addNow 14 = .ok (.getfield 29, 3) := by decide +kernel
theorem dX2_addNow_17 : decode cX2_addNow 17 = .ok (.iload_n 1, 1) := by decide +kernel
theorem dX2_addNow_18 : decode cX2_addNow 18 = .ok (.iaload, 1) := by decide +kernel
theorem dX2_addNow_19 : decode cX2_addNow 19 = .ok (.ifCond .eq 5, 3) := by decide +kernel
theorem dX2_addNow_22 : decode cX2_addNow 22 = .ok (.iconst 0, 1) := by decide +kernel
theorem dX2_addNow_23 : decode cX2_addNow 23 = .ok (.ireturn, 1) := by decide +kernel
theorem dX2_addNow_24 : decode cX2_addNow 24 = .ok (.aload_n 0, 1) := by decide +kernel
theorem dX2_addNow_25 : decode cX2_addNow 25 = .ok (.getfield 9, 3) := by decide +kernel
theorem dX2_addNow_28 : decode cX2_addNow 28 = .ok (.getfield 35, 3) := by decide +kernel
theorem dX2_addNow_31 : decode cX2_addNow 31 = .ok (.aload_n 0, 1) := by decide +kernel
theorem dX2_addNow_32 : decode cX2_addNow 32 = .ok (.getfield 9, 3) := by decide +kernel
theorem dX2_addNow_35 : decode cX2_addNow 35 = .ok (.getfield 23, 3) := by decide +kernel
theorem dX2_addNow_38 : decode cX2_addNow 38 = .ok (.invokevirtual 65, 3) := by decide +kernel
theorem dX2_addNow_41 : decode cX2_addNow 41 = .ok (.aload_n 0, 1) := by decide +kernel
theorem dX2_addNow_42 : decode cX2_addNow 42 = .ok (.getfield 9, 3) := by decide +kernel
theorem dX2_addNow_45 : decode cX2_addNow 45 = .ok (.getfield 23, 3) := by decide +kernel
theorem dX2_addNow_48 : decode cX2_addNow 48 = .ok (.iload_n 1, 1) := by decide +kernel
theorem dX2_addNow_49 : decode cX2_addNow 49 = .ok (.invokestatic 77, 3) := by decide +kernel
theorem dX2_addNow_52 : decode cX2_addNow 52 = .ok (.iconst 1, 1) := by decide +kernel
theorem dX2_addNow_53 : decode cX2_addNow 53 = .ok (.ireturn, 1) := by decide +kernel
theorem dX2_yearsNow_0 : decode cX2_yearsNow 0 = .ok (.iconst 0, 1) := by decide +kernel
theorem dX2_yearsNow_1 : decode cX2_yearsNow 1 = .ok (.istore_n 2, 1) := by decide +kernel
theorem dX2_yearsNow_2 : decode cX2_yearsNow 2 = .ok (.iconst 0, 1) := by decide +kernel
theorem dX2_yearsNow_3 : decode cX2_yearsNow 3 = .ok (.istore_n 3, 1) := by decide +kernel
theorem dX2_yearsNow_4 : decode cX2_yearsNow 4 = .ok (.iload_n 3, 1) := by decide +kernel
theorem dX2_yearsNow_5 : decode cX2_yearsNow 5 = .ok (.iload_n 1, 1) := by decide +kernel
theorem dX2_yearsNow_6 : decode cX2_yearsNow 6 = .ok (.if_icmp .ge 56, 3) := by decide +kernel
theorem dX2_yearsNow_9 : decode cX2_yearsNow 9 = .ok (.aload_n 0, 1) := by decide +kernel
theorem dX2_yearsNow_10 : decode cX2_yearsNow 10 = .ok (.getfield 9, 3) := by decide +kernel
theorem dX2_yearsNow_13 : decode cX2_yearsNow 13 = .ok (.getfield 23, 3) := by decide +kernel
theorem dX2_yearsNow_16 : decode cX2_yearsNow 16 = .ok (.getfield 80, 3) := by decide +kernel
theorem dX2_yearsNow_19 : decode cX2_yearsNow 19 = .ok (.sipush 9999, 3) := by decide +kernel
theorem dX2_yearsNow_22 : decode cX2_yearsNow 22 = .ok (.if_icmp .ge 40, 3) := by decide +kernel
theorem dX2_yearsNow_25 : decode cX2_yearsNow 25 = .ok (.aload_n 0, 1) := by decide +kernel
theorem dX2_yearsNow_26 : decode cX2_yearsNow 26 = .ok (.getfield 9, 3) := by decide +kernel
theorem dX2_yearsNow_29 : decode cX2_yearsNow 29 = .ok (.getfield 35, 3) := by decide +kernel
theorem dX2_yearsNow_32 : decode cX2_yearsNow 32 = .ok (.aload_n 0, 1) := by decide +kernel
theorem dX2_yearsNow_33 : decode cX2_yearsNow 33 = .ok (.getfield 9, 3) := by decide +kernel
theorem dX2_yearsNow_36 : decode cX2_yearsNow 36 = .ok (.getfield 23, 3) := by decide +kernel
theorem dX2_yearsNow_39 : decode cX2_yearsNow 39 = .ok (.invokevirtual 65, 3) := by decide +kernel
theorem dX2_yearsNow_42 : decode cX2_yearsNow 42 = .ok (.iload_n 2, 1) := by decide +kernel
theorem dX2_yearsNow_43 : decode cX2_yearsNow 43 = .ok (.aload_n 0, 1) := by decide +kernel
theorem dX2_yearsNow_44 : decode cX2_yearsNow 44 = .ok (.aload_n 0, 1) := by decide +kernel
theorem dX2_yearsNow_45 : decode cX2_yearsNow 45 = .ok (.getfield 9, 3) := by decide +kernel
theorem dX2_yearsNow_48 : decode cX2_yearsNow 48 = .ok (.getfield 23, 3) := by decide +kernel
theorem dX2_yearsNow_51 : decode cX2_yearsNow 51 = .ok (.invokevirtual 83, 3) := by decide +kernel
theorem dX2_yearsNow_54 : decode cX2_yearsNow 54 = .ok (.iadd, 1) := by decide +kernel
theorem dX2_yearsNow_55 : decode cX2_yearsNow 55 = .ok (.istore_n 2, 1) := by decide +kernel
theorem dX2_yearsNow_56 : decode cX2_yearsNow 56 = .ok (.iinc 3 1, 3) := by decide +kernel
theorem dX2_yearsNow_59 : decode cX2_yearsNow 59 = .ok (.goto (-55), 3) := by decide +kernel
theorem dX2_yearsNow_62 : decode cX2_yearsNow 62 = .ok (.iload_n 2, 1) := by decide +kernel
theorem dX2_yearsNow_63 : decode cX2_yearsNow 63 = .ok (.ireturn, 1) := by decide +kernel
theorem dX2_deed_0 : decode cX2_deed 0 = .ok (.sipush 9999, 3) := by decide +kernel
theorem dX2_deed_3 : decode cX2_deed 3 = .ok (.aload_n 0, 1) := by decide +kernel
theorem dX2_deed_4 : decode cX2_deed 4 = .ok (.getfield 9, 3) := by decide +kernel
theorem dX2_deed_7 : decode cX2_deed 7 = .ok (.getfield 23, 3) := by decide +kernel
theorem dX2_deed_10 : decode cX2_deed 10 = .ok (.getfield 80, 3) := by decide +kernel
theorem dX2_deed_13 : decode cX2_deed 13 = .ok (.isub, 1) := by decide +kernel
theorem dX2_deed_14 : decode cX2_deed 14 = .ok (.istore 4, 2) := by decide +kernel
theorem dX2_deed_16 : decode cX2_deed 16 = .ok (.iload_n 1, 1) := by decide +kernel
theorem dX2_deed_17 : decode cX2_deed 17 = .ok (.tableswitch 135 2 12 #[59, 135, 66, 135, 73, 135, 89, 135, 105, 111, 117], 59) := by decide +kernel
theorem dX2_deed_76 : decode cX2_deed 76 = .ok (.aload_n 0, 1) := by decide +kernel
theorem dX2_deed_77 : decode cX2_deed 77 = .ok (.iload_n 2, 1) := by decide +kernel
theorem dX2_deed_78 : decode cX2_deed 78 = .ok (.iload_n 3, 1) := by decide +kernel
theorem dX2_deed_79 : decode cX2_deed 79 = .ok (.invokevirtual 87, 3) := by decide +kernel
theorem dX2_deed_82 : decode cX2_deed 82 = .ok (.ireturn, 1) := by decide +kernel
theorem dX2_deed_83 : decode cX2_deed 83 = .ok (.aload_n 0, 1) := by decide +kernel
theorem dX2_deed_84 : decode cX2_deed 84 = .ok (.iload_n 3, 1) := by decide +kernel
theorem dX2_deed_85 : decode cX2_deed 85 = .ok (.iload_n 2, 1) := by decide +kernel
theorem dX2_deed_86 : decode cX2_deed 86 = .ok (.invokevirtual 90, 3) := by decide +kernel
theorem dX2_deed_89 : decode cX2_deed 89 = .ok (.ireturn, 1) := by decide +kernel
theorem dX2_deed_90 : decode cX2_deed 90 = .ok (.aload_n 0, 1) := by decide +kernel
theorem dX2_deed_91 : decode cX2_deed 91 = .ok (.iload_n 2, 1) := by decide +kernel
theorem dX2_deed_92 : decode cX2_deed 92 = .ok (.iload_n 3, 1) := by decide +kernel
theorem dX2_deed_93 : decode cX2_deed 93 = .ok (.invokevirtual 92, 3) := by decide +kernel
theorem dX2_deed_96 : decode cX2_deed 96 = .ok (.iconst (-1), 1) := by decide +kernel
theorem dX2_deed_97 : decode cX2_deed 97 = .ok (.if_icmp .eq 7, 3) := by decide +kernel
theorem dX2_deed_100 : decode cX2_deed 100 = .ok (.iconst 1, 1) := by decide +kernel
theorem dX2_deed_101 : decode cX2_deed 101 = .ok (.goto 4, 3) := by decide +kernel
theorem dX2_deed_104 : decode cX2_deed 104 = .ok (.iconst 0, 1) := by decide +kernel
theorem dX2_deed_105 : decode cX2_deed 105 = .ok (.ireturn, 1) := by decide +kernel
theorem dX2_deed_106 : decode cX2_deed 106 = .ok (.aload_n 0, 1) := by decide +kernel
theorem dX2_deed_107 : decode cX2_deed 107 = .ok (.iload_n 2, 1) := by decide +kernel
theorem dX2_deed_108 : decode cX2_deed 108 = .ok (.iload_n 3, 1) := by decide +kernel
theorem dX2_deed_109 : decode cX2_deed 109 = .ok (.invokevirtual 96, 3) := by decide +kernel
theorem dX2_deed_112 : decode cX2_deed 112 = .ok (.iconst (-1), 1) := by decide +kernel
theorem dX2_deed_113 : decode cX2_deed 113 = .ok (.if_icmp .eq 7, 3) := by decide +kernel
theorem dX2_deed_116 : decode cX2_deed 116 = .ok (.iconst 1, 1) := by decide +kernel
theorem dX2_deed_117 : decode cX2_deed 117 = .ok (.goto 4, 3) := by decide +kernel
theorem dX2_deed_120 : decode cX2_deed 120 = .ok (.iconst 0, 1) := by decide +kernel
theorem dX2_deed_121 : decode cX2_deed 121 = .ok (.ireturn, 1) := by decide +kernel
theorem dX2_deed_122 : decode cX2_deed 122 = .ok (.aload_n 0, 1) := by decide +kernel
theorem dX2_deed_123 : decode cX2_deed 123 = .ok (.iload_n 2, 1) := by decide +kernel
theorem dX2_deed_124 : decode cX2_deed 124 = .ok (.invokevirtual 99, 3) := by decide +kernel
theorem dX2_deed_127 : decode cX2_deed 127 = .ok (.ireturn, 1) := by decide +kernel
theorem dX2_deed_128 : decode cX2_deed 128 = .ok (.aload_n 0, 1) := by decide +kernel
theorem dX2_deed_129 : decode cX2_deed 129 = .ok (.iload_n 2, 1) := by decide +kernel
theorem dX2_deed_130 : decode cX2_deed 130 = .ok (.invokevirtual 102, 3) := by decide +kernel
theorem dX2_deed_133 : decode cX2_deed 133 = .ok (.ireturn, 1) := by decide +kernel
theorem dX2_deed_134 : decode cX2_deed 134 = .ok (.aload_n 0, 1) := by decide +kernel
theorem dX2_deed_135 : decode cX2_deed 135 = .ok (.iload_n 2, 1) := by decide +kernel
theorem dX2_deed_136 : decode cX2_deed 136 = .ok (.invokevirtual 105, 3) := by decide +kernel
theorem dX2_deed_139 : decode cX2_deed 139 = .ok (.pop, 1) := by decide +kernel
theorem dX2_deed_140 : decode cX2_deed 140 = .ok (.iload_n 2, 1) := by decide +kernel
theorem dX2_deed_141 : decode cX2_deed 141 = .ok (.iload 4, 2) := by decide +kernel
theorem dX2_deed_143 : decode cX2_deed 143 = .ok (.if_icmp .gt 7, 3) := by decide +kernel
theorem dX2_deed_146 : decode cX2_deed 146 = .ok (.iconst 1, 1) := by decide +kernel
theorem dX2_deed_147 : decode cX2_deed 147 = .ok (.goto 4, 3) := by decide +kernel
theorem dX2_deed_150 : decode cX2_deed 150 = .ok (.iconst 0, 1) := by decide +kernel
theorem dX2_deed_151 : decode cX2_deed 151 = .ok (.ireturn, 1) := by decide +kernel
theorem dX2_deed_152 : decode cX2_deed 152 = .ok (.iconst 1, 1) := by decide +kernel
theorem dX2_deed_153 : decode cX2_deed 153 = .ok (.ireturn, 1) := by decide +kernel
theorem dX2_agesNow_0 : decode cX2_agesNow 0 = .ok (.aload_n 0, 1) := by decide +kernel
theorem dX2_agesNow_1 : decode cX2_agesNow 1 = .ok (.getfield 9, 3) := by decide +kernel
theorem dX2_agesNow_4 : decode cX2_agesNow 4 = .ok (.getfield 23, 3) := by decide +kernel
theorem dX2_agesNow_7 : decode cX2_agesNow 7 = .ok (.astore_n 3, 1) := by decide +kernel
theorem dX2_agesNow_8 : decode cX2_agesNow 8 = .ok (.aload_n 0, 1) := by decide +kernel
theorem dX2_agesNow_9 : decode cX2_agesNow 9 = .ok (.getfield 9, 3) := by decide +kernel
theorem dX2_agesNow_12 : decode cX2_agesNow 12 = .ok (.getfield 35, 3) := by decide +kernel
theorem dX2_agesNow_15 : decode cX2_agesNow 15 = .ok (.aload_n 3, 1) := by decide +kernel
theorem dX2_agesNow_16 : decode cX2_agesNow 16 = .ok (.invokevirtual 65, 3) := by decide +kernel
theorem dX2_agesNow_19 : decode cX2_agesNow 19 = .ok (.aload_n 3, 1) := by decide +kernel
theorem dX2_agesNow_20 : decode cX2_agesNow 20 = .ok (.iload_n 1, 1) := by decide +kernel
theorem dX2_agesNow_21 : decode cX2_agesNow 21 = .ok (.iconst 2, 1) := by decide +kernel
theorem dX2_agesNow_22 : decode cX2_agesNow 22 = .ok (.imul, 1) := by decide +kernel
theorem dX2_agesNow_23 : decode cX2_agesNow 23 = .ok (.sipush 263, 3) := by decide +kernel
theorem dX2_agesNow_26 : decode cX2_agesNow 26 = .ok (.iadd, 1) := by decide +kernel
theorem dX2_agesNow_27 : decode cX2_agesNow 27 = .ok (.putfield 109, 3) := by decide +kernel
theorem dX2_agesNow_30 : decode cX2_agesNow 30 = .ok (.iconst 0, 1) := by decide +kernel
theorem dX2_agesNow_31 : decode cX2_agesNow 31 = .ok (.istore 4, 2) := by decide +kernel
theorem dX2_agesNow_33 : decode cX2_agesNow 33 = .ok (.iload 4, 2) := by decide +kernel
theorem dX2_agesNow_35 : decode cX2_agesNow 35 = .ok (.iload_n 2, 1) := by decide +kernel
theorem dX2_agesNow_36 : decode cX2_agesNow 36 = .ok (.if_icmp .ge 18, 3) := by decide +kernel
theorem dX2_agesNow_39 : decode cX2_agesNow 39 = .ok (.aload_n 0, 1) := by decide +kernel
theorem dX2_agesNow_40 : decode cX2_agesNow 40 = .ok (.aload_n 3, 1) := by decide +kernel
theorem dX2_agesNow_41 : decode cX2_agesNow 41 = .ok (.aload_n 3, 1) := by decide +kernel
theorem dX2_agesNow_42 : decode cX2_agesNow 42 = .ok (.invokevirtual 112, 3) := by decide +kernel
theorem dX2_agesNow_45 : decode cX2_agesNow 45 = .ok (.invokevirtual 116, 3) := by decide +kernel
theorem dX2_agesNow_48 : decode cX2_agesNow 48 = .ok (.iinc 4 1, 3) := by decide +kernel
theorem dX2_agesNow_51 : decode cX2_agesNow 51 = .ok (.goto (-18), 3) := by decide +kernel
theorem dX2_agesNow_54 : decode cX2_agesNow 54 = .ok (.return_, 1) := by decide +kernel
theorem dX2_age_0 : decode cX2_age 0 = .ok (.iload_n 2, 1) := by decide +kernel
theorem dX2_age_1 : decode cX2_age 1 = .ok (.bipush 6, 2) := by decide +kernel
theorem dX2_age_3 : decode cX2_age 3 = .ok (.idiv, 1) := by decide +kernel
theorem dX2_age_4 : decode cX2_age 4 = .ok (.bipush 30, 2) := by decide +kernel
theorem dX2_age_6 : decode cX2_age 6 = .ok (.irem, 1) := by decide +kernel
theorem dX2_age_7 : decode cX2_age 7 = .ok (.istore_n 3, 1) := by decide +kernel
theorem dX2_age_8 : decode cX2_age 8 = .ok (.iload_n 2, 1) := by decide +kernel
theorem dX2_age_9 : decode cX2_age 9 = .ok (.bipush 6, 2) := by decide +kernel
theorem dX2_age_11 : decode cX2_age 11 = .ok (.irem, 1) := by decide +kernel
theorem dX2_age_12 : decode cX2_age 12 = .ok (.istore 4, 2) := by decide +kernel
theorem dX2_age_14 : decode cX2_age 14 = .ok (.iload 4, 2) := by decide +kernel
theorem dX2_age_16 : decode cX2_age 16 = .ok (.iconst 1, 1) := by decide +kernel
theorem dX2_age_17 : decode cX2_age 17 = .ok (.if_icmp .gt 50, 3) := by decide +kernel
theorem dX2_age_20 : decode cX2_age 20 = .ok (.aload_n 0, 1) := by decide +kernel
theorem dX2_age_21 : decode cX2_age 21 = .ok (.getfield 9, 3) := by decide +kernel
theorem dX2_age_24 : decode cX2_age 24 = .ok (.getfield 51, 3) := by decide +kernel
theorem dX2_age_27 : decode cX2_age 27 = .ok (.ifCond .le 15, 3) := by decide +kernel
theorem dX2_age_30 : decode cX2_age 30 = .ok (.iload_n 2, 1) := by decide +kernel
theorem dX2_age_31 : decode cX2_age 31 = .ok (.aload_n 0, 1) := by decide +kernel
theorem dX2_age_32 : decode cX2_age 32 = .ok (.getfield 9, 3) := by decide +kernel
theorem dX2_age_35 : decode cX2_age 35 = .ok (.getfield 51, 3) := by decide +kernel
theorem dX2_age_38 : decode cX2_age 38 = .ok (.irem, 1) := by decide +kernel
theorem dX2_age_39 : decode cX2_age 39 = .ok (.goto 4, 3) := by decide +kernel
theorem dX2_age_42 : decode cX2_age 42 = .ok (.iconst (-1), 1) := by decide +kernel
theorem dX2_age_43 : decode cX2_age 43 = .ok (.istore 5, 2) := by decide +kernel
theorem dX2_age_45 : decode cX2_age 45 = .ok (.aload_n 0, 1) := by decide +kernel
theorem dX2_age_46 : decode cX2_age 46 = .ok (.aload_n 1, 1) := by decide +kernel
theorem dX2_age_47 : decode cX2_age 47 = .ok (.iload 5, 2) := by decide +kernel
theorem dX2_age_49 : decode cX2_age 49 = .ok (.invokevirtual 61, 3) := by decide +kernel
theorem dX2_age_52 : decode cX2_age 52 = .ok (.ifCond .eq 12, 3) := by decide +kernel
theorem dX2_age_55 : decode cX2_age 55 = .ok (.aload_n 0, 1) := by decide +kernel
theorem dX2_age_56 : decode cX2_age 56 = .ok (.aload_n 1, 1) := by decide +kernel
theorem dX2_age_57 : decode cX2_age 57 = .ok (.iload 5, 2) := by decide +kernel
theorem dX2_age_59 : decode cX2_age 59 = .ok (.iload_n 3, 1) := by decide +kernel
theorem dX2_age_60 : decode cX2_age 60 = .ok (.invokevirtual 69, 3) := by decide +kernel
theorem dX2_age_63 : decode cX2_age 63 = .ok (.pop, 1) := by decide +kernel
theorem dX2_age_64 : decode cX2_age 64 = .ok (.goto 47, 3) := by decide +kernel
theorem dX2_age_67 : decode cX2_age 67 = .ok (.iload 4, 2) := by decide +kernel
theorem dX2_age_69 : decode cX2_age 69 = .ok (.iconst 2, 1) := by decide +kernel
theorem dX2_age_70 : decode cX2_age 70 = .ok (.if_icmp .ne 11, 3) := by decide +kernel
theorem dX2_age_73 : decode cX2_age 73 = .ok (.aload_n 1, 1) := by decide +kernel
theorem dX2_age_74 : decode cX2_age 74 = .ok (.iload_n 3, 1) := by decide +kernel
theorem dX2_age_75 : decode cX2_age 75 = .ok (.invokestatic 73, 3) := by decide +kernel
theorem dX2_age_78 : decode cX2_age 78 = .ok (.goto 33, 3) := by decide +kernel
theorem dX2_age_81 : decode cX2_age 81 = .ok (.iload 4, 2) := by decide +kernel
theorem dX2_age_83 : decode cX2_age 83 = .ok (.iconst 3, 1) := by decide +kernel
theorem dX2_age_84 : decode cX2_age 84 = .ok (.if_icmp .ne 11, 3) := by decide +kernel
theorem dX2_age_87 : decode cX2_age 87 = .ok (.aload_n 1, 1) := by decide +kernel
theorem dX2_age_88 : decode cX2_age 88 = .ok (.iload_n 3, 1) := by decide +kernel
theorem dX2_age_89 : decode cX2_age 89 = .ok (.invokestatic 77, 3) := by decide +kernel
theorem dX2_age_92 : decode cX2_age 92 = .ok (.goto 19, 3) := by decide +kernel
theorem dX2_age_95 : decode cX2_age 95 = .ok (.aload_n 1, 1) := by decide +kernel
theorem dX2_age_96 : decode cX2_age 96 = .ok (.getfield 80, 3) := by decide +kernel
theorem dX2_age_99 : decode cX2_age 99 = .ok (.sipush 9999, 3) := by decide +kernel
theorem dX2_age_102 : decode cX2_age 102 = .ok (.if_icmp .ge 9, 3) := by decide +kernel
theorem dX2_age_105 : decode cX2_age 105 = .ok (.aload_n 0, 1) := by decide +kernel
theorem dX2_age_106 : decode cX2_age 106 = .ok (.aload_n 1, 1) := by decide +kernel
theorem dX2_age_107 : decode cX2_age 107 = .ok (.invokevirtual 83, 3) := by decide +kernel
theorem dX2_age_110 : decode cX2_age 110 = .ok (.pop, 1) := by decide +kernel
theorem dX2_age_111 : decode cX2_age 111 = .ok (.return_, 1) := by decide +kernel
theorem dX2_canRun_0 : decode cX2_canRun 0 = .ok (.aload_n 0, 1) := by decide +kernel
theorem dX2_canRun_1 : decode cX2_canRun 1 = .ok (.getfield 9, 3) := by decide +kernel
theorem dX2_canRun_4 : decode cX2_canRun 4 = .ok (.iload_n 2, 1) := by decide +kernel
theorem dX2_canRun_5 : decode cX2_canRun 5 = .ok (.invokevirtual 119, 3) := by decide +kernel
theorem dX2_canRun_8 : decode cX2_canRun 8 = .ok (.ifCond .eq 17, 3) := by decide +kernel
theorem dX2_canRun_11 : decode cX2_canRun 11 = .ok (.aload_n 1, 1) := by decide +kernel
theorem dX2_canRun_12 : decode cX2_canRun 12 = .ok (.getfield 122, 3) := by decide +kernel
theorem dX2_canRun_15 : decode cX2_canRun 15 = .ok (.iload_n 2, 1) := by decide +kernel
theorem dX2_canRun_16 : decode cX2_canRun 16 = .ok (.iaload, 1) := by decide +kernel
theorem dX2_canRun_17 : decode cX2_canRun 17 = .ok (.iconst (-1), 1) := by decide +kernel
theorem dX2_canRun_18 : decode cX2_canRun 18 = .ok (.if_icmp .ne 7, 3) := by decide +kernel
theorem dX2_canRun_21 : decode cX2_canRun 21 = .ok (.iconst 1, 1) := by decide +kernel
theorem dX2_canRun_22 : decode cX2_canRun 22 = .ok (.goto 4, 3) := by decide +kernel
theorem dX2_canRun_25 : decode cX2_canRun 25 = .ok (.iconst 0, 1) := by decide +kernel
theorem dX2_canRun_26 : decode cX2_canRun 26 = .ok (.ireturn, 1) := by decide +kernel
theorem dX2_runFrom_0 : decode cX2_runFrom 0 = .ok (.iconst 0, 1) := by decide +kernel
theorem dX2_runFrom_1 : decode cX2_runFrom 1 = .ok (.istore 4, 2) := by decide +kernel
theorem dX2_runFrom_3 : decode cX2_runFrom 3 = .ok (.iconst 0, 1) := by decide +kernel
theorem dX2_runFrom_4 : decode cX2_runFrom 4 = .ok (.istore 5, 2) := by decide +kernel
theorem dX2_runFrom_6 : decode cX2_runFrom 6 = .ok (.iload 5, 2) := by decide +kernel
theorem dX2_runFrom_8 : decode cX2_runFrom 8 = .ok (.bipush 60, 2) := by decide +kernel
theorem dX2_runFrom_10 : decode cX2_runFrom 10 = .ok (.if_icmp .ge 78, 3) := by decide +kernel
theorem dX2_runFrom_13 : decode cX2_runFrom 13 = .ok (.iload_n 3, 1) := by decide +kernel
theorem dX2_runFrom_14 : decode cX2_runFrom 14 = .ok (.iload 5, 2) := by decide +kernel
theorem dX2_runFrom_16 : decode cX2_runFrom 16 = .ok (.iadd, 1) := by decide +kernel
theorem dX2_runFrom_17 : decode cX2_runFrom 17 = .ok (.bipush 30, 2) := by decide +kernel
theorem dX2_runFrom_19 : decode cX2_runFrom 19 = .ok (.irem, 1) := by decide +kernel
theorem dX2_runFrom_20 : decode cX2_runFrom 20 = .ok (.istore 6, 2) := by decide +kernel
theorem dX2_runFrom_22 : decode cX2_runFrom 22 = .ok (.aload_n 1, 1) := by decide +kernel
theorem dX2_runFrom_23 : decode cX2_runFrom 23 = .ok (.getfield 29, 3) := by decide +kernel
theorem dX2_runFrom_26 : decode cX2_runFrom 26 = .ok (.iload 6, 2) := by decide +kernel
theorem dX2_runFrom_28 : decode cX2_runFrom 28 = .ok (.iaload, 1) := by decide +kernel
theorem dX2_runFrom_29 : decode cX2_runFrom 29 = .ok (.istore 7, 2) := by decide +kernel
theorem dX2_runFrom_31 : decode cX2_runFrom 31 = .ok (.iload 7, 2) := by decide +kernel
theorem dX2_runFrom_33 : decode cX2_runFrom 33 = .ok (.iconst 3, 1) := by decide +kernel
theorem dX2_runFrom_34 : decode cX2_runFrom 34 = .ok (.if_icmp .ne 6, 3) := by decide +kernel
theorem dX2_runFrom_37 : decode cX2_runFrom 37 = .ok (.goto 51, 3) := by decide +kernel
theorem dX2_runFrom_40 : decode cX2_runFrom 40 = .ok (.iload 7, 2) := by decide +kernel
theorem dX2_runFrom_42 : decode cX2_runFrom 42 = .ok (.iconst 1, 1) := by decide +kernel
theorem dX2_runFrom_43 : decode cX2_runFrom 43 = .ok (.if_icmp .ne 39, 3) := by decide +kernel
theorem dX2_runFrom_46 : decode cX2_runFrom 46 = .ok (.iinc 4 1, 3) := by decide +kernel
theorem dX2_runFrom_49 : decode cX2_runFrom 49 = .ok (.aload_n 1, 1) := by decide +kernel
theorem dX2_runFrom_50 : decode cX2_runFrom 50 = .ok (.invokevirtual 112, 3) := by decide +kernel
theorem dX2_runFrom_53 : decode cX2_runFrom 53 = .ok (.bipush 10, 2) := by decide +kernel
theorem dX2_runFrom_55 : decode cX2_runFrom 55 = .ok (.irem, 1) := by decide +kernel
theorem dX2_runFrom_56 : decode cX2_runFrom 56 = .ok (.aload_n 0, 1) := by decide +kernel
theorem dX2_runFrom_57 : decode cX2_runFrom 57 = .ok (.getfield 15, 3) := by decide +kernel
theorem dX2_runFrom_60 : decode cX2_runFrom 60 = .ok (.aload_n 1, 1) := by decide +kernel
theorem dX2_runFrom_61 : decode cX2_runFrom 61 = .ok (.aload_n 0, 1) := by decide +kernel
theorem dX2_runFrom_62 : decode cX2_runFrom 62 = .ok (.getfield 9, 3) := by decide +kernel
theorem dX2_runFrom_65 : decode cX2_runFrom 65 = .ok (.getfield 125, 3) := by decide +kernel
theorem dX2_runFrom_68 : decode cX2_runFrom 68 = .ok (.iload_n 2, 1) := by decide +kernel
theorem dX2_runFrom_69 : decode cX2_runFrom 69 = .ok (.iload 6, 2) := by decide +kernel
theorem dX2_runFrom_71 : decode cX2_runFrom 71 = .ok (.iload 4, 2) := by decide +kernel
theorem dX2_runFrom_73 : decode cX2_runFrom 73 = .ok (.invokevirtual 128, 3) := by decide +kernel
theorem dX2_runFrom_76 : decode cX2_runFrom 76 = .ok (.if_icmp .ge 6, 3) := by decide +kernel
theorem dX2_runFrom_79 : decode cX2_runFrom 79 = .ok (.goto 9, 3) := by decide +kernel
theorem dX2_runFrom_82 : decode cX2_runFrom 82 = .ok (.iinc 5 1, 3) := by decide +kernel
theorem dX2_runFrom_85 : decode cX2_runFrom 85 = .ok (.goto (-79), 3) := by decide +kernel
theorem dX2_runFrom_88 : decode cX2_runFrom 88 = .ok (.aload_n 1, 1) := by decide +kernel
theorem dX2_runFrom_89 : decode cX2_runFrom 89 = .ok (.getfield 122, 3) := by decide +kernel
theorem dX2_runFrom_92 : decode cX2_runFrom 92 = .ok (.iload_n 2, 1) := by decide +kernel
theorem dX2_runFrom_93 : decode cX2_runFrom 93 = .ok (.iload 4, 2) := by decide +kernel
theorem dX2_runFrom_95 : decode cX2_runFrom 95 = .ok (.iastore, 1) := by decide +kernel
theorem dX2_runFrom_96 : decode cX2_runFrom 96 = .ok (.aload_n 1, 1) := by decide +kernel
theorem dX2_runFrom_97 : decode cX2_runFrom 97 = .ok (.iload_n 2, 1) := by decide +kernel
theorem dX2_runFrom_98 : decode cX2_runFrom 98 = .ok (.iload_n 3, 1) := by decide +kernel
theorem dX2_runFrom_99 : decode cX2_runFrom 99 = .ok (.iload 4, 2) := by decide +kernel
theorem dX2_runFrom_101 : decode cX2_runFrom 101 = .ok (.invokevirtual 134, 3) := by decide +kernel
theorem dX2_runFrom_104 : decode cX2_runFrom 104 = .ok (.iload 4, 2) := by decide +kernel
theorem dX2_runFrom_106 : decode cX2_runFrom 106 = .ok (.ireturn, 1) := by decide +kernel
theorem dX2_cutAt_0 : decode cX2_cutAt 0 = .ok (.aload_n 0, 1) := by decide +kernel
theorem dX2_cutAt_1 : decode cX2_cutAt 1 = .ok (.getfield 29, 3) := by decide +kernel
theorem dX2_cutAt_4 : decode cX2_cutAt 4 = .ok (.iload_n 1, 1) := by decide +kernel
theorem dX2_cutAt_5 : decode cX2_cutAt 5 = .ok (.iaload, 1) := by decide +kernel
theorem dX2_cutAt_6 : decode cX2_cutAt 6 = .ok (.iconst 1, 1) := by decide +kernel
theorem dX2_cutAt_7 : decode cX2_cutAt 7 = .ok (.if_icmp .ne 10, 3) := by decide +kernel
theorem dX2_cutAt_10 : decode cX2_cutAt 10 = .ok (.aload_n 0, 1) := by decide +kernel
theorem dX2_cutAt_11 : decode cX2_cutAt 11 = .ok (.getfield 29, 3) := by decide +kernel
theorem dX2_cutAt_14 : decode cX2_cutAt 14 = .ok (.iload_n 1, 1) := by decide +kernel
theorem dX2_cutAt_15 : decode cX2_cutAt 15 = .ok (.iconst 0, 1) := by decide +kernel
theorem dX2_cutAt_16 : decode cX2_cutAt 16 = .ok (.iastore, 1) := by decide +kernel
theorem dX2_cutAt_17 : decode cX2_cutAt 17 = .ok (.return_, 1) := by decide +kernel
theorem dX2_addAt_0 : decode cX2_addAt 0 = .ok (.aload_n 0, 1) := by decide +kernel
theorem dX2_addAt_1 : decode cX2_addAt 1 = .ok (.getfield 29, 3) := by decide +kernel
theorem dX2_addAt_4 : decode cX2_addAt 4 = .ok (.iload_n 1, 1) := by decide +kernel
theorem dX2_addAt_5 : decode cX2_addAt 5 = .ok (.iaload, 1) := by decide +kernel
theorem dX2_addAt_6 : decode cX2_addAt 6 = .ok (.ifCond .ne 17, 3) := by decide +kernel
theorem dX2_addAt_9 : decode cX2_addAt 9 = .ok (.aload_n 0, 1) := by decide +kernel
theorem dX2_addAt_10 : decode cX2_addAt 10 = .ok (.getfield 29, 3) := by decide +kernel
theorem dX2_addAt_13 : decode cX2_addAt 13 = .ok (.iload_n 1, 1) := by decide +kernel
theorem dX2_addAt_14 : decode cX2_addAt 14 = .ok (.iconst 1, 1) := by decide +kernel
theorem dX2_addAt_15 : decode cX2_addAt 15 = .ok (.iastore, 1) := by decide +kernel
theorem dX2_addAt_16 : decode cX2_addAt 16 = .ok (.aload_n 0, 1) := by decide +kernel
theorem dX2_addAt_17 : decode cX2_addAt 17 = .ok (.getfield 45, 3) := by decide +kernel
theorem dX2_addAt_20 : decode cX2_addAt 20 = .ok (.iload_n 1, 1) := by decide +kernel
theorem dX2_addAt_21 : decode cX2_addAt 21 = .ok (.iconst 0, 1) := by decide +kernel
theorem dX2_addAt_22 : decode cX2_addAt 22 = .ok (.iastore, 1) := by decide +kernel
theorem dX2_addAt_23 : decode cX2_addAt 23 = .ok (.return_, 1) := by decide +kernel
theorem dX2_passYear_0 : decode cX2_passYear 0 = .ok (.iconst 0, 1) := by decide +kernel
theorem dX2_passYear_1 : decode cX2_passYear 1 = .ok (.istore_n 2, 1) := by decide +kernel
theorem dX2_passYear_2 : decode cX2_passYear 2 = .ok (.iconst 0, 1) := by decide +kernel
theorem dX2_passYear_3 : decode cX2_passYear 3 = .ok (.istore_n 3, 1) := by decide +kernel
theorem dX2_passYear_4 : decode cX2_passYear 4 = .ok (.iload_n 3, 1) := by decide +kernel
theorem dX2_passYear_5 : decode cX2_passYear 5 = .ok (.aload_n 0, 1) := by decide +kernel
theorem dX2_passYear_6 : decode cX2_passYear 6 = .ok (.getfield 9, 3) := by decide +kernel
theorem dX2_passYear_9 : decode cX2_passYear 9 = .ok (.getfield 51, 3) := by decide +kernel
theorem dX2_passYear_12 : decode cX2_passYear 12 = .ok (.if_icmp .ge 35, 3) := by decide +kernel
theorem dX2_passYear_15 : decode cX2_passYear 15 = .ok (.aload_n 0, 1) := by decide +kernel
theorem dX2_passYear_16 : decode cX2_passYear 16 = .ok (.aload_n 1, 1) := by decide +kernel
theorem dX2_passYear_17 : decode cX2_passYear 17 = .ok (.iload_n 3, 1) := by decide +kernel
theorem dX2_passYear_18 : decode cX2_passYear 18 = .ok (.invokevirtual 61, 3) := by decide +kernel
theorem dX2_passYear_21 : decode cX2_passYear 21 = .ok (.ifCond .eq 20, 3) := by decide +kernel
theorem dX2_passYear_24 : decode cX2_passYear 24 = .ok (.aload_n 0, 1) := by decide +kernel
theorem dX2_passYear_25 : decode cX2_passYear 25 = .ok (.aload_n 1, 1) := by decide +kernel
theorem dX2_passYear_26 : decode cX2_passYear 26 = .ok (.iload_n 3, 1) := by decide +kernel
theorem dX2_passYear_27 : decode cX2_passYear 27 = .ok (.aload_n 1, 1) := by decide +kernel
theorem dX2_passYear_28 : decode cX2_passYear 28 = .ok (.invokevirtual 112, 3) := by decide +kernel
theorem dX2_passYear_31 : decode cX2_passYear 31 = .ok (.bipush 30, 2) := by decide +kernel
theorem dX2_passYear_33 : decode cX2_passYear 33 = .ok (.irem, 1) := by decide +kernel
theorem dX2_passYear_34 : decode cX2_passYear 34 = .ok (.invokevirtual 69, 3) := by decide +kernel
theorem dX2_passYear_37 : decode cX2_passYear 37 = .ok (.pop, 1) := by decide +kernel
theorem dX2_passYear_38 : decode cX2_passYear 38 = .ok (.iinc 2 1, 3) := by decide +kernel
theorem dX2_passYear_41 : decode cX2_passYear 41 = .ok (.iinc 3 1, 3) := by decide +kernel
theorem dX2_passYear_44 : decode cX2_passYear 44 = .ok (.goto (-40), 3) := by decide +kernel
theorem dX2_passYear_47 : decode cX2_passYear 47 = .ok (.iconst 0, 1) := by decide +kernel
theorem dX2_passYear_48 : decode cX2_passYear 48 = .ok (.istore_n 3, 1) := by decide +kernel
theorem dX2_passYear_49 : decode cX2_passYear 49 = .ok (.iload_n 3, 1) := by decide +kernel
theorem dX2_passYear_50 : decode cX2_passYear 50 = .ok (.bipush 30, 2) := by decide +kernel
theorem dX2_passYear_52 : decode cX2_passYear 52 = .ok (.if_icmp .ge 46, 3) := by decide +kernel
theorem dX2_passYear_55 : decode cX2_passYear 55 = .ok (.aload_n 1, 1) := by decide +kernel
theorem dX2_passYear_56 : decode cX2_passYear 56 = .ok (.getfield 29, 3) := by decide +kernel
theorem dX2_passYear_59 : decode cX2_passYear 59 = .ok (.iload_n 3, 1) := by decide +kernel
theorem dX2_passYear_60 : decode cX2_passYear 60 = .ok (.iaload, 1) := by decide +kernel
theorem dX2_passYear_61 : decode cX2_passYear 61 = .ok (.iconst 1, 1) := by decide +kernel
theorem dX2_passYear_62 : decode cX2_passYear 62 = .ok (.if_icmp .ne 30, 3) := by decide +kernel
theorem dX2_passYear_65 : decode cX2_passYear 65 = .ok (.aload_n 1, 1) := by decide +kernel
theorem dX2_passYear_66 : decode cX2_passYear 66 = .ok (.getfield 45, 3) := by decide +kernel
theorem dX2_passYear_69 : decode cX2_passYear 69 = .ok (.iload_n 3, 1) := by decide +kernel
theorem dX2_passYear_70 : decode cX2_passYear 70 = .ok (.aload_n 1, 1) := by decide +kernel
theorem dX2_passYear_71 : decode cX2_passYear 71 = .ok (.getfield 45, 3) := by decide +kernel
theorem dX2_passYear_74 : decode cX2_passYear 74 = .ok (.iload_n 3, 1) := by decide +kernel
theorem dX2_passYear_75 : decode cX2_passYear 75 = .ok (.iaload, 1) := by decide +kernel
theorem dX2_passYear_76 : decode cX2_passYear 76 = .ok (.aload_n 0, 1) := by decide +kernel
theorem dX2_passYear_77 : decode cX2_passYear 77 = .ok (.getfield 15, 3) := by decide +kernel
theorem dX2_passYear_80 : decode cX2_passYear 80 = .ok (.aload_n 1, 1) := by decide +kernel
theorem dX2_passYear_81 : decode cX2_passYear 81 = .ok (.iload_n 3, 1) := by decide +kernel
theorem dX2_passYear_82 : decode cX2_passYear 82 = .ok (.invokevirtual 138, 3) := by decide +kernel
theorem dX2_passYear_85 : decode cX2_passYear 85 = .ok (.iadd, 1) := by decide +kernel
theorem dX2_passYear_86 : decode cX2_passYear 86 = .ok (.bipush 9, 2) := by decide +kernel
theorem dX2_passYear_88 : decode cX2_passYear 88 = .ok (.invokestatic 142, 3) := by decide +kernel
theorem dX2_passYear_91 : decode cX2_passYear 91 = .ok (.iastore, 1) := by decide +kernel
theorem dX2_passYear_92 : decode cX2_passYear 92 = .ok (.iinc 3 1, 3) := by decide +kernel
theorem dX2_passYear_95 : decode cX2_passYear 95 = .ok (.goto (-46), 3) := by decide +kernel
theorem dX2_passYear_98 : decode cX2_passYear 98 = .ok (.aload_n 1, 1) := by decide +kernel
theorem dX2_passYear_99 : decode cX2_passYear 99 = .ok (.dup, 1) := by decide +kernel
theorem dX2_passYear_100 : decode cX2_passYear 100 = .ok (.getfield 80, 3) := by decide +kernel
theorem dX2_passYear_103 : decode cX2_passYear 103 = .ok (.iconst 1, 1) := by decide +kernel
theorem dX2_passYear_104 : decode cX2_passYear 104 = .ok (.iadd, 1) := by decide +kernel
theorem dX2_passYear_105 : decode cX2_passYear 105 = .ok (.putfield 80, 3) := by decide +kernel
theorem dX2_passYear_108 : decode cX2_passYear 108 = .ok (.iload_n 2, 1) := by decide +kernel
theorem dX2_passYear_109 : decode cX2_passYear 109 = .ok (.ireturn, 1) := by decide +kernel
theorem dX3_init_0 : decode cX3_init 0 = .ok (.aload_n 0, 1) := by decide +kernel
theorem dX3_init_1 : decode cX3_init 1 = .ok (.invokespecial 3, 3) := by decide +kernel
theorem dX3_init_4 : decode cX3_init 4 = .ok (.aload_n 0, 1) := by decide +kernel
theorem dX3_init_5 : decode cX3_init 5 = .ok (.new 9, 3) := by decide +kernel
theorem dX3_init_8 : decode cX3_init 8 = .ok (.dup, 1) := by decide +kernel
theorem dX3_init_9 : decode cX3_init 9 = .ok (.invokespecial 11, 3) := by decide +kernel
theorem dX3_init_12 : decode cX3_init 12 = .ok (.putfield 12, 3) := by decide +kernel
theorem dX3_init_15 : decode cX3_init 15 = .ok (.aload_n 0, 1) := by decide +kernel
theorem dX3_init_16 : decode cX3_init 16 = .ok (.sipush 1200, 3) := by decide +kernel
theorem dX3_init_19 : decode cX3_init 19 = .ok (.newarray .int, 2) := by decide +kernel
theorem dX3_init_21 : decode cX3_init 21 = .ok (.putfield 18, 3) := by decide +kernel
theorem dX3_init_24 : decode cX3_init 24 = .ok (.aload_n 0, 1) := by decide +kernel
theorem dX3_init_25 : decode cX3_init 25 = .ok (.bipush 72, 2) := by decide +kernel
theorem dX3_init_27 : decode cX3_init 27 = .ok (.newarray .int, 2) := by decide +kernel
theorem dX3_init_29 : decode cX3_init 29 = .ok (.putfield 22, 3) := by decide +kernel
theorem dX3_init_32 : decode cX3_init 32 = .ok (.aload_n 0, 1) := by decide +kernel
theorem dX3_init_33 : decode cX3_init 33 = .ok (.iconst 0, 1) := by decide +kernel
theorem dX3_init_34 : decode cX3_init 34 = .ok (.putfield 25, 3) := by decide +kernel
theorem dX3_init_37 : decode cX3_init 37 = .ok (.aload_n 0, 1) := by decide +kernel
theorem dX3_init_38 : decode cX3_init 38 = .ok (.iconst 0, 1) := by decide +kernel
theorem dX3_init_39 : decode cX3_init 39 = .ok (.putfield 29, 3) := by decide +kernel
theorem dX3_init_42 : decode cX3_init 42 = .ok (.aload_n 0, 1) := by decide +kernel
theorem dX3_init_43 : decode cX3_init 43 = .ok (.iconst 0, 1) := by decide +kernel
theorem dX3_init_44 : decode cX3_init 44 = .ok (.putfield 32, 3) := by decide +kernel
theorem dX3_init_47 : decode cX3_init 47 = .ok (.aload_n 0, 1) := by decide +kernel
theorem dX3_init_48 : decode cX3_init 48 = .ok (.iconst 0, 1) := by decide +kernel
theorem dX3_init_49 : decode cX3_init 49 = .ok (.putfield 35, 3) := by decide +kernel
theorem dX3_init_52 : decode cX3_init 52 = .ok (.aload_n 0, 1) := by decide +kernel
theorem dX3_init_53 : decode cX3_init 53 = .ok (.aconst_null, 1) := by decide +kernel
theorem dX3_init_54 : decode cX3_init 54 = .ok (.putfield 39, 3) := by decide +kernel
theorem dX3_init_57 : decode cX3_init 57 = .ok (.aload_n 0, 1) := by decide +kernel
theorem dX3_init_58 : decode cX3_init 58 = .ok (.aconst_null, 1) := by decide +kernel
theorem dX3_init_59 : decode cX3_init 59 = .ok (.putfield 42, 3) := by decide +kernel
theorem dX3_init_62 : decode cX3_init 62 = .ok (.aload_n 0, 1) := by decide +kernel
theorem dX3_init_63 : decode cX3_init 63 = .ok (.iconst 0, 1) := by decide +kernel
theorem dX3_init_64 : decode cX3_init 64 = .ok (.putfield 45, 3) := by decide +kernel
theorem dX3_init_67 : decode cX3_init 67 = .ok (.aload_n 0, 1) := by decide +kernel
theorem dX3_init_68 : decode cX3_init 68 = .ok (.iconst (-1), 1) := by decide +kernel
theorem dX3_init_69 : decode cX3_init 69 = .ok (.putfield 48, 3) := by decide +kernel
theorem dX3_init_72 : decode cX3_init 72 = .ok (.return_, 1) := by decide +kernel
theorem dX3_read_0 : decode cX3_read 0 = .ok (.aload_n 0, 1) := by decide +kernel
theorem dX3_read_1 : decode cX3_read 1 = .ok (.iconst 0, 1) := by decide +kernel
theorem dX3_read_2 : decode cX3_read 2 = .ok (.putfield 29, 3) := by decide +kernel
theorem dX3_read_5 : decode cX3_read 5 = .ok (.aload_n 0, 1) := by decide +kernel
theorem dX3_read_6 : decode cX3_read 6 = .ok (.iconst 0, 1) := by decide +kernel
theorem dX3_read_7 : decode cX3_read 7 = .ok (.putfield 32, 3) := by decide +kernel
theorem dX3_read_10 : decode cX3_read 10 = .ok (.aload_n 0, 1) := by decide +kernel
theorem dX3_read_11 : decode cX3_read 11 = .ok (.aconst_null, 1) := by decide +kernel
theorem dX3_read_12 : decode cX3_read 12 = .ok (.putfield 39, 3) := by decide +kernel
theorem dX3_read_15 : decode cX3_read 15 = .ok (.aload_n 0, 1) := by decide +kernel
theorem dX3_read_16 : decode cX3_read 16 = .ok (.aconst_null, 1) := by decide +kernel
theorem dX3_read_17 : decode cX3_read 17 = .ok (.putfield 42, 3) := by decide +kernel
theorem dX3_read_20 : decode cX3_read 20 = .ok (.aload_n 0, 1) := by decide +kernel
theorem dX3_read_21 : decode cX3_read 21 = .ok (.iconst 0, 1) := by decide +kernel
theorem dX3_read_22 : decode cX3_read 22 = .ok (.putfield 45, 3) := by decide +kernel
theorem dX3_read_25 : decode cX3_read 25 = .ok (.aload_n 0, 1) := by decide +kernel
theorem dX3_read_26 : decode cX3_read 26 = .ok (.iconst (-1), 1) := by decide +kernel
theorem dX3_read_27 : decode cX3_read 27 = .ok (.putfield 48, 3) := by decide +kernel
theorem dX3_read_30 : decode cX3_read 30 = .ok (.aload_n 0, 1) := by decide +kernel
theorem dX3_read_31 : decode cX3_read 31 = .ok (.getfield 12, 3) := by decide +kernel
theorem dX3_read_34 : decode cX3_read 34 = .ok (.aload_n 1, 1) := by decide +kernel
theorem dX3_read_35 : decode cX3_read 35 = .ok (.iload_n 2, 1) := by decide +kernel
theorem dX3_read_36 : decode cX3_read 36 = .ok (.invokevirtual 51, 3) := by decide +kernel
theorem dX3_read_39 : decode cX3_read 39 = .ok (.iconst 0, 1) := by decide +kernel
theorem dX3_read_40 : decode cX3_read 40 = .ok (.istore_n 3, 1) := by decide +kernel
theorem dX3_read_41 : decode cX3_read 41 = .ok (.iload_n 3, 1) := by decide +kernel
theorem dX3_read_42 : decode cX3_read 42 = .ok (.bipush 24, 2) := by decide +kernel
theorem dX3_read_44 : decode cX3_read 44 = .ok (.if_icmp .gt 30, 3) := by decide +kernel
theorem dX3_read_47 : decode cX3_read 47 = .ok (.aload_n 0, 1) := by decide +kernel
theorem dX3_read_48 : decode cX3_read 48 = .ok (.getfield 12, 3) := by decide +kernel
theorem dX3_read_51 : decode cX3_read 51 = .ok (.getfield 54, 3) := by decide +kernel
theorem dX3_read_54 : decode cX3_read 54 = .ok (.bipush 40, 2) := by decide +kernel
theorem dX3_read_56 : decode cX3_read 56 = .ok (.if_icmp .eq 18, 3) := by decide +kernel
theorem dX3_read_59 : decode cX3_read 59 = .ok (.aload_n 0, 1) := by decide +kernel
theorem dX3_read_60 : decode cX3_read 60 = .ok (.invokevirtual 57, 3) := by decide +kernel
theorem dX3_read_63 : decode cX3_read 63 = .ok (.ifCond .ne 5, 3) := by decide +kernel
theorem dX3_read_66 : decode cX3_read 66 = .ok (.aconst_null, 1) := by decide +kernel
theorem dX3_read_67 : decode cX3_read 67 = .ok (.areturn, 1) := by decide +kernel
theorem dX3_read_68 : decode cX3_read 68 = .ok (.iinc 3 1, 3) := by decide +kernel
theorem dX3_read_71 : decode cX3_read 71 = .ok (.goto (-30), 3) := by decide +kernel
theorem dX3_read_74 : decode cX3_read 74 = .ok (.new 61, 3) := by decide +kernel
theorem dX3_read_77 : decode cX3_read 77 = .ok (.dup, 1) := by decide +kernel
theorem dX3_read_78 : decode cX3_read 78 = .ok (.aload_n 0, 1) := by decide +kernel
theorem dX3_read_79 : decode cX3_read 79 = .ok (.getfield 39, 3) := by decide +kernel
theorem dX3_read_82 : decode cX3_read 82 = .ok (.aload_n 0, 1) := by decide +kernel
theorem dX3_read_83 : decode cX3_read 83 = .ok (.getfield 42, 3) := by decide +kernel
theorem dX3_read_86 : decode cX3_read 86 = .ok (.aload_n 0, 1) := by decide +kernel
theorem dX3_read_87 : decode cX3_read 87 = .ok (.getfield 22, 3) := by decide +kernel
theorem dX3_read_90 : decode cX3_read 90 = .ok (.iconst 3, 1) := by decide +kernel
theorem dX3_read_91 : decode cX3_read 91 = .ok (.aload_n 0, 1) := by decide +kernel
theorem dX3_read_92 : decode cX3_read 92 = .ok (.getfield 29, 3) := by decide +kernel
theorem dX3_read_95 : decode cX3_read 95 = .ok (.imul, 1) := by decide +kernel
theorem dX3_read_96 : decode cX3_read 96 = .ok (.invokestatic 63, 3) := by decide +kernel
theorem dX3_read_99 : decode cX3_read 99 = .ok (.invokespecial 69, 3) := by decide +kernel
theorem dX3_read_102 : decode cX3_read 102 = .ok (.areturn, 1) := by decide +kernel
theorem dX3_fail_0 : decode cX3_fail 0 = .ok (.aload_n 0, 1) := by decide +kernel
theorem dX3_fail_1 : decode cX3_fail 1 = .ok (.iload_n 1, 1) := by decide +kernel
theorem dX3_fail_2 : decode cX3_fail 2 = .ok (.putfield 45, 3) := by decide +kernel
theorem dX3_fail_5 : decode cX3_fail 5 = .ok (.aload_n 0, 1) := by decide +kernel
theorem dX3_fail_6 : decode cX3_fail 6 = .ok (.aload_n 0, 1) := by decide +kernel
theorem dX3_fail_7 : decode cX3_fail 7 = .ok (.getfield 12, 3) := by decide +kernel
theorem dX3_fail_10 : decode cX3_fail 10 = .ok (.getfield 72, 3) := by decide +kernel
theorem dX3_fail_13 : decode cX3_fail 13 = .ok (.putfield 48, 3) := by decide +kernel
theorem dX3_fail_16 : decode cX3_fail 16 = .ok (.iconst 0, 1) := by decide +kernel
theorem dX3_fail_17 : decode cX3_fail 17 = .ok (.ireturn, 1) := by decide +kernel
theorem dX3_expect_0 : decode cX3_expect 0 = .ok (.aload_n 0, 1) := by decide +kernel
theorem dX3_expect_1 : decode cX3_expect 1 = .ok (.getfield 12, 3) := by decide +kernel
theorem dX3_expect_4 : decode cX3_expect 4 = .ok (.getfield 54, 3) := by decide +kernel
theorem dX3_expect_7 : decode cX3_expect 7 = .ok (.iload_n 1, 1) := by decide +kernel
theorem dX3_expect_8 : decode cX3_expect 8 = .ok (.if_icmp .eq 9, 3) := by decide +kernel
theorem dX3_expect_11 : decode cX3_expect 11 = .ok (.aload_n 0, 1) := by decide +kernel
theorem dX3_expect_12 : decode cX3_expect 12 = .ok (.iconst 1, 1) := by decide +kernel
theorem dX3_expect_13 : decode cX3_expect 13 = .ok (.invokevirtual 75, 3) := by decide +kernel
theorem dX3_expect_16 : decode cX3_expect 16 = .ok (.ireturn, 1) := by decide +kernel
theorem dX3_expect_17 : decode cX3_expect 17 = .ok (.aload_n 0, 1) := by decide +kernel
theorem dX3_expect_18 : decode cX3_expect 18 = .ok (.getfield 12, 3) := by decide +kernel
theorem dX3_expect_21 : decode cX3_expect 21 = .ok (.invokevirtual 79, 3) := by decide +kernel
theorem dX3_expect_24 : decode cX3_expect 24 = .ok (.iconst 1, 1) := by decide +kernel
theorem dX3_expect_25 : decode cX3_expect 25 = .ok (.ireturn, 1) := by decide +kernel
theorem dX3_clause_0 : decode cX3_clause 0 = .ok (.aload_n 0, 1) := by decide +kernel
theorem dX3_clause_1 : decode cX3_clause 1 = .ok (.getfield 12, 3) := by decide +kernel
theorem dX3_clause_4 : decode cX3_clause 4 = .ok (.getfield 54, 3) := by decide +kernel
theorem dX3_clause_7 : decode cX3_clause 7 = .ok (.istore_n 1, 1) := by decide +kernel
theorem dX3_clause_8 : decode cX3_clause 8 = .ok (.iload_n 1, 1) := by decide +kernel
theorem dX3_clause_9 : decode cX3_clause 9 = .ok (.invokestatic 82, 3) := by decide +kernel
theorem dX3_clause_12 : decode cX3_clause 12 = .ok (.ifCond .ne 9, 3) := by decide +kernel
theorem dX3_clause_15 : decode cX3_clause 15 = .ok (.aload_n 0, 1) := by decide +kernel
theorem dX3_clause_16 : decode cX3_clause 16 = .ok (.iconst 1, 1) := by decide +kernel
theorem dX3_clause_17 : decode cX3_clause 17 = .ok (.invokevirtual 75, 3) := by decide +kernel
theorem dX3_clause_20 : decode cX3_clause 20 = .ok (.ireturn, 1) := by decide +kernel
theorem dX3_clause_21 : decode cX3_clause 21 = .ok (.iload_n 1, 1) := by decide +kernel
theorem dX3_clause_22 : decode cX3_clause 22 = .ok (.ifCond .ne 10, 3) := by decide +kernel
theorem dX3_clause_25 : decode cX3_clause 25 = .ok (.aload_n 0, 1) := by decide +kernel
theorem dX3_clause_26 : decode cX3_clause 26 = .ok (.getfield 39, 3) := by decide +kernel
theorem dX3_clause_29 : decode cX3_clause 29 = .ok (.ifnonnull 15, 3) := by decide +kernel
theorem dX3_clause_32 : decode cX3_clause 32 = .ok (.iload_n 1, 1) := by decide +kernel
theorem dX3_clause_33 : decode cX3_clause 33 = .ok (.iconst 1, 1) := by decide +kernel
theorem dX3_clause_34 : decode cX3_clause 34 = .ok (.if_icmp .ne 16, 3) := by decide +kernel
theorem dX3_clause_37 : decode cX3_clause 37 = .ok (.aload_n 0, 1) := by decide +kernel
theorem dX3_clause_38 : decode cX3_clause 38 = .ok (.getfield 42, 3) := by decide +kernel
theorem dX3_clause_41 : decode cX3_clause 41 = .ok (.ifnull 9, 3) := by decide +kernel
theorem dX3_clause_44 : decode cX3_clause 44 = .ok (.aload_n 0, 1) := by decide +kernel
theorem dX3_clause_45 : decode cX3_clause 45 = .ok (.iconst 4, 1) := by decide +kernel
theorem dX3_clause_46 : decode cX3_clause 46 = .ok (.invokevirtual 75, 3) := by decide +kernel
theorem dX3_clause_49 : decode cX3_clause 49 = .ok (.ireturn, 1) := by decide +kernel
theorem dX3_clause_50 : decode cX3_clause 50 = .ok (.aload_n 0, 1) := by decide +kernel
theorem dX3_clause_51 : decode cX3_clause 51 = .ok (.getfield 29, 3) := by decide +kernel
theorem dX3_clause_54 : decode cX3_clause 54 = .ok (.bipush 24, 2) := by decide +kernel
theorem dX3_clause_56 : decode cX3_clause 56 = .ok (.if_icmp .ne 10, 3) := by decide +kernel
theorem dX3_clause_59 : decode cX3_clause 59 = .ok (.aload_n 0, 1) := by decide +kernel
theorem dX3_clause_60 : decode cX3_clause 60 = .ok (.bipush 6, 2) := by decide +kernel
theorem dX3_clause_62 : decode cX3_clause 62 = .ok (.invokevirtual 75, 3) := by decide +kernel
theorem dX3_clause_65 : decode cX3_clause 65 = .ok (.ireturn, 1) := by decide +kernel
theorem dX3_clause_66 : decode cX3_clause 66 = .ok (.aload_n 0, 1) := by decide +kernel
theorem dX3_clause_67 : decode cX3_clause 67 = .ok (.getfield 12, 3) := by decide +kernel
theorem dX3_clause_70 : decode cX3_clause 70 = .ok (.invokevirtual 79, 3) := by decide +kernel
theorem dX3_clause_73 : decode cX3_clause 73 = .ok (.aload_n 0, 1) := by decide +kernel
theorem dX3_clause_74 : decode cX3_clause 74 = .ok (.getfield 22, 3) := by decide +kernel
theorem dX3_clause_77 : decode cX3_clause 77 = .ok (.iconst 3, 1) := by decide +kernel
theorem dX3_clause_78 : decode cX3_clause 78 = .ok (.aload_n 0, 1) := by decide +kernel
theorem dX3_clause_79 : decode cX3_clause 79 = .ok (.getfield 29, 3) := by decide +kernel
theorem dX3_clause_82 : decode cX3_clause 82 = .ok (.imul, 1) := by decide +kernel
theorem dX3_clause_83 : decode cX3_clause 83 = .ok (.iload_n 1, 1) := by decide +kernel
theorem dX3_clause_84 : decode cX3_clause 84 = .ok (.iastore, 1) := by decide +kernel
theorem dX3_clause_85 : decode cX3_clause 85 = .ok (.iload_n 1, 1) := by decide +kernel
theorem dX3_clause_86 : decode cX3_clause 86 = .ok (.invokestatic 85, 3) := by decide +kernel
theorem dX3_clause_89 : decode cX3_clause 89 = .ok (.ifCond .eq 11, 3) := by decide +kernel
theorem dX3_clause_92 : decode cX3_clause 92 = .ok (.aload_n 0, 1) := by decide +kernel
theorem dX3_clause_93 : decode cX3_clause 93 = .ok (.iload_n 1, 1) := by decide +kernel
theorem dX3_clause_94 : decode cX3_clause 94 = .ok (.invokevirtual 88, 3) := by decide +kernel
theorem dX3_clause_97 : decode cX3_clause 97 = .ok (.goto 8, 3) := by decide +kernel
theorem dX3_clause_100 : decode cX3_clause 100 = .ok (.aload_n 0, 1) := by decide +kernel
theorem dX3_clause_101 : decode cX3_clause 101 = .ok (.iload_n 1, 1) := by decide +kernel
theorem dX3_clause_102 : decode cX3_clause 102 = .ok (.invokevirtual 91, 3) := by decide +kernel
theorem dX3_clause_105 : decode cX3_clause 105 = .ok (.istore_n 2, 1) := by decide +kernel
theorem dX3_clause_106 : decode cX3_clause 106 = .ok (.aload_n 0, 1) := by decide +kernel
theorem dX3_clause_107 : decode cX3_clause 107 = .ok (.dup, 1) := by decide +kernel
theorem dX3_clause_108 : decode cX3_clause 108 = .ok (.getfield 29, 3) := by decide +kernel
theorem dX3_clause_111 : decode cX3_clause 111 = .ok (.iconst 1, 1) := by decide +kernel
theorem dX3_clause_112 : decode cX3_clause 112 = .ok (.iadd, 1) := by decide +kernel
theorem dX3_clause_113 : decode cX3_clause 113 = .ok (.putfield 29, 3) := by decide +kernel
theorem dX3_clause_116 : decode cX3_clause 116 = .ok (.iload_n 2, 1) := by decide +kernel
theorem dX3_clause_117 : decode cX3_clause 117 = .ok (.ifCond .eq 16, 3) := by decide +kernel
theorem dX3_clause_120 : decode cX3_clause 120 = .ok (.aload_n 0, 1) := by decide +kernel
theorem dX3_clause_121 : decode cX3_clause 121 = .ok (.bipush 36, 2) := by decide +kernel
theorem dX3_clause_123 : decode cX3_clause 123 = .ok (.invokevirtual 94, 3) := by decide +kernel
theorem dX3_clause_126 : decode cX3_clause 126 = .ok (.ifCond .eq 7, 3) := by decide +kernel
theorem dX3_clause_129 : decode cX3_clause 129 = .ok (.iconst 1, 1) := by decide +kernel
theorem dX3_clause_130 : decode cX3_clause 130 = .ok (.goto 4, 3) := by decide +kernel
theorem dX3_clause_133 : decode cX3_clause 133 = .ok (.iconst 0, 1) := by decide +kernel
theorem dX3_clause_134 : decode cX3_clause 134 = .ok (.ireturn, 1) := by decide +kernel
theorem dX3_isLaw_0 : decode cX3_isLaw 0 = .ok (.iload_n 0, 1) := by decide +kernel
theorem dX3_isLaw_1 : decode cX3_isLaw 1 = .ok (.ifCond .eq 8, 3) := by decide +kernel
theorem dX3_isLaw_4 : decode cX3_isLaw 4 = .ok (.iload_n 0, 1) := by decide +kernel
theorem dX3_isLaw_5 : decode cX3_isLaw 5 = .ok (.iconst 1, 1) := by decide +kernel
theorem dX3_isLaw_6 : decode cX3_isLaw 6 = .ok (.if_icmp .ne 7, 3) := by decide +kernel
theorem dX3_isLaw_9 : decode cX3_isLaw 9 = .ok (.iconst 1, 1) := by decide +kernel
theorem dX3_isLaw_10 : decode cX3_isLaw 10 = .ok (.goto 4, 3) := by decide +kernel
theorem dX3_isLaw_13 : decode cX3_isLaw 13 = .ok (.iconst 0, 1) := by decide +kernel
theorem dX3_isLaw_14 : decode cX3_isLaw 14 = .ok (.ireturn, 1) := by decide +kernel
theorem dX3_isHead_0 : decode cX3_isHead 0 = .ok (.iload_n 0, 1) := by decide +kernel
theorem dX3_isHead_1 : decode cX3_isHead 1 = .ok (.tableswitch 69 0 12 #[67, 67, 67, 69, 67, 69, 67, 69, 67, 69, 67, 67, 67], 67) := by decide +kernel
theorem dX3_isHead_68 : decode cX3_isHead 68 = .ok (.iconst 1, 1) := by decide +kernel
theorem dX3_isHead_69 : decode cX3_isHead 69 = .ok (.ireturn, 1) := by decide +kernel
theorem dX3_isHead_70 : decode cX3_isHead 70 = .ok (.iconst 0, 1) := by decide +kernel
theorem dX3_isHead_71 : decode cX3_isHead 71 = .ok (.ireturn, 1) := by decide +kernel
theorem dX3_law_0 : decode cX3_law 0 = .ok (.aload_n 0, 1) := by decide +kernel
theorem dX3_law_1 : decode cX3_law 1 = .ok (.iconst 0, 1) := by decide +kernel
theorem dX3_law_2 : decode cX3_law 2 = .ok (.putfield 25, 3) := by decide +kernel
theorem dX3_law_5 : decode cX3_law 5 = .ok (.aload_n 0, 1) := by decide +kernel
theorem dX3_law_6 : decode cX3_law 6 = .ok (.iload_n 1, 1) := by decide +kernel
theorem dX3_law_7 : decode cX3_law 7 = .ok (.ifCond .ne 7, 3) := by decide +kernel
theorem dX3_law_10 : decode cX3_law 10 = .ok (.iconst 1, 1) := by decide +kernel
theorem dX3_law_11 : decode cX3_law 11 = .ok (.goto 4, 3) := by decide +kernel
theorem dX3_law_14 : decode cX3_law 14 = .ok (.iconst 0, 1) := by decide +kernel
theorem dX3_law_15 : decode cX3_law 15 = .ok (.putfield 35, 3) := by decide +kernel
theorem dX3_law_18 : decode cX3_law 18 = .ok (.aload_n 0, 1) := by decide +kernel
theorem dX3_law_19 : decode cX3_law 19 = .ok (.invokevirtual 97, 3) := by decide +kernel
theorem dX3_law_22 : decode cX3_law 22 = .ok (.ifCond .ne 5, 3) := by decide +kernel
theorem dX3_law_25 : decode cX3_law 25 = .ok (.iconst 0, 1) := by decide +kernel
theorem dX3_law_26 : decode cX3_law 26 = .ok (.ireturn, 1) := by decide +kernel
theorem dX3_law_27 : decode cX3_law 27 = .ok (.aload_n 0, 1) := by decide +kernel
theorem dX3_law_28 : decode cX3_law 28 = .ok (.getfield 18, 3) := by decide +kernel
theorem dX3_law_31 : decode cX3_law 31 = .ok (.aload_n 0, 1) := by decide +kernel
theorem dX3_law_32 : decode cX3_law 32 = .ok (.getfield 25, 3) := by decide +kernel
theorem dX3_law_35 : decode cX3_law 35 = .ok (.invokestatic 63, 3) := by decide +kernel
theorem dX3_law_38 : decode cX3_law 38 = .ok (.astore_n 2, 1) := by decide +kernel
theorem dX3_law_39 : decode cX3_law 39 = .ok (.aload_n 0, 1) := by decide +kernel
theorem dX3_law_40 : decode cX3_law 40 = .ok (.getfield 35, 3) := by decide +kernel
theorem dX3_law_43 : decode cX3_law 43 = .ok (.ifCond .eq 11, 3) := by decide +kernel
theorem dX3_law_46 : decode cX3_law 46 = .ok (.aload_n 0, 1) := by decide +kernel
theorem dX3_law_47 : decode cX3_law 47 = .ok (.aload_n 2, 1) := by decide +kernel
theorem dX3_law_48 : decode cX3_law 48 = .ok (.putfield 39, 3) := by decide +kernel
theorem dX3_law_51 : decode cX3_law 51 = .ok (.goto 8, 3) := by decide +kernel
theorem dX3_law_54 : decode cX3_law 54 = .ok (.aload_n 0, 1) := by decide +kernel
theorem dX3_law_55 : decode cX3_law 55 = .ok (.aload_n 2, 1) := by decide +kernel
theorem dX3_law_56 : decode cX3_law 56 = .ok (.putfield 42, 3) := by decide +kernel
theorem dX3_law_59 : decode cX3_law 59 = .ok (.iconst 1, 1) := by decide +kernel
theorem dX3_law_60 : decode cX3_law 60 = .ok (.ireturn, 1) := by decide +kernel
theorem dX3_deed_0 : decode cX3_deed 0 = .ok (.iload_n 1, 1) := by decide +kernel
theorem dX3_deed_1 : decode cX3_deed 1 = .ok (.tableswitch 213 2 12 #[59, 213, 94, 213, 130, 213, 167, 213, 213, 213, 204], 59) := by decide +kernel
theorem dX3_deed_60 : decode cX3_deed 60 = .ok (.aload_n 0, 1) := by decide +kernel
theorem dX3_deed_61 : decode cX3_deed 61 = .ok (.iconst 1, 1) := by decide +kernel
theorem dX3_deed_62 : decode cX3_deed 62 = .ok (.iconst 0, 1) := by decide +kernel
theorem dX3_deed_63 : decode cX3_deed 63 = .ok (.bipush 29, 2) := by decide +kernel
theorem dX3_deed_65 : decode cX3_deed 65 = .ok (.invokevirtual 100, 3) := by decide +kernel
theorem dX3_deed_68 : decode cX3_deed 68 = .ok (.ifCond .eq 25, 3) := by decide +kernel
theorem dX3_deed_71 : decode cX3_deed 71 = .ok (.aload_n 0, 1) := by decide +kernel
theorem dX3_deed_72 : decode cX3_deed 72 = .ok (.iconst 3, 1) := by decide +kernel
theorem dX3_deed_73 : decode cX3_deed 73 = .ok (.invokevirtual 94, 3) := by decide +kernel
theorem dX3_deed_76 : decode cX3_deed 76 = .ok (.ifCond .eq 17, 3) := by decide +kernel
theorem dX3_deed_79 : decode cX3_deed 79 = .ok (.aload_n 0, 1) := by decide +kernel
theorem dX3_deed_80 : decode cX3_deed 80 = .ok (.iconst 2, 1) := by decide +kernel
theorem dX3_deed_81 : decode cX3_deed 81 = .ok (.iconst 0, 1) := by decide +kernel
theorem dX3_deed_82 : decode cX3_deed 82 = .ok (.iconst 3, 1) := by decide +kernel
theorem dX3_deed_83 : decode cX3_deed 83 = .ok (.invokevirtual 100, 3) := by decide +kernel
theorem dX3_deed_86 : decode cX3_deed 86 = .ok (.ifCond .eq 7, 3) := by decide +kernel
theorem dX3_deed_89 : decode cX3_deed 89 = .ok (.iconst 1, 1) := by decide +kernel
theorem dX3_deed_90 : decode cX3_deed 90 = .ok (.goto 4, 3) := by decide +kernel
theorem dX3_deed_93 : decode cX3_deed 93 = .ok (.iconst 0, 1) := by decide +kernel
theorem dX3_deed_94 : decode cX3_deed 94 = .ok (.ireturn, 1) := by decide +kernel
theorem dX3_deed_95 : decode cX3_deed 95 = .ok (.aload_n 0, 1) := by decide +kernel
theorem dX3_deed_96 : decode cX3_deed 96 = .ok (.iconst 1, 1) := by decide +kernel
theorem dX3_deed_97 : decode cX3_deed 97 = .ok (.iconst 0, 1) := by decide +kernel
theorem dX3_deed_98 : decode cX3_deed 98 = .ok (.bipush 9, 2) := by decide +kernel
theorem dX3_deed_100 : decode cX3_deed 100 = .ok (.invokevirtual 100, 3) := by decide +kernel
theorem dX3_deed_103 : decode cX3_deed 103 = .ok (.ifCond .eq 26, 3) := by decide +kernel
theorem dX3_deed_106 : decode cX3_deed 106 = .ok (.aload_n 0, 1) := by decide +kernel
theorem dX3_deed_107 : decode cX3_deed 107 = .ok (.iconst 5, 1) := by decide +kernel
theorem dX3_deed_108 : decode cX3_deed 108 = .ok (.invokevirtual 94, 3) := by decide +kernel
theorem dX3_deed_111 : decode cX3_deed 111 = .ok (.ifCond .eq 18, 3) := by decide +kernel
theorem dX3_deed_114 : decode cX3_deed 114 = .ok (.aload_n 0, 1) := by decide +kernel
theorem dX3_deed_115 : decode cX3_deed 115 = .ok (.iconst 2, 1) := by decide +kernel
theorem dX3_deed_116 : decode cX3_deed 116 = .ok (.iconst 0, 1) := by decide +kernel
theorem dX3_deed_117 : decode cX3_deed 117 = .ok (.bipush 29, 2) := by decide +kernel
theorem dX3_deed_119 : decode cX3_deed 119 = .ok (.invokevirtual 100, 3) := by decide +kernel
theorem dX3_deed_122 : decode cX3_deed 122 = .ok (.ifCond .eq 7, 3) := by decide +kernel
theorem dX3_deed_125 : decode cX3_deed 125 = .ok (.iconst 1, 1) := by decide +kernel
theorem dX3_deed_126 : decode cX3_deed 126 = .ok (.goto 4, 3) := by decide +kernel
theorem dX3_deed_129 : decode cX3_deed 129 = .ok (.iconst 0, 1) := by decide +kernel
theorem dX3_deed_130 : decode cX3_deed 130 = .ok (.ireturn, 1) := by decide +kernel
theorem dX3_deed_131 : decode cX3_deed 131 = .ok (.aload_n 0, 1) := by decide +kernel
theorem dX3_deed_132 : decode cX3_deed 132 = .ok (.iconst 1, 1) := by decide +kernel
theorem dX3_deed_133 : decode cX3_deed 133 = .ok (.iconst 1, 1) := by decide +kernel
theorem dX3_deed_134 : decode cX3_deed 134 = .ok (.bipush 9, 2) := by decide +kernel
theorem dX3_deed_136 : decode cX3_deed 136 = .ok (.invokevirtual 100, 3) := by decide +kernel
theorem dX3_deed_139 : decode cX3_deed 139 = .ok (.ifCond .eq 27, 3) := by decide +kernel
theorem dX3_deed_142 : decode cX3_deed 142 = .ok (.aload_n 0, 1) := by decide +kernel
theorem dX3_deed_143 : decode cX3_deed 143 = .ok (.bipush 7, 2) := by decide +kernel
theorem dX3_deed_145 : decode cX3_deed 145 = .ok (.invokevirtual 94, 3) := by decide +kernel
theorem dX3_deed_148 : decode cX3_deed 148 = .ok (.ifCond .eq 18, 3) := by decide +kernel
theorem dX3_deed_151 : decode cX3_deed 151 = .ok (.aload_n 0, 1) := by decide +kernel
theorem dX3_deed_152 : decode cX3_deed 152 = .ok (.iconst 2, 1) := by decide +kernel
theorem dX3_deed_153 : decode cX3_deed 153 = .ok (.iconst 0, 1) := by decide +kernel
theorem dX3_deed_154 : decode cX3_deed 154 = .ok (.bipush 9, 2) := by decide +kernel
theorem dX3_deed_156 : decode cX3_deed 156 = .ok (.invokevirtual 100, 3) := by decide +kernel
theorem dX3_deed_159 : decode cX3_deed 159 = .ok (.ifCond .eq 7, 3) := by decide +kernel
theorem dX3_deed_162 : decode cX3_deed 162 = .ok (.iconst 1, 1) := by decide +kernel
theorem dX3_deed_163 : decode cX3_deed 163 = .ok (.goto 4, 3) := by decide +kernel
theorem dX3_deed_166 : decode cX3_deed 166 = .ok (.iconst 0, 1) := by decide +kernel
theorem dX3_deed_167 : decode cX3_deed 167 = .ok (.ireturn, 1) := by decide +kernel
theorem dX3_deed_168 : decode cX3_deed 168 = .ok (.aload_n 0, 1) := by decide +kernel
theorem dX3_deed_169 : decode cX3_deed 169 = .ok (.iconst 1, 1) := by decide +kernel
theorem dX3_deed_170 : decode cX3_deed 170 = .ok (.iconst 0, 1) := by decide +kernel
theorem dX3_deed_171 : decode cX3_deed 171 = .ok (.bipush 6, 2) := by decide +kernel
theorem dX3_deed_173 : decode cX3_deed 173 = .ok (.invokevirtual 100, 3) := by decide +kernel
theorem dX3_deed_176 : decode cX3_deed 176 = .ok (.ifCond .eq 27, 3) := by decide +kernel
theorem dX3_deed_179 : decode cX3_deed 179 = .ok (.aload_n 0, 1) := by decide +kernel
theorem dX3_deed_180 : decode cX3_deed 180 = .ok (.bipush 9, 2) := by decide +kernel
theorem dX3_deed_182 : decode cX3_deed 182 = .ok (.invokevirtual 94, 3) := by decide +kernel
theorem dX3_deed_185 : decode cX3_deed 185 = .ok (.ifCond .eq 18, 3) := by decide +kernel
theorem dX3_deed_188 : decode cX3_deed 188 = .ok (.aload_n 0, 1) := by decide +kernel
theorem dX3_deed_189 : decode cX3_deed 189 = .ok (.iconst 2, 1) := by decide +kernel
theorem dX3_deed_190 : decode cX3_deed 190 = .ok (.iconst 0, 1) := by decide +kernel
theorem dX3_deed_191 : decode cX3_deed 191 = .ok (.bipush 29, 2) := by decide +kernel
theorem dX3_deed_193 : decode cX3_deed 193 = .ok (.invokevirtual 100, 3) := by decide +kernel
theorem dX3_deed_196 : decode cX3_deed 196 = .ok (.ifCond .eq 7, 3) := by decide +kernel
theorem dX3_deed_199 : decode cX3_deed 199 = .ok (.iconst 1, 1) := by decide +kernel
theorem dX3_deed_200 : decode cX3_deed 200 = .ok (.goto 4, 3) := by decide +kernel
theorem dX3_deed_203 : decode cX3_deed 203 = .ok (.iconst 0, 1) := by decide +kernel
theorem dX3_deed_204 : decode cX3_deed 204 = .ok (.ireturn, 1) := by decide +kernel
theorem dX3_deed_205 : decode cX3_deed 205 = .ok (.aload_n 0, 1) := by decide +kernel
theorem dX3_deed_206 : decode cX3_deed 206 = .ok (.iconst 1, 1) := by decide +kernel
theorem dX3_deed_207 : decode cX3_deed 207 = .ok (.iconst 1, 1) := by decide +kernel
theorem dX3_deed_208 : decode cX3_deed 208 = .ok (.bipush 60, 2) := by decide +kernel
theorem dX3_deed_210 : decode cX3_deed 210 = .ok (.invokevirtual 100, 3) := by decide +kernel
theorem dX3_deed_213 : decode cX3_deed 213 = .ok (.ireturn, 1) := by decide +kernel
theorem dX3_deed_214 : decode cX3_deed 214 = .ok (.aload_n 0, 1) := by decide +kernel
theorem dX3_deed_215 : decode cX3_deed 215 = .ok (.iconst 1, 1) := by decide +kernel
theorem dX3_deed_216 : decode cX3_deed 216 = .ok (.iconst 0, 1) := by decide +kernel
theorem dX3_deed_217 : decode cX3_deed 217 = .ok (.bipush 29, 2) := by decide +kernel
theorem dX3_deed_219 : decode cX3_deed 219 = .ok (.invokevirtual 100, 3) := by decide +kernel
theorem dX3_deed_222 : decode cX3_deed 222 = .ok (.ireturn, 1) := by decide +kernel
theorem dX3_number_0 : decode cX3_number 0 = .ok (.aload_n 0, 1) := by decide +kernel
theorem dX3_number_1 : decode cX3_number 1 = .ok (.getfield 12, 3) := by decide +kernel
theorem dX3_number_4 : decode cX3_number 4 = .ok (.getfield 54, 3) := by decide +kernel
theorem dX3_number_7 : decode cX3_number 7 = .ok (.bipush 39, 2) := by decide +kernel
theorem dX3_number_9 : decode cX3_number 9 = .ok (.if_icmp .eq 9, 3) := by decide +kernel
theorem dX3_number_12 : decode cX3_number 12 = .ok (.aload_n 0, 1) := by decide +kernel
theorem dX3_number_13 : decode cX3_number 13 = .ok (.iconst 1, 1) := by decide +kernel
theorem dX3_number_14 : decode cX3_number 14 = .ok (.invokevirtual 75, 3) := by decide +kernel
theorem dX3_number_17 : decode cX3_number 17 = .ok (.ireturn, 1) := by decide +kernel
theorem dX3_number_18 : decode cX3_number 18 = .ok (.aload_n 0, 1) := by decide +kernel
theorem dX3_number_19 : decode cX3_number 19 = .ok (.getfield 12, 3) := by decide +kernel
theorem dX3_number_22 : decode cX3_number 22 = .ok (.getfield 104, 3) := by decide +kernel
theorem dX3_number_25 : decode cX3_number 25 = .ok (.iload_n 2, 1) := by decide +kernel
theorem dX3_number_26 : decode cX3_number 26 = .ok (.if_icmp .lt 14, 3) := by decide +kernel
theorem dX3_number_29 : decode cX3_number 29 = .ok (.aload_n 0, 1) := by decide +kernel
theorem dX3_number_30 : decode cX3_number 30 = .ok (.getfield 12, 3) := by decide +kernel
theorem dX3_number_33 : decode cX3_number 33 = .ok (.getfield 104, 3) := by decide +kernel
theorem dX3_number_36 : decode cX3_number 36 = .ok (.iload_n 3, 1) := by decide +kernel
theorem dX3_number_37 : decode cX3_number 37 = .ok (.if_icmp .le 9, 3) := by decide +kernel
theorem dX3_number_40 : decode cX3_number 40 = .ok (.aload_n 0, 1) := by decide +kernel
theorem dX3_number_41 : decode cX3_number 41 = .ok (.iconst 2, 1) := by decide +kernel
theorem dX3_number_42 : decode cX3_number 42 = .ok (.invokevirtual 75, 3) := by decide +kernel
theorem dX3_number_45 : decode cX3_number 45 = .ok (.ireturn, 1) := by decide +kernel
theorem dX3_number_46 : decode cX3_number 46 = .ok (.aload_n 0, 1) := by decide +kernel
theorem dX3_number_47 : decode cX3_number 47 = .ok (.getfield 22, 3) := by decide +kernel
theorem dX3_number_50 : decode cX3_number 50 = .ok (.iconst 3, 1) := by decide +kernel
theorem dX3_number_51 : decode cX3_number 51 = .ok (.aload_n 0, 1) := by decide +kernel
theorem dX3_number_52 : decode cX3_number 52 = .ok (.getfield 29, 3) := by decide +kernel
theorem dX3_number_55 : decode cX3_number 55 = .ok (.imul, 1) := by decide +kernel
theorem dX3_number_56 : decode cX3_number 56 = .ok (.iload_n 1, 1) := by decide +kernel
theorem dX3_number_57 : decode cX3_number 57 = .ok (.iadd, 1) := by decide +kernel
theorem dX3_number_58 : decode cX3_number 58 = .ok (.aload_n 0, 1) := by decide +kernel
theorem dX3_number_59 : decode cX3_number 59 = .ok (.getfield 12, 3) := by decide +kernel
theorem dX3_number_62 : decode cX3_number 62 = .ok (.getfield 104, 3) := by decide +kernel
theorem dX3_number_65 : decode cX3_number 65 = .ok (.iastore, 1) := by decide +kernel
theorem dX3_number_66 : decode cX3_number 66 = .ok (.aload_n 0, 1) := by decide +kernel
theorem dX3_number_67 : decode cX3_number 67 = .ok (.getfield 12, 3) := by decide +kernel
theorem dX3_number_70 : decode cX3_number 70 = .ok (.invokevirtual 79, 3) := by decide +kernel
theorem dX3_number_73 : decode cX3_number 73 = .ok (.iconst 1, 1) := by decide +kernel
theorem dX3_number_74 : decode cX3_number 74 = .ok (.ireturn, 1) := by decide +kernel
theorem dX3_emit_0 : decode cX3_emit 0 = .ok (.aload_n 0, 1) := by decide +kernel
theorem dX3_emit_1 : decode cX3_emit 1 = .ok (.getfield 25, 3) := by decide +kernel
theorem dX3_emit_4 : decode cX3_emit 4 = .ok (.iconst 2, 1) := by decide +kernel
theorem dX3_emit_5 : decode cX3_emit 5 = .ok (.iadd, 1) := by decide +kernel
theorem dX3_emit_6 : decode cX3_emit 6 = .ok (.aload_n 0, 1) := by decide +kernel
theorem dX3_emit_7 : decode cX3_emit 7 = .ok (.getfield 18, 3) := by decide +kernel
theorem dX3_emit_10 : decode cX3_emit 10 = .ok (.arraylength, 1) := by decide +kernel
theorem dX3_emit_11 : decode cX3_emit 11 = .ok (.if_icmp .le 9, 3) := by decide +kernel
theorem dX3_emit_14 : decode cX3_emit 14 = .ok (.aload_n 0, 1) := by decide +kernel
theorem dX3_emit_15 : decode cX3_emit 15 = .ok (.iconst 1, 1) := by decide +kernel
theorem dX3_emit_16 : decode cX3_emit 16 = .ok (.invokevirtual 75, 3) := by decide +kernel
theorem dX3_emit_19 : decode cX3_emit 19 = .ok (.ireturn, 1) := by decide +kernel
theorem dX3_emit_20 : decode cX3_emit 20 = .ok (.aload_n 0, 1) := by decide +kernel
theorem dX3_emit_21 : decode cX3_emit 21 = .ok (.getfield 18, 3) := by decide +kernel
theorem dX3_emit_24 : decode cX3_emit 24 = .ok (.aload_n 0, 1) := by decide +kernel
theorem dX3_emit_25 : decode cX3_emit 25 = .ok (.getfield 25, 3) := by decide +kernel
theorem dX3_emit_28 : decode cX3_emit 28 = .ok (.iload_n 1, 1) := by decide +kernel
theorem dX3_emit_29 : decode cX3_emit 29 = .ok (.iastore, 1) := by decide +kernel
theorem dX3_emit_30 : decode cX3_emit 30 = .ok (.aload_n 0, 1) := by decide +kernel
theorem dX3_emit_31 : decode cX3_emit 31 = .ok (.getfield 18, 3) := by decide +kernel
theorem dX3_emit_34 : decode cX3_emit 34 = .ok (.aload_n 0, 1) := by decide +kernel
theorem dX3_emit_35 : decode cX3_emit 35 = .ok (.getfield 25, 3) := by decide +kernel
theorem dX3_emit_38 : decode cX3_emit 38 = .ok (.iconst 1, 1) := by decide +kernel
theorem dX3_emit_39 : decode cX3_emit 39 = .ok (.iadd, 1) := by decide +kernel
theorem dX3_emit_40 : decode cX3_emit 40 = .ok (.iload_n 2, 1) := by decide +kernel
theorem dX3_emit_41 : decode cX3_emit 41 = .ok (.iastore, 1) := by decide +kernel
theorem dX3_emit_42 : decode cX3_emit 42 = .ok (.aload_n 0, 1) := by decide +kernel
theorem dX3_emit_43 : decode cX3_emit 43 = .ok (.dup, 1) := by decide +kernel
theorem dX3_emit_44 : decode cX3_emit 44 = .ok (.getfield 25, 3) := by decide +kernel
theorem dX3_emit_47 : decode cX3_emit 47 = .ok (.iconst 2, 1) := by decide +kernel
theorem dX3_emit_48 : decode cX3_emit 48 = .ok (.iadd, 1) := by decide +kernel
theorem dX3_emit_49 : decode cX3_emit 49 = .ok (.putfield 25, 3) := by decide +kernel
theorem dX3_emit_52 : decode cX3_emit 52 = .ok (.iconst 1, 1) := by decide +kernel
theorem dX3_emit_53 : decode cX3_emit 53 = .ok (.ireturn, 1) := by decide +kernel
theorem dX3_sum_0 : decode cX3_sum 0 = .ok (.aload_n 0, 1) := by decide +kernel
theorem dX3_sum_1 : decode cX3_sum 1 = .ok (.invokevirtual 107, 3) := by decide +kernel
theorem dX3_sum_4 : decode cX3_sum 4 = .ok (.istore_n 1, 1) := by decide +kernel
theorem dX3_sum_5 : decode cX3_sum 5 = .ok (.iconst 0, 1) := by decide +kernel
theorem dX3_sum_6 : decode cX3_sum 6 = .ok (.istore_n 2, 1) := by decide +kernel
theorem dX3_sum_7 : decode cX3_sum 7 = .ok (.iload_n 1, 1) := by decide +kernel
theorem dX3_sum_8 : decode cX3_sum 8 = .ok (.ifCond .eq 77, 3) := by decide +kernel
theorem dX3_sum_11 : decode cX3_sum 11 = .ok (.iload_n 2, 1) := by decide +kernel
theorem dX3_sum_12 : decode cX3_sum 12 = .ok (.sipush 300, 3) := by decide +kernel
theorem dX3_sum_15 : decode cX3_sum 15 = .ok (.if_icmp .ge 70, 3) := by decide +kernel
theorem dX3_sum_18 : decode cX3_sum 18 = .ok (.aload_n 0, 1) := by decide +kernel
theorem dX3_sum_19 : decode cX3_sum 19 = .ok (.getfield 12, 3) := by decide +kernel
theorem dX3_sum_22 : decode cX3_sum 22 = .ok (.getfield 54, 3) := by decide +kernel
theorem dX3_sum_25 : decode cX3_sum 25 = .ok (.bipush 30, 2) := by decide +kernel
theorem dX3_sum_27 : decode cX3_sum 27 = .ok (.if_icmp .eq 15, 3) := by decide +kernel
theorem dX3_sum_30 : decode cX3_sum 30 = .ok (.aload_n 0, 1) := by decide +kernel
theorem dX3_sum_31 : decode cX3_sum 31 = .ok (.getfield 12, 3) := by decide +kernel
theorem dX3_sum_34 : decode cX3_sum 34 = .ok (.getfield 54, 3) := by decide +kernel
theorem dX3_sum_37 : decode cX3_sum 37 = .ok (.bipush 31, 2) := by decide +kernel
theorem dX3_sum_39 : decode cX3_sum 39 = .ok (.if_icmp .ne 46, 3) := by decide +kernel
theorem dX3_sum_42 : decode cX3_sum 42 = .ok (.aload_n 0, 1) := by decide +kernel
theorem dX3_sum_43 : decode cX3_sum 43 = .ok (.getfield 12, 3) := by decide +kernel
theorem dX3_sum_46 : decode cX3_sum 46 = .ok (.getfield 54, 3) := by decide +kernel
theorem dX3_sum_49 : decode cX3_sum 49 = .ok (.istore_n 3, 1) := by decide +kernel
theorem dX3_sum_50 : decode cX3_sum 50 = .ok (.aload_n 0, 1) := by decide +kernel
theorem dX3_sum_51 : decode cX3_sum 51 = .ok (.getfield 12, 3) := by decide +kernel
theorem dX3_sum_54 : decode cX3_sum 54 = .ok (.invokevirtual 79, 3) := by decide +kernel
theorem dX3_sum_57 : decode cX3_sum 57 = .ok (.aload_n 0, 1) := by decide +kernel
theorem dX3_sum_58 : decode cX3_sum 58 = .ok (.invokevirtual 107, 3) := by decide +kernel
theorem dX3_sum_61 : decode cX3_sum 61 = .ok (.ifCond .eq 16, 3) := by decide +kernel
theorem dX3_sum_64 : decode cX3_sum 64 = .ok (.aload_n 0, 1) := by decide +kernel
theorem dX3_sum_65 : decode cX3_sum 65 = .ok (.iload_n 3, 1) := by decide +kernel
theorem dX3_sum_66 : decode cX3_sum 66 = .ok (.iconst 0, 1) := by decide +kernel
theorem dX3_sum_67 : decode cX3_sum 67 = .ok (.invokevirtual 110, 3) := by decide +kernel
theorem dX3_sum_70 : decode cX3_sum 70 = .ok (.ifCond .eq 7, 3) := by decide +kernel
theorem dX3_sum_73 : decode cX3_sum 73 = .ok (.iconst 1, 1) := by decide +kernel
theorem dX3_sum_74 : decode cX3_sum 74 = .ok (.goto 4, 3) := by decide +kernel
theorem dX3_sum_77 : decode cX3_sum 77 = .ok (.iconst 0, 1) := by decide +kernel
theorem dX3_sum_78 : decode cX3_sum 78 = .ok (.istore_n 1, 1) := by decide +kernel
theorem dX3_sum_79 : decode cX3_sum 79 = .ok (.iinc 2 1, 3) := by decide +kernel
theorem dX3_sum_82 : decode cX3_sum 82 = .ok (.goto (-75), 3) := by decide +kernel
theorem dX3_sum_85 : decode cX3_sum 85 = .ok (.iload_n 1, 1) := by decide +kernel
theorem dX3_sum_86 : decode cX3_sum 86 = .ok (.ireturn, 1) := by decide +kernel
theorem dX3_product_0 : decode cX3_product 0 = .ok (.aload_n 0, 1) := by decide +kernel
theorem dX3_product_1 : decode cX3_product 1 = .ok (.invokevirtual 114, 3) := by decide +kernel
theorem dX3_product_4 : decode cX3_product 4 = .ok (.istore_n 1, 1) := by decide +kernel
theorem dX3_product_5 : decode cX3_product 5 = .ok (.iconst 0, 1) := by decide +kernel
theorem dX3_product_6 : decode cX3_product 6 = .ok (.istore_n 2, 1) := by decide +kernel
theorem dX3_product_7 : decode cX3_product 7 = .ok (.iload_n 1, 1) := by decide +kernel
theorem dX3_product_8 : decode cX3_product 8 = .ok (.ifCond .eq 77, 3) := by decide +kernel
theorem dX3_product_11 : decode cX3_product 11 = .ok (.iload_n 2, 1) := by decide +kernel
theorem dX3_product_12 : decode cX3_product 12 = .ok (.sipush 300, 3) := by decide +kernel
theorem dX3_product_15 : decode cX3_product 15 = .ok (.if_icmp .ge 70, 3) := by decide +kernel
theorem dX3_product_18 : decode cX3_product 18 = .ok (.aload_n 0, 1) := by decide +kernel
theorem dX3_product_19 : decode cX3_product 19 = .ok (.getfield 12, 3) := by decide +kernel
theorem dX3_product_22 : decode cX3_product 22 = .ok (.getfield 54, 3) := by decide +kernel
theorem dX3_product_25 : decode cX3_product 25 = .ok (.bipush 32, 2) := by decide +kernel
theorem dX3_product_27 : decode cX3_product 27 = .ok (.if_icmp .eq 15, 3) := by decide +kernel
theorem dX3_product_30 : decode cX3_product 30 = .ok (.aload_n 0, 1) := by decide +kernel
theorem dX3_product_31 : decode cX3_product 31 = .ok (.getfield 12, 3) := by decide +kernel
theorem dX3_product_34 : decode cX3_product 34 = .ok (.getfield 54, 3) := by decide +kernel
theorem dX3_product_37 : decode cX3_product 37 = .ok (.bipush 33, 2) := by decide +kernel
theorem dX3_product_39 : decode cX3_product 39 = .ok (.if_icmp .ne 46, 3) := by decide +kernel
theorem dX3_product_42 : decode cX3_product 42 = .ok (.aload_n 0, 1) := by decide +kernel
theorem dX3_product_43 : decode cX3_product 43 = .ok (.getfield 12, 3) := by decide +kernel
theorem dX3_product_46 : decode cX3_product 46 = .ok (.getfield 54, 3) := by decide +kernel
theorem dX3_product_49 : decode cX3_product 49 = .ok (.istore_n 3, 1) := by decide +kernel
theorem dX3_product_50 : decode cX3_product 50 = .ok (.aload_n 0, 1) := by decide +kernel
theorem dX3_product_51 : decode cX3_product 51 = .ok (.getfield 12, 3) := by decide +kernel
theorem dX3_product_54 : decode cX3_product 54 = .ok (.invokevirtual 79, 3) := by decide +kernel
theorem dX3_product_57 : decode cX3_product 57 = .ok (.aload_n 0, 1) := by decide +kernel
theorem dX3_product_58 : decode cX3_product 58 = .ok (.invokevirtual 114, 3) := by decide +kernel
theorem dX3_product_61 : decode cX3_product 61 = .ok (.ifCond .eq 16, 3) := by decide +kernel
theorem dX3_product_64 : decode cX3_product 64 = .ok (.aload_n 0, 1) := by decide +kernel
theorem dX3_product_65 : decode cX3_product 65 = .ok (.iload_n 3, 1) := by decide +kernel
theorem dX3_product_66 : decode cX3_product 66 = .ok (.iconst 0, 1) := by decide +kernel
theorem dX3_product_67 : decode cX3_product 67 = .ok (.invokevirtual 110, 3) := by decide +kernel
theorem dX3_product_70 : decode cX3_product 70 = .ok (.ifCond .eq 7, 3) := by decide +kernel
theorem dX3_product_73 : decode cX3_product 73 = .ok (.iconst 1, 1) := by decide +kernel
theorem dX3_product_74 : decode cX3_product 74 = .ok (.goto 4, 3) := by decide +kernel
theorem dX3_product_77 : decode cX3_product 77 = .ok (.iconst 0, 1) := by decide +kernel
theorem dX3_product_78 : decode cX3_product 78 = .ok (.istore_n 1, 1) := by decide +kernel
theorem dX3_product_79 : decode cX3_product 79 = .ok (.iinc 2 1, 3) := by decide +kernel
theorem dX3_product_82 : decode cX3_product 82 = .ok (.goto (-75), 3) := by decide +kernel
theorem dX3_product_85 : decode cX3_product 85 = .ok (.iload_n 1, 1) := by decide +kernel
theorem dX3_product_86 : decode cX3_product 86 = .ok (.ireturn, 1) := by decide +kernel
theorem dX3_one_0 : decode cX3_one 0 = .ok (.aload_n 0, 1) := by decide +kernel
theorem dX3_one_1 : decode cX3_one 1 = .ok (.getfield 12, 3) := by decide +kernel
theorem dX3_one_4 : decode cX3_one 4 = .ok (.getfield 54, 3) := by decide +kernel
theorem dX3_one_7 : decode cX3_one 7 = .ok (.istore_n 1, 1) := by decide +kernel
theorem dX3_one_8 : decode cX3_one 8 = .ok (.iload_n 1, 1) := by decide +kernel
theorem dX3_one_9 : decode cX3_one 9 = .ok (.tableswitch 215 2 39 #[172, 172, 172, 215, 215, 178, 215, 215, 215, 215, 172, 187, 215, 187, 187, 215, 215, 215, 215, 215, 215, 178, 178, 178, 215, 215, 215, 215, 215, 187, 215, 215, 187, 215, 215, 215, 215, 167], 167) := by decide +kernel
theorem dX3_one_176 : decode cX3_one 176 = .ok (.aload_n 0, 1) := by decide +kernel
theorem dX3_one_177 : decode cX3_one 177 = .ok (.invokevirtual 117, 3) := by decide +kernel
theorem dX3_one_180 : decode cX3_one 180 = .ok (.ireturn, 1) := by decide +kernel
theorem dX3_one_181 : decode cX3_one 181 = .ok (.aload_n 0, 1) := by decide +kernel
theorem dX3_one_182 : decode cX3_one 182 = .ok (.iconst 1, 1) := by decide +kernel
theorem dX3_one_183 : decode cX3_one 183 = .ok (.invokevirtual 120, 3) := by decide +kernel
theorem dX3_one_186 : decode cX3_one 186 = .ok (.ireturn, 1) := by decide +kernel
theorem dX3_one_187 : decode cX3_one 187 = .ok (.aload_n 0, 1) := by decide +kernel
theorem dX3_one_188 : decode cX3_one 188 = .ok (.aload_n 0, 1) := by decide +kernel
theorem dX3_one_189 : decode cX3_one 189 = .ok (.getfield 35, 3) := by decide +kernel
theorem dX3_one_192 : decode cX3_one 192 = .ok (.invokevirtual 120, 3) := by decide +kernel
theorem dX3_one_195 : decode cX3_one 195 = .ok (.ireturn, 1) := by decide +kernel
theorem dX3_one_196 : decode cX3_one 196 = .ok (.aload_n 0, 1) := by decide +kernel
theorem dX3_one_197 : decode cX3_one 197 = .ok (.invokevirtual 124, 3) := by decide +kernel
theorem dX3_one_200 : decode cX3_one 200 = .ok (.ifCond .eq 22, 3) := by decide +kernel
theorem dX3_one_203 : decode cX3_one 203 = .ok (.aload_n 0, 1) := by decide +kernel
theorem dX3_one_204 : decode cX3_one 204 = .ok (.iload_n 1, 1) := by decide +kernel
theorem dX3_one_205 : decode cX3_one 205 = .ok (.invokevirtual 127, 3) := by decide +kernel
theorem dX3_one_208 : decode cX3_one 208 = .ok (.ifCond .eq 14, 3) := by decide +kernel
theorem dX3_one_211 : decode cX3_one 211 = .ok (.aload_n 0, 1) := by decide +kernel
theorem dX3_one_212 : decode cX3_one 212 = .ok (.invokevirtual 130, 3) := by decide +kernel
theorem dX3_one_215 : decode cX3_one 215 = .ok (.ifCond .eq 7, 3) := by decide +kernel
theorem dX3_one_218 : decode cX3_one 218 = .ok (.iconst 1, 1) := by decide +kernel
theorem dX3_one_219 : decode cX3_one 219 = .ok (.goto 4, 3) := by decide +kernel
theorem dX3_one_222 : decode cX3_one 222 = .ok (.iconst 0, 1) := by decide +kernel
theorem dX3_one_223 : decode cX3_one 223 = .ok (.ireturn, 1) := by decide +kernel
theorem dX3_one_224 : decode cX3_one 224 = .ok (.aload_n 0, 1) := by decide +kernel
theorem dX3_one_225 : decode cX3_one 225 = .ok (.iconst 1, 1) := by decide +kernel
theorem dX3_one_226 : decode cX3_one 226 = .ok (.invokevirtual 75, 3) := by decide +kernel
theorem dX3_one_229 : decode cX3_one 229 = .ok (.ireturn, 1) := by decide +kernel
theorem dX3_numeral_0 : decode cX3_numeral 0 = .ok (.aload_n 0, 1) := by decide +kernel
theorem dX3_numeral_1 : decode cX3_numeral 1 = .ok (.getfield 12, 3) := by decide +kernel
theorem dX3_numeral_4 : decode cX3_numeral 4 = .ok (.getfield 104, 3) := by decide +kernel
theorem dX3_numeral_7 : decode cX3_numeral 7 = .ok (.sipush 9999, 3) := by decide +kernel
theorem dX3_numeral_10 : decode cX3_numeral 10 = .ok (.if_icmp .le 9, 3) := by decide +kernel
theorem dX3_numeral_13 : decode cX3_numeral 13 = .ok (.aload_n 0, 1) := by decide +kernel
theorem dX3_numeral_14 : decode cX3_numeral 14 = .ok (.iconst 2, 1) := by decide +kernel
theorem dX3_numeral_15 : decode cX3_numeral 15 = .ok (.invokevirtual 75, 3) := by decide +kernel
theorem dX3_numeral_18 : decode cX3_numeral 18 = .ok (.ireturn, 1) := by decide +kernel
theorem dX3_numeral_19 : decode cX3_numeral 19 = .ok (.aload_n 0, 1) := by decide +kernel
theorem dX3_numeral_20 : decode cX3_numeral 20 = .ok (.bipush 39, 2) := by decide +kernel
theorem dX3_numeral_22 : decode cX3_numeral 22 = .ok (.aload_n 0, 1) := by decide +kernel
theorem dX3_numeral_23 : decode cX3_numeral 23 = .ok (.getfield 12, 3) := by decide +kernel
theorem dX3_numeral_26 : decode cX3_numeral 26 = .ok (.getfield 104, 3) := by decide +kernel
theorem dX3_numeral_29 : decode cX3_numeral 29 = .ok (.invokevirtual 110, 3) := by decide +kernel
theorem dX3_numeral_32 : decode cX3_numeral 32 = .ok (.istore_n 1, 1) := by decide +kernel
theorem dX3_numeral_33 : decode cX3_numeral 33 = .ok (.aload_n 0, 1) := by decide +kernel
theorem dX3_numeral_34 : decode cX3_numeral 34 = .ok (.getfield 12, 3) := by decide +kernel
theorem dX3_numeral_37 : decode cX3_numeral 37 = .ok (.invokevirtual 79, 3) := by decide +kernel
theorem dX3_numeral_40 : decode cX3_numeral 40 = .ok (.iload_n 1, 1) := by decide +kernel
theorem dX3_numeral_41 : decode cX3_numeral 41 = .ok (.ireturn, 1) := by decide +kernel
theorem dX3_name_0 : decode cX3_name 0 = .ok (.iload_n 1, 1) := by decide +kernel
theorem dX3_name_1 : decode cX3_name 1 = .ok (.ifCond .ne 9, 3) := by decide +kernel
theorem dX3_name_4 : decode cX3_name 4 = .ok (.aload_n 0, 1) := by decide +kernel
theorem dX3_name_5 : decode cX3_name 5 = .ok (.iconst 5, 1) := by decide +kernel
theorem dX3_name_6 : decode cX3_name 6 = .ok (.invokevirtual 75, 3) := by decide +kernel
theorem dX3_name_9 : decode cX3_name 9 = .ok (.ireturn, 1) := by decide +kernel
theorem dX3_name_10 : decode cX3_name 10 = .ok (.aload_n 0, 1) := by decide +kernel
theorem dX3_name_11 : decode cX3_name 11 = .ok (.aload_n 0, 1) := by decide +kernel
theorem dX3_name_12 : decode cX3_name 12 = .ok (.getfield 12, 3) := by decide +kernel
theorem dX3_name_15 : decode cX3_name 15 = .ok (.getfield 54, 3) := by decide +kernel
theorem dX3_name_18 : decode cX3_name 18 = .ok (.iconst 0, 1) := by decide +kernel
theorem dX3_name_19 : decode cX3_name 19 = .ok (.invokevirtual 110, 3) := by decide +kernel
theorem dX3_name_22 : decode cX3_name 22 = .ok (.istore_n 2, 1) := by decide +kernel
theorem dX3_name_23 : decode cX3_name 23 = .ok (.aload_n 0, 1) := by decide +kernel
theorem dX3_name_24 : decode cX3_name 24 = .ok (.getfield 12, 3) := by decide +kernel
theorem dX3_name_27 : decode cX3_name 27 = .ok (.invokevirtual 79, 3) := by decide +kernel
theorem dX3_name_30 : decode cX3_name 30 = .ok (.iload_n 2, 1) := by decide +kernel
theorem dX3_name_31 : decode cX3_name 31 = .ok (.ireturn, 1) := by decide +kernel
theorem dX3_opening_0 : decode cX3_opening 0 = .ok (.aload_n 0, 1) := by decide +kernel
theorem dX3_opening_1 : decode cX3_opening 1 = .ok (.getfield 32, 3) := by decide +kernel
theorem dX3_opening_4 : decode cX3_opening 4 = .ok (.bipush 8, 2) := by decide +kernel
theorem dX3_opening_6 : decode cX3_opening 6 = .ok (.if_icmp .lt 9, 3) := by decide +kernel
theorem dX3_opening_9 : decode cX3_opening 9 = .ok (.aload_n 0, 1) := by decide +kernel
theorem dX3_opening_10 : decode cX3_opening 10 = .ok (.iconst 3, 1) := by decide +kernel
theorem dX3_opening_11 : decode cX3_opening 11 = .ok (.invokevirtual 75, 3) := by decide +kernel
theorem dX3_opening_14 : decode cX3_opening 14 = .ok (.ireturn, 1) := by decide +kernel
theorem dX3_opening_15 : decode cX3_opening 15 = .ok (.aload_n 0, 1) := by decide +kernel
theorem dX3_opening_16 : decode cX3_opening 16 = .ok (.dup, 1) := by decide +kernel
theorem dX3_opening_17 : decode cX3_opening 17 = .ok (.getfield 32, 3) := by decide +kernel
theorem dX3_opening_20 : decode cX3_opening 20 = .ok (.iconst 1, 1) := by decide +kernel
theorem dX3_opening_21 : decode cX3_opening 21 = .ok (.iadd, 1) := by decide +kernel
theorem dX3_opening_22 : decode cX3_opening 22 = .ok (.putfield 32, 3) := by decide +kernel
theorem dX3_opening_25 : decode cX3_opening 25 = .ok (.aload_n 0, 1) := by decide +kernel
theorem dX3_opening_26 : decode cX3_opening 26 = .ok (.getfield 12, 3) := by decide +kernel
theorem dX3_opening_29 : decode cX3_opening 29 = .ok (.invokevirtual 79, 3) := by decide +kernel
theorem dX3_opening_32 : decode cX3_opening 32 = .ok (.iconst 1, 1) := by decide +kernel
theorem dX3_opening_33 : decode cX3_opening 33 = .ok (.ireturn, 1) := by decide +kernel
theorem dX3_closing_0 : decode cX3_closing 0 = .ok (.aload_n 0, 1) := by decide +kernel
theorem dX3_closing_1 : decode cX3_closing 1 = .ok (.dup, 1) := by decide +kernel
theorem dX3_closing_2 : decode cX3_closing 2 = .ok (.getfield 32, 3) := by decide +kernel
theorem dX3_closing_5 : decode cX3_closing 5 = .ok (.iconst 1, 1) := by decide +kernel
theorem dX3_closing_6 : decode cX3_closing 6 = .ok (.isub, 1) := by decide +kernel
theorem dX3_closing_7 : decode cX3_closing 7 = .ok (.putfield 32, 3) := by decide +kernel
theorem dX3_closing_10 : decode cX3_closing 10 = .ok (.iconst 1, 1) := by decide +kernel
theorem dX3_closing_11 : decode cX3_closing 11 = .ok (.ireturn, 1) := by decide +kernel
theorem dX3_opened_0 : decode cX3_opened 0 = .ok (.iload_n 1, 1) := by decide +kernel
theorem dX3_opened_1 : decode cX3_opened 1 = .ok (.lookupswitch 160 #[(13, 98), (15, 137), (31, 65), (34, 43)], 43) := by decide +kernel
theorem dX3_opened_44 : decode cX3_opened 44 = .ok (.aload_n 0, 1) := by decide +kernel
theorem dX3_opened_45 : decode cX3_opened 45 = .ok (.invokevirtual 97, 3) := by decide +kernel
theorem dX3_opened_48 : decode cX3_opened 48 = .ok (.ifCond .eq 16, 3) := by decide +kernel
theorem dX3_opened_51 : decode cX3_opened 51 = .ok (.aload_n 0, 1) := by decide +kernel
theorem dX3_opened_52 : decode cX3_opened 52 = .ok (.bipush 35, 2) := by decide +kernel
theorem dX3_opened_54 : decode cX3_opened 54 = .ok (.invokevirtual 94, 3) := by decide +kernel
theorem dX3_opened_57 : decode cX3_opened 57 = .ok (.ifCond .eq 7, 3) := by decide +kernel
theorem dX3_opened_60 : decode cX3_opened 60 = .ok (.iconst 1, 1) := by decide +kernel
theorem dX3_opened_61 : decode cX3_opened 61 = .ok (.goto 4, 3) := by decide +kernel
theorem dX3_opened_64 : decode cX3_opened 64 = .ok (.iconst 0, 1) := by decide +kernel
theorem dX3_opened_65 : decode cX3_opened 65 = .ok (.ireturn, 1) := by decide +kernel
theorem dX3_opened_66 : decode cX3_opened 66 = .ok (.aload_n 0, 1) := by decide +kernel
theorem dX3_opened_67 : decode cX3_opened 67 = .ok (.bipush 39, 2) := by decide +kernel
theorem dX3_opened_69 : decode cX3_opened 69 = .ok (.iconst 0, 1) := by decide +kernel
theorem dX3_opened_70 : decode cX3_opened 70 = .ok (.invokevirtual 110, 3) := by decide +kernel
theorem dX3_opened_73 : decode cX3_opened 73 = .ok (.ifCond .eq 24, 3) := by decide +kernel
theorem dX3_opened_76 : decode cX3_opened 76 = .ok (.aload_n 0, 1) := by decide +kernel
theorem dX3_opened_77 : decode cX3_opened 77 = .ok (.invokevirtual 114, 3) := by decide +kernel
theorem dX3_opened_80 : decode cX3_opened 80 = .ok (.ifCond .eq 17, 3) := by decide +kernel
theorem dX3_opened_83 : decode cX3_opened 83 = .ok (.aload_n 0, 1) := by decide +kernel
theorem dX3_opened_84 : decode cX3_opened 84 = .ok (.bipush 31, 2) := by decide +kernel
theorem dX3_opened_86 : decode cX3_opened 86 = .ok (.iconst 0, 1) := by decide +kernel
theorem dX3_opened_87 : decode cX3_opened 87 = .ok (.invokevirtual 110, 3) := by decide +kernel
theorem dX3_opened_90 : decode cX3_opened 90 = .ok (.ifCond .eq 7, 3) := by decide +kernel
theorem dX3_opened_93 : decode cX3_opened 93 = .ok (.iconst 1, 1) := by decide +kernel
theorem dX3_opened_94 : decode cX3_opened 94 = .ok (.goto 4, 3) := by decide +kernel
theorem dX3_opened_97 : decode cX3_opened 97 = .ok (.iconst 0, 1) := by decide +kernel
theorem dX3_opened_98 : decode cX3_opened 98 = .ok (.ireturn, 1) := by decide +kernel
theorem dX3_opened_99 : decode cX3_opened 99 = .ok (.aload_n 0, 1) := by decide +kernel
theorem dX3_opened_100 : decode cX3_opened 100 = .ok (.invokevirtual 114, 3) := by decide +kernel
theorem dX3_opened_103 : decode cX3_opened 103 = .ok (.ifCond .eq 33, 3) := by decide +kernel
theorem dX3_opened_106 : decode cX3_opened 106 = .ok (.aload_n 0, 1) := by decide +kernel
theorem dX3_opened_107 : decode cX3_opened 107 = .ok (.bipush 14, 2) := by decide +kernel
theorem dX3_opened_109 : decode cX3_opened 109 = .ok (.invokevirtual 94, 3) := by decide +kernel
theorem dX3_opened_112 : decode cX3_opened 112 = .ok (.ifCond .eq 24, 3) := by decide +kernel
theorem dX3_opened_115 : decode cX3_opened 115 = .ok (.aload_n 0, 1) := by decide +kernel
theorem dX3_opened_116 : decode cX3_opened 116 = .ok (.invokevirtual 114, 3) := by decide +kernel
theorem dX3_opened_119 : decode cX3_opened 119 = .ok (.ifCond .eq 17, 3) := by decide +kernel
theorem dX3_opened_122 : decode cX3_opened 122 = .ok (.aload_n 0, 1) := by decide +kernel
theorem dX3_opened_123 : decode cX3_opened 123 = .ok (.bipush 13, 2) := by decide +kernel
theorem dX3_opened_125 : decode cX3_opened 125 = .ok (.iconst 0, 1) := by decide +kernel
theorem dX3_opened_126 : decode cX3_opened 126 = .ok (.invokevirtual 110, 3) := by decide +kernel
theorem dX3_opened_129 : decode cX3_opened 129 = .ok (.ifCond .eq 7, 3) := by decide +kernel
theorem dX3_opened_132 : decode cX3_opened 132 = .ok (.iconst 1, 1) := by decide +kernel
theorem dX3_opened_133 : decode cX3_opened 133 = .ok (.goto 4, 3) := by decide +kernel
theorem dX3_opened_136 : decode cX3_opened 136 = .ok (.iconst 0, 1) := by decide +kernel
theorem dX3_opened_137 : decode cX3_opened 137 = .ok (.ireturn, 1) := by decide +kernel
theorem dX3_opened_138 : decode cX3_opened 138 = .ok (.aload_n 0, 1) := by decide +kernel
theorem dX3_opened_139 : decode cX3_opened 139 = .ok (.invokevirtual 114, 3) := by decide +kernel
theorem dX3_opened_142 : decode cX3_opened 142 = .ok (.ifCond .eq 17, 3) := by decide +kernel
theorem dX3_opened_145 : decode cX3_opened 145 = .ok (.aload_n 0, 1) := by decide +kernel
theorem dX3_opened_146 : decode cX3_opened 146 = .ok (.bipush 15, 2) := by decide +kernel
theorem dX3_opened_148 : decode cX3_opened 148 = .ok (.iconst 0, 1) := by decide +kernel
theorem dX3_opened_149 : decode cX3_opened 149 = .ok (.invokevirtual 110, 3) := by decide +kernel
theorem dX3_opened_152 : decode cX3_opened 152 = .ok (.ifCond .eq 7, 3) := by decide +kernel
theorem dX3_opened_155 : decode cX3_opened 155 = .ok (.iconst 1, 1) := by decide +kernel
theorem dX3_opened_156 : decode cX3_opened 156 = .ok (.goto 4, 3) := by decide +kernel
theorem dX3_opened_159 : decode cX3_opened 159 = .ok (.iconst 0, 1) := by decide +kernel
theorem dX3_opened_160 : decode cX3_opened 160 = .ok (.ireturn, 1) := by decide +kernel
theorem dX3_opened_161 : decode cX3_opened 161 = .ok (.aload_n 0, 1) := by decide +kernel
theorem dX3_opened_162 : decode cX3_opened 162 = .ok (.invokevirtual 133, 3) := by decide +kernel
theorem dX3_opened_165 : decode cX3_opened 165 = .ok (.ireturn, 1) := by decide +kernel
theorem dX3_choice_0 : decode cX3_choice 0 = .ok (.aload_n 0, 1) := by decide +kernel
theorem dX3_choice_1 : decode cX3_choice 1 = .ok (.invokevirtual 136, 3) := by decide +kernel
theorem dX3_choice_4 : decode cX3_choice 4 = .ok (.ifCond .eq 12, 3) := by decide +kernel
theorem dX3_choice_7 : decode cX3_choice 7 = .ok (.aload_n 0, 1) := by decide +kernel
theorem dX3_choice_8 : decode cX3_choice 8 = .ok (.bipush 17, 2) := by decide +kernel
theorem dX3_choice_10 : decode cX3_choice 10 = .ok (.invokevirtual 94, 3) := by decide +kernel
theorem dX3_choice_13 : decode cX3_choice 13 = .ok (.ifCond .ne 5, 3) := by decide +kernel
theorem dX3_choice_16 : decode cX3_choice 16 = .ok (.iconst 0, 1) := by decide +kernel
theorem dX3_choice_17 : decode cX3_choice 17 = .ok (.ireturn, 1) := by decide +kernel
theorem dX3_choice_18 : decode cX3_choice 18 = .ok (.aload_n 0, 1) := by decide +kernel
theorem dX3_choice_19 : decode cX3_choice 19 = .ok (.getfield 25, 3) := by decide +kernel
theorem dX3_choice_22 : decode cX3_choice 22 = .ok (.istore_n 1, 1) := by decide +kernel
theorem dX3_choice_23 : decode cX3_choice 23 = .ok (.aload_n 0, 1) := by decide +kernel
theorem dX3_choice_24 : decode cX3_choice 24 = .ok (.bipush 16, 2) := by decide +kernel
theorem dX3_choice_26 : decode cX3_choice 26 = .ok (.iconst 0, 1) := by decide +kernel
theorem dX3_choice_27 : decode cX3_choice 27 = .ok (.invokevirtual 110, 3) := by decide +kernel
theorem dX3_choice_30 : decode cX3_choice 30 = .ok (.ifCond .eq 19, 3) := by decide +kernel
theorem dX3_choice_33 : decode cX3_choice 33 = .ok (.aload_n 0, 1) := by decide +kernel
theorem dX3_choice_34 : decode cX3_choice 34 = .ok (.invokevirtual 97, 3) := by decide +kernel
theorem dX3_choice_37 : decode cX3_choice 37 = .ok (.ifCond .eq 12, 3) := by decide +kernel
theorem dX3_choice_40 : decode cX3_choice 40 = .ok (.aload_n 0, 1) := by decide +kernel
theorem dX3_choice_41 : decode cX3_choice 41 = .ok (.bipush 18, 2) := by decide +kernel
theorem dX3_choice_43 : decode cX3_choice 43 = .ok (.invokevirtual 94, 3) := by decide +kernel
theorem dX3_choice_46 : decode cX3_choice 46 = .ok (.ifCond .ne 5, 3) := by decide +kernel
theorem dX3_choice_49 : decode cX3_choice 49 = .ok (.iconst 0, 1) := by decide +kernel
theorem dX3_choice_50 : decode cX3_choice 50 = .ok (.ireturn, 1) := by decide +kernel
theorem dX3_choice_51 : decode cX3_choice 51 = .ok (.aload_n 0, 1) := by decide +kernel
theorem dX3_choice_52 : decode cX3_choice 52 = .ok (.getfield 25, 3) := by decide +kernel
theorem dX3_choice_55 : decode cX3_choice 55 = .ok (.istore_n 2, 1) := by decide +kernel
theorem dX3_choice_56 : decode cX3_choice 56 = .ok (.aload_n 0, 1) := by decide +kernel
theorem dX3_choice_57 : decode cX3_choice 57 = .ok (.bipush 18, 2) := by decide +kernel
theorem dX3_choice_59 : decode cX3_choice 59 = .ok (.iconst 0, 1) := by decide +kernel
theorem dX3_choice_60 : decode cX3_choice 60 = .ok (.invokevirtual 110, 3) := by decide +kernel
theorem dX3_choice_63 : decode cX3_choice 63 = .ok (.ifCond .ne 5, 3) := by decide +kernel
theorem dX3_choice_66 : decode cX3_choice 66 = .ok (.iconst 0, 1) := by decide +kernel
theorem dX3_choice_67 : decode cX3_choice 67 = .ok (.ireturn, 1) := by decide +kernel
theorem dX3_choice_68 : decode cX3_choice 68 = .ok (.aload_n 0, 1) := by decide +kernel
theorem dX3_choice_69 : decode cX3_choice 69 = .ok (.getfield 18, 3) := by decide +kernel
theorem dX3_choice_72 : decode cX3_choice 72 = .ok (.iload_n 1, 1) := by decide +kernel
theorem dX3_choice_73 : decode cX3_choice 73 = .ok (.iconst 1, 1) := by decide +kernel
theorem dX3_choice_74 : decode cX3_choice 74 = .ok (.iadd, 1) := by decide +kernel
theorem dX3_choice_75 : decode cX3_choice 75 = .ok (.aload_n 0, 1) := by decide +kernel
theorem dX3_choice_76 : decode cX3_choice 76 = .ok (.getfield 25, 3) := by decide +kernel
theorem dX3_choice_79 : decode cX3_choice 79 = .ok (.iastore, 1) := by decide +kernel
theorem dX3_choice_80 : decode cX3_choice 80 = .ok (.aload_n 0, 1) := by decide +kernel
theorem dX3_choice_81 : decode cX3_choice 81 = .ok (.invokevirtual 97, 3) := by decide +kernel
theorem dX3_choice_84 : decode cX3_choice 84 = .ok (.ifCond .eq 12, 3) := by decide +kernel
theorem dX3_choice_87 : decode cX3_choice 87 = .ok (.aload_n 0, 1) := by decide +kernel
theorem dX3_choice_88 : decode cX3_choice 88 = .ok (.bipush 19, 2) := by decide +kernel
theorem dX3_choice_90 : decode cX3_choice 90 = .ok (.invokevirtual 94, 3) := by decide +kernel
theorem dX3_choice_93 : decode cX3_choice 93 = .ok (.ifCond .ne 5, 3) := by decide +kernel
theorem dX3_choice_96 : decode cX3_choice 96 = .ok (.iconst 0, 1) := by decide +kernel
theorem dX3_choice_97 : decode cX3_choice 97 = .ok (.ireturn, 1) := by decide +kernel
theorem dX3_choice_98 : decode cX3_choice 98 = .ok (.aload_n 0, 1) := by decide +kernel
theorem dX3_choice_99 : decode cX3_choice 99 = .ok (.getfield 18, 3) := by decide +kernel
theorem dX3_choice_102 : decode cX3_choice 102 = .ok (.iload_n 2, 1) := by decide +kernel
theorem dX3_choice_103 : decode cX3_choice 103 = .ok (.iconst 1, 1) := by decide +kernel
theorem dX3_choice_104 : decode cX3_choice 104 = .ok (.iadd, 1) := by decide +kernel
theorem dX3_choice_105 : decode cX3_choice 105 = .ok (.aload_n 0, 1) := by decide +kernel
theorem dX3_choice_106 : decode cX3_choice 106 = .ok (.getfield 25, 3) := by decide +kernel
theorem dX3_choice_109 : decode cX3_choice 109 = .ok (.iastore, 1) := by decide +kernel
theorem dX3_choice_110 : decode cX3_choice 110 = .ok (.iconst 1, 1) := by decide +kernel
theorem dX3_choice_111 : decode cX3_choice 111 = .ok (.ireturn, 1) := by decide +kernel
theorem dX3_either_0 : decode cX3_either 0 = .ok (.aload_n 0, 1) := by decide +kernel
theorem dX3_either_1 : decode cX3_either 1 = .ok (.invokevirtual 139, 3) := by decide +kernel
theorem dX3_either_4 : decode cX3_either 4 = .ok (.istore_n 1, 1) := by decide +kernel
theorem dX3_either_5 : decode cX3_either 5 = .ok (.iconst 0, 1) := by decide +kernel
theorem dX3_either_6 : decode cX3_either 6 = .ok (.istore_n 2, 1) := by decide +kernel
theorem dX3_either_7 : decode cX3_either 7 = .ok (.iload_n 1, 1) := by decide +kernel
theorem dX3_either_8 : decode cX3_either 8 = .ok (.ifCond .eq 58, 3) := by decide +kernel
theorem dX3_either_11 : decode cX3_either 11 = .ok (.iload_n 2, 1) := by decide +kernel
theorem dX3_either_12 : decode cX3_either 12 = .ok (.sipush 300, 3) := by decide +kernel
theorem dX3_either_15 : decode cX3_either 15 = .ok (.if_icmp .ge 51, 3) := by decide +kernel
theorem dX3_either_18 : decode cX3_either 18 = .ok (.aload_n 0, 1) := by decide +kernel
theorem dX3_either_19 : decode cX3_either 19 = .ok (.getfield 12, 3) := by decide +kernel
theorem dX3_either_22 : decode cX3_either 22 = .ok (.getfield 54, 3) := by decide +kernel
theorem dX3_either_25 : decode cX3_either 25 = .ok (.bipush 20, 2) := by decide +kernel
theorem dX3_either_27 : decode cX3_either 27 = .ok (.if_icmp .ne 39, 3) := by decide +kernel
theorem dX3_either_30 : decode cX3_either 30 = .ok (.aload_n 0, 1) := by decide +kernel
theorem dX3_either_31 : decode cX3_either 31 = .ok (.getfield 12, 3) := by decide +kernel
theorem dX3_either_34 : decode cX3_either 34 = .ok (.invokevirtual 79, 3) := by decide +kernel
theorem dX3_either_37 : decode cX3_either 37 = .ok (.aload_n 0, 1) := by decide +kernel
theorem dX3_either_38 : decode cX3_either 38 = .ok (.invokevirtual 139, 3) := by decide +kernel
theorem dX3_either_41 : decode cX3_either 41 = .ok (.ifCond .eq 17, 3) := by decide +kernel
theorem dX3_either_44 : decode cX3_either 44 = .ok (.aload_n 0, 1) := by decide +kernel
theorem dX3_either_45 : decode cX3_either 45 = .ok (.bipush 20, 2) := by decide +kernel
theorem dX3_either_47 : decode cX3_either 47 = .ok (.iconst 0, 1) := by decide +kernel
theorem dX3_either_48 : decode cX3_either 48 = .ok (.invokevirtual 110, 3) := by decide +kernel
theorem dX3_either_51 : decode cX3_either 51 = .ok (.ifCond .eq 7, 3) := by decide +kernel
theorem dX3_either_54 : decode cX3_either 54 = .ok (.iconst 1, 1) := by decide +kernel
theorem dX3_either_55 : decode cX3_either 55 = .ok (.goto 4, 3) := by decide +kernel
theorem dX3_either_58 : decode cX3_either 58 = .ok (.iconst 0, 1) := by decide +kernel
theorem dX3_either_59 : decode cX3_either 59 = .ok (.istore_n 1, 1) := by decide +kernel
theorem dX3_either_60 : decode cX3_either 60 = .ok (.iinc 2 1, 3) := by decide +kernel
theorem dX3_either_63 : decode cX3_either 63 = .ok (.goto (-56), 3) := by decide +kernel
theorem dX3_either_66 : decode cX3_either 66 = .ok (.iload_n 1, 1) := by decide +kernel
theorem dX3_either_67 : decode cX3_either 67 = .ok (.ireturn, 1) := by decide +kernel
theorem dX3_both_0 : decode cX3_both 0 = .ok (.aload_n 0, 1) := by decide +kernel
theorem dX3_both_1 : decode cX3_both 1 = .ok (.invokevirtual 142, 3) := by decide +kernel
theorem dX3_both_4 : decode cX3_both 4 = .ok (.istore_n 1, 1) := by decide +kernel
theorem dX3_both_5 : decode cX3_both 5 = .ok (.iconst 0, 1) := by decide +kernel
theorem dX3_both_6 : decode cX3_both 6 = .ok (.istore_n 2, 1) := by decide +kernel
theorem dX3_both_7 : decode cX3_both 7 = .ok (.iload_n 1, 1) := by decide +kernel
theorem dX3_both_8 : decode cX3_both 8 = .ok (.ifCond .eq 58, 3) := by decide +kernel
theorem dX3_both_11 : decode cX3_both 11 = .ok (.iload_n 2, 1) := by decide +kernel
theorem dX3_both_12 : decode cX3_both 12 = .ok (.sipush 300, 3) := by decide +kernel
theorem dX3_both_15 : decode cX3_both 15 = .ok (.if_icmp .ge 51, 3) := by decide +kernel
theorem dX3_both_18 : decode cX3_both 18 = .ok (.aload_n 0, 1) := by decide +kernel
theorem dX3_both_19 : decode cX3_both 19 = .ok (.getfield 12, 3) := by decide +kernel
theorem dX3_both_22 : decode cX3_both 22 = .ok (.getfield 54, 3) := by decide +kernel
theorem dX3_both_25 : decode cX3_both 25 = .ok (.bipush 21, 2) := by decide +kernel
theorem dX3_both_27 : decode cX3_both 27 = .ok (.if_icmp .ne 39, 3) := by decide +kernel
theorem dX3_both_30 : decode cX3_both 30 = .ok (.aload_n 0, 1) := by decide +kernel
theorem dX3_both_31 : decode cX3_both 31 = .ok (.getfield 12, 3) := by decide +kernel
theorem dX3_both_34 : decode cX3_both 34 = .ok (.invokevirtual 79, 3) := by decide +kernel
theorem dX3_both_37 : decode cX3_both 37 = .ok (.aload_n 0, 1) := by decide +kernel
theorem dX3_both_38 : decode cX3_both 38 = .ok (.invokevirtual 142, 3) := by decide +kernel
theorem dX3_both_41 : decode cX3_both 41 = .ok (.ifCond .eq 17, 3) := by decide +kernel
theorem dX3_both_44 : decode cX3_both 44 = .ok (.aload_n 0, 1) := by decide +kernel
theorem dX3_both_45 : decode cX3_both 45 = .ok (.bipush 21, 2) := by decide +kernel
theorem dX3_both_47 : decode cX3_both 47 = .ok (.iconst 0, 1) := by decide +kernel
theorem dX3_both_48 : decode cX3_both 48 = .ok (.invokevirtual 110, 3) := by decide +kernel
theorem dX3_both_51 : decode cX3_both 51 = .ok (.ifCond .eq 7, 3) := by decide +kernel
theorem dX3_both_54 : decode cX3_both 54 = .ok (.iconst 1, 1) := by decide +kernel
theorem dX3_both_55 : decode cX3_both 55 = .ok (.goto 4, 3) := by decide +kernel
theorem dX3_both_58 : decode cX3_both 58 = .ok (.iconst 0, 1) := by decide +kernel
theorem dX3_both_59 : decode cX3_both 59 = .ok (.istore_n 1, 1) := by decide +kernel
theorem dX3_both_60 : decode cX3_both 60 = .ok (.iinc 2 1, 3) := by decide +kernel
theorem dX3_both_63 : decode cX3_both 63 = .ok (.goto (-56), 3) := by decide +kernel
theorem dX3_both_66 : decode cX3_both 66 = .ok (.iload_n 1, 1) := by decide +kernel
theorem dX3_both_67 : decode cX3_both 67 = .ok (.ireturn, 1) := by decide +kernel
theorem dX3_question_0 : decode cX3_question 0 = .ok (.aload_n 0, 1) := by decide +kernel
theorem dX3_question_1 : decode cX3_question 1 = .ok (.getfield 12, 3) := by decide +kernel
theorem dX3_question_4 : decode cX3_question 4 = .ok (.getfield 54, 3) := by decide +kernel
theorem dX3_question_7 : decode cX3_question 7 = .ok (.bipush 22, 2) := by decide +kernel
theorem dX3_question_9 : decode cX3_question 9 = .ok (.if_icmp .ne 40, 3) := by decide +kernel
theorem dX3_question_12 : decode cX3_question 12 = .ok (.aload_n 0, 1) := by decide +kernel
theorem dX3_question_13 : decode cX3_question 13 = .ok (.invokevirtual 124, 3) := by decide +kernel
theorem dX3_question_16 : decode cX3_question 16 = .ok (.ifCond .eq 31, 3) := by decide +kernel
theorem dX3_question_19 : decode cX3_question 19 = .ok (.aload_n 0, 1) := by decide +kernel
theorem dX3_question_20 : decode cX3_question 20 = .ok (.invokevirtual 142, 3) := by decide +kernel
theorem dX3_question_23 : decode cX3_question 23 = .ok (.ifCond .eq 24, 3) := by decide +kernel
theorem dX3_question_26 : decode cX3_question 26 = .ok (.aload_n 0, 1) := by decide +kernel
theorem dX3_question_27 : decode cX3_question 27 = .ok (.bipush 22, 2) := by decide +kernel
theorem dX3_question_29 : decode cX3_question 29 = .ok (.iconst 0, 1) := by decide +kernel
theorem dX3_question_30 : decode cX3_question 30 = .ok (.invokevirtual 110, 3) := by decide +kernel
theorem dX3_question_33 : decode cX3_question 33 = .ok (.ifCond .eq 14, 3) := by decide +kernel
theorem dX3_question_36 : decode cX3_question 36 = .ok (.aload_n 0, 1) := by decide +kernel
theorem dX3_question_37 : decode cX3_question 37 = .ok (.invokevirtual 130, 3) := by decide +kernel
theorem dX3_question_40 : decode cX3_question 40 = .ok (.ifCond .eq 7, 3) := by decide +kernel
theorem dX3_question_43 : decode cX3_question 43 = .ok (.iconst 1, 1) := by decide +kernel
theorem dX3_question_44 : decode cX3_question 44 = .ok (.goto 4, 3) := by decide +kernel
theorem dX3_question_47 : decode cX3_question 47 = .ok (.iconst 0, 1) := by decide +kernel
theorem dX3_question_48 : decode cX3_question 48 = .ok (.ireturn, 1) := by decide +kernel
theorem dX3_question_49 : decode cX3_question 49 = .ok (.aload_n 0, 1) := by decide +kernel
theorem dX3_question_50 : decode cX3_question 50 = .ok (.invokevirtual 97, 3) := by decide +kernel
theorem dX3_question_53 : decode cX3_question 53 = .ok (.ifCond .ne 5, 3) := by decide +kernel
theorem dX3_question_56 : decode cX3_question 56 = .ok (.iconst 0, 1) := by decide +kernel
theorem dX3_question_57 : decode cX3_question 57 = .ok (.ireturn, 1) := by decide +kernel
theorem dX3_question_58 : decode cX3_question 58 = .ok (.aload_n 0, 1) := by decide +kernel
theorem dX3_question_59 : decode cX3_question 59 = .ok (.getfield 12, 3) := by decide +kernel
theorem dX3_question_62 : decode cX3_question 62 = .ok (.getfield 54, 3) := by decide +kernel
theorem dX3_question_65 : decode cX3_question 65 = .ok (.istore_n 1, 1) := by decide +kernel
theorem dX3_question_66 : decode cX3_question 66 = .ok (.iload_n 1, 1) := by decide +kernel
theorem dX3_question_67 : decode cX3_question 67 = .ok (.invokestatic 145, 3) := by decide +kernel
theorem dX3_question_70 : decode cX3_question 70 = .ok (.ifCond .ne 9, 3) := by decide +kernel
theorem dX3_question_73 : decode cX3_question 73 = .ok (.aload_n 0, 1) := by decide +kernel
theorem dX3_question_74 : decode cX3_question 74 = .ok (.iconst 1, 1) := by decide +kernel
theorem dX3_question_75 : decode cX3_question 75 = .ok (.invokevirtual 75, 3) := by decide +kernel
theorem dX3_question_78 : decode cX3_question 78 = .ok (.ireturn, 1) := by decide +kernel
theorem dX3_question_79 : decode cX3_question 79 = .ok (.aload_n 0, 1) := by decide +kernel
theorem dX3_question_80 : decode cX3_question 80 = .ok (.getfield 12, 3) := by decide +kernel
theorem dX3_question_83 : decode cX3_question 83 = .ok (.invokevirtual 79, 3) := by decide +kernel
theorem dX3_question_86 : decode cX3_question 86 = .ok (.aload_n 0, 1) := by decide +kernel
theorem dX3_question_87 : decode cX3_question 87 = .ok (.invokevirtual 97, 3) := by decide +kernel
theorem dX3_question_90 : decode cX3_question 90 = .ok (.ifCond .eq 16, 3) := by decide +kernel
theorem dX3_question_93 : decode cX3_question 93 = .ok (.aload_n 0, 1) := by decide +kernel
theorem dX3_question_94 : decode cX3_question 94 = .ok (.iload_n 1, 1) := by decide +kernel
theorem dX3_question_95 : decode cX3_question 95 = .ok (.iconst 0, 1) := by decide +kernel
theorem dX3_question_96 : decode cX3_question 96 = .ok (.invokevirtual 110, 3) := by decide +kernel
theorem dX3_question_99 : decode cX3_question 99 = .ok (.ifCond .eq 7, 3) := by decide +kernel
theorem dX3_question_102 : decode cX3_question 102 = .ok (.iconst 1, 1) := by decide +kernel
theorem dX3_question_103 : decode cX3_question 103 = .ok (.goto 4, 3) := by decide +kernel
theorem dX3_question_106 : decode cX3_question 106 = .ok (.iconst 0, 1) := by decide +kernel
theorem dX3_question_107 : decode cX3_question 107 = .ok (.ireturn, 1) := by decide +kernel
theorem dX3_isComparison_0 : decode cX3_isComparison 0 = .ok (.iload_n 0, 1) := by decide +kernel
theorem dX3_isComparison_1 : decode cX3_isComparison 1 = .ok (.bipush 26, 2) := by decide +kernel
theorem dX3_isComparison_3 : decode cX3_isComparison 3 = .ok (.if_icmp .lt 9, 3) := by decide +kernel
theorem dX3_isComparison_6 : decode cX3_isComparison 6 = .ok (.iload_n 0, 1) := by decide +kernel
theorem dX3_isComparison_7 : decode cX3_isComparison 7 = .ok (.bipush 29, 2) := by decide +kernel
theorem dX3_isComparison_9 : decode cX3_isComparison 9 = .ok (.if_icmp .le 15, 3) := by decide +kernel
theorem dX3_isComparison_12 : decode cX3_isComparison 12 = .ok (.iload_n 0, 1) := by decide +kernel
theorem dX3_isComparison_13 : decode cX3_isComparison 13 = .ok (.bipush 37, 2) := by decide +kernel
theorem dX3_isComparison_15 : decode cX3_isComparison 15 = .ok (.if_icmp .eq 9, 3) := by decide +kernel
theorem dX3_isComparison_18 : decode cX3_isComparison 18 = .ok (.iload_n 0, 1) := by decide +kernel
theorem dX3_isComparison_19 : decode cX3_isComparison 19 = .ok (.bipush 38, 2) := by decide +kernel
theorem dX3_isComparison_21 : decode cX3_isComparison 21 = .ok (.if_icmp .ne 7, 3) := by decide +kernel
theorem dX3_isComparison_24 : decode cX3_isComparison 24 = .ok (.iconst 1, 1) := by decide +kernel
theorem dX3_isComparison_25 : decode cX3_isComparison 25 = .ok (.goto 4, 3) := by decide +kernel
theorem dX3_isComparison_28 : decode cX3_isComparison 28 = .ok (.iconst 0, 1) := by decide +kernel
theorem dX3_isComparison_29 : decode cX3_isComparison 29 = .ok (.ireturn, 1) := by decide +kernel
theorem dX4_init_0 : decode cX4_init 0 = .ok (.aload_n 0, 1) := by decide +kernel
theorem dX4_init_1 : decode cX4_init 1 = .ok (.invokespecial 3, 3) := by decide +kernel
theorem dX4_init_4 : decode cX4_init 4 = .ok (.aload_n 0, 1) := by decide +kernel
theorem dX4_init_5 : decode cX4_init 5 = .ok (.sipush 4096, 3) := by decide +kernel
theorem dX4_init_8 : decode cX4_init 8 = .ok (.newarray .int, 2) := by decide +kernel
theorem dX4_init_10 : decode cX4_init 10 = .ok (.putfield 11, 3) := by decide +kernel
theorem dX4_init_13 : decode cX4_init 13 = .ok (.aload_n 0, 1) := by decide +kernel
theorem dX4_init_14 : decode cX4_init 14 = .ok (.bipush 13, 2) := by decide +kernel
theorem dX4_init_16 : decode cX4_init 16 = .ok (.newarray .int, 2) := by decide +kernel
theorem dX4_init_18 : decode cX4_init 18 = .ok (.putfield 15, 3) := by decide +kernel
theorem dX4_init_21 : decode cX4_init 21 = .ok (.aload_n 0, 1) := by decide +kernel
theorem dX4_init_22 : decode cX4_init 22 = .ok (.sipush 900, 3) := by decide +kernel
theorem dX4_init_25 : decode cX4_init 25 = .ok (.newarray .int, 2) := by decide +kernel
theorem dX4_init_27 : decode cX4_init 27 = .ok (.putfield 18, 3) := by decide +kernel
theorem dX4_init_30 : decode cX4_init 30 = .ok (.aload_n 0, 1) := by decide +kernel
theorem dX4_init_31 : decode cX4_init 31 = .ok (.sipush 900, 3) := by decide +kernel
theorem dX4_init_34 : decode cX4_init 34 = .ok (.newarray .int, 2) := by decide +kernel
theorem dX4_init_36 : decode cX4_init 36 = .ok (.putfield 21, 3) := by decide +kernel
theorem dX4_init_39 : decode cX4_init 39 = .ok (.aload_n 0, 1) := by decide +kernel
theorem dX4_init_40 : decode cX4_init 40 = .ok (.iconst 0, 1) := by decide +kernel
theorem dX4_init_41 : decode cX4_init 41 = .ok (.putfield 24, 3) := by decide +kernel
theorem dX4_init_44 : decode cX4_init 44 = .ok (.aload_n 0, 1) := by decide +kernel
theorem dX4_init_45 : decode cX4_init 45 = .ok (.iconst 0, 1) := by decide +kernel
theorem dX4_init_46 : decode cX4_init 46 = .ok (.putfield 28, 3) := by decide +kernel
theorem dX4_init_49 : decode cX4_init 49 = .ok (.aload_n 0, 1) := by decide +kernel
theorem dX4_init_50 : decode cX4_init 50 = .ok (.iconst 0, 1) := by decide +kernel
theorem dX4_init_51 : decode cX4_init 51 = .ok (.putfield 31, 3) := by decide +kernel
theorem dX4_init_54 : decode cX4_init 54 = .ok (.return_, 1) := by decide +kernel
theorem dX4_gather_0 : decode cX4_gather 0 = .ok (.aload_n 0, 1) := by decide +kernel
theorem dX4_gather_1 : decode cX4_gather 1 = .ok (.iconst 0, 1) := by decide +kernel
theorem dX4_gather_2 : decode cX4_gather 2 = .ok (.putfield 24, 3) := by decide +kernel
theorem dX4_gather_5 : decode cX4_gather 5 = .ok (.aload_n 0, 1) := by decide +kernel
theorem dX4_gather_6 : decode cX4_gather 6 = .ok (.sipush 4095, 3) := by decide +kernel
theorem dX4_gather_9 : decode cX4_gather 9 = .ok (.putfield 28, 3) := by decide +kernel
theorem dX4_gather_12 : decode cX4_gather 12 = .ok (.aload_n 0, 1) := by decide +kernel
theorem dX4_gather_13 : decode cX4_gather 13 = .ok (.iconst 0, 1) := by decide +kernel
theorem dX4_gather_14 : decode cX4_gather 14 = .ok (.putfield 31, 3) := by decide +kernel
theorem dX4_gather_17 : decode cX4_gather 17 = .ok (.iconst 0, 1) := by decide +kernel
theorem dX4_gather_18 : decode cX4_gather 18 = .ok (.istore_n 3, 1) := by decide +kernel
theorem dX4_gather_19 : decode cX4_gather 19 = .ok (.iload_n 3, 1) := by decide +kernel
theorem dX4_gather_20 : decode cX4_gather 20 = .ok (.sipush 4095, 3) := by decide +kernel
theorem dX4_gather_23 : decode cX4_gather 23 = .ok (.if_icmp .gt 58, 3) := by decide +kernel
theorem dX4_gather_26 : decode cX4_gather 26 = .ok (.aload_n 1, 1) := by decide +kernel
theorem dX4_gather_27 : decode cX4_gather 27 = .ok (.iload_n 2, 1) := by decide +kernel
theorem dX4_gather_28 : decode cX4_gather 28 = .ok (.iload_n 3, 1) := by decide +kernel
theorem dX4_gather_29 : decode cX4_gather 29 = .ok (.invokestatic 34, 3) := by decide +kernel
theorem dX4_gather_32 : decode cX4_gather 32 = .ok (.ifCond .eq 43, 3) := by decide +kernel
theorem dX4_gather_35 : decode cX4_gather 35 = .ok (.aload_n 0, 1) := by decide +kernel
theorem dX4_gather_36 : decode cX4_gather 36 = .ok (.getfield 11, 3) := by decide +kernel
theorem dX4_gather_39 : decode cX4_gather 39 = .ok (.aload_n 0, 1) := by decide +kernel
theorem dX4_gather_40 : decode cX4_gather 40 = .ok (.getfield 24, 3) := by decide +kernel
theorem dX4_gather_43 : decode cX4_gather 43 = .ok (.iload_n 3, 1) := by decide +kernel
theorem dX4_gather_44 : decode cX4_gather 44 = .ok (.iastore, 1) := by decide +kernel
theorem dX4_gather_45 : decode cX4_gather 45 = .ok (.aload_n 0, 1) := by decide +kernel
theorem dX4_gather_46 : decode cX4_gather 46 = .ok (.dup, 1) := by decide +kernel
theorem dX4_gather_47 : decode cX4_gather 47 = .ok (.getfield 24, 3) := by decide +kernel
theorem dX4_gather_50 : decode cX4_gather 50 = .ok (.iconst 1, 1) := by decide +kernel
theorem dX4_gather_51 : decode cX4_gather 51 = .ok (.iadd, 1) := by decide +kernel
theorem dX4_gather_52 : decode cX4_gather 52 = .ok (.putfield 24, 3) := by decide +kernel
theorem dX4_gather_55 : decode cX4_gather 55 = .ok (.aload_n 0, 1) := by decide +kernel
theorem dX4_gather_56 : decode cX4_gather 56 = .ok (.dup, 1) := by decide +kernel
theorem dX4_gather_57 : decode cX4_gather 57 = .ok (.getfield 28, 3) := by decide +kernel
theorem dX4_gather_60 : decode cX4_gather 60 = .ok (.iload_n 3, 1) := by decide +kernel
theorem dX4_gather_61 : decode cX4_gather 61 = .ok (.iand, 1) := by decide +kernel
theorem dX4_gather_62 : decode cX4_gather 62 = .ok (.putfield 28, 3) := by decide +kernel
theorem dX4_gather_65 : decode cX4_gather 65 = .ok (.aload_n 0, 1) := by decide +kernel
theorem dX4_gather_66 : decode cX4_gather 66 = .ok (.dup, 1) := by decide +kernel
theorem dX4_gather_67 : decode cX4_gather 67 = .ok (.getfield 31, 3) := by decide +kernel
theorem dX4_gather_70 : decode cX4_gather 70 = .ok (.iload_n 3, 1) := by decide +kernel
theorem dX4_gather_71 : decode cX4_gather 71 = .ok (.ior, 1) := by decide +kernel
theorem dX4_gather_72 : decode cX4_gather 72 = .ok (.putfield 31, 3) := by decide +kernel
theorem dX4_gather_75 : decode cX4_gather 75 = .ok (.iinc 3 1, 3) := by decide +kernel
theorem dX4_gather_78 : decode cX4_gather 78 = .ok (.goto (-59), 3) := by decide +kernel
theorem dX4_gather_81 : decode cX4_gather 81 = .ok (.return_, 1) := by decide +kernel
theorem dX4_inNone_0 : decode cX4_inNone 0 = .ok (.sipush 4095, 3) := by decide +kernel
theorem dX4_inNone_3 : decode cX4_inNone 3 = .ok (.aload_n 0, 1) := by decide +kernel
theorem dX4_inNone_4 : decode cX4_inNone 4 = .ok (.getfield 31, 3) := by decide +kernel
theorem dX4_inNone_7 : decode cX4_inNone 7 = .ok (.iconst (-1), 1) := by decide +kernel
theorem dX4_inNone_8 : decode cX4_inNone 8 = .ok (.ixor, 1) := by decide +kernel
theorem dX4_inNone_9 : decode cX4_inNone 9 = .ok (.iand, 1) := by decide +kernel
theorem dX4_inNone_10 : decode cX4_inNone 10 = .ok (.ireturn, 1) := by decide +kernel
theorem dX4_isWay_0 : decode cX4_isWay 0 = .ok (.iconst 0, 1) := by decide +kernel
theorem dX4_isWay_1 : decode cX4_isWay 1 = .ok (.istore_n 3, 1) := by decide +kernel
theorem dX4_isWay_2 : decode cX4_isWay 2 = .ok (.iload_n 3, 1) := by decide +kernel
theorem dX4_isWay_3 : decode cX4_isWay 3 = .ok (.aload_n 0, 1) := by decide +kernel
theorem dX4_isWay_4 : decode cX4_isWay 4 = .ok (.getfield 38, 3) := by decide +kernel
theorem dX4_isWay_7 : decode cX4_isWay 7 = .ok (.if_icmp .ge 45, 3) := by decide +kernel
theorem dX4_isWay_10 : decode cX4_isWay 10 = .ok (.iload_n 2, 1) := by decide +kernel
theorem dX4_isWay_11 : decode cX4_isWay 11 = .ok (.aload_n 0, 1) := by decide +kernel
theorem dX4_isWay_12 : decode cX4_isWay 12 = .ok (.iload_n 3, 1) := by decide +kernel
theorem dX4_isWay_13 : decode cX4_isWay 13 = .ok (.iconst 0, 1) := by decide +kernel
theorem dX4_isWay_14 : decode cX4_isWay 14 = .ok (.invokevirtual 41, 3) := by decide +kernel
theorem dX4_isWay_17 : decode cX4_isWay 17 = .ok (.aload_n 0, 1) := by decide +kernel
theorem dX4_isWay_18 : decode cX4_isWay 18 = .ok (.iload_n 3, 1) := by decide +kernel
theorem dX4_isWay_19 : decode cX4_isWay 19 = .ok (.iconst 1, 1) := by decide +kernel
theorem dX4_isWay_20 : decode cX4_isWay 20 = .ok (.invokevirtual 41, 3) := by decide +kernel
theorem dX4_isWay_23 : decode cX4_isWay 23 = .ok (.invokestatic 45, 3) := by decide +kernel
theorem dX4_isWay_26 : decode cX4_isWay 26 = .ok (.istore 4, 2) := by decide +kernel
theorem dX4_isWay_28 : decode cX4_isWay 28 = .ok (.iload 4, 2) := by decide +kernel
theorem dX4_isWay_30 : decode cX4_isWay 30 = .ok (.aload_n 0, 1) := by decide +kernel
theorem dX4_isWay_31 : decode cX4_isWay 31 = .ok (.iload_n 3, 1) := by decide +kernel
theorem dX4_isWay_32 : decode cX4_isWay 32 = .ok (.iconst 2, 1) := by decide +kernel
theorem dX4_isWay_33 : decode cX4_isWay 33 = .ok (.invokevirtual 41, 3) := by decide +kernel
theorem dX4_isWay_36 : decode cX4_isWay 36 = .ok (.isub, 1) := by decide +kernel
theorem dX4_isWay_37 : decode cX4_isWay 37 = .ok (.invokestatic 49, 3) := by decide +kernel
theorem dX4_isWay_40 : decode cX4_isWay 40 = .ok (.iload_n 1, 1) := by decide +kernel
theorem dX4_isWay_41 : decode cX4_isWay 41 = .ok (.if_icmp .le 5, 3) := by decide +kernel
theorem dX4_isWay_44 : decode cX4_isWay 44 = .ok (.iconst 0, 1) := by decide +kernel
theorem dX4_isWay_45 : decode cX4_isWay 45 = .ok (.ireturn, 1) := by decide +kernel
theorem dX4_isWay_46 : decode cX4_isWay 46 = .ok (.iinc 3 1, 3) := by decide +kernel
theorem dX4_isWay_49 : decode cX4_isWay 49 = .ok (.goto (-47), 3) := by decide +kernel
theorem dX4_isWay_52 : decode cX4_isWay 52 = .ok (.iconst 1, 1) := by decide +kernel
theorem dX4_isWay_53 : decode cX4_isWay 53 = .ok (.ireturn, 1) := by decide +kernel
theorem dX4_barsOf_0 : decode cX4_barsOf 0 = .ok (.iload_n 0, 1) := by decide +kernel
theorem dX4_barsOf_1 : decode cX4_barsOf 1 = .ok (.iload_n 1, 1) := by decide +kernel
theorem dX4_barsOf_2 : decode cX4_barsOf 2 = .ok (.ishr, 1) := by decide +kernel
theorem dX4_barsOf_3 : decode cX4_barsOf 3 = .ok (.iconst 1, 1) := by decide +kernel
theorem dX4_barsOf_4 : decode cX4_barsOf 4 = .ok (.iload_n 2, 1) := by decide +kernel
theorem dX4_barsOf_5 : decode cX4_barsOf 5 = .ok (.ishl, 1) := by decide +kernel
theorem dX4_barsOf_6 : decode cX4_barsOf 6 = .ok (.iconst 1, 1) := by decide +kernel
theorem dX4_barsOf_7 : decode cX4_barsOf 7 = .ok (.isub, 1) := by decide +kernel
theorem dX4_barsOf_8 : decode cX4_barsOf 8 = .ok (.iand, 1) := by decide +kernel
theorem dX4_barsOf_9 : decode cX4_barsOf 9 = .ok (.invokestatic 55, 3) := by decide +kernel
theorem dX4_barsOf_12 : decode cX4_barsOf 12 = .ok (.ireturn, 1) := by decide +kernel
theorem dX4_whereToRun_0 : decode cX4_whereToRun 0 = .ok (.aload_n 0, 1) := by decide +kernel
theorem dX4_whereToRun_1 : decode cX4_whereToRun 1 = .ok (.getfield 24, 3) := by decide +kernel
theorem dX4_whereToRun_4 : decode cX4_whereToRun 4 = .ok (.iconst 1, 1) := by decide +kernel
theorem dX4_whereToRun_5 : decode cX4_whereToRun 5 = .ok (.if_icmp .gt 5, 3) := by decide +kernel
theorem dX4_whereToRun_8 : decode cX4_whereToRun 8 = .ok (.iconst (-1), 1) := by decide +kernel
theorem dX4_whereToRun_9 : decode cX4_whereToRun 9 = .ok (.ireturn, 1) := by decide +kernel
theorem dX4_whereToRun_10 : decode cX4_whereToRun 10 = .ok (.aload_n 0, 1) := by decide +kernel
theorem dX4_whereToRun_11 : decode cX4_whereToRun 11 = .ok (.getfield 24, 3) := by decide +kernel
theorem dX4_whereToRun_14 : decode cX4_whereToRun 14 = .ok (.iconst 1, 1) := by decide +kernel
theorem dX4_whereToRun_15 : decode cX4_whereToRun 15 = .ok (.iadd, 1) := by decide +kernel
theorem dX4_whereToRun_16 : decode cX4_whereToRun 16 = .ok (.istore_n 1, 1) := by decide +kernel
theorem dX4_whereToRun_17 : decode cX4_whereToRun 17 = .ok (.iconst (-1), 1) := by decide +kernel
theorem dX4_whereToRun_18 : decode cX4_whereToRun 18 = .ok (.istore_n 2, 1) := by decide +kernel
theorem dX4_whereToRun_19 : decode cX4_whereToRun 19 = .ok (.iconst 0, 1) := by decide +kernel
theorem dX4_whereToRun_20 : decode cX4_whereToRun 20 = .ok (.istore_n 3, 1) := by decide +kernel
theorem dX4_whereToRun_21 : decode cX4_whereToRun 21 = .ok (.iload_n 3, 1) := by decide +kernel
theorem dX4_whereToRun_22 : decode cX4_whereToRun 22 = .ok (.bipush 12, 2) := by decide +kernel
theorem dX4_whereToRun_24 : decode cX4_whereToRun 24 = .ok (.if_icmp .ge 54, 3) := by decide +kernel
theorem dX4_whereToRun_27 : decode cX4_whereToRun 27 = .ok (.iconst 1, 1) := by decide +kernel
theorem dX4_whereToRun_28 : decode cX4_whereToRun 28 = .ok (.istore 4, 2) := by decide +kernel
theorem dX4_whereToRun_30 : decode cX4_whereToRun 30 = .ok (.iload 4, 2) := by decide +kernel
theorem dX4_whereToRun_32 : decode cX4_whereToRun 32 = .ok (.bipush 12, 2) := by decide +kernel
theorem dX4_whereToRun_34 : decode cX4_whereToRun 34 = .ok (.iload_n 3, 1) := by decide +kernel
theorem dX4_whereToRun_35 : decode cX4_whereToRun 35 = .ok (.isub, 1) := by decide +kernel
theorem dX4_whereToRun_36 : decode cX4_whereToRun 36 = .ok (.if_icmp .gt 36, 3) := by decide +kernel
theorem dX4_whereToRun_39 : decode cX4_whereToRun 39 = .ok (.aload_n 0, 1) := by decide +kernel
theorem dX4_whereToRun_40 : decode cX4_whereToRun 40 = .ok (.iload_n 3, 1) := by decide +kernel
theorem dX4_whereToRun_41 : decode cX4_whereToRun 41 = .ok (.iload 4, 2) := by decide +kernel
theorem dX4_whereToRun_43 : decode cX4_whereToRun 43 = .ok (.iload_n 1, 1) := by decide +kernel
theorem dX4_whereToRun_44 : decode cX4_whereToRun 44 = .ok (.invokevirtual 60, 3) := by decide +kernel
theorem dX4_whereToRun_47 : decode cX4_whereToRun 47 = .ok (.istore 5, 2) := by decide +kernel
theorem dX4_whereToRun_49 : decode cX4_whereToRun 49 = .ok (.iload 5, 2) := by decide +kernel
theorem dX4_whereToRun_51 : decode cX4_whereToRun 51 = .ok (.iload_n 1, 1) := by decide +kernel
theorem dX4_whereToRun_52 : decode cX4_whereToRun 52 = .ok (.if_icmp .ge 14, 3) := by decide +kernel
theorem dX4_whereToRun_55 : decode cX4_whereToRun 55 = .ok (.iload 5, 2) := by decide +kernel
theorem dX4_whereToRun_57 : decode cX4_whereToRun 57 = .ok (.istore_n 1, 1) := by decide +kernel
theorem dX4_whereToRun_58 : decode cX4_whereToRun 58 = .ok (.bipush 100, 2) := by decide +kernel
theorem dX4_whereToRun_60 : decode cX4_whereToRun 60 = .ok (.iload_n 3, 1) := by decide +kernel
theorem dX4_whereToRun_61 : decode cX4_whereToRun 61 = .ok (.imul, 1) := by decide +kernel
theorem dX4_whereToRun_62 : decode cX4_whereToRun 62 = .ok (.iload 4, 2) := by decide +kernel
theorem dX4_whereToRun_64 : decode cX4_whereToRun 64 = .ok (.iadd, 1) := by decide +kernel
theorem dX4_whereToRun_65 : decode cX4_whereToRun 65 = .ok (.istore_n 2, 1) := by decide +kernel
theorem dX4_whereToRun_66 : decode cX4_whereToRun 66 = .ok (.iinc 4 1, 3) := by decide +kernel
theorem dX4_whereToRun_69 : decode cX4_whereToRun 69 = .ok (.goto (-39), 3) := by decide +kernel
theorem dX4_whereToRun_72 : decode cX4_whereToRun 72 = .ok (.iinc 3 1, 3) := by decide +kernel
theorem dX4_whereToRun_75 : decode cX4_whereToRun 75 = .ok (.goto (-54), 3) := by decide +kernel
theorem dX4_whereToRun_78 : decode cX4_whereToRun 78 = .ok (.iload_n 2, 1) := by decide +kernel
theorem dX4_whereToRun_79 : decode cX4_whereToRun 79 = .ok (.ireturn, 1) := by decide +kernel
theorem dX4_mostLeft_0 : decode cX4_mostLeft 0 = .ok (.aload_n 0, 1) := by decide +kernel
theorem dX4_mostLeft_1 : decode cX4_mostLeft 1 = .ok (.getfield 15, 3) := by decide +kernel
theorem dX4_mostLeft_4 : decode cX4_mostLeft 4 = .ok (.iconst 0, 1) := by decide +kernel
theorem dX4_mostLeft_5 : decode cX4_mostLeft 5 = .ok (.invokestatic 63, 3) := by decide +kernel
theorem dX4_mostLeft_8 : decode cX4_mostLeft 8 = .ok (.iconst 0, 1) := by decide +kernel
theorem dX4_mostLeft_9 : decode cX4_mostLeft 9 = .ok (.istore 4, 2) := by decide +kernel
theorem dX4_mostLeft_11 : decode cX4_mostLeft 11 = .ok (.iconst 0, 1) := by decide +kernel
theorem dX4_mostLeft_12 : decode cX4_mostLeft 12 = .ok (.istore 5, 2) := by decide +kernel
theorem dX4_mostLeft_14 : decode cX4_mostLeft 14 = .ok (.iload 5, 2) := by decide +kernel
theorem dX4_mostLeft_16 : decode cX4_mostLeft 16 = .ok (.aload_n 0, 1) := by decide +kernel
theorem dX4_mostLeft_17 : decode cX4_mostLeft 17 = .ok (.getfield 24, 3) := by decide +kernel
theorem dX4_mostLeft_20 : decode cX4_mostLeft 20 = .ok (.if_icmp .ge 54, 3) := by decide +kernel
theorem dX4_mostLeft_23 : decode cX4_mostLeft 23 = .ok (.iload 4, 2) := by decide +kernel
theorem dX4_mostLeft_25 : decode cX4_mostLeft 25 = .ok (.iload_n 3, 1) := by decide +kernel
theorem dX4_mostLeft_26 : decode cX4_mostLeft 26 = .ok (.if_icmp .ge 48, 3) := by decide +kernel
theorem dX4_mostLeft_29 : decode cX4_mostLeft 29 = .ok (.aload_n 0, 1) := by decide +kernel
theorem dX4_mostLeft_30 : decode cX4_mostLeft 30 = .ok (.getfield 11, 3) := by decide +kernel
theorem dX4_mostLeft_33 : decode cX4_mostLeft 33 = .ok (.iload 5, 2) := by decide +kernel
theorem dX4_mostLeft_35 : decode cX4_mostLeft 35 = .ok (.iaload, 1) := by decide +kernel
theorem dX4_mostLeft_36 : decode cX4_mostLeft 36 = .ok (.iload_n 1, 1) := by decide +kernel
theorem dX4_mostLeft_37 : decode cX4_mostLeft 37 = .ok (.iload_n 2, 1) := by decide +kernel
theorem dX4_mostLeft_38 : decode cX4_mostLeft 38 = .ok (.invokestatic 45, 3) := by decide +kernel
theorem dX4_mostLeft_41 : decode cX4_mostLeft 41 = .ok (.istore 6, 2) := by decide +kernel
theorem dX4_mostLeft_43 : decode cX4_mostLeft 43 = .ok (.aload_n 0, 1) := by decide +kernel
theorem dX4_mostLeft_44 : decode cX4_mostLeft 44 = .ok (.getfield 15, 3) := by decide +kernel
theorem dX4_mostLeft_47 : decode cX4_mostLeft 47 = .ok (.iload 6, 2) := by decide +kernel
theorem dX4_mostLeft_49 : decode cX4_mostLeft 49 = .ok (.dup2, 1) := by decide +kernel
theorem dX4_mostLeft_50 : decode cX4_mostLeft 50 = .ok (.iaload, 1) := by decide +kernel
theorem dX4_mostLeft_51 : decode cX4_mostLeft 51 = .ok (.iconst 1, 1) := by decide +kernel
theorem dX4_mostLeft_52 : decode cX4_mostLeft 52 = .ok (.iadd, 1) := by decide +kernel
theorem dX4_mostLeft_53 : decode cX4_mostLeft 53 = .ok (.iastore, 1) := by decide +kernel
theorem dX4_mostLeft_54 : decode cX4_mostLeft 54 = .ok (.iload 4, 2) := by decide +kernel
theorem dX4_mostLeft_56 : decode cX4_mostLeft 56 = .ok (.aload_n 0, 1) := by decide +kernel
theorem dX4_mostLeft_57 : decode cX4_mostLeft 57 = .ok (.getfield 15, 3) := by decide +kernel
theorem dX4_mostLeft_60 : decode cX4_mostLeft 60 = .ok (.iload 6, 2) := by decide +kernel
theorem dX4_mostLeft_62 : decode cX4_mostLeft 62 = .ok (.iaload, 1) := by decide +kernel
theorem dX4_mostLeft_63 : decode cX4_mostLeft 63 = .ok (.invokestatic 69, 3) := by decide +kernel
theorem dX4_mostLeft_66 : decode cX4_mostLeft 66 = .ok (.istore 4, 2) := by decide +kernel
theorem dX4_mostLeft_68 : decode cX4_mostLeft 68 = .ok (.iinc 5 1, 3) := by decide +kernel
theorem dX4_mostLeft_71 : decode cX4_mostLeft 71 = .ok (.goto (-57), 3) := by decide +kernel
theorem dX4_mostLeft_74 : decode cX4_mostLeft 74 = .ok (.iload 4, 2) := by decide +kernel
theorem dX4_mostLeft_76 : decode cX4_mostLeft 76 = .ok (.ireturn, 1) := by decide +kernel
theorem dX4_weigh_0 : decode cX4_weigh 0 = .ok (.iconst 0, 1) := by decide +kernel
theorem dX4_weigh_1 : decode cX4_weigh 1 = .ok (.istore 4, 2) := by decide +kernel
theorem dX4_weigh_3 : decode cX4_weigh 3 = .ok (.iload 4, 2) := by decide +kernel
theorem dX4_weigh_5 : decode cX4_weigh 5 = .ok (.iload_n 3, 1) := by decide +kernel
theorem dX4_weigh_6 : decode cX4_weigh 6 = .ok (.iload_n 2, 1) := by decide +kernel
theorem dX4_weigh_7 : decode cX4_weigh 7 = .ok (.isub, 1) := by decide +kernel
theorem dX4_weigh_8 : decode cX4_weigh 8 = .ok (.if_icmp .gt 39, 3) := by decide +kernel
theorem dX4_weigh_11 : decode cX4_weigh 11 = .ok (.iload_n 2, 1) := by decide +kernel
theorem dX4_weigh_12 : decode cX4_weigh 12 = .ok (.istore 5, 2) := by decide +kernel
theorem dX4_weigh_14 : decode cX4_weigh 14 = .ok (.iload 5, 2) := by decide +kernel
theorem dX4_weigh_16 : decode cX4_weigh 16 = .ok (.iload 4, 2) := by decide +kernel
theorem dX4_weigh_18 : decode cX4_weigh 18 = .ok (.iadd, 1) := by decide +kernel
theorem dX4_weigh_19 : decode cX4_weigh 19 = .ok (.iload_n 3, 1) := by decide +kernel
theorem dX4_weigh_20 : decode cX4_weigh 20 = .ok (.if_icmp .gt 21, 3) := by decide +kernel
theorem dX4_weigh_23 : decode cX4_weigh 23 = .ok (.aload_n 0, 1) := by decide +kernel
theorem dX4_weigh_24 : decode cX4_weigh 24 = .ok (.aload_n 1, 1) := by decide +kernel
theorem dX4_weigh_25 : decode cX4_weigh 25 = .ok (.iload 5, 2) := by decide +kernel
theorem dX4_weigh_27 : decode cX4_weigh 27 = .ok (.iload 5, 2) := by decide +kernel
theorem dX4_weigh_29 : decode cX4_weigh 29 = .ok (.iload 4, 2) := by decide +kernel
theorem dX4_weigh_31 : decode cX4_weigh 31 = .ok (.iadd, 1) := by decide +kernel
theorem dX4_weigh_32 : decode cX4_weigh 32 = .ok (.invokevirtual 72, 3) := by decide +kernel
theorem dX4_weigh_35 : decode cX4_weigh 35 = .ok (.iinc 5 1, 3) := by decide +kernel
theorem dX4_weigh_38 : decode cX4_weigh 38 = .ok (.goto (-24), 3) := by decide +kernel
theorem dX4_weigh_41 : decode cX4_weigh 41 = .ok (.iinc 4 1, 3) := by decide +kernel
theorem dX4_weigh_44 : decode cX4_weigh 44 = .ok (.goto (-41), 3) := by decide +kernel
theorem dX4_weigh_47 : decode cX4_weigh 47 = .ok (.return_, 1) := by decide +kernel
theorem dX4_weighOne_0 : decode cX4_weighOne 0 = .ok (.iconst 0, 1) := by decide +kernel
theorem dX4_weighOne_1 : decode cX4_weighOne 1 = .ok (.istore 4, 2) := by decide +kernel
theorem dX4_weighOne_3 : decode cX4_weighOne 3 = .ok (.iconst (-1), 1) := by decide +kernel
theorem dX4_weighOne_4 : decode cX4_weighOne 4 = .ok (.istore 5, 2) := by decide +kernel
theorem dX4_weighOne_6 : decode cX4_weighOne 6 = .ok (.iload_n 2, 1) := by decide +kernel
theorem dX4_weighOne_7 : decode cX4_weighOne 7 = .ok (.istore 6, 2) := by decide +kernel
theorem dX4_weighOne_9 : decode cX4_weighOne 9 = .ok (.iload 6, 2) := by decide +kernel
theorem dX4_weighOne_11 : decode cX4_weighOne 11 = .ok (.iload_n 3, 1) := by decide +kernel
theorem dX4_weighOne_12 : decode cX4_weighOne 12 = .ok (.if_icmp .ge 58, 3) := by decide +kernel
theorem dX4_weighOne_15 : decode cX4_weighOne 15 = .ok (.aload_n 1, 1) := by decide +kernel
theorem dX4_weighOne_16 : decode cX4_weighOne 16 = .ok (.iload 6, 2) := by decide +kernel
theorem dX4_weighOne_18 : decode cX4_weighOne 18 = .ok (.iaload, 1) := by decide +kernel
theorem dX4_weighOne_19 : decode cX4_weighOne 19 = .ok (.iconst 1, 1) := by decide +kernel
theorem dX4_weighOne_20 : decode cX4_weighOne 20 = .ok (.iadd, 1) := by decide +kernel
theorem dX4_weighOne_21 : decode cX4_weighOne 21 = .ok (.aload_n 0, 1) := by decide +kernel
theorem dX4_weighOne_22 : decode cX4_weighOne 22 = .ok (.iload_n 2, 1) := by decide +kernel
theorem dX4_weighOne_23 : decode cX4_weighOne 23 = .ok (.iload 6, 2) := by decide +kernel
theorem dX4_weighOne_25 : decode cX4_weighOne 25 = .ok (.invokevirtual 76, 3) := by decide +kernel
theorem dX4_weighOne_28 : decode cX4_weighOne 28 = .ok (.aload_n 0, 1) := by decide +kernel
theorem dX4_weighOne_29 : decode cX4_weighOne 29 = .ok (.iload 6, 2) := by decide +kernel
theorem dX4_weighOne_31 : decode cX4_weighOne 31 = .ok (.iconst 1, 1) := by decide +kernel
theorem dX4_weighOne_32 : decode cX4_weighOne 32 = .ok (.iadd, 1) := by decide +kernel
theorem dX4_weighOne_33 : decode cX4_weighOne 33 = .ok (.iload_n 3, 1) := by decide +kernel
theorem dX4_weighOne_34 : decode cX4_weighOne 34 = .ok (.invokevirtual 76, 3) := by decide +kernel
theorem dX4_weighOne_37 : decode cX4_weighOne 37 = .ok (.invokestatic 69, 3) := by decide +kernel
theorem dX4_weighOne_40 : decode cX4_weighOne 40 = .ok (.iadd, 1) := by decide +kernel
theorem dX4_weighOne_41 : decode cX4_weighOne 41 = .ok (.istore 7, 2) := by decide +kernel
theorem dX4_weighOne_43 : decode cX4_weighOne 43 = .ok (.iload 5, 2) := by decide +kernel
theorem dX4_weighOne_45 : decode cX4_weighOne 45 = .ok (.iconst (-1), 1) := by decide +kernel
theorem dX4_weighOne_46 : decode cX4_weighOne 46 = .ok (.if_icmp .eq 10, 3) := by decide +kernel
theorem dX4_weighOne_49 : decode cX4_weighOne 49 = .ok (.iload 7, 2) := by decide +kernel
theorem dX4_weighOne_51 : decode cX4_weighOne 51 = .ok (.iload 4, 2) := by decide +kernel
theorem dX4_weighOne_53 : decode cX4_weighOne 53 = .ok (.if_icmp .ge 11, 3) := by decide +kernel
theorem dX4_weighOne_56 : decode cX4_weighOne 56 = .ok (.iload 7, 2) := by decide +kernel
theorem dX4_weighOne_58 : decode cX4_weighOne 58 = .ok (.istore 4, 2) := by decide +kernel
theorem dX4_weighOne_60 : decode cX4_weighOne 60 = .ok (.iload 6, 2) := by decide +kernel
theorem dX4_weighOne_62 : decode cX4_weighOne 62 = .ok (.istore 5, 2) := by decide +kernel
theorem dX4_weighOne_64 : decode cX4_weighOne 64 = .ok (.iinc 6 1, 3) := by decide +kernel
theorem dX4_weighOne_67 : decode cX4_weighOne 67 = .ok (.goto (-58), 3) := by decide +kernel
theorem dX4_weighOne_70 : decode cX4_weighOne 70 = .ok (.aload_n 0, 1) := by decide +kernel
theorem dX4_weighOne_71 : decode cX4_weighOne 71 = .ok (.getfield 18, 3) := by decide +kernel
theorem dX4_weighOne_74 : decode cX4_weighOne 74 = .ok (.bipush 30, 2) := by decide +kernel
theorem dX4_weighOne_76 : decode cX4_weighOne 76 = .ok (.iload_n 2, 1) := by decide +kernel
theorem dX4_weighOne_77 : decode cX4_weighOne 77 = .ok (.imul, 1) := by decide +kernel
theorem dX4_weighOne_78 : decode cX4_weighOne 78 = .ok (.iload_n 3, 1) := by decide +kernel
theorem dX4_weighOne_79 : decode cX4_weighOne 79 = .ok (.iadd, 1) := by decide +kernel
theorem dX4_weighOne_80 : decode cX4_weighOne 80 = .ok (.iload 4, 2) := by decide +kernel
theorem dX4_weighOne_82 : decode cX4_weighOne 82 = .ok (.iastore, 1) := by decide +kernel
theorem dX4_weighOne_83 : decode cX4_weighOne 83 = .ok (.aload_n 0, 1) := by decide +kernel
theorem dX4_weighOne_84 : decode cX4_weighOne 84 = .ok (.getfield 21, 3) := by decide +kernel
theorem dX4_weighOne_87 : decode cX4_weighOne 87 = .ok (.bipush 30, 2) := by decide +kernel
theorem dX4_weighOne_89 : decode cX4_weighOne 89 = .ok (.iload_n 2, 1) := by decide +kernel
theorem dX4_weighOne_90 : decode cX4_weighOne 90 = .ok (.imul, 1) := by decide +kernel
theorem dX4_weighOne_91 : decode cX4_weighOne 91 = .ok (.iload_n 3, 1) := by decide +kernel
theorem dX4_weighOne_92 : decode cX4_weighOne 92 = .ok (.iadd, 1) := by decide +kernel
theorem dX4_weighOne_93 : decode cX4_weighOne 93 = .ok (.iload 5, 2) := by decide +kernel
theorem dX4_weighOne_95 : decode cX4_weighOne 95 = .ok (.iastore, 1) := by decide +kernel
theorem dX4_weighOne_96 : decode cX4_weighOne 96 = .ok (.return_, 1) := by decide +kernel
theorem dX4_cost_0 : decode cX4_cost 0 = .ok (.aload_n 0, 1) := by decide +kernel
theorem dX4_cost_1 : decode cX4_cost 1 = .ok (.getfield 18, 3) := by decide +kernel
theorem dX4_cost_4 : decode cX4_cost 4 = .ok (.bipush 30, 2) := by decide +kernel
theorem dX4_cost_6 : decode cX4_cost 6 = .ok (.iload_n 1, 1) := by decide +kernel
theorem dX4_cost_7 : decode cX4_cost 7 = .ok (.imul, 1) := by decide +kernel
theorem dX4_cost_8 : decode cX4_cost 8 = .ok (.iload_n 2, 1) := by decide +kernel
theorem dX4_cost_9 : decode cX4_cost 9 = .ok (.iadd, 1) := by decide +kernel
theorem dX4_cost_10 : decode cX4_cost 10 = .ok (.iaload, 1) := by decide +kernel
theorem dX4_cost_11 : decode cX4_cost 11 = .ok (.ireturn, 1) := by decide +kernel
theorem dX4_firstTry_0 : decode cX4_firstTry 0 = .ok (.aload_n 0, 1) := by decide +kernel
theorem dX4_firstTry_1 : decode cX4_firstTry 1 = .ok (.getfield 21, 3) := by decide +kernel
theorem dX4_firstTry_4 : decode cX4_firstTry 4 = .ok (.bipush 30, 2) := by decide +kernel
theorem dX4_firstTry_6 : decode cX4_firstTry 6 = .ok (.iload_n 1, 1) := by decide +kernel
theorem dX4_firstTry_7 : decode cX4_firstTry 7 = .ok (.imul, 1) := by decide +kernel
theorem dX4_firstTry_8 : decode cX4_firstTry 8 = .ok (.iload_n 2, 1) := by decide +kernel
theorem dX4_firstTry_9 : decode cX4_firstTry 9 = .ok (.iadd, 1) := by decide +kernel
theorem dX4_firstTry_10 : decode cX4_firstTry 10 = .ok (.iaload, 1) := by decide +kernel
theorem dX4_firstTry_11 : decode cX4_firstTry 11 = .ok (.ireturn, 1) := by decide +kernel
theorem dX5_init_0 : decode cX5_init 0 = .ok (.aload_n 0, 1) := by decide +kernel
theorem dX5_init_1 : decode cX5_init 1 = .ok (.invokespecial 3, 3) := by decide +kernel
theorem dX5_init_4 : decode cX5_init 4 = .ok (.aload_n 0, 1) := by decide +kernel
theorem dX5_init_5 : decode cX5_init 5 = .ok (.bipush 30, 2) := by decide +kernel
theorem dX5_init_7 : decode cX5_init 7 = .ok (.newarray .int, 2) := by decide +kernel
theorem dX5_init_9 : decode cX5_init 9 = .ok (.putfield 9, 3) := by decide +kernel
theorem dX5_init_12 : decode cX5_init 12 = .ok (.aload_n 0, 1) := by decide +kernel
theorem dX5_init_13 : decode cX5_init 13 = .ok (.bipush 30, 2) := by decide +kernel
theorem dX5_init_15 : decode cX5_init 15 = .ok (.newarray .int, 2) := by decide +kernel
theorem dX5_init_17 : decode cX5_init 17 = .ok (.putfield 15, 3) := by decide +kernel
theorem dX5_init_20 : decode cX5_init 20 = .ok (.aload_n 0, 1) := by decide +kernel
theorem dX5_init_21 : decode cX5_init 21 = .ok (.bipush 7, 2) := by decide +kernel
theorem dX5_init_23 : decode cX5_init 23 = .ok (.newarray .int, 2) := by decide +kernel
theorem dX5_init_25 : decode cX5_init 25 = .ok (.putfield 18, 3) := by decide +kernel
theorem dX5_init_28 : decode cX5_init 28 = .ok (.aload_n 0, 1) := by decide +kernel
theorem dX5_init_29 : decode cX5_init 29 = .ok (.bipush 120, 2) := by decide +kernel
theorem dX5_init_31 : decode cX5_init 31 = .ok (.newarray .int, 2) := by decide +kernel
theorem dX5_init_33 : decode cX5_init 33 = .ok (.putfield 21, 3) := by decide +kernel
theorem dX5_init_36 : decode cX5_init 36 = .ok (.aload_n 0, 1) := by decide +kernel
theorem dX5_init_37 : decode cX5_init 37 = .ok (.iconst 0, 1) := by decide +kernel
theorem dX5_init_38 : decode cX5_init 38 = .ok (.putfield 24, 3) := by decide +kernel
theorem dX5_init_41 : decode cX5_init 41 = .ok (.aload_n 0, 1) := by decide +kernel
theorem dX5_init_42 : decode cX5_init 42 = .ok (.iconst 0, 1) := by decide +kernel
theorem dX5_init_43 : decode cX5_init 43 = .ok (.putfield 28, 3) := by decide +kernel
theorem dX5_init_46 : decode cX5_init 46 = .ok (.aload_n 0, 1) := by decide +kernel
theorem dX5_init_47 : decode cX5_init 47 = .ok (.sipush 263, 3) := by decide +kernel
theorem dX5_init_50 : decode cX5_init 50 = .ok (.putfield 31, 3) := by decide +kernel
theorem dX5_init_53 : decode cX5_init 53 = .ok (.aload_n 0, 1) := by decide +kernel
theorem dX5_init_54 : decode cX5_init 54 = .ok (.getfield 9, 3) := by decide +kernel
theorem dX5_init_57 : decode cX5_init 57 = .ok (.iconst 1, 1) := by decide +kernel
theorem dX5_init_58 : decode cX5_init 58 = .ok (.invokestatic 34, 3) := by decide +kernel
theorem dX5_init_61 : decode cX5_init 61 = .ok (.aload_n 0, 1) := by decide +kernel
theorem dX5_init_62 : decode cX5_init 62 = .ok (.getfield 18, 3) := by decide +kernel
theorem dX5_init_65 : decode cX5_init 65 = .ok (.iconst (-1), 1) := by decide +kernel
theorem dX5_init_66 : decode cX5_init 66 = .ok (.invokestatic 34, 3) := by decide +kernel
theorem dX5_init_69 : decode cX5_init 69 = .ok (.return_, 1) := by decide +kernel
theorem dX5_copy_0 : decode cX5_copy 0 = .ok (.aload_n 1, 1) := by decide +kernel
theorem dX5_copy_1 : decode cX5_copy 1 = .ok (.getfield 9, 3) := by decide +kernel
theorem dX5_copy_4 : decode cX5_copy 4 = .ok (.iconst 0, 1) := by decide +kernel
theorem dX5_copy_5 : decode cX5_copy 5 = .ok (.aload_n 0, 1) := by decide +kernel
theorem dX5_copy_6 : decode cX5_copy 6 = .ok (.getfield 9, 3) := by decide +kernel
theorem dX5_copy_9 : decode cX5_copy 9 = .ok (.iconst 0, 1) := by decide +kernel
theorem dX5_copy_10 : decode cX5_copy 10 = .ok (.bipush 30, 2) := by decide +kernel
theorem dX5_copy_12 : decode cX5_copy 12 = .ok (.invokestatic 40, 3) := by decide +kernel
theorem dX5_copy_15 : decode cX5_copy 15 = .ok (.aload_n 1, 1) := by decide +kernel
theorem dX5_copy_16 : decode cX5_copy 16 = .ok (.getfield 15, 3) := by decide +kernel
theorem dX5_copy_19 : decode cX5_copy 19 = .ok (.iconst 0, 1) := by decide +kernel
theorem dX5_copy_20 : decode cX5_copy 20 = .ok (.aload_n 0, 1) := by decide +kernel
theorem dX5_copy_21 : decode cX5_copy 21 = .ok (.getfield 15, 3) := by decide +kernel
theorem dX5_copy_24 : decode cX5_copy 24 = .ok (.iconst 0, 1) := by decide +kernel
theorem dX5_copy_25 : decode cX5_copy 25 = .ok (.bipush 30, 2) := by decide +kernel
theorem dX5_copy_27 : decode cX5_copy 27 = .ok (.invokestatic 40, 3) := by decide +kernel
theorem dX5_copy_30 : decode cX5_copy 30 = .ok (.aload_n 1, 1) := by decide +kernel
theorem dX5_copy_31 : decode cX5_copy 31 = .ok (.getfield 18, 3) := by decide +kernel
theorem dX5_copy_34 : decode cX5_copy 34 = .ok (.iconst 0, 1) := by decide +kernel
theorem dX5_copy_35 : decode cX5_copy 35 = .ok (.aload_n 0, 1) := by decide +kernel
theorem dX5_copy_36 : decode cX5_copy 36 = .ok (.getfield 18, 3) := by decide +kernel
theorem dX5_copy_39 : decode cX5_copy 39 = .ok (.iconst 0, 1) := by decide +kernel
theorem dX5_copy_40 : decode cX5_copy 40 = .ok (.bipush 7, 2) := by decide +kernel
theorem dX5_copy_42 : decode cX5_copy 42 = .ok (.invokestatic 40, 3) := by decide +kernel
theorem dX5_copy_45 : decode cX5_copy 45 = .ok (.aload_n 1, 1) := by decide +kernel
theorem dX5_copy_46 : decode cX5_copy 46 = .ok (.getfield 21, 3) := by decide +kernel
theorem dX5_copy_49 : decode cX5_copy 49 = .ok (.iconst 0, 1) := by decide +kernel
theorem dX5_copy_50 : decode cX5_copy 50 = .ok (.aload_n 0, 1) := by decide +kernel
theorem dX5_copy_51 : decode cX5_copy 51 = .ok (.getfield 21, 3) := by decide +kernel
theorem dX5_copy_54 : decode cX5_copy 54 = .ok (.iconst 0, 1) := by decide +kernel
theorem dX5_copy_55 : decode cX5_copy 55 = .ok (.iconst 4, 1) := by decide +kernel
theorem dX5_copy_56 : decode cX5_copy 56 = .ok (.aload_n 1, 1) := by decide +kernel
theorem dX5_copy_57 : decode cX5_copy 57 = .ok (.getfield 24, 3) := by decide +kernel
theorem dX5_copy_60 : decode cX5_copy 60 = .ok (.imul, 1) := by decide +kernel
theorem dX5_copy_61 : decode cX5_copy 61 = .ok (.invokestatic 40, 3) := by decide +kernel
theorem dX5_copy_64 : decode cX5_copy 64 = .ok (.aload_n 0, 1) := by decide +kernel
theorem dX5_copy_65 : decode cX5_copy 65 = .ok (.aload_n 1, 1) := by decide +kernel
theorem dX5_copy_66 : decode cX5_copy 66 = .ok (.getfield 24, 3) := by decide +kernel
theorem dX5_copy_69 : decode cX5_copy 69 = .ok (.putfield 24, 3) := by decide +kernel
theorem dX5_copy_72 : decode cX5_copy 72 = .ok (.aload_n 0, 1) := by decide +kernel
theorem dX5_copy_73 : decode cX5_copy 73 = .ok (.aload_n 1, 1) := by decide +kernel
theorem dX5_copy_74 : decode cX5_copy 74 = .ok (.getfield 28, 3) := by decide +kernel
theorem dX5_copy_77 : decode cX5_copy 77 = .ok (.putfield 28, 3) := by decide +kernel
theorem dX5_copy_80 : decode cX5_copy 80 = .ok (.aload_n 0, 1) := by decide +kernel
theorem dX5_copy_81 : decode cX5_copy 81 = .ok (.aload_n 1, 1) := by decide +kernel
theorem dX5_copy_82 : decode cX5_copy 82 = .ok (.getfield 31, 3) := by decide +kernel
theorem dX5_copy_85 : decode cX5_copy 85 = .ok (.putfield 31, 3) := by decide +kernel
theorem dX5_copy_88 : decode cX5_copy 88 = .ok (.return_, 1) := by decide +kernel
theorem dX5_drawn_0 : decode cX5_drawn 0 = .ok (.aload_n 0, 1) := by decide +kernel
theorem dX5_drawn_1 : decode cX5_drawn 1 = .ok (.getfield 31, 3) := by decide +kernel
theorem dX5_drawn_4 : decode cX5_drawn 4 = .ok (.istore_n 1, 1) := by decide +kernel
theorem dX5_drawn_5 : decode cX5_drawn 5 = .ok (.aload_n 0, 1) := by decide +kernel
theorem dX5_drawn_6 : decode cX5_drawn 6 = .ok (.aload_n 0, 1) := by decide +kernel
theorem dX5_drawn_7 : decode cX5_drawn 7 = .ok (.getfield 31, 3) := by decide +kernel
theorem dX5_drawn_10 : decode cX5_drawn 10 = .ok (.sipush 503, 3) := by decide +kernel
theorem dX5_drawn_13 : decode cX5_drawn 13 = .ok (.imul, 1) := by decide +kernel
theorem dX5_drawn_14 : decode cX5_drawn 14 = .ok (.sipush 389, 3) := by decide +kernel
theorem dX5_drawn_17 : decode cX5_drawn 17 = .ok (.iadd, 1) := by decide +kernel
theorem dX5_drawn_18 : decode cX5_drawn 18 = .ok (.sipush 30691, 3) := by decide +kernel
theorem dX5_drawn_21 : decode cX5_drawn 21 = .ok (.irem, 1) := by decide +kernel
theorem dX5_drawn_22 : decode cX5_drawn 22 = .ok (.putfield 31, 3) := by decide +kernel
theorem dX5_drawn_25 : decode cX5_drawn 25 = .ok (.iload_n 1, 1) := by decide +kernel
theorem dX5_drawn_26 : decode cX5_drawn 26 = .ok (.ireturn, 1) := by decide +kernel
theorem dX5_write_0 : decode cX5_write 0 = .ok (.aload_n 0, 1) := by decide +kernel
theorem dX5_write_1 : decode cX5_write 1 = .ok (.getfield 24, 3) := by decide +kernel
theorem dX5_write_4 : decode cX5_write 4 = .ok (.bipush 30, 2) := by decide +kernel
theorem dX5_write_6 : decode cX5_write 6 = .ok (.if_icmp .ne 28, 3) := by decide +kernel
theorem dX5_write_9 : decode cX5_write 9 = .ok (.aload_n 0, 1) := by decide +kernel
theorem dX5_write_10 : decode cX5_write 10 = .ok (.getfield 21, 3) := by decide +kernel
theorem dX5_write_13 : decode cX5_write 13 = .ok (.iconst 4, 1) := by decide +kernel
theorem dX5_write_14 : decode cX5_write 14 = .ok (.aload_n 0, 1) := by decide +kernel
theorem dX5_write_15 : decode cX5_write 15 = .ok (.getfield 21, 3) := by decide +kernel
theorem dX5_write_18 : decode cX5_write 18 = .ok (.iconst 0, 1) := by decide +kernel
theorem dX5_write_19 : decode cX5_write 19 = .ok (.bipush 116, 2) := by decide +kernel
theorem dX5_write_21 : decode cX5_write 21 = .ok (.invokestatic 40, 3) := by decide +kernel
theorem dX5_write_24 : decode cX5_write 24 = .ok (.aload_n 0, 1) := by decide +kernel
theorem dX5_write_25 : decode cX5_write 25 = .ok (.dup, 1) := by decide +kernel
theorem dX5_write_26 : decode cX5_write 26 = .ok (.getfield 24, 3) := by decide +kernel
theorem dX5_write_29 : decode cX5_write 29 = .ok (.iconst 1, 1) := by decide +kernel
theorem dX5_write_30 : decode cX5_write 30 = .ok (.isub, 1) := by decide +kernel
theorem dX5_write_31 : decode cX5_write 31 = .ok (.putfield 24, 3) := by decide +kernel
theorem dX5_write_34 : decode cX5_write 34 = .ok (.aload_n 0, 1) := by decide +kernel
theorem dX5_write_35 : decode cX5_write 35 = .ok (.getfield 21, 3) := by decide +kernel
theorem dX5_write_38 : decode cX5_write 38 = .ok (.iconst 4, 1) := by decide +kernel
theorem dX5_write_39 : decode cX5_write 39 = .ok (.aload_n 0, 1) := by decide +kernel
theorem dX5_write_40 : decode cX5_write 40 = .ok (.getfield 24, 3) := by decide +kernel
theorem dX5_write_43 : decode cX5_write 43 = .ok (.imul, 1) := by decide +kernel
theorem dX5_write_44 : decode cX5_write 44 = .ok (.aload_n 0, 1) := by decide +kernel
theorem dX5_write_45 : decode cX5_write 45 = .ok (.getfield 28, 3) := by decide +kernel
theorem dX5_write_48 : decode cX5_write 48 = .ok (.iastore, 1) := by decide +kernel
theorem dX5_write_49 : decode cX5_write 49 = .ok (.aload_n 0, 1) := by decide +kernel
theorem dX5_write_50 : decode cX5_write 50 = .ok (.getfield 21, 3) := by decide +kernel
theorem dX5_write_53 : decode cX5_write 53 = .ok (.iconst 4, 1) := by decide +kernel
theorem dX5_write_54 : decode cX5_write 54 = .ok (.aload_n 0, 1) := by decide +kernel
theorem dX5_write_55 : decode cX5_write 55 = .ok (.getfield 24, 3) := by decide +kernel
theorem dX5_write_58 : decode cX5_write 58 = .ok (.imul, 1) := by decide +kernel
theorem dX5_write_59 : decode cX5_write 59 = .ok (.iconst 1, 1) := by decide +kernel
theorem dX5_write_60 : decode cX5_write 60 = .ok (.iadd, 1) := by decide +kernel
theorem dX5_write_61 : decode cX5_write 61 = .ok (.iload_n 1, 1) := by decide +kernel
theorem dX5_write_62 : decode cX5_write 62 = .ok (.iastore, 1) := by decide +kernel
theorem dX5_write_63 : decode cX5_write 63 = .ok (.aload_n 0, 1) := by decide +kernel
theorem dX5_write_64 : decode cX5_write 64 = .ok (.getfield 21, 3) := by decide +kernel
theorem dX5_write_67 : decode cX5_write 67 = .ok (.iconst 4, 1) := by decide +kernel
theorem dX5_write_68 : decode cX5_write 68 = .ok (.aload_n 0, 1) := by decide +kernel
theorem dX5_write_69 : decode cX5_write 69 = .ok (.getfield 24, 3) := by decide +kernel
theorem dX5_write_72 : decode cX5_write 72 = .ok (.imul, 1) := by decide +kernel
theorem dX5_write_73 : decode cX5_write 73 = .ok (.iconst 2, 1) := by decide +kernel
theorem dX5_write_74 : decode cX5_write 74 = .ok (.iadd, 1) := by decide +kernel
theorem dX5_write_75 : decode cX5_write 75 = .ok (.iload_n 2, 1) := by decide +kernel
theorem dX5_write_76 : decode cX5_write 76 = .ok (.iastore, 1) := by decide +kernel
theorem dX5_write_77 : decode cX5_write 77 = .ok (.aload_n 0, 1) := by decide +kernel
theorem dX5_write_78 : decode cX5_write 78 = .ok (.getfield 21, 3) := by decide +kernel
theorem dX5_write_81 : decode cX5_write 81 = .ok (.iconst 4, 1) := by decide +kernel
theorem dX5_write_82 : decode cX5_write 82 = .ok (.aload_n 0, 1) := by decide +kernel
theorem dX5_write_83 : decode cX5_write 83 = .ok (.getfield 24, 3) := by decide +kernel
theorem dX5_write_86 : decode cX5_write 86 = .ok (.imul, 1) := by decide +kernel
theorem dX5_write_87 : decode cX5_write 87 = .ok (.iconst 3, 1) := by decide +kernel
theorem dX5_write_88 : decode cX5_write 88 = .ok (.iadd, 1) := by decide +kernel
theorem dX5_write_89 : decode cX5_write 89 = .ok (.iload_n 3, 1) := by decide +kernel
theorem dX5_write_90 : decode cX5_write 90 = .ok (.iastore, 1) := by decide +kernel
theorem dX5_write_91 : decode cX5_write 91 = .ok (.aload_n 0, 1) := by decide +kernel
theorem dX5_write_92 : decode cX5_write 92 = .ok (.dup, 1) := by decide +kernel
theorem dX5_write_93 : decode cX5_write 93 = .ok (.getfield 24, 3) := by decide +kernel
theorem dX5_write_96 : decode cX5_write 96 = .ok (.iconst 1, 1) := by decide +kernel
theorem dX5_write_97 : decode cX5_write 97 = .ok (.iadd, 1) := by decide +kernel
theorem dX5_write_98 : decode cX5_write 98 = .ok (.putfield 24, 3) := by decide +kernel
theorem dX5_write_101 : decode cX5_write 101 = .ok (.return_, 1) := by decide +kernel
theorem dX5_written_0 : decode cX5_written 0 = .ok (.iconst 0, 1) := by decide +kernel
theorem dX5_written_1 : decode cX5_written 1 = .ok (.istore_n 2, 1) := by decide +kernel
theorem dX5_written_2 : decode cX5_written 2 = .ok (.iconst 0, 1) := by decide +kernel
theorem dX5_written_3 : decode cX5_written 3 = .ok (.istore_n 3, 1) := by decide +kernel
theorem dX5_written_4 : decode cX5_written 4 = .ok (.iload_n 3, 1) := by decide +kernel
theorem dX5_written_5 : decode cX5_written 5 = .ok (.aload_n 0, 1) := by decide +kernel
theorem dX5_written_6 : decode cX5_written 6 = .ok (.getfield 24, 3) := by decide +kernel
theorem dX5_written_9 : decode cX5_written 9 = .ok (.if_icmp .ge 41, 3) := by decide +kernel
theorem dX5_written_12 : decode cX5_written 12 = .ok (.iload_n 1, 1) := by decide +kernel
theorem dX5_written_13 : decode cX5_written 13 = .ok (.iconst (-1), 1) := by decide +kernel
theorem dX5_written_14 : decode cX5_written 14 = .ok (.if_icmp .eq 17, 3) := by decide +kernel
theorem dX5_written_17 : decode cX5_written 17 = .ok (.aload_n 0, 1) := by decide +kernel
theorem dX5_written_18 : decode cX5_written 18 = .ok (.getfield 21, 3) := by decide +kernel
theorem dX5_written_21 : decode cX5_written 21 = .ok (.iconst 4, 1) := by decide +kernel
theorem dX5_written_22 : decode cX5_written 22 = .ok (.iload_n 3, 1) := by decide +kernel
theorem dX5_written_23 : decode cX5_written 23 = .ok (.imul, 1) := by decide +kernel
theorem dX5_written_24 : decode cX5_written 24 = .ok (.iconst 1, 1) := by decide +kernel
theorem dX5_written_25 : decode cX5_written 25 = .ok (.iadd, 1) := by decide +kernel
theorem dX5_written_26 : decode cX5_written 26 = .ok (.iaload, 1) := by decide +kernel
theorem dX5_written_27 : decode cX5_written 27 = .ok (.iload_n 1, 1) := by decide +kernel
theorem dX5_written_28 : decode cX5_written 28 = .ok (.if_icmp .ne 16, 3) := by decide +kernel
theorem dX5_written_31 : decode cX5_written 31 = .ok (.iload_n 2, 1) := by decide +kernel
theorem dX5_written_32 : decode cX5_written 32 = .ok (.aload_n 0, 1) := by decide +kernel
theorem dX5_written_33 : decode cX5_written 33 = .ok (.getfield 21, 3) := by decide +kernel
theorem dX5_written_36 : decode cX5_written 36 = .ok (.iconst 4, 1) := by decide +kernel
theorem dX5_written_37 : decode cX5_written 37 = .ok (.iload_n 3, 1) := by decide +kernel
theorem dX5_written_38 : decode cX5_written 38 = .ok (.imul, 1) := by decide +kernel
theorem dX5_written_39 : decode cX5_written 39 = .ok (.iconst 3, 1) := by decide +kernel
theorem dX5_written_40 : decode cX5_written 40 = .ok (.iadd, 1) := by decide +kernel
theorem dX5_written_41 : decode cX5_written 41 = .ok (.iaload, 1) := by decide +kernel
theorem dX5_written_42 : decode cX5_written 42 = .ok (.iadd, 1) := by decide +kernel
theorem dX5_written_43 : decode cX5_written 43 = .ok (.istore_n 2, 1) := by decide +kernel
theorem dX5_written_44 : decode cX5_written 44 = .ok (.iinc 3 1, 3) := by decide +kernel
theorem dX5_written_47 : decode cX5_written 47 = .ok (.goto (-43), 3) := by decide +kernel
theorem dX5_written_50 : decode cX5_written 50 = .ok (.iload_n 2, 1) := by decide +kernel
theorem dX5_written_51 : decode cX5_written 51 = .ok (.ireturn, 1) := by decide +kernel
theorem dX5_kindAt_0 : decode cX5_kindAt 0 = .ok (.aload_n 0, 1) := by decide +kernel
theorem dX5_kindAt_1 : decode cX5_kindAt 1 = .ok (.getfield 9, 3) := by decide +kernel
theorem dX5_kindAt_4 : decode cX5_kindAt 4 = .ok (.iload_n 1, 1) := by decide +kernel
theorem dX5_kindAt_5 : decode cX5_kindAt 5 = .ok (.bipush 30, 2) := by decide +kernel
theorem dX5_kindAt_7 : decode cX5_kindAt 7 = .ok (.invokestatic 46, 3) := by decide +kernel
theorem dX5_kindAt_10 : decode cX5_kindAt 10 = .ok (.iaload, 1) := by decide +kernel
theorem dX5_kindAt_11 : decode cX5_kindAt 11 = .ok (.ireturn, 1) := by decide +kernel
theorem dX5_barsFrom_0 : decode cX5_barsFrom 0 = .ok (.iconst 0, 1) := by decide +kernel
theorem dX5_barsFrom_1 : decode cX5_barsFrom 1 = .ok (.istore_n 3, 1) := by decide +kernel
theorem dX5_barsFrom_2 : decode cX5_barsFrom 2 = .ok (.iconst 0, 1) := by decide +kernel
theorem dX5_barsFrom_3 : decode cX5_barsFrom 3 = .ok (.istore 4, 2) := by decide +kernel
theorem dX5_barsFrom_5 : decode cX5_barsFrom 5 = .ok (.iload 4, 2) := by decide +kernel
theorem dX5_barsFrom_7 : decode cX5_barsFrom 7 = .ok (.iload_n 2, 1) := by decide +kernel
theorem dX5_barsFrom_8 : decode cX5_barsFrom 8 = .ok (.if_icmp .ge 24, 3) := by decide +kernel
theorem dX5_barsFrom_11 : decode cX5_barsFrom 11 = .ok (.aload_n 0, 1) := by decide +kernel
theorem dX5_barsFrom_12 : decode cX5_barsFrom 12 = .ok (.iload_n 1, 1) := by decide +kernel
theorem dX5_barsFrom_13 : decode cX5_barsFrom 13 = .ok (.iload 4, 2) := by decide +kernel
theorem dX5_barsFrom_15 : decode cX5_barsFrom 15 = .ok (.iadd, 1) := by decide +kernel
theorem dX5_barsFrom_16 : decode cX5_barsFrom 16 = .ok (.invokevirtual 52, 3) := by decide +kernel
theorem dX5_barsFrom_19 : decode cX5_barsFrom 19 = .ok (.iconst 1, 1) := by decide +kernel
theorem dX5_barsFrom_20 : decode cX5_barsFrom 20 = .ok (.if_icmp .ne 6, 3) := by decide +kernel
theorem dX5_barsFrom_23 : decode cX5_barsFrom 23 = .ok (.iinc 3 1, 3) := by decide +kernel
theorem dX5_barsFrom_26 : decode cX5_barsFrom 26 = .ok (.iinc 4 1, 3) := by decide +kernel
theorem dX5_barsFrom_29 : decode cX5_barsFrom 29 = .ok (.goto (-24), 3) := by decide +kernel
theorem dX5_barsFrom_32 : decode cX5_barsFrom 32 = .ok (.iload_n 3, 1) := by decide +kernel
theorem dX5_barsFrom_33 : decode cX5_barsFrom 33 = .ok (.ireturn, 1) := by decide +kernel
theorem dX5_barMet_0 : decode cX5_barMet 0 = .ok (.iconst 0, 1) := by decide +kernel
theorem dX5_barMet_1 : decode cX5_barMet 1 = .ok (.istore_n 3, 1) := by decide +kernel
theorem dX5_barMet_2 : decode cX5_barMet 2 = .ok (.iconst 0, 1) := by decide +kernel
theorem dX5_barMet_3 : decode cX5_barMet 3 = .ok (.istore 4, 2) := by decide +kernel
theorem dX5_barMet_5 : decode cX5_barMet 5 = .ok (.iload 4, 2) := by decide +kernel
theorem dX5_barMet_7 : decode cX5_barMet 7 = .ok (.bipush 60, 2) := by decide +kernel
theorem dX5_barMet_9 : decode cX5_barMet 9 = .ok (.if_icmp .ge 49, 3) := by decide +kernel
theorem dX5_barMet_12 : decode cX5_barMet 12 = .ok (.aload_n 0, 1) := by decide +kernel
theorem dX5_barMet_13 : decode cX5_barMet 13 = .ok (.iload_n 1, 1) := by decide +kernel
theorem dX5_barMet_14 : decode cX5_barMet 14 = .ok (.iload 4, 2) := by decide +kernel
theorem dX5_barMet_16 : decode cX5_barMet 16 = .ok (.iadd, 1) := by decide +kernel
theorem dX5_barMet_17 : decode cX5_barMet 17 = .ok (.invokevirtual 52, 3) := by decide +kernel
theorem dX5_barMet_20 : decode cX5_barMet 20 = .ok (.istore 5, 2) := by decide +kernel
theorem dX5_barMet_22 : decode cX5_barMet 22 = .ok (.iload 5, 2) := by decide +kernel
theorem dX5_barMet_24 : decode cX5_barMet 24 = .ok (.iconst 3, 1) := by decide +kernel
theorem dX5_barMet_25 : decode cX5_barMet 25 = .ok (.if_icmp .ne 5, 3) := by decide +kernel
theorem dX5_barMet_28 : decode cX5_barMet 28 = .ok (.iconst (-1), 1) := by decide +kernel
theorem dX5_barMet_29 : decode cX5_barMet 29 = .ok (.ireturn, 1) := by decide +kernel
theorem dX5_barMet_30 : decode cX5_barMet 30 = .ok (.iload 5, 2) := by decide +kernel
theorem dX5_barMet_32 : decode cX5_barMet 32 = .ok (.iconst 1, 1) := by decide +kernel
theorem dX5_barMet_33 : decode cX5_barMet 33 = .ok (.if_icmp .ne 6, 3) := by decide +kernel
theorem dX5_barMet_36 : decode cX5_barMet 36 = .ok (.iinc 3 1, 3) := by decide +kernel
theorem dX5_barMet_39 : decode cX5_barMet 39 = .ok (.iload_n 3, 1) := by decide +kernel
theorem dX5_barMet_40 : decode cX5_barMet 40 = .ok (.iload_n 2, 1) := by decide +kernel
theorem dX5_barMet_41 : decode cX5_barMet 41 = .ok (.if_icmp .ne 11, 3) := by decide +kernel
theorem dX5_barMet_44 : decode cX5_barMet 44 = .ok (.iload_n 1, 1) := by decide +kernel
theorem dX5_barMet_45 : decode cX5_barMet 45 = .ok (.iload 4, 2) := by decide +kernel
theorem dX5_barMet_47 : decode cX5_barMet 47 = .ok (.iadd, 1) := by decide +kernel
theorem dX5_barMet_48 : decode cX5_barMet 48 = .ok (.bipush 30, 2) := by decide +kernel
theorem dX5_barMet_50 : decode cX5_barMet 50 = .ok (.irem, 1) := by decide +kernel
theorem dX5_barMet_51 : decode cX5_barMet 51 = .ok (.ireturn, 1) := by decide +kernel
theorem dX5_barMet_52 : decode cX5_barMet 52 = .ok (.iinc 4 1, 3) := by decide +kernel
theorem dX5_barMet_55 : decode cX5_barMet 55 = .ok (.goto (-50), 3) := by decide +kernel
theorem dX5_barMet_58 : decode cX5_barMet 58 = .ok (.iconst (-1), 1) := by decide +kernel
theorem dX5_barMet_59 : decode cX5_barMet 59 = .ok (.ireturn, 1) := by decide +kernel
theorem dX5_likeFrom_0 : decode cX5_likeFrom 0 = .ok (.iconst 0, 1) := by decide +kernel
theorem dX5_likeFrom_1 : decode cX5_likeFrom 1 = .ok (.istore_n 3, 1) := by decide +kernel
theorem dX5_likeFrom_2 : decode cX5_likeFrom 2 = .ok (.iload_n 3, 1) := by decide +kernel
theorem dX5_likeFrom_3 : decode cX5_likeFrom 3 = .ok (.bipush 30, 2) := by decide +kernel
theorem dX5_likeFrom_5 : decode cX5_likeFrom 5 = .ok (.if_icmp .ge 20, 3) := by decide +kernel
theorem dX5_likeFrom_8 : decode cX5_likeFrom 8 = .ok (.aload_n 0, 1) := by decide +kernel
theorem dX5_likeFrom_9 : decode cX5_likeFrom 9 = .ok (.iload_n 1, 1) := by decide +kernel
theorem dX5_likeFrom_10 : decode cX5_likeFrom 10 = .ok (.iload_n 3, 1) := by decide +kernel
theorem dX5_likeFrom_11 : decode cX5_likeFrom 11 = .ok (.iadd, 1) := by decide +kernel
theorem dX5_likeFrom_12 : decode cX5_likeFrom 12 = .ok (.invokevirtual 52, 3) := by decide +kernel
theorem dX5_likeFrom_15 : decode cX5_likeFrom 15 = .ok (.iload_n 2, 1) := by decide +kernel
theorem dX5_likeFrom_16 : decode cX5_likeFrom 16 = .ok (.if_icmp .ne 9, 3) := by decide +kernel
theorem dX5_likeFrom_19 : decode cX5_likeFrom 19 = .ok (.iinc 3 1, 3) := by decide +kernel
theorem dX5_likeFrom_22 : decode cX5_likeFrom 22 = .ok (.goto (-20), 3) := by decide +kernel
theorem dX5_likeFrom_25 : decode cX5_likeFrom 25 = .ok (.iload_n 3, 1) := by decide +kernel
theorem dX5_likeFrom_26 : decode cX5_likeFrom 26 = .ok (.ireturn, 1) := by decide +kernel
theorem dX5_leastLikeTurn_0 : decode cX5_leastLikeTurn 0 = .ok (.iconst 1, 1) := by decide +kernel
theorem dX5_leastLikeTurn_1 : decode cX5_leastLikeTurn 1 = .ok (.istore_n 1, 1) := by decide +kernel
theorem dX5_leastLikeTurn_2 : decode cX5_leastLikeTurn 2 = .ok (.iload_n 1, 1) := by decide +kernel
theorem dX5_leastLikeTurn_3 : decode cX5_leastLikeTurn 3 = .ok (.bipush 30, 2) := by decide +kernel
theorem dX5_leastLikeTurn_5 : decode cX5_leastLikeTurn 5 = .ok (.if_icmp .ge 20, 3) := by decide +kernel
theorem dX5_leastLikeTurn_8 : decode cX5_leastLikeTurn 8 = .ok (.aload_n 0, 1) := by decide +kernel
theorem dX5_leastLikeTurn_9 : decode cX5_leastLikeTurn 9 = .ok (.iconst 0, 1) := by decide +kernel
theorem dX5_leastLikeTurn_10 : decode cX5_leastLikeTurn 10 = .ok (.iload_n 1, 1) := by decide +kernel
theorem dX5_leastLikeTurn_11 : decode cX5_leastLikeTurn 11 = .ok (.invokevirtual 56, 3) := by decide +kernel
theorem dX5_leastLikeTurn_14 : decode cX5_leastLikeTurn 14 = .ok (.ifCond .ne 5, 3) := by decide +kernel
theorem dX5_leastLikeTurn_17 : decode cX5_leastLikeTurn 17 = .ok (.iload_n 1, 1) := by decide +kernel
theorem dX5_leastLikeTurn_18 : decode cX5_leastLikeTurn 18 = .ok (.ireturn, 1) := by decide +kernel
theorem dX5_leastLikeTurn_19 : decode cX5_leastLikeTurn 19 = .ok (.iinc 1 1, 3) := by decide +kernel
theorem dX5_leastLikeTurn_22 : decode cX5_leastLikeTurn 22 = .ok (.goto (-20), 3) := by decide +kernel
theorem dX5_leastLikeTurn_25 : decode cX5_leastLikeTurn 25 = .ok (.bipush 30, 2) := by decide +kernel
theorem dX5_leastLikeTurn_27 : decode cX5_leastLikeTurn 27 = .ok (.ireturn, 1) := by decide +kernel
theorem dX5_leastReading_0 : decode cX5_leastReading 0 = .ok (.iconst 0, 1) := by decide +kernel
theorem dX5_leastReading_1 : decode cX5_leastReading 1 = .ok (.istore_n 1, 1) := by decide +kernel
theorem dX5_leastReading_2 : decode cX5_leastReading 2 = .ok (.iconst 1, 1) := by decide +kernel
theorem dX5_leastReading_3 : decode cX5_leastReading 3 = .ok (.istore_n 2, 1) := by decide +kernel
theorem dX5_leastReading_4 : decode cX5_leastReading 4 = .ok (.iload_n 2, 1) := by decide +kernel
theorem dX5_leastReading_5 : decode cX5_leastReading 5 = .ok (.bipush 30, 2) := by decide +kernel
theorem dX5_leastReading_7 : decode cX5_leastReading 7 = .ok (.if_icmp .ge 20, 3) := by decide +kernel
theorem dX5_leastReading_10 : decode cX5_leastReading 10 = .ok (.aload_n 0, 1) := by decide +kernel
theorem dX5_leastReading_11 : decode cX5_leastReading 11 = .ok (.iload_n 2, 1) := by decide +kernel
theorem dX5_leastReading_12 : decode cX5_leastReading 12 = .ok (.iload_n 1, 1) := by decide +kernel
theorem dX5_leastReading_13 : decode cX5_leastReading 13 = .ok (.invokevirtual 56, 3) := by decide +kernel
theorem dX5_leastReading_16 : decode cX5_leastReading 16 = .ok (.ifCond .ge 5, 3) := by decide +kernel
theorem dX5_leastReading_19 : decode cX5_leastReading 19 = .ok (.iload_n 2, 1) := by decide +kernel
theorem dX5_leastReading_20 : decode cX5_leastReading 20 = .ok (.istore_n 1, 1) := by decide +kernel
theorem dX5_leastReading_21 : decode cX5_leastReading 21 = .ok (.iinc 2 1, 3) := by decide +kernel
theorem dX5_leastReading_24 : decode cX5_leastReading 24 = .ok (.goto (-20), 3) := by decide +kernel
theorem dX5_leastReading_27 : decode cX5_leastReading 27 = .ok (.iload_n 1, 1) := by decide +kernel
theorem dX5_leastReading_28 : decode cX5_leastReading 28 = .ok (.ireturn, 1) := by decide +kernel
theorem dX5_compareReadings_0 : decode cX5_compareReadings 0 = .ok (.iconst 0, 1) := by decide +kernel
theorem dX5_compareReadings_1 : decode cX5_compareReadings 1 = .ok (.istore_n 3, 1) := by decide +kernel
theorem dX5_compareReadings_2 : decode cX5_compareReadings 2 = .ok (.iload_n 3, 1) := by decide +kernel
theorem dX5_compareReadings_3 : decode cX5_compareReadings 3 = .ok (.bipush 30, 2) := by decide +kernel
theorem dX5_compareReadings_5 : decode cX5_compareReadings 5 = .ok (.if_icmp .ge 36, 3) := by decide +kernel
theorem dX5_compareReadings_8 : decode cX5_compareReadings 8 = .ok (.aload_n 0, 1) := by decide +kernel
theorem dX5_compareReadings_9 : decode cX5_compareReadings 9 = .ok (.iload_n 1, 1) := by decide +kernel
theorem dX5_compareReadings_10 : decode cX5_compareReadings 10 = .ok (.iload_n 3, 1) := by decide +kernel
theorem dX5_compareReadings_11 : decode cX5_compareReadings 11 = .ok (.iadd, 1) := by decide +kernel
theorem dX5_compareReadings_12 : decode cX5_compareReadings 12 = .ok (.invokevirtual 52, 3) := by decide +kernel
theorem dX5_compareReadings_15 : decode cX5_compareReadings 15 = .ok (.aload_n 0, 1) := by decide +kernel
theorem dX5_compareReadings_16 : decode cX5_compareReadings 16 = .ok (.iload_n 2, 1) := by decide +kernel
theorem dX5_compareReadings_17 : decode cX5_compareReadings 17 = .ok (.iload_n 3, 1) := by decide +kernel
theorem dX5_compareReadings_18 : decode cX5_compareReadings 18 = .ok (.iadd, 1) := by decide +kernel
theorem dX5_compareReadings_19 : decode cX5_compareReadings 19 = .ok (.invokevirtual 52, 3) := by decide +kernel
theorem dX5_compareReadings_22 : decode cX5_compareReadings 22 = .ok (.invokestatic 59, 3) := by decide +kernel
theorem dX5_compareReadings_25 : decode cX5_compareReadings 25 = .ok (.istore 4, 2) := by decide +kernel
theorem dX5_compareReadings_27 : decode cX5_compareReadings 27 = .ok (.iload 4, 2) := by decide +kernel
theorem dX5_compareReadings_29 : decode cX5_compareReadings 29 = .ok (.ifCond .eq 6, 3) := by decide +kernel
theorem dX5_compareReadings_32 : decode cX5_compareReadings 32 = .ok (.iload 4, 2) := by decide +kernel
theorem dX5_compareReadings_34 : decode cX5_compareReadings 34 = .ok (.ireturn, 1) := by decide +kernel
theorem dX5_compareReadings_35 : decode cX5_compareReadings 35 = .ok (.iinc 3 1, 3) := by decide +kernel
theorem dX5_compareReadings_38 : decode cX5_compareReadings 38 = .ok (.goto (-36), 3) := by decide +kernel
theorem dX5_compareReadings_41 : decode cX5_compareReadings 41 = .ok (.iconst 0, 1) := by decide +kernel
theorem dX5_compareReadings_42 : decode cX5_compareReadings 42 = .ok (.ireturn, 1) := by decide +kernel
theorem dX5_mirrorCount_0 : decode cX5_mirrorCount 0 = .ok (.iconst 0, 1) := by decide +kernel
theorem dX5_mirrorCount_1 : decode cX5_mirrorCount 1 = .ok (.istore_n 1, 1) := by decide +kernel
theorem dX5_mirrorCount_2 : decode cX5_mirrorCount 2 = .ok (.iconst 0, 1) := by decide +kernel
theorem dX5_mirrorCount_3 : decode cX5_mirrorCount 3 = .ok (.istore_n 2, 1) := by decide +kernel
theorem dX5_mirrorCount_4 : decode cX5_mirrorCount 4 = .ok (.iload_n 2, 1) := by decide +kernel
theorem dX5_mirrorCount_5 : decode cX5_mirrorCount 5 = .ok (.bipush 30, 2) := by decide +kernel
theorem dX5_mirrorCount_7 : decode cX5_mirrorCount 7 = .ok (.if_icmp .ge 20, 3) := by decide +kernel
theorem dX5_mirrorCount_10 : decode cX5_mirrorCount 10 = .ok (.aload_n 0, 1) := by decide +kernel
theorem dX5_mirrorCount_11 : decode cX5_mirrorCount 11 = .ok (.iload_n 2, 1) := by decide +kernel
theorem dX5_mirrorCount_12 : decode cX5_mirrorCount 12 = .ok (.invokevirtual 64, 3) := by decide +kernel
theorem dX5_mirrorCount_15 : decode cX5_mirrorCount 15 = .ok (.ifCond .eq 6, 3) := by decide +kernel
theorem dX5_mirrorCount_18 : decode cX5_mirrorCount 18 = .ok (.iinc 1 1, 3) := by decide +kernel
theorem dX5_mirrorCount_21 : decode cX5_mirrorCount 21 = .ok (.iinc 2 1, 3) := by decide +kernel
theorem dX5_mirrorCount_24 : decode cX5_mirrorCount 24 = .ok (.goto (-20), 3) := by decide +kernel
theorem dX5_mirrorCount_27 : decode cX5_mirrorCount 27 = .ok (.iload_n 1, 1) := by decide +kernel
theorem dX5_mirrorCount_28 : decode cX5_mirrorCount 28 = .ok (.ireturn, 1) := by decide +kernel
theorem dX5_isMirror_0 : decode cX5_isMirror 0 = .ok (.iconst 0, 1) := by decide +kernel
theorem dX5_isMirror_1 : decode cX5_isMirror 1 = .ok (.istore_n 2, 1) := by decide +kernel
theorem dX5_isMirror_2 : decode cX5_isMirror 2 = .ok (.iload_n 2, 1) := by decide +kernel
theorem dX5_isMirror_3 : decode cX5_isMirror 3 = .ok (.bipush 30, 2) := by decide +kernel
theorem dX5_isMirror_5 : decode cX5_isMirror 5 = .ok (.if_icmp .ge 26, 3) := by decide +kernel
theorem dX5_isMirror_8 : decode cX5_isMirror 8 = .ok (.aload_n 0, 1) := by decide +kernel
theorem dX5_isMirror_9 : decode cX5_isMirror 9 = .ok (.iload_n 2, 1) := by decide +kernel
theorem dX5_isMirror_10 : decode cX5_isMirror 10 = .ok (.invokevirtual 52, 3) := by decide +kernel
theorem dX5_isMirror_13 : decode cX5_isMirror 13 = .ok (.aload_n 0, 1) := by decide +kernel
theorem dX5_isMirror_14 : decode cX5_isMirror 14 = .ok (.iload_n 1, 1) := by decide +kernel
theorem dX5_isMirror_15 : decode cX5_isMirror 15 = .ok (.iload_n 2, 1) := by decide +kernel
theorem dX5_isMirror_16 : decode cX5_isMirror 16 = .ok (.isub, 1) := by decide +kernel
theorem dX5_isMirror_17 : decode cX5_isMirror 17 = .ok (.invokevirtual 52, 3) := by decide +kernel
theorem dX5_isMirror_20 : decode cX5_isMirror 20 = .ok (.if_icmp .eq 5, 3) := by decide +kernel
theorem dX5_isMirror_23 : decode cX5_isMirror 23 = .ok (.iconst 0, 1) := by decide +kernel
theorem dX5_isMirror_24 : decode cX5_isMirror 24 = .ok (.ireturn, 1) := by decide +kernel
theorem dX5_isMirror_25 : decode cX5_isMirror 25 = .ok (.iinc 2 1, 3) := by decide +kernel
theorem dX5_isMirror_28 : decode cX5_isMirror 28 = .ok (.goto (-26), 3) := by decide +kernel
theorem dX5_isMirror_31 : decode cX5_isMirror 31 = .ok (.iconst 1, 1) := by decide +kernel
theorem dX5_isMirror_32 : decode cX5_isMirror 32 = .ok (.ireturn, 1) := by decide +kernel
theorem dX6_init_0 : decode cX6_init 0 = .ok (.aload_n 0, 1) := by decide +kernel
theorem dX6_init_1 : decode cX6_init 1 = .ok (.invokespecial 3, 3) := by decide +kernel
theorem dX6_init_4 : decode cX6_init 4 = .ok (.aload_n 0, 1) := by decide +kernel
theorem dX6_init_5 : decode cX6_init 5 = .ok (.new 9, 3) := by decide +kernel
theorem dX6_init_8 : decode cX6_init 8 = .ok (.dup, 1) := by decide +kernel
theorem dX6_init_9 : decode cX6_init 9 = .ok (.invokespecial 11, 3) := by decide +kernel
theorem dX6_init_12 : decode cX6_init 12 = .ok (.putfield 12, 3) := by decide +kernel
theorem dX6_init_15 : decode cX6_init 15 = .ok (.aload_n 0, 1) := by decide +kernel
theorem dX6_init_16 : decode cX6_init 16 = .ok (.new 18, 3) := by decide +kernel
theorem dX6_init_19 : decode cX6_init 19 = .ok (.dup, 1) := by decide +kernel
theorem dX6_init_20 : decode cX6_init 20 = .ok (.invokespecial 20, 3) := by decide +kernel
theorem dX6_init_23 : decode cX6_init 23 = .ok (.putfield 21, 3) := by decide +kernel
theorem dX6_init_26 : decode cX6_init 26 = .ok (.aload_n 0, 1) := by decide +kernel
theorem dX6_init_27 : decode cX6_init 27 = .ok (.new 25, 3) := by decide +kernel
theorem dX6_init_30 : decode cX6_init 30 = .ok (.dup, 1) := by decide +kernel
theorem dX6_init_31 : decode cX6_init 31 = .ok (.bipush 6, 2) := by decide +kernel
theorem dX6_init_33 : decode cX6_init 33 = .ok (.invokespecial 27, 3) := by decide +kernel
theorem dX6_init_36 : decode cX6_init 36 = .ok (.putfield 30, 3) := by decide +kernel
theorem dX6_init_39 : decode cX6_init 39 = .ok (.aload_n 0, 1) := by decide +kernel
theorem dX6_init_40 : decode cX6_init 40 = .ok (.new 25, 3) := by decide +kernel
theorem dX6_init_43 : decode cX6_init 43 = .ok (.dup, 1) := by decide +kernel
theorem dX6_init_44 : decode cX6_init 44 = .ok (.bipush 8, 2) := by decide +kernel
theorem dX6_init_46 : decode cX6_init 46 = .ok (.invokespecial 27, 3) := by decide +kernel
theorem dX6_init_49 : decode cX6_init 49 = .ok (.putfield 34, 3) := by decide +kernel
theorem dX6_init_52 : decode cX6_init 52 = .ok (.aload_n 0, 1) := by decide +kernel
theorem dX6_init_53 : decode cX6_init 53 = .ok (.bipush 13, 2) := by decide +kernel
theorem dX6_init_55 : decode cX6_init 55 = .ok (.newarray .int, 2) := by decide +kernel
theorem dX6_init_57 : decode cX6_init 57 = .ok (.putfield 37, 3) := by decide +kernel
theorem dX6_init_60 : decode cX6_init 60 = .ok (.aload_n 0, 1) := by decide +kernel
theorem dX6_init_61 : decode cX6_init 61 = .ok (.bipush 7, 2) := by decide +kernel
theorem dX6_init_63 : decode cX6_init 63 = .ok (.newarray .int, 2) := by decide +kernel
theorem dX6_init_65 : decode cX6_init 65 = .ok (.putfield 41, 3) := by decide +kernel
theorem dX6_init_68 : decode cX6_init 68 = .ok (.aload_n 0, 1) := by decide +kernel
theorem dX6_init_69 : decode cX6_init 69 = .ok (.bipush 7, 2) := by decide +kernel
theorem dX6_init_71 : decode cX6_init 71 = .ok (.newarray .int, 2) := by decide +kernel
theorem dX6_init_73 : decode cX6_init 73 = .ok (.putfield 44, 3) := by decide +kernel
theorem dX6_init_76 : decode cX6_init 76 = .ok (.aload_n 0, 1) := by decide +kernel
theorem dX6_init_77 : decode cX6_init 77 = .ok (.iconst 0, 1) := by decide +kernel
theorem dX6_init_78 : decode cX6_init 78 = .ok (.putfield 47, 3) := by decide +kernel
theorem dX6_init_81 : decode cX6_init 81 = .ok (.aload_n 0, 1) := by decide +kernel
theorem dX6_init_82 : decode cX6_init 82 = .ok (.iconst 0, 1) := by decide +kernel
theorem dX6_init_83 : decode cX6_init 83 = .ok (.putfield 51, 3) := by decide +kernel
theorem dX6_init_86 : decode cX6_init 86 = .ok (.aload_n 0, 1) := by decide +kernel
theorem dX6_init_87 : decode cX6_init 87 = .ok (.iconst (-1), 1) := by decide +kernel
theorem dX6_init_88 : decode cX6_init 88 = .ok (.putfield 54, 3) := by decide +kernel
theorem dX6_init_91 : decode cX6_init 91 = .ok (.iconst 0, 1) := by decide +kernel
theorem dX6_init_92 : decode cX6_init 92 = .ok (.istore_n 1, 1) := by decide +kernel
theorem dX6_init_93 : decode cX6_init 93 = .ok (.iload_n 1, 1) := by decide +kernel
theorem dX6_init_94 : decode cX6_init 94 = .ok (.bipush 12, 2) := by decide +kernel
theorem dX6_init_96 : decode cX6_init 96 = .ok (.if_icmp .gt 16, 3) := by decide +kernel
theorem dX6_init_99 : decode cX6_init 99 = .ok (.aload_n 0, 1) := by decide +kernel
theorem dX6_init_100 : decode cX6_init 100 = .ok (.getfield 37, 3) := by decide +kernel
theorem dX6_init_103 : decode cX6_init 103 = .ok (.iload_n 1, 1) := by decide +kernel
theorem dX6_init_104 : decode cX6_init 104 = .ok (.iload_n 1, 1) := by decide +kernel
theorem dX6_init_105 : decode cX6_init 105 = .ok (.iastore, 1) := by decide +kernel
theorem dX6_init_106 : decode cX6_init 106 = .ok (.iinc 1 1, 3) := by decide +kernel
theorem dX6_init_109 : decode cX6_init 109 = .ok (.goto (-16), 3) := by decide +kernel
theorem dX6_init_112 : decode cX6_init 112 = .ok (.return_, 1) := by decide +kernel
theorem dX6_copy_0 : decode cX6_copy 0 = .ok (.aload_n 0, 1) := by decide +kernel
theorem dX6_copy_1 : decode cX6_copy 1 = .ok (.getfield 12, 3) := by decide +kernel
theorem dX6_copy_4 : decode cX6_copy 4 = .ok (.aload_n 1, 1) := by decide +kernel
theorem dX6_copy_5 : decode cX6_copy 5 = .ok (.getfield 12, 3) := by decide +kernel
theorem dX6_copy_8 : decode cX6_copy 8 = .ok (.invokevirtual 57, 3) := by decide +kernel
theorem dX6_copy_11 : decode cX6_copy 11 = .ok (.aload_n 0, 1) := by decide +kernel
theorem dX6_copy_12 : decode cX6_copy 12 = .ok (.getfield 21, 3) := by decide +kernel
theorem dX6_copy_15 : decode cX6_copy 15 = .ok (.aload_n 1, 1) := by decide +kernel
theorem dX6_copy_16 : decode cX6_copy 16 = .ok (.getfield 21, 3) := by decide +kernel
theorem dX6_copy_19 : decode cX6_copy 19 = .ok (.invokevirtual 61, 3) := by decide +kernel
theorem dX6_copy_22 : decode cX6_copy 22 = .ok (.aload_n 0, 1) := by decide +kernel
theorem dX6_copy_23 : decode cX6_copy 23 = .ok (.getfield 30, 3) := by decide +kernel
theorem dX6_copy_26 : decode cX6_copy 26 = .ok (.aload_n 1, 1) := by decide +kernel
theorem dX6_copy_27 : decode cX6_copy 27 = .ok (.getfield 30, 3) := by decide +kernel
theorem dX6_copy_30 : decode cX6_copy 30 = .ok (.invokevirtual 64, 3) := by decide +kernel
theorem dX6_copy_33 : decode cX6_copy 33 = .ok (.aload_n 0, 1) := by decide +kernel
theorem dX6_copy_34 : decode cX6_copy 34 = .ok (.getfield 34, 3) := by decide +kernel
theorem dX6_copy_37 : decode cX6_copy 37 = .ok (.aload_n 1, 1) := by decide +kernel
theorem dX6_copy_38 : decode cX6_copy 38 = .ok (.getfield 34, 3) := by decide +kernel
theorem dX6_copy_41 : decode cX6_copy 41 = .ok (.invokevirtual 64, 3) := by decide +kernel
theorem dX6_copy_44 : decode cX6_copy 44 = .ok (.aload_n 1, 1) := by decide +kernel
theorem dX6_copy_45 : decode cX6_copy 45 = .ok (.getfield 37, 3) := by decide +kernel
theorem dX6_copy_48 : decode cX6_copy 48 = .ok (.iconst 0, 1) := by decide +kernel
theorem dX6_copy_49 : decode cX6_copy 49 = .ok (.aload_n 0, 1) := by decide +kernel
theorem dX6_copy_50 : decode cX6_copy 50 = .ok (.getfield 37, 3) := by decide +kernel
theorem dX6_copy_53 : decode cX6_copy 53 = .ok (.iconst 0, 1) := by decide +kernel
theorem dX6_copy_54 : decode cX6_copy 54 = .ok (.aload_n 0, 1) := by decide +kernel
theorem dX6_copy_55 : decode cX6_copy 55 = .ok (.getfield 37, 3) := by decide +kernel
theorem dX6_copy_58 : decode cX6_copy 58 = .ok (.arraylength, 1) := by decide +kernel
theorem dX6_copy_59 : decode cX6_copy 59 = .ok (.invokestatic 67, 3) := by decide +kernel
theorem dX6_copy_62 : decode cX6_copy 62 = .ok (.aload_n 1, 1) := by decide +kernel
theorem dX6_copy_63 : decode cX6_copy 63 = .ok (.getfield 41, 3) := by decide +kernel
theorem dX6_copy_66 : decode cX6_copy 66 = .ok (.iconst 0, 1) := by decide +kernel
theorem dX6_copy_67 : decode cX6_copy 67 = .ok (.aload_n 0, 1) := by decide +kernel
theorem dX6_copy_68 : decode cX6_copy 68 = .ok (.getfield 41, 3) := by decide +kernel
theorem dX6_copy_71 : decode cX6_copy 71 = .ok (.iconst 0, 1) := by decide +kernel
theorem dX6_copy_72 : decode cX6_copy 72 = .ok (.bipush 7, 2) := by decide +kernel
theorem dX6_copy_74 : decode cX6_copy 74 = .ok (.invokestatic 67, 3) := by decide +kernel
theorem dX6_copy_77 : decode cX6_copy 77 = .ok (.aload_n 1, 1) := by decide +kernel
theorem dX6_copy_78 : decode cX6_copy 78 = .ok (.getfield 44, 3) := by decide +kernel
theorem dX6_copy_81 : decode cX6_copy 81 = .ok (.iconst 0, 1) := by decide +kernel
theorem dX6_copy_82 : decode cX6_copy 82 = .ok (.aload_n 0, 1) := by decide +kernel
theorem dX6_copy_83 : decode cX6_copy 83 = .ok (.getfield 44, 3) := by decide +kernel
theorem dX6_copy_86 : decode cX6_copy 86 = .ok (.iconst 0, 1) := by decide +kernel
theorem dX6_copy_87 : decode cX6_copy 87 = .ok (.bipush 7, 2) := by decide +kernel
theorem dX6_copy_89 : decode cX6_copy 89 = .ok (.invokestatic 67, 3) := by decide +kernel
theorem dX6_copy_92 : decode cX6_copy 92 = .ok (.aload_n 0, 1) := by decide +kernel
theorem dX6_copy_93 : decode cX6_copy 93 = .ok (.aload_n 1, 1) := by decide +kernel
theorem dX6_copy_94 : decode cX6_copy 94 = .ok (.getfield 47, 3) := by decide +kernel
theorem dX6_copy_97 : decode cX6_copy 97 = .ok (.putfield 47, 3) := by decide +kernel
theorem dX6_copy_100 : decode cX6_copy 100 = .ok (.aload_n 0, 1) := by decide +kernel
theorem dX6_copy_101 : decode cX6_copy 101 = .ok (.aload_n 1, 1) := by decide +kernel
theorem dX6_copy_102 : decode cX6_copy 102 = .ok (.getfield 51, 3) := by decide +kernel
theorem dX6_copy_105 : decode cX6_copy 105 = .ok (.putfield 51, 3) := by decide +kernel
theorem dX6_copy_108 : decode cX6_copy 108 = .ok (.aload_n 0, 1) := by decide +kernel
theorem dX6_copy_109 : decode cX6_copy 109 = .ok (.aload_n 1, 1) := by decide +kernel
theorem dX6_copy_110 : decode cX6_copy 110 = .ok (.getfield 54, 3) := by decide +kernel
theorem dX6_copy_113 : decode cX6_copy 113 = .ok (.putfield 54, 3) := by decide +kernel
theorem dX6_copy_116 : decode cX6_copy 116 = .ok (.return_, 1) := by decide +kernel
theorem dX6_hasChild_0 : decode cX6_hasChild 0 = .ok (.iload_n 1, 1) := by decide +kernel
theorem dX6_hasChild_1 : decode cX6_hasChild 1 = .ok (.ifCond .lt 15, 3) := by decide +kernel
theorem dX6_hasChild_4 : decode cX6_hasChild 4 = .ok (.iload_n 1, 1) := by decide +kernel
theorem dX6_hasChild_5 : decode cX6_hasChild 5 = .ok (.aload_n 0, 1) := by decide +kernel
theorem dX6_hasChild_6 : decode cX6_hasChild 6 = .ok (.getfield 47, 3) := by decide +kernel
theorem dX6_hasChild_9 : decode cX6_hasChild 9 = .ok (.if_icmp .ge 7, 3) := by decide +kernel
theorem dX6_hasChild_12 : decode cX6_hasChild 12 = .ok (.iconst 1, 1) := by decide +kernel
theorem dX6_hasChild_13 : decode cX6_hasChild 13 = .ok (.goto 4, 3) := by decide +kernel
theorem dX6_hasChild_16 : decode cX6_hasChild 16 = .ok (.iconst 0, 1) := by decide +kernel
theorem dX6_hasChild_17 : decode cX6_hasChild 17 = .ok (.ireturn, 1) := by decide +kernel
theorem dX6_hasText_0 : decode cX6_hasText 0 = .ok (.iload_n 1, 1) := by decide +kernel
theorem dX6_hasText_1 : decode cX6_hasText 1 = .ok (.ifCond .lt 15, 3) := by decide +kernel
theorem dX6_hasText_4 : decode cX6_hasText 4 = .ok (.iload_n 1, 1) := by decide +kernel
theorem dX6_hasText_5 : decode cX6_hasText 5 = .ok (.aload_n 0, 1) := by decide +kernel
theorem dX6_hasText_6 : decode cX6_hasText 6 = .ok (.getfield 51, 3) := by decide +kernel
theorem dX6_hasText_9 : decode cX6_hasText 9 = .ok (.if_icmp .ge 7, 3) := by decide +kernel
theorem dX6_hasText_12 : decode cX6_hasText 12 = .ok (.iconst 1, 1) := by decide +kernel
theorem dX6_hasText_13 : decode cX6_hasText 13 = .ok (.goto 4, 3) := by decide +kernel
theorem dX6_hasText_16 : decode cX6_hasText 16 = .ok (.iconst 0, 1) := by decide +kernel
theorem dX6_hasText_17 : decode cX6_hasText 17 = .ok (.ireturn, 1) := by decide +kernel
theorem dX6_numberless_0 : decode cX6_numberless 0 = .ok (.iconst 0, 1) := by decide +kernel
theorem dX6_numberless_1 : decode cX6_numberless 1 = .ok (.istore_n 1, 1) := by decide +kernel
theorem dX6_numberless_2 : decode cX6_numberless 2 = .ok (.iconst 0, 1) := by decide +kernel
theorem dX6_numberless_3 : decode cX6_numberless 3 = .ok (.istore_n 2, 1) := by decide +kernel
theorem dX6_numberless_4 : decode cX6_numberless 4 = .ok (.iload_n 2, 1) := by decide +kernel
theorem dX6_numberless_5 : decode cX6_numberless 5 = .ok (.aload_n 0, 1) := by decide +kernel
theorem dX6_numberless_6 : decode cX6_numberless 6 = .ok (.getfield 47, 3) := by decide +kernel
theorem dX6_numberless_9 : decode cX6_numberless 9 = .ok (.if_icmp .ge 28, 3) := by decide +kernel
theorem dX6_numberless_12 : decode cX6_numberless 12 = .ok (.aload_n 0, 1) := by decide +kernel
theorem dX6_numberless_13 : decode cX6_numberless 13 = .ok (.getfield 12, 3) := by decide +kernel
theorem dX6_numberless_16 : decode cX6_numberless 16 = .ok (.getfield 73, 3) := by decide +kernel
theorem dX6_numberless_19 : decode cX6_numberless 19 = .ok (.iload_n 2, 1) := by decide +kernel
theorem dX6_numberless_20 : decode cX6_numberless 20 = .ok (.iaload, 1) := by decide +kernel
theorem dX6_numberless_21 : decode cX6_numberless 21 = .ok (.iconst (-1), 1) := by decide +kernel
theorem dX6_numberless_22 : decode cX6_numberless 22 = .ok (.if_icmp .ne 9, 3) := by decide +kernel
theorem dX6_numberless_25 : decode cX6_numberless 25 = .ok (.iload_n 1, 1) := by decide +kernel
theorem dX6_numberless_26 : decode cX6_numberless 26 = .ok (.iconst 1, 1) := by decide +kernel
theorem dX6_numberless_27 : decode cX6_numberless 27 = .ok (.iload_n 2, 1) := by decide +kernel
theorem dX6_numberless_28 : decode cX6_numberless 28 = .ok (.ishl, 1) := by decide +kernel
theorem dX6_numberless_29 : decode cX6_numberless 29 = .ok (.ior, 1) := by decide +kernel
theorem dX6_numberless_30 : decode cX6_numberless 30 = .ok (.istore_n 1, 1) := by decide +kernel
theorem dX6_numberless_31 : decode cX6_numberless 31 = .ok (.iinc 2 1, 3) := by decide +kernel
theorem dX6_numberless_34 : decode cX6_numberless 34 = .ok (.goto (-30), 3) := by decide +kernel
theorem dX6_numberless_37 : decode cX6_numberless 37 = .ok (.iload_n 1, 1) := by decide +kernel
theorem dX6_numberless_38 : decode cX6_numberless 38 = .ok (.ireturn, 1) := by decide +kernel
theorem dX7_init_0 : decode cX7_init 0 = .ok (.aload_n 0, 1) := by decide +kernel
theorem dX7_init_1 : decode cX7_init 1 = .ok (.invokespecial 3, 3) := by decide +kernel
theorem dX7_init_4 : decode cX7_init 4 = .ok (.aload_n 0, 1) := by decide +kernel
theorem dX7_init_5 : decode cX7_init 5 = .ok (.bipush 30, 2) := by decide +kernel
theorem dX7_init_7 : decode cX7_init 7 = .ok (.anewarray 9, 3) := by decide +kernel
theorem dX7_init_10 : decode cX7_init 10 = .ok (.putfield 11, 3) := by decide +kernel
theorem dX7_init_13 : decode cX7_init 13 = .ok (.aload_n 0, 1) := by decide +kernel
theorem dX7_init_14 : decode cX7_init 14 = .ok (.iconst 0, 1) := by decide +kernel
theorem dX7_init_15 : decode cX7_init 15 = .ok (.putfield 17, 3) := by decide +kernel
theorem dX7_init_18 : decode cX7_init 18 = .ok (.aload_n 0, 1) := by decide +kernel
theorem dX7_init_19 : decode cX7_init 19 = .ok (.iconst 0, 1) := by decide +kernel
theorem dX7_init_20 : decode cX7_init 20 = .ok (.putfield 21, 3) := by decide +kernel
theorem dX7_init_23 : decode cX7_init 23 = .ok (.return_, 1) := by decide +kernel
theorem dX7_keep_0 : decode cX7_keep 0 = .ok (.aload_n 0, 1) := by decide +kernel
theorem dX7_keep_1 : decode cX7_keep 1 = .ok (.getfield 21, 3) := by decide +kernel
theorem dX7_keep_4 : decode cX7_keep 4 = .ok (.bipush 30, 2) := by decide +kernel
theorem dX7_keep_6 : decode cX7_keep 6 = .ok (.if_icmp .ne 26, 3) := by decide +kernel
theorem dX7_keep_9 : decode cX7_keep 9 = .ok (.aload_n 0, 1) := by decide +kernel
theorem dX7_keep_10 : decode cX7_keep 10 = .ok (.aload_n 0, 1) := by decide +kernel
theorem dX7_keep_11 : decode cX7_keep 11 = .ok (.getfield 17, 3) := by decide +kernel
theorem dX7_keep_14 : decode cX7_keep 14 = .ok (.iconst 1, 1) := by decide +kernel
theorem dX7_keep_15 : decode cX7_keep 15 = .ok (.iadd, 1) := by decide +kernel
theorem dX7_keep_16 : decode cX7_keep 16 = .ok (.bipush 30, 2) := by decide +kernel
theorem dX7_keep_18 : decode cX7_keep 18 = .ok (.irem, 1) := by decide +kernel
theorem dX7_keep_19 : decode cX7_keep 19 = .ok (.putfield 17, 3) := by decide +kernel
theorem dX7_keep_22 : decode cX7_keep 22 = .ok (.aload_n 0, 1) := by decide +kernel
theorem dX7_keep_23 : decode cX7_keep 23 = .ok (.dup, 1) := by decide +kernel
theorem dX7_keep_24 : decode cX7_keep 24 = .ok (.getfield 21, 3) := by decide +kernel
theorem dX7_keep_27 : decode cX7_keep 27 = .ok (.iconst 1, 1) := by decide +kernel
theorem dX7_keep_28 : decode cX7_keep 28 = .ok (.isub, 1) := by decide +kernel
theorem dX7_keep_29 : decode cX7_keep 29 = .ok (.putfield 21, 3) := by decide +kernel
theorem dX7_keep_32 : decode cX7_keep 32 = .ok (.aload_n 0, 1) := by decide +kernel
theorem dX7_keep_33 : decode cX7_keep 33 = .ok (.aload_n 0, 1) := by decide +kernel
theorem dX7_keep_34 : decode cX7_keep 34 = .ok (.getfield 21, 3) := by decide +kernel
theorem dX7_keep_37 : decode cX7_keep 37 = .ok (.invokevirtual 24, 3) := by decide +kernel
theorem dX7_keep_40 : decode cX7_keep 40 = .ok (.aload_n 1, 1) := by decide +kernel
theorem dX7_keep_41 : decode cX7_keep 41 = .ok (.invokevirtual 28, 3) := by decide +kernel
theorem dX7_keep_44 : decode cX7_keep 44 = .ok (.aload_n 0, 1) := by decide +kernel
theorem dX7_keep_45 : decode cX7_keep 45 = .ok (.dup, 1) := by decide +kernel
theorem dX7_keep_46 : decode cX7_keep 46 = .ok (.getfield 21, 3) := by decide +kernel
theorem dX7_keep_49 : decode cX7_keep 49 = .ok (.iconst 1, 1) := by decide +kernel
theorem dX7_keep_50 : decode cX7_keep 50 = .ok (.iadd, 1) := by decide +kernel
theorem dX7_keep_51 : decode cX7_keep 51 = .ok (.putfield 21, 3) := by decide +kernel
theorem dX7_keep_54 : decode cX7_keep 54 = .ok (.return_, 1) := by decide +kernel
theorem dX7_takeBack_0 : decode cX7_takeBack 0 = .ok (.aload_n 0, 1) := by decide +kernel
theorem dX7_takeBack_1 : decode cX7_takeBack 1 = .ok (.getfield 21, 3) := by decide +kernel
theorem dX7_takeBack_4 : decode cX7_takeBack 4 = .ok (.ifCond .ne 5, 3) := by decide +kernel
theorem dX7_takeBack_7 : decode cX7_takeBack 7 = .ok (.iconst 0, 1) := by decide +kernel
theorem dX7_takeBack_8 : decode cX7_takeBack 8 = .ok (.ireturn, 1) := by decide +kernel
theorem dX7_takeBack_9 : decode cX7_takeBack 9 = .ok (.aload_n 0, 1) := by decide +kernel
theorem dX7_takeBack_10 : decode cX7_takeBack 10 = .ok (.dup, 1) := by decide +kernel
theorem dX7_takeBack_11 : decode cX7_takeBack 11 = .ok (.getfield 21, 3) := by decide +kernel
theorem dX7_takeBack_14 : decode cX7_takeBack 14 = .ok (.iconst 1, 1) := by decide +kernel
theorem dX7_takeBack_15 : decode cX7_takeBack 15 = .ok (.isub, 1) := by decide +kernel
theorem dX7_takeBack_16 : decode cX7_takeBack 16 = .ok (.putfield 21, 3) := by decide +kernel
theorem dX7_takeBack_19 : decode cX7_takeBack 19 = .ok (.aload_n 1, 1) := by decide +kernel
theorem dX7_takeBack_20 : decode cX7_takeBack 20 = .ok (.aload_n 0, 1) := by decide +kernel
theorem dX7_takeBack_21 : decode cX7_takeBack 21 = .ok (.aload_n 0, 1) := by decide +kernel
theorem dX7_takeBack_22 : decode cX7_takeBack 22 = .ok (.getfield 21, 3) := by decide +kernel
theorem dX7_takeBack_25 : decode cX7_takeBack 25 = .ok (.invokevirtual 24, 3) := by decide +kernel
theorem dX7_takeBack_28 : decode cX7_takeBack 28 = .ok (.invokevirtual 28, 3) := by decide +kernel
theorem dX7_takeBack_31 : decode cX7_takeBack 31 = .ok (.iconst 1, 1) := by decide +kernel
theorem dX7_takeBack_32 : decode cX7_takeBack 32 = .ok (.ireturn, 1) := by decide +kernel
theorem dX7_tellKind_0 : decode cX7_tellKind 0 = .ok (.iconst 0, 1) := by decide +kernel
theorem dX7_tellKind_1 : decode cX7_tellKind 1 = .ok (.istore_n 3, 1) := by decide +kernel
theorem dX7_tellKind_2 : decode cX7_tellKind 2 = .ok (.iload_n 3, 1) := by decide +kernel
theorem dX7_tellKind_3 : decode cX7_tellKind 3 = .ok (.aload_n 0, 1) := by decide +kernel
theorem dX7_tellKind_4 : decode cX7_tellKind 4 = .ok (.getfield 21, 3) := by decide +kernel
theorem dX7_tellKind_7 : decode cX7_tellKind 7 = .ok (.if_icmp .ge 20, 3) := by decide +kernel
theorem dX7_tellKind_10 : decode cX7_tellKind 10 = .ok (.aload_n 0, 1) := by decide +kernel
theorem dX7_tellKind_11 : decode cX7_tellKind 11 = .ok (.iload_n 3, 1) := by decide +kernel
theorem dX7_tellKind_12 : decode cX7_tellKind 12 = .ok (.invokevirtual 24, 3) := by decide +kernel
theorem dX7_tellKind_15 : decode cX7_tellKind 15 = .ok (.getfield 32, 3) := by decide +kernel
theorem dX7_tellKind_18 : decode cX7_tellKind 18 = .ok (.iload_n 1, 1) := by decide +kernel
theorem dX7_tellKind_19 : decode cX7_tellKind 19 = .ok (.iload_n 2, 1) := by decide +kernel
theorem dX7_tellKind_20 : decode cX7_tellKind 20 = .ok (.iastore, 1) := by decide +kernel
theorem dX7_tellKind_21 : decode cX7_tellKind 21 = .ok (.iinc 3 1, 3) := by decide +kernel
theorem dX7_tellKind_24 : decode cX7_tellKind 24 = .ok (.goto (-22), 3) := by decide +kernel
theorem dX7_tellKind_27 : decode cX7_tellKind 27 = .ok (.return_, 1) := by decide +kernel
theorem dX7_tellPaint_0 : decode cX7_tellPaint 0 = .ok (.iconst 0, 1) := by decide +kernel
theorem dX7_tellPaint_1 : decode cX7_tellPaint 1 = .ok (.istore_n 3, 1) := by decide +kernel
theorem dX7_tellPaint_2 : decode cX7_tellPaint 2 = .ok (.iload_n 3, 1) := by decide +kernel
theorem dX7_tellPaint_3 : decode cX7_tellPaint 3 = .ok (.aload_n 0, 1) := by decide +kernel
theorem dX7_tellPaint_4 : decode cX7_tellPaint 4 = .ok (.getfield 21, 3) := by decide +kernel
theorem dX7_tellPaint_7 : decode cX7_tellPaint 7 = .ok (.if_icmp .ge 20, 3) := by decide +kernel
theorem dX7_tellPaint_10 : decode cX7_tellPaint 10 = .ok (.aload_n 0, 1) := by decide +kernel
theorem dX7_tellPaint_11 : decode cX7_tellPaint 11 = .ok (.iload_n 3, 1) := by decide +kernel
theorem dX7_tellPaint_12 : decode cX7_tellPaint 12 = .ok (.invokevirtual 24, 3) := by decide +kernel
theorem dX7_tellPaint_15 : decode cX7_tellPaint 15 = .ok (.getfield 36, 3) := by decide +kernel
theorem dX7_tellPaint_18 : decode cX7_tellPaint 18 = .ok (.iload_n 1, 1) := by decide +kernel
theorem dX7_tellPaint_19 : decode cX7_tellPaint 19 = .ok (.iload_n 2, 1) := by decide +kernel
theorem dX7_tellPaint_20 : decode cX7_tellPaint 20 = .ok (.iastore, 1) := by decide +kernel
theorem dX7_tellPaint_21 : decode cX7_tellPaint 21 = .ok (.iinc 3 1, 3) := by decide +kernel
theorem dX7_tellPaint_24 : decode cX7_tellPaint 24 = .ok (.goto (-22), 3) := by decide +kernel
theorem dX7_tellPaint_27 : decode cX7_tellPaint 27 = .ok (.return_, 1) := by decide +kernel
theorem dX7_copy_0 : decode cX7_copy 0 = .ok (.aload_n 0, 1) := by decide +kernel
theorem dX7_copy_1 : decode cX7_copy 1 = .ok (.iconst 0, 1) := by decide +kernel
theorem dX7_copy_2 : decode cX7_copy 2 = .ok (.putfield 17, 3) := by decide +kernel
theorem dX7_copy_5 : decode cX7_copy 5 = .ok (.aload_n 0, 1) := by decide +kernel
theorem dX7_copy_6 : decode cX7_copy 6 = .ok (.aload_n 1, 1) := by decide +kernel
theorem dX7_copy_7 : decode cX7_copy 7 = .ok (.getfield 21, 3) := by decide +kernel
theorem dX7_copy_10 : decode cX7_copy 10 = .ok (.putfield 21, 3) := by decide +kernel
theorem dX7_copy_13 : decode cX7_copy 13 = .ok (.iconst 0, 1) := by decide +kernel
theorem dX7_copy_14 : decode cX7_copy 14 = .ok (.istore_n 2, 1) := by decide +kernel
theorem dX7_copy_15 : decode cX7_copy 15 = .ok (.iload_n 2, 1) := by decide +kernel
theorem dX7_copy_16 : decode cX7_copy 16 = .ok (.aload_n 0, 1) := by decide +kernel
theorem dX7_copy_17 : decode cX7_copy 17 = .ok (.getfield 21, 3) := by decide +kernel
theorem dX7_copy_20 : decode cX7_copy 20 = .ok (.if_icmp .ge 22, 3) := by decide +kernel
theorem dX7_copy_23 : decode cX7_copy 23 = .ok (.aload_n 0, 1) := by decide +kernel
theorem dX7_copy_24 : decode cX7_copy 24 = .ok (.iload_n 2, 1) := by decide +kernel
theorem dX7_copy_25 : decode cX7_copy 25 = .ok (.invokevirtual 24, 3) := by decide +kernel
theorem dX7_copy_28 : decode cX7_copy 28 = .ok (.aload_n 1, 1) := by decide +kernel
theorem dX7_copy_29 : decode cX7_copy 29 = .ok (.iload_n 2, 1) := by decide +kernel
theorem dX7_copy_30 : decode cX7_copy 30 = .ok (.invokevirtual 24, 3) := by decide +kernel
theorem dX7_copy_33 : decode cX7_copy 33 = .ok (.invokevirtual 28, 3) := by decide +kernel
theorem dX7_copy_36 : decode cX7_copy 36 = .ok (.iinc 2 1, 3) := by decide +kernel
theorem dX7_copy_39 : decode cX7_copy 39 = .ok (.goto (-24), 3) := by decide +kernel
theorem dX7_copy_42 : decode cX7_copy 42 = .ok (.return_, 1) := by decide +kernel
theorem dX7_row_0 : decode cX7_row 0 = .ok (.aload_n 0, 1) := by decide +kernel
theorem dX7_row_1 : decode cX7_row 1 = .ok (.getfield 17, 3) := by decide +kernel
theorem dX7_row_4 : decode cX7_row 4 = .ok (.iload_n 1, 1) := by decide +kernel
theorem dX7_row_5 : decode cX7_row 5 = .ok (.iadd, 1) := by decide +kernel
theorem dX7_row_6 : decode cX7_row 6 = .ok (.bipush 30, 2) := by decide +kernel
theorem dX7_row_8 : decode cX7_row 8 = .ok (.irem, 1) := by decide +kernel
theorem dX7_row_9 : decode cX7_row 9 = .ok (.istore_n 2, 1) := by decide +kernel
theorem dX7_row_10 : decode cX7_row 10 = .ok (.aload_n 0, 1) := by decide +kernel
theorem dX7_row_11 : decode cX7_row 11 = .ok (.getfield 11, 3) := by decide +kernel
theorem dX7_row_14 : decode cX7_row 14 = .ok (.iload_n 2, 1) := by decide +kernel
theorem dX7_row_15 : decode cX7_row 15 = .ok (.aaload, 1) := by decide +kernel
theorem dX7_row_16 : decode cX7_row 16 = .ok (.ifnonnull 16, 3) := by decide +kernel
theorem dX7_row_19 : decode cX7_row 19 = .ok (.aload_n 0, 1) := by decide +kernel
theorem dX7_row_20 : decode cX7_row 20 = .ok (.getfield 11, 3) := by decide +kernel
theorem dX7_row_23 : decode cX7_row 23 = .ok (.iload_n 2, 1) := by decide +kernel
theorem dX7_row_24 : decode cX7_row 24 = .ok (.new 9, 3) := by decide +kernel
theorem dX7_row_27 : decode cX7_row 27 = .ok (.dup, 1) := by decide +kernel
theorem dX7_row_28 : decode cX7_row 28 = .ok (.invokespecial 39, 3) := by decide +kernel
theorem dX7_row_31 : decode cX7_row 31 = .ok (.aastore, 1) := by decide +kernel
theorem dX7_row_32 : decode cX7_row 32 = .ok (.aload_n 0, 1) := by decide +kernel
theorem dX7_row_33 : decode cX7_row 33 = .ok (.getfield 11, 3) := by decide +kernel
theorem dX7_row_36 : decode cX7_row 36 = .ok (.iload_n 2, 1) := by decide +kernel
theorem dX7_row_37 : decode cX7_row 37 = .ok (.aaload, 1) := by decide +kernel
theorem dX7_row_38 : decode cX7_row 38 = .ok (.areturn, 1) := by decide +kernel
theorem dX8_init_0 : decode cX8_init 0 = .ok (.aload_n 0, 1) := by decide +kernel
theorem dX8_init_1 : decode cX8_init 1 = .ok (.invokespecial 1, 3) := by decide +kernel
theorem dX8_init_4 : decode cX8_init 4 = .ok (.aload_n 0, 1) := by decide +kernel
theorem dX8_init_5 : decode cX8_init 5 = .ok (.aload_n 1, 1) := by decide +kernel
theorem dX8_init_6 : decode cX8_init 6 = .ok (.putfield 7, 3) := by decide +kernel
theorem dX8_init_9 : decode cX8_init 9 = .ok (.aload_n 0, 1) := by decide +kernel
theorem dX8_init_10 : decode cX8_init 10 = .ok (.aload_n 2, 1) := by decide +kernel
theorem dX8_init_11 : decode cX8_init 11 = .ok (.putfield 13, 3) := by decide +kernel
theorem dX8_init_14 : decode cX8_init 14 = .ok (.aload_n 0, 1) := by decide +kernel
theorem dX8_init_15 : decode cX8_init 15 = .ok (.aload_n 3, 1) := by decide +kernel
theorem dX8_init_16 : decode cX8_init 16 = .ok (.putfield 16, 3) := by decide +kernel
theorem dX8_init_19 : decode cX8_init 19 = .ok (.return_, 1) := by decide +kernel
theorem dX9_init_0 : decode cX9_init 0 = .ok (.aload_n 0, 1) := by decide +kernel
theorem dX9_init_1 : decode cX9_init 1 = .ok (.invokespecial 3, 3) := by decide +kernel
theorem dX9_init_4 : decode cX9_init 4 = .ok (.aload_n 0, 1) := by decide +kernel
theorem dX9_init_5 : decode cX9_init 5 = .ok (.sipush 301, 3) := by decide +kernel
theorem dX9_init_8 : decode cX9_init 8 = .ok (.newarray .int, 2) := by decide +kernel
theorem dX9_init_10 : decode cX9_init 10 = .ok (.putfield 9, 3) := by decide +kernel
theorem dX9_init_13 : decode cX9_init 13 = .ok (.aload_n 0, 1) := by decide +kernel
theorem dX9_init_14 : decode cX9_init 14 = .ok (.sipush 301, 3) := by decide +kernel
theorem dX9_init_17 : decode cX9_init 17 = .ok (.newarray .int, 2) := by decide +kernel
theorem dX9_init_19 : decode cX9_init 19 = .ok (.putfield 15, 3) := by decide +kernel
theorem dX9_init_22 : decode cX9_init 22 = .ok (.aload_n 0, 1) := by decide +kernel
theorem dX9_init_23 : decode cX9_init 23 = .ok (.sipush 301, 3) := by decide +kernel
theorem dX9_init_26 : decode cX9_init 26 = .ok (.newarray .int, 2) := by decide +kernel
theorem dX9_init_28 : decode cX9_init 28 = .ok (.putfield 18, 3) := by decide +kernel
theorem dX9_init_31 : decode cX9_init 31 = .ok (.aload_n 0, 1) := by decide +kernel
theorem dX9_init_32 : decode cX9_init 32 = .ok (.iconst 0, 1) := by decide +kernel
theorem dX9_init_33 : decode cX9_init 33 = .ok (.newarray .int, 2) := by decide +kernel
theorem dX9_init_35 : decode cX9_init 35 = .ok (.putfield 21, 3) := by decide +kernel
theorem dX9_init_38 : decode cX9_init 38 = .ok (.aload_n 0, 1) := by decide +kernel
theorem dX9_init_39 : decode cX9_init 39 = .ok (.iconst 0, 1) := by decide +kernel
theorem dX9_init_40 : decode cX9_init 40 = .ok (.putfield 24, 3) := by decide +kernel
theorem dX9_init_43 : decode cX9_init 43 = .ok (.aload_n 0, 1) := by decide +kernel
theorem dX9_init_44 : decode cX9_init 44 = .ok (.iconst 0, 1) := by decide +kernel
theorem dX9_init_45 : decode cX9_init 45 = .ok (.putfield 28, 3) := by decide +kernel
theorem dX9_init_48 : decode cX9_init 48 = .ok (.aload_n 0, 1) := by decide +kernel
theorem dX9_init_49 : decode cX9_init 49 = .ok (.iconst 0, 1) := by decide +kernel
theorem dX9_init_50 : decode cX9_init 50 = .ok (.putfield 31, 3) := by decide +kernel
theorem dX9_init_53 : decode cX9_init 53 = .ok (.aload_n 0, 1) := by decide +kernel
theorem dX9_init_54 : decode cX9_init 54 = .ok (.iconst 0, 1) := by decide +kernel
theorem dX9_init_55 : decode cX9_init 55 = .ok (.putfield 34, 3) := by decide +kernel
theorem dX9_init_58 : decode cX9_init 58 = .ok (.aload_n 0, 1) := by decide +kernel
theorem dX9_init_59 : decode cX9_init 59 = .ok (.bipush 40, 2) := by decide +kernel
theorem dX9_init_61 : decode cX9_init 61 = .ok (.putfield 37, 3) := by decide +kernel
theorem dX9_init_64 : decode cX9_init 64 = .ok (.aload_n 0, 1) := by decide +kernel
theorem dX9_init_65 : decode cX9_init 65 = .ok (.iconst 0, 1) := by decide +kernel
theorem dX9_init_66 : decode cX9_init 66 = .ok (.putfield 40, 3) := by decide +kernel
theorem dX9_init_69 : decode cX9_init 69 = .ok (.aload_n 0, 1) := by decide +kernel
theorem dX9_init_70 : decode cX9_init 70 = .ok (.iconst 0, 1) := by decide +kernel
theorem dX9_init_71 : decode cX9_init 71 = .ok (.putfield 43, 3) := by decide +kernel
theorem dX9_init_74 : decode cX9_init 74 = .ok (.return_, 1) := by decide +kernel
theorem dX9_open_0 : decode cX9_open 0 = .ok (.aload_n 0, 1) := by decide +kernel
theorem dX9_open_1 : decode cX9_open 1 = .ok (.aload_n 1, 1) := by decide +kernel
theorem dX9_open_2 : decode cX9_open 2 = .ok (.putfield 21, 3) := by decide +kernel
theorem dX9_open_5 : decode cX9_open 5 = .ok (.aload_n 0, 1) := by decide +kernel
theorem dX9_open_6 : decode cX9_open 6 = .ok (.iload_n 2, 1) := by decide +kernel
theorem dX9_open_7 : decode cX9_open 7 = .ok (.iconst 0, 1) := by decide +kernel
theorem dX9_open_8 : decode cX9_open 8 = .ok (.invokestatic 46, 3) := by decide +kernel
theorem dX9_open_11 : decode cX9_open 11 = .ok (.aload_n 1, 1) := by decide +kernel
theorem dX9_open_12 : decode cX9_open 12 = .ok (.arraylength, 1) := by decide +kernel
theorem dX9_open_13 : decode cX9_open 13 = .ok (.invokestatic 52, 3) := by decide +kernel
theorem dX9_open_16 : decode cX9_open 16 = .ok (.sipush 300, 3) := by decide +kernel
theorem dX9_open_19 : decode cX9_open 19 = .ok (.invokestatic 52, 3) := by decide +kernel
theorem dX9_open_22 : decode cX9_open 22 = .ok (.putfield 24, 3) := by decide +kernel
theorem dX9_open_25 : decode cX9_open 25 = .ok (.aload_n 0, 1) := by decide +kernel
theorem dX9_open_26 : decode cX9_open 26 = .ok (.iconst 0, 1) := by decide +kernel
theorem dX9_open_27 : decode cX9_open 27 = .ok (.putfield 28, 3) := by decide +kernel
theorem dX9_open_30 : decode cX9_open 30 = .ok (.aload_n 0, 1) := by decide +kernel
theorem dX9_open_31 : decode cX9_open 31 = .ok (.iconst 0, 1) := by decide +kernel
theorem dX9_open_32 : decode cX9_open 32 = .ok (.putfield 31, 3) := by decide +kernel
theorem dX9_open_35 : decode cX9_open 35 = .ok (.iconst 0, 1) := by decide +kernel
theorem dX9_open_36 : decode cX9_open 36 = .ok (.istore_n 3, 1) := by decide +kernel
theorem dX9_open_37 : decode cX9_open 37 = .ok (.iload_n 3, 1) := by decide +kernel
theorem dX9_open_38 : decode cX9_open 38 = .ok (.sipush 300, 3) := by decide +kernel
theorem dX9_open_41 : decode cX9_open 41 = .ok (.if_icmp .ge 65, 3) := by decide +kernel
theorem dX9_open_44 : decode cX9_open 44 = .ok (.aload_n 0, 1) := by decide +kernel
theorem dX9_open_45 : decode cX9_open 45 = .ok (.getfield 28, 3) := by decide +kernel
theorem dX9_open_48 : decode cX9_open 48 = .ok (.aload_n 0, 1) := by decide +kernel
theorem dX9_open_49 : decode cX9_open 49 = .ok (.getfield 24, 3) := by decide +kernel
theorem dX9_open_52 : decode cX9_open 52 = .ok (.if_icmp .ge 54, 3) := by decide +kernel
theorem dX9_open_55 : decode cX9_open 55 = .ok (.aload_n 0, 1) := by decide +kernel
theorem dX9_open_56 : decode cX9_open 56 = .ok (.getfield 21, 3) := by decide +kernel
theorem dX9_open_59 : decode cX9_open 59 = .ok (.aload_n 0, 1) := by decide +kernel
theorem dX9_open_60 : decode cX9_open 60 = .ok (.getfield 28, 3) := by decide +kernel
theorem dX9_open_63 : decode cX9_open 63 = .ok (.iaload, 1) := by decide +kernel
theorem dX9_open_64 : decode cX9_open 64 = .ok (.bipush 32, 2) := by decide +kernel
theorem dX9_open_66 : decode cX9_open 66 = .ok (.if_icmp .eq 17, 3) := by decide +kernel
theorem dX9_open_69 : decode cX9_open 69 = .ok (.aload_n 0, 1) := by decide +kernel
theorem dX9_open_70 : decode cX9_open 70 = .ok (.getfield 21, 3) := by decide +kernel
theorem dX9_open_73 : decode cX9_open 73 = .ok (.aload_n 0, 1) := by decide +kernel
theorem dX9_open_74 : decode cX9_open 74 = .ok (.getfield 28, 3) := by decide +kernel
theorem dX9_open_77 : decode cX9_open 77 = .ok (.iaload, 1) := by decide +kernel
theorem dX9_open_78 : decode cX9_open 78 = .ok (.bipush 10, 2) := by decide +kernel
theorem dX9_open_80 : decode cX9_open 80 = .ok (.if_icmp .ne 16, 3) := by decide +kernel
theorem dX9_open_83 : decode cX9_open 83 = .ok (.aload_n 0, 1) := by decide +kernel
theorem dX9_open_84 : decode cX9_open 84 = .ok (.dup, 1) := by decide +kernel
theorem dX9_open_85 : decode cX9_open 85 = .ok (.getfield 28, 3) := by decide +kernel
theorem dX9_open_88 : decode cX9_open 88 = .ok (.iconst 1, 1) := by decide +kernel
theorem dX9_open_89 : decode cX9_open 89 = .ok (.iadd, 1) := by decide +kernel
theorem dX9_open_90 : decode cX9_open 90 = .ok (.putfield 28, 3) := by decide +kernel
theorem dX9_open_93 : decode cX9_open 93 = .ok (.goto 7, 3) := by decide +kernel
theorem dX9_open_96 : decode cX9_open 96 = .ok (.aload_n 0, 1) := by decide +kernel
theorem dX9_open_97 : decode cX9_open 97 = .ok (.invokevirtual 55, 3) := by decide +kernel
theorem dX9_open_100 : decode cX9_open 100 = .ok (.iinc 3 1, 3) := by decide +kernel
theorem dX9_open_103 : decode cX9_open 103 = .ok (.goto (-66), 3) := by decide +kernel
theorem dX9_open_106 : decode cX9_open 106 = .ok (.aload_n 0, 1) := by decide +kernel
theorem dX9_open_107 : decode cX9_open 107 = .ok (.bipush 40, 2) := by decide +kernel
theorem dX9_open_109 : decode cX9_open 109 = .ok (.aload_n 0, 1) := by decide +kernel
theorem dX9_open_110 : decode cX9_open 110 = .ok (.getfield 24, 3) := by decide +kernel
theorem dX9_open_113 : decode cX9_open 113 = .ok (.iconst 0, 1) := by decide +kernel
theorem dX9_open_114 : decode cX9_open 114 = .ok (.invokevirtual 58, 3) := by decide +kernel
theorem dX9_open_117 : decode cX9_open 117 = .ok (.aload_n 0, 1) := by decide +kernel
theorem dX9_open_118 : decode cX9_open 118 = .ok (.iconst (-1), 1) := by decide +kernel
theorem dX9_open_119 : decode cX9_open 119 = .ok (.putfield 34, 3) := by decide +kernel
theorem dX9_open_122 : decode cX9_open 122 = .ok (.aload_n 0, 1) := by decide +kernel
theorem dX9_open_123 : decode cX9_open 123 = .ok (.invokevirtual 62, 3) := by decide +kernel
theorem dX9_open_126 : decode cX9_open 126 = .ok (.return_, 1) := by decide +kernel
theorem dX9_step_0 : decode cX9_step 0 = .ok (.aload_n 0, 1) := by decide +kernel
theorem dX9_step_1 : decode cX9_step 1 = .ok (.getfield 34, 3) := by decide +kernel
theorem dX9_step_4 : decode cX9_step 4 = .ok (.iconst 1, 1) := by decide +kernel
theorem dX9_step_5 : decode cX9_step 5 = .ok (.iadd, 1) := by decide +kernel
theorem dX9_step_6 : decode cX9_step 6 = .ok (.aload_n 0, 1) := by decide +kernel
theorem dX9_step_7 : decode cX9_step 7 = .ok (.getfield 31, 3) := by decide +kernel
theorem dX9_step_10 : decode cX9_step 10 = .ok (.if_icmp .ge 52, 3) := by decide +kernel
theorem dX9_step_13 : decode cX9_step 13 = .ok (.aload_n 0, 1) := by decide +kernel
theorem dX9_step_14 : decode cX9_step 14 = .ok (.dup, 1) := by decide +kernel
theorem dX9_step_15 : decode cX9_step 15 = .ok (.getfield 34, 3) := by decide +kernel
theorem dX9_step_18 : decode cX9_step 18 = .ok (.iconst 1, 1) := by decide +kernel
theorem dX9_step_19 : decode cX9_step 19 = .ok (.iadd, 1) := by decide +kernel
theorem dX9_step_20 : decode cX9_step 20 = .ok (.putfield 34, 3) := by decide +kernel
theorem dX9_step_23 : decode cX9_step 23 = .ok (.aload_n 0, 1) := by decide +kernel
theorem dX9_step_24 : decode cX9_step 24 = .ok (.aload_n 0, 1) := by decide +kernel
theorem dX9_step_25 : decode cX9_step 25 = .ok (.getfield 9, 3) := by decide +kernel
theorem dX9_step_28 : decode cX9_step 28 = .ok (.aload_n 0, 1) := by decide +kernel
theorem dX9_step_29 : decode cX9_step 29 = .ok (.getfield 34, 3) := by decide +kernel
theorem dX9_step_32 : decode cX9_step 32 = .ok (.iaload, 1) := by decide +kernel
theorem dX9_step_33 : decode cX9_step 33 = .ok (.putfield 37, 3) := by decide +kernel
theorem dX9_step_36 : decode cX9_step 36 = .ok (.aload_n 0, 1) := by decide +kernel
theorem dX9_step_37 : decode cX9_step 37 = .ok (.aload_n 0, 1) := by decide +kernel
theorem dX9_step_38 : decode cX9_step 38 = .ok (.getfield 15, 3) := by decide +kernel
theorem dX9_step_41 : decode cX9_step 41 = .ok (.aload_n 0, 1) := by decide +kernel
theorem dX9_step_42 : decode cX9_step 42 = .ok (.getfield 34, 3) := by decide +kernel
theorem dX9_step_45 : decode cX9_step 45 = .ok (.iaload, 1) := by decide +kernel
theorem dX9_step_46 : decode cX9_step 46 = .ok (.putfield 40, 3) := by decide +kernel
theorem dX9_step_49 : decode cX9_step 49 = .ok (.aload_n 0, 1) := by decide +kernel
theorem dX9_step_50 : decode cX9_step 50 = .ok (.aload_n 0, 1) := by decide +kernel
theorem dX9_step_51 : decode cX9_step 51 = .ok (.getfield 18, 3) := by decide +kernel
theorem dX9_step_54 : decode cX9_step 54 = .ok (.aload_n 0, 1) := by decide +kernel
theorem dX9_step_55 : decode cX9_step 55 = .ok (.getfield 34, 3) := by decide +kernel
theorem dX9_step_58 : decode cX9_step 58 = .ok (.iaload, 1) := by decide +kernel
theorem dX9_step_59 : decode cX9_step 59 = .ok (.putfield 43, 3) := by decide +kernel
theorem dX9_step_62 : decode cX9_step 62 = .ok (.return_, 1) := by decide +kernel
theorem dX9_take_0 : decode cX9_take 0 = .ok (.aload_n 0, 1) := by decide +kernel
theorem dX9_take_1 : decode cX9_take 1 = .ok (.getfield 28, 3) := by decide +kernel
theorem dX9_take_4 : decode cX9_take 4 = .ok (.istore_n 1, 1) := by decide +kernel
theorem dX9_take_5 : decode cX9_take 5 = .ok (.aload_n 0, 1) := by decide +kernel
theorem dX9_take_6 : decode cX9_take 6 = .ok (.getfield 21, 3) := by decide +kernel
theorem dX9_take_9 : decode cX9_take 9 = .ok (.iload_n 1, 1) := by decide +kernel
theorem dX9_take_10 : decode cX9_take 10 = .ok (.iaload, 1) := by decide +kernel
theorem dX9_take_11 : decode cX9_take 11 = .ok (.invokestatic 65, 3) := by decide +kernel
theorem dX9_take_14 : decode cX9_take 14 = .ok (.ifCond .eq 16, 3) := by decide +kernel
theorem dX9_take_17 : decode cX9_take 17 = .ok (.aload_n 0, 1) := by decide +kernel
theorem dX9_take_18 : decode cX9_take 18 = .ok (.aload_n 0, 1) := by decide +kernel
theorem dX9_take_19 : decode cX9_take 19 = .ok (.invokevirtual 69, 3) := by decide +kernel
theorem dX9_take_22 : decode cX9_take 22 = .ok (.iload_n 1, 1) := by decide +kernel
theorem dX9_take_23 : decode cX9_take 23 = .ok (.iconst 0, 1) := by decide +kernel
theorem dX9_take_24 : decode cX9_take 24 = .ok (.invokevirtual 58, 3) := by decide +kernel
theorem dX9_take_27 : decode cX9_take 27 = .ok (.goto 39, 3) := by decide +kernel
theorem dX9_take_30 : decode cX9_take 30 = .ok (.aload_n 0, 1) := by decide +kernel
theorem dX9_take_31 : decode cX9_take 31 = .ok (.getfield 21, 3) := by decide +kernel
theorem dX9_take_34 : decode cX9_take 34 = .ok (.iload_n 1, 1) := by decide +kernel
theorem dX9_take_35 : decode cX9_take 35 = .ok (.iaload, 1) := by decide +kernel
theorem dX9_take_36 : decode cX9_take 36 = .ok (.invokestatic 73, 3) := by decide +kernel
theorem dX9_take_39 : decode cX9_take 39 = .ok (.ifCond .eq 17, 3) := by decide +kernel
theorem dX9_take_42 : decode cX9_take 42 = .ok (.aload_n 0, 1) := by decide +kernel
theorem dX9_take_43 : decode cX9_take 43 = .ok (.bipush 39, 2) := by decide +kernel
theorem dX9_take_45 : decode cX9_take 45 = .ok (.iload_n 1, 1) := by decide +kernel
theorem dX9_take_46 : decode cX9_take 46 = .ok (.aload_n 0, 1) := by decide +kernel
theorem dX9_take_47 : decode cX9_take 47 = .ok (.invokevirtual 76, 3) := by decide +kernel
theorem dX9_take_50 : decode cX9_take 50 = .ok (.invokevirtual 58, 3) := by decide +kernel
theorem dX9_take_53 : decode cX9_take 53 = .ok (.goto 13, 3) := by decide +kernel
theorem dX9_take_56 : decode cX9_take 56 = .ok (.aload_n 0, 1) := by decide +kernel
theorem dX9_take_57 : decode cX9_take 57 = .ok (.aload_n 0, 1) := by decide +kernel
theorem dX9_take_58 : decode cX9_take 58 = .ok (.invokevirtual 79, 3) := by decide +kernel
theorem dX9_take_61 : decode cX9_take 61 = .ok (.iload_n 1, 1) := by decide +kernel
theorem dX9_take_62 : decode cX9_take 62 = .ok (.iconst 0, 1) := by decide +kernel
theorem dX9_take_63 : decode cX9_take 63 = .ok (.invokevirtual 58, 3) := by decide +kernel
theorem dX9_take_66 : decode cX9_take 66 = .ok (.return_, 1) := by decide +kernel
theorem dX9_put_0 : decode cX9_put 0 = .ok (.aload_n 0, 1) := by decide +kernel
theorem dX9_put_1 : decode cX9_put 1 = .ok (.getfield 31, 3) := by decide +kernel
theorem dX9_put_4 : decode cX9_put 4 = .ok (.sipush 300, 3) := by decide +kernel
theorem dX9_put_7 : decode cX9_put 7 = .ok (.if_icmp .gt 43, 3) := by decide +kernel
theorem dX9_put_10 : decode cX9_put 10 = .ok (.aload_n 0, 1) := by decide +kernel
theorem dX9_put_11 : decode cX9_put 11 = .ok (.getfield 9, 3) := by decide +kernel
theorem dX9_put_14 : decode cX9_put 14 = .ok (.aload_n 0, 1) := by decide +kernel
theorem dX9_put_15 : decode cX9_put 15 = .ok (.getfield 31, 3) := by decide +kernel
theorem dX9_put_18 : decode cX9_put 18 = .ok (.iload_n 1, 1) := by decide +kernel
theorem dX9_put_19 : decode cX9_put 19 = .ok (.iastore, 1) := by decide +kernel
theorem dX9_put_20 : decode cX9_put 20 = .ok (.aload_n 0, 1) := by decide +kernel
theorem dX9_put_21 : decode cX9_put 21 = .ok (.getfield 15, 3) := by decide +kernel
theorem dX9_put_24 : decode cX9_put 24 = .ok (.aload_n 0, 1) := by decide +kernel
theorem dX9_put_25 : decode cX9_put 25 = .ok (.getfield 31, 3) := by decide +kernel
theorem dX9_put_28 : decode cX9_put 28 = .ok (.iload_n 2, 1) := by decide +kernel
theorem dX9_put_29 : decode cX9_put 29 = .ok (.iastore, 1) := by decide +kernel
theorem dX9_put_30 : decode cX9_put 30 = .ok (.aload_n 0, 1) := by decide +kernel
theorem dX9_put_31 : decode cX9_put 31 = .ok (.getfield 18, 3) := by decide +kernel
theorem dX9_put_34 : decode cX9_put 34 = .ok (.aload_n 0, 1) := by decide +kernel
theorem dX9_put_35 : decode cX9_put 35 = .ok (.getfield 31, 3) := by decide +kernel
theorem dX9_put_38 : decode cX9_put 38 = .ok (.iload_n 3, 1) := by decide +kernel
theorem dX9_put_39 : decode cX9_put 39 = .ok (.iastore, 1) := by decide +kernel
theorem dX9_put_40 : decode cX9_put 40 = .ok (.aload_n 0, 1) := by decide +kernel
theorem dX9_put_41 : decode cX9_put 41 = .ok (.dup, 1) := by decide +kernel
theorem dX9_put_42 : decode cX9_put 42 = .ok (.getfield 31, 3) := by decide +kernel
theorem dX9_put_45 : decode cX9_put 45 = .ok (.iconst 1, 1) := by decide +kernel
theorem dX9_put_46 : decode cX9_put 46 = .ok (.iadd, 1) := by decide +kernel
theorem dX9_put_47 : decode cX9_put 47 = .ok (.putfield 31, 3) := by decide +kernel
theorem dX9_put_50 : decode cX9_put 50 = .ok (.return_, 1) := by decide +kernel
theorem dX9_takeWord_0 : decode cX9_takeWord 0 = .ok (.aload_n 0, 1) := by decide +kernel
theorem dX9_takeWord_1 : decode cX9_takeWord 1 = .ok (.getfield 28, 3) := by decide +kernel
theorem dX9_takeWord_4 : decode cX9_takeWord 4 = .ok (.istore_n 1, 1) := by decide +kernel
theorem dX9_takeWord_5 : decode cX9_takeWord 5 = .ok (.aload_n 0, 1) := by decide +kernel
theorem dX9_takeWord_6 : decode cX9_takeWord 6 = .ok (.getfield 28, 3) := by decide +kernel
theorem dX9_takeWord_9 : decode cX9_takeWord 9 = .ok (.aload_n 0, 1) := by decide +kernel
theorem dX9_takeWord_10 : decode cX9_takeWord 10 = .ok (.getfield 24, 3) := by decide +kernel
theorem dX9_takeWord_13 : decode cX9_takeWord 13 = .ok (.if_icmp .ge 31, 3) := by decide +kernel
theorem dX9_takeWord_16 : decode cX9_takeWord 16 = .ok (.aload_n 0, 1) := by decide +kernel
theorem dX9_takeWord_17 : decode cX9_takeWord 17 = .ok (.getfield 21, 3) := by decide +kernel
theorem dX9_takeWord_20 : decode cX9_takeWord 20 = .ok (.aload_n 0, 1) := by decide +kernel
theorem dX9_takeWord_21 : decode cX9_takeWord 21 = .ok (.getfield 28, 3) := by decide +kernel
theorem dX9_takeWord_24 : decode cX9_takeWord 24 = .ok (.iaload, 1) := by decide +kernel
theorem dX9_takeWord_25 : decode cX9_takeWord 25 = .ok (.invokestatic 65, 3) := by decide +kernel
theorem dX9_takeWord_28 : decode cX9_takeWord 28 = .ok (.ifCond .eq 16, 3) := by decide +kernel
theorem dX9_takeWord_31 : decode cX9_takeWord 31 = .ok (.aload_n 0, 1) := by decide +kernel
theorem dX9_takeWord_32 : decode cX9_takeWord 32 = .ok (.dup, 1) := by decide +kernel
theorem dX9_takeWord_33 : decode cX9_takeWord 33 = .ok (.getfield 28, 3) := by decide +kernel
theorem dX9_takeWord_36 : decode cX9_takeWord 36 = .ok (.iconst 1, 1) := by decide +kernel
theorem dX9_takeWord_37 : decode cX9_takeWord 37 = .ok (.iadd, 1) := by decide +kernel
theorem dX9_takeWord_38 : decode cX9_takeWord 38 = .ok (.putfield 28, 3) := by decide +kernel
theorem dX9_takeWord_41 : decode cX9_takeWord 41 = .ok (.goto (-36), 3) := by decide +kernel
theorem dX9_takeWord_44 : decode cX9_takeWord 44 = .ok (.aload_n 0, 1) := by decide +kernel
theorem dX9_takeWord_45 : decode cX9_takeWord 45 = .ok (.iload_n 1, 1) := by decide +kernel
theorem dX9_takeWord_46 : decode cX9_takeWord 46 = .ok (.aload_n 0, 1) := by decide +kernel
theorem dX9_takeWord_47 : decode cX9_takeWord 47 = .ok (.getfield 28, 3) := by decide +kernel
theorem dX9_takeWord_50 : decode cX9_takeWord 50 = .ok (.invokevirtual 82, 3) := by decide +kernel
theorem dX9_takeWord_53 : decode cX9_takeWord 53 = .ok (.ireturn, 1) := by decide +kernel
theorem dX9_takeNumber_0 : decode cX9_takeNumber 0 = .ok (.iconst 0, 1) := by decide +kernel
theorem dX9_takeNumber_1 : decode cX9_takeNumber 1 = .ok (.istore_n 1, 1) := by decide +kernel
theorem dX9_takeNumber_2 : decode cX9_takeNumber 2 = .ok (.aload_n 0, 1) := by decide +kernel
theorem dX9_takeNumber_3 : decode cX9_takeNumber 3 = .ok (.getfield 28, 3) := by decide +kernel
theorem dX9_takeNumber_6 : decode cX9_takeNumber 6 = .ok (.aload_n 0, 1) := by decide +kernel
theorem dX9_takeNumber_7 : decode cX9_takeNumber 7 = .ok (.getfield 24, 3) := by decide +kernel
theorem dX9_takeNumber_10 : decode cX9_takeNumber 10 = .ok (.if_icmp .ge 55, 3) := by decide +kernel
theorem dX9_takeNumber_13 : decode cX9_takeNumber 13 = .ok (.aload_n 0, 1) := by decide +kernel
theorem dX9_takeNumber_14 : decode cX9_takeNumber 14 = .ok (.getfield 21, 3) := by decide +kernel
theorem dX9_takeNumber_17 : decode cX9_takeNumber 17 = .ok (.aload_n 0, 1) := by decide +kernel
theorem dX9_takeNumber_18 : decode cX9_takeNumber 18 = .ok (.getfield 28, 3) := by decide +kernel
theorem dX9_takeNumber_21 : decode cX9_takeNumber 21 = .ok (.iaload, 1) := by decide +kernel
theorem dX9_takeNumber_22 : decode cX9_takeNumber 22 = .ok (.invokestatic 73, 3) := by decide +kernel
theorem dX9_takeNumber_25 : decode cX9_takeNumber 25 = .ok (.ifCond .eq 40, 3) := by decide +kernel
theorem dX9_takeNumber_28 : decode cX9_takeNumber 28 = .ok (.iload_n 1, 1) := by decide +kernel
theorem dX9_takeNumber_29 : decode cX9_takeNumber 29 = .ok (.bipush 10, 2) := by decide +kernel
theorem dX9_takeNumber_31 : decode cX9_takeNumber 31 = .ok (.imul, 1) := by decide +kernel
theorem dX9_takeNumber_32 : decode cX9_takeNumber 32 = .ok (.aload_n 0, 1) := by decide +kernel
theorem dX9_takeNumber_33 : decode cX9_takeNumber 33 = .ok (.getfield 21, 3) := by decide +kernel
theorem dX9_takeNumber_36 : decode cX9_takeNumber 36 = .ok (.aload_n 0, 1) := by decide +kernel
theorem dX9_takeNumber_37 : decode cX9_takeNumber 37 = .ok (.getfield 28, 3) := by decide +kernel
theorem dX9_takeNumber_40 : decode cX9_takeNumber 40 = .ok (.iaload, 1) := by decide +kernel
theorem dX9_takeNumber_41 : decode cX9_takeNumber 41 = .ok (.iadd, 1) := by decide +kernel
theorem dX9_takeNumber_42 : decode cX9_takeNumber 42 = .ok (.bipush 48, 2) := by decide +kernel
theorem dX9_takeNumber_44 : decode cX9_takeNumber 44 = .ok (.isub, 1) := by decide +kernel
theorem dX9_takeNumber_45 : decode cX9_takeNumber 45 = .ok (.sipush 10000, 3) := by decide +kernel
theorem dX9_takeNumber_48 : decode cX9_takeNumber 48 = .ok (.invokestatic 52, 3) := by decide +kernel
theorem dX9_takeNumber_51 : decode cX9_takeNumber 51 = .ok (.istore_n 1, 1) := by decide +kernel
theorem dX9_takeNumber_52 : decode cX9_takeNumber 52 = .ok (.aload_n 0, 1) := by decide +kernel
theorem dX9_takeNumber_53 : decode cX9_takeNumber 53 = .ok (.dup, 1) := by decide +kernel
theorem dX9_takeNumber_54 : decode cX9_takeNumber 54 = .ok (.getfield 28, 3) := by decide +kernel
theorem dX9_takeNumber_57 : decode cX9_takeNumber 57 = .ok (.iconst 1, 1) := by decide +kernel
theorem dX9_takeNumber_58 : decode cX9_takeNumber 58 = .ok (.iadd, 1) := by decide +kernel
theorem dX9_takeNumber_59 : decode cX9_takeNumber 59 = .ok (.putfield 28, 3) := by decide +kernel
theorem dX9_takeNumber_62 : decode cX9_takeNumber 62 = .ok (.goto (-60), 3) := by decide +kernel
theorem dX9_takeNumber_65 : decode cX9_takeNumber 65 = .ok (.iload_n 1, 1) := by decide +kernel
theorem dX9_takeNumber_66 : decode cX9_takeNumber 66 = .ok (.ireturn, 1) := by decide +kernel
theorem dX9_takeSign_0 : decode cX9_takeSign 0 = .ok (.ldc 85, 2) := by decide +kernel
theorem dX9_takeSign_2 : decode cX9_takeSign 2 = .ok (.aload_n 0, 1) := by decide +kernel
theorem dX9_takeSign_3 : decode cX9_takeSign 3 = .ok (.getfield 21, 3) := by decide +kernel
theorem dX9_takeSign_6 : decode cX9_takeSign 6 = .ok (.aload_n 0, 1) := by decide +kernel
theorem dX9_takeSign_7 : decode cX9_takeSign 7 = .ok (.getfield 28, 3) := by decide +kernel
theorem dX9_takeSign_10 : decode cX9_takeSign 10 = .ok (.iaload, 1) := by decide +kernel
theorem dX9_takeSign_11 : decode cX9_takeSign 11 = .ok (.i2c, 1) := by decide +kernel
theorem dX9_takeSign_12 : decode cX9_takeSign 12 = .ok (.invokevirtual 87, 3) := by decide +kernel
theorem dX9_takeSign_15 : decode cX9_takeSign 15 = .ok (.istore_n 1, 1) := by decide +kernel
theorem dX9_takeSign_16 : decode cX9_takeSign 16 = .ok (.aload_n 0, 1) := by decide +kernel
theorem dX9_takeSign_17 : decode cX9_takeSign 17 = .ok (.dup, 1) := by decide +kernel
theorem dX9_takeSign_18 : decode cX9_takeSign 18 = .ok (.getfield 28, 3) := by decide +kernel
theorem dX9_takeSign_21 : decode cX9_takeSign 21 = .ok (.iconst 1, 1) := by decide +kernel
theorem dX9_takeSign_22 : decode cX9_takeSign 22 = .ok (.iadd, 1) := by decide +kernel
theorem dX9_takeSign_23 : decode cX9_takeSign 23 = .ok (.putfield 28, 3) := by decide +kernel
theorem dX9_takeSign_26 : decode cX9_takeSign 26 = .ok (.iload_n 1, 1) := by decide +kernel
theorem dX9_takeSign_27 : decode cX9_takeSign 27 = .ok (.ifCond .ge 6, 3) := by decide +kernel
theorem dX9_takeSign_30 : decode cX9_takeSign 30 = .ok (.bipush 41, 2) := by decide +kernel
theorem dX9_takeSign_32 : decode cX9_takeSign 32 = .ok (.ireturn, 1) := by decide +kernel
theorem dX9_takeSign_33 : decode cX9_takeSign 33 = .ok (.bipush 26, 2) := by decide +kernel
theorem dX9_takeSign_35 : decode cX9_takeSign 35 = .ok (.iload_n 1, 1) := by decide +kernel
theorem dX9_takeSign_36 : decode cX9_takeSign 36 = .ok (.iadd, 1) := by decide +kernel
theorem dX9_takeSign_37 : decode cX9_takeSign 37 = .ok (.istore_n 2, 1) := by decide +kernel
theorem dX9_takeSign_38 : decode cX9_takeSign 38 = .ok (.iload_n 2, 1) := by decide +kernel
theorem dX9_takeSign_39 : decode cX9_takeSign 39 = .ok (.bipush 26, 2) := by decide +kernel
theorem dX9_takeSign_41 : decode cX9_takeSign 41 = .ok (.if_icmp .eq 9, 3) := by decide +kernel
theorem dX9_takeSign_44 : decode cX9_takeSign 44 = .ok (.iload_n 2, 1) := by decide +kernel
theorem dX9_takeSign_45 : decode cX9_takeSign 45 = .ok (.bipush 27, 2) := by decide +kernel
theorem dX9_takeSign_47 : decode cX9_takeSign 47 = .ok (.if_icmp .ne 52, 3) := by decide +kernel
theorem dX9_takeSign_50 : decode cX9_takeSign 50 = .ok (.aload_n 0, 1) := by decide +kernel
theorem dX9_takeSign_51 : decode cX9_takeSign 51 = .ok (.getfield 28, 3) := by decide +kernel
theorem dX9_takeSign_54 : decode cX9_takeSign 54 = .ok (.aload_n 0, 1) := by decide +kernel
theorem dX9_takeSign_55 : decode cX9_takeSign 55 = .ok (.getfield 24, 3) := by decide +kernel
theorem dX9_takeSign_58 : decode cX9_takeSign 58 = .ok (.if_icmp .ge 41, 3) := by decide +kernel
theorem dX9_takeSign_61 : decode cX9_takeSign 61 = .ok (.aload_n 0, 1) := by decide +kernel
theorem dX9_takeSign_62 : decode cX9_takeSign 62 = .ok (.getfield 21, 3) := by decide +kernel
theorem dX9_takeSign_65 : decode cX9_takeSign 65 = .ok (.aload_n 0, 1) := by decide +kernel
theorem dX9_takeSign_66 : decode cX9_takeSign 66 = .ok (.getfield 28, 3) := by decide +kernel
theorem dX9_takeSign_69 : decode cX9_takeSign 69 = .ok (.iaload, 1) := by decide +kernel
theorem dX9_takeSign_70 : decode cX9_takeSign 70 = .ok (.bipush 61, 2) := by decide +kernel
theorem dX9_takeSign_72 : decode cX9_takeSign 72 = .ok (.if_icmp .ne 27, 3) := by decide +kernel
theorem dX9_takeSign_75 : decode cX9_takeSign 75 = .ok (.aload_n 0, 1) := by decide +kernel
theorem dX9_takeSign_76 : decode cX9_takeSign 76 = .ok (.dup, 1) := by decide +kernel
theorem dX9_takeSign_77 : decode cX9_takeSign 77 = .ok (.getfield 28, 3) := by decide +kernel
theorem dX9_takeSign_80 : decode cX9_takeSign 80 = .ok (.iconst 1, 1) := by decide +kernel
theorem dX9_takeSign_81 : decode cX9_takeSign 81 = .ok (.iadd, 1) := by decide +kernel
theorem dX9_takeSign_82 : decode cX9_takeSign 82 = .ok (.putfield 28, 3) := by decide +kernel
theorem dX9_takeSign_85 : decode cX9_takeSign 85 = .ok (.iload_n 2, 1) := by decide +kernel
theorem dX9_takeSign_86 : decode cX9_takeSign 86 = .ok (.bipush 26, 2) := by decide +kernel
theorem dX9_takeSign_88 : decode cX9_takeSign 88 = .ok (.if_icmp .ne 8, 3) := by decide +kernel
theorem dX9_takeSign_91 : decode cX9_takeSign 91 = .ok (.bipush 37, 2) := by decide +kernel
theorem dX9_takeSign_93 : decode cX9_takeSign 93 = .ok (.goto 5, 3) := by decide +kernel
theorem dX9_takeSign_96 : decode cX9_takeSign 96 = .ok (.bipush 38, 2) := by decide +kernel
theorem dX9_takeSign_98 : decode cX9_takeSign 98 = .ok (.ireturn, 1) := by decide +kernel
theorem dX9_takeSign_99 : decode cX9_takeSign 99 = .ok (.iload_n 2, 1) := by decide +kernel
theorem dX9_takeSign_100 : decode cX9_takeSign 100 = .ok (.ireturn, 1) := by decide +kernel
theorem dX9_wordOf_0 : decode cX9_wordOf 0 = .ok (.iconst 0, 1) := by decide +kernel
theorem dX9_wordOf_1 : decode cX9_wordOf 1 = .ok (.istore_n 3, 1) := by decide +kernel
theorem dX9_wordOf_2 : decode cX9_wordOf 2 = .ok (.iconst 0, 1) := by decide +kernel
theorem dX9_wordOf_3 : decode cX9_wordOf 3 = .ok (.istore 4, 2) := by decide +kernel
theorem dX9_wordOf_5 : decode cX9_wordOf 5 = .ok (.iconst 0, 1) := by decide +kernel
theorem dX9_wordOf_6 : decode cX9_wordOf 6 = .ok (.istore 5, 2) := by decide +kernel
theorem dX9_wordOf_8 : decode cX9_wordOf 8 = .ok (.iload 5, 2) := by decide +kernel
theorem dX9_wordOf_10 : decode cX9_wordOf 10 = .ok (.ldc 93, 2) := by decide +kernel
theorem dX9_wordOf_12 : decode cX9_wordOf 12 = .ok (.invokevirtual 95, 3) := by decide +kernel
theorem dX9_wordOf_15 : decode cX9_wordOf 15 = .ok (.if_icmp .ge 55, 3) := by decide +kernel
theorem dX9_wordOf_18 : decode cX9_wordOf 18 = .ok (.ldc 93, 2) := by decide +kernel
theorem dX9_wordOf_20 : decode cX9_wordOf 20 = .ok (.iload 5, 2) := by decide +kernel
theorem dX9_wordOf_22 : decode cX9_wordOf 22 = .ok (.invokevirtual 97, 3) := by decide +kernel
theorem dX9_wordOf_25 : decode cX9_wordOf 25 = .ok (.bipush 32, 2) := by decide +kernel
theorem dX9_wordOf_27 : decode cX9_wordOf 27 = .ok (.if_icmp .ne 37, 3) := by decide +kernel
theorem dX9_wordOf_30 : decode cX9_wordOf 30 = .ok (.iload 5, 2) := by decide +kernel
theorem dX9_wordOf_32 : decode cX9_wordOf 32 = .ok (.iload 4, 2) := by decide +kernel
theorem dX9_wordOf_34 : decode cX9_wordOf 34 = .ok (.isub, 1) := by decide +kernel
theorem dX9_wordOf_35 : decode cX9_wordOf 35 = .ok (.iload_n 2, 1) := by decide +kernel
theorem dX9_wordOf_36 : decode cX9_wordOf 36 = .ok (.iload_n 1, 1) := by decide +kernel
theorem dX9_wordOf_37 : decode cX9_wordOf 37 = .ok (.isub, 1) := by decide +kernel
theorem dX9_wordOf_38 : decode cX9_wordOf 38 = .ok (.if_icmp .ne 17, 3) := by decide +kernel
theorem dX9_wordOf_41 : decode cX9_wordOf 41 = .ok (.aload_n 0, 1) := by decide +kernel
theorem dX9_wordOf_42 : decode cX9_wordOf 42 = .ok (.iload 4, 2) := by decide +kernel
theorem dX9_wordOf_44 : decode cX9_wordOf 44 = .ok (.iload 5, 2) := by decide +kernel
theorem dX9_wordOf_46 : decode cX9_wordOf 46 = .ok (.iload_n 1, 1) := by decide +kernel
theorem dX9_wordOf_47 : decode cX9_wordOf 47 = .ok (.invokevirtual 101, 3) := by decide +kernel
theorem dX9_wordOf_50 : decode cX9_wordOf 50 = .ok (.ifCond .eq 5, 3) := by decide +kernel
theorem dX9_wordOf_53 : decode cX9_wordOf 53 = .ok (.iload_n 3, 1) := by decide +kernel
theorem dX9_wordOf_54 : decode cX9_wordOf 54 = .ok (.ireturn, 1) := by decide +kernel
theorem dX9_wordOf_55 : decode cX9_wordOf 55 = .ok (.iinc 3 1, 3) := by decide +kernel
theorem dX9_wordOf_58 : decode cX9_wordOf 58 = .ok (.iload 5, 2) := by decide +kernel
theorem dX9_wordOf_60 : decode cX9_wordOf 60 = .ok (.iconst 1, 1) := by decide +kernel
theorem dX9_wordOf_61 : decode cX9_wordOf 61 = .ok (.iadd, 1) := by decide +kernel
theorem dX9_wordOf_62 : decode cX9_wordOf 62 = .ok (.istore 4, 2) := by decide +kernel
theorem dX9_wordOf_64 : decode cX9_wordOf 64 = .ok (.iinc 5 1, 3) := by decide +kernel
theorem dX9_wordOf_67 : decode cX9_wordOf 67 = .ok (.goto (-59), 3) := by decide +kernel
theorem dX9_wordOf_70 : decode cX9_wordOf 70 = .ok (.bipush 41, 2) := by decide +kernel
theorem dX9_wordOf_72 : decode cX9_wordOf 72 = .ok (.ireturn, 1) := by decide +kernel
theorem dX9_isSame_0 : decode cX9_isSame 0 = .ok (.iload_n 1, 1) := by decide +kernel
theorem dX9_isSame_1 : decode cX9_isSame 1 = .ok (.istore 4, 2) := by decide +kernel
theorem dX9_isSame_3 : decode cX9_isSame 3 = .ok (.iload 4, 2) := by decide +kernel
theorem dX9_isSame_5 : decode cX9_isSame 5 = .ok (.iload_n 2, 1) := by decide +kernel
theorem dX9_isSame_6 : decode cX9_isSame 6 = .ok (.if_icmp .ge 45, 3) := by decide +kernel
theorem dX9_isSame_9 : decode cX9_isSame 9 = .ok (.iload_n 3, 1) := by decide +kernel
theorem dX9_isSame_10 : decode cX9_isSame 10 = .ok (.iload 4, 2) := by decide +kernel
theorem dX9_isSame_12 : decode cX9_isSame 12 = .ok (.iadd, 1) := by decide +kernel
theorem dX9_isSame_13 : decode cX9_isSame 13 = .ok (.iload_n 1, 1) := by decide +kernel
theorem dX9_isSame_14 : decode cX9_isSame 14 = .ok (.isub, 1) := by decide +kernel
theorem dX9_isSame_15 : decode cX9_isSame 15 = .ok (.istore 5, 2) := by decide +kernel
theorem dX9_isSame_17 : decode cX9_isSame 17 = .ok (.iload 5, 2) := by decide +kernel
theorem dX9_isSame_19 : decode cX9_isSame 19 = .ok (.aload_n 0, 1) := by decide +kernel
theorem dX9_isSame_20 : decode cX9_isSame 20 = .ok (.getfield 24, 3) := by decide +kernel
theorem dX9_isSame_23 : decode cX9_isSame 23 = .ok (.if_icmp .ge 20, 3) := by decide +kernel
theorem dX9_isSame_26 : decode cX9_isSame 26 = .ok (.aload_n 0, 1) := by decide +kernel
theorem dX9_isSame_27 : decode cX9_isSame 27 = .ok (.getfield 21, 3) := by decide +kernel
theorem dX9_isSame_30 : decode cX9_isSame 30 = .ok (.iload 5, 2) := by decide +kernel
theorem dX9_isSame_32 : decode cX9_isSame 32 = .ok (.iaload, 1) := by decide +kernel
theorem dX9_isSame_33 : decode cX9_isSame 33 = .ok (.ldc 93, 2) := by decide +kernel
theorem dX9_isSame_35 : decode cX9_isSame 35 = .ok (.iload 4, 2) := by decide +kernel
theorem dX9_isSame_37 : decode cX9_isSame 37 = .ok (.invokevirtual 97, 3) := by decide +kernel
theorem dX9_isSame_40 : decode cX9_isSame 40 = .ok (.if_icmp .eq 5, 3) := by decide +kernel
theorem dX9_isSame_43 : decode cX9_isSame 43 = .ok (.iconst 0, 1) := by decide +kernel
theorem dX9_isSame_44 : decode cX9_isSame 44 = .ok (.ireturn, 1) := by decide +kernel
theorem dX9_isSame_45 : decode cX9_isSame 45 = .ok (.iinc 4 1, 3) := by decide +kernel
theorem dX9_isSame_48 : decode cX9_isSame 48 = .ok (.goto (-45), 3) := by decide +kernel
theorem dX9_isSame_51 : decode cX9_isSame 51 = .ok (.iconst 1, 1) := by decide +kernel
theorem dX9_isSame_52 : decode cX9_isSame 52 = .ok (.ireturn, 1) := by decide +kernel
theorem dX9_isLetter_0 : decode cX9_isLetter 0 = .ok (.iload_n 0, 1) := by decide +kernel
theorem dX9_isLetter_1 : decode cX9_isLetter 1 = .ok (.bipush 97, 2) := by decide +kernel
theorem dX9_isLetter_3 : decode cX9_isLetter 3 = .ok (.if_icmp .lt 9, 3) := by decide +kernel
theorem dX9_isLetter_6 : decode cX9_isLetter 6 = .ok (.iload_n 0, 1) := by decide +kernel
theorem dX9_isLetter_7 : decode cX9_isLetter 7 = .ok (.bipush 122, 2) := by decide +kernel
theorem dX9_isLetter_9 : decode cX9_isLetter 9 = .ok (.if_icmp .le 15, 3) := by decide +kernel
theorem dX9_isLetter_12 : decode cX9_isLetter 12 = .ok (.iload_n 0, 1) := by decide +kernel
theorem dX9_isLetter_13 : decode cX9_isLetter 13 = .ok (.bipush 65, 2) := by decide +kernel
theorem dX9_isLetter_15 : decode cX9_isLetter 15 = .ok (.if_icmp .lt 13, 3) := by decide +kernel
theorem dX9_isLetter_18 : decode cX9_isLetter 18 = .ok (.iload_n 0, 1) := by decide +kernel
theorem dX9_isLetter_19 : decode cX9_isLetter 19 = .ok (.bipush 90, 2) := by decide +kernel
theorem dX9_isLetter_21 : decode cX9_isLetter 21 = .ok (.if_icmp .gt 7, 3) := by decide +kernel
theorem dX9_isLetter_24 : decode cX9_isLetter 24 = .ok (.iconst 1, 1) := by decide +kernel
theorem dX9_isLetter_25 : decode cX9_isLetter 25 = .ok (.goto 4, 3) := by decide +kernel
theorem dX9_isLetter_28 : decode cX9_isLetter 28 = .ok (.iconst 0, 1) := by decide +kernel
theorem dX9_isLetter_29 : decode cX9_isLetter 29 = .ok (.ireturn, 1) := by decide +kernel
theorem dX9_isDigit_0 : decode cX9_isDigit 0 = .ok (.iload_n 0, 1) := by decide +kernel
theorem dX9_isDigit_1 : decode cX9_isDigit 1 = .ok (.bipush 48, 2) := by decide +kernel
theorem dX9_isDigit_3 : decode cX9_isDigit 3 = .ok (.if_icmp .lt 13, 3) := by decide +kernel
theorem dX9_isDigit_6 : decode cX9_isDigit 6 = .ok (.iload_n 0, 1) := by decide +kernel
theorem dX9_isDigit_7 : decode cX9_isDigit 7 = .ok (.bipush 57, 2) := by decide +kernel
theorem dX9_isDigit_9 : decode cX9_isDigit 9 = .ok (.if_icmp .gt 7, 3) := by decide +kernel
theorem dX9_isDigit_12 : decode cX9_isDigit 12 = .ok (.iconst 1, 1) := by decide +kernel
theorem dX9_isDigit_13 : decode cX9_isDigit 13 = .ok (.goto 4, 3) := by decide +kernel
theorem dX9_isDigit_16 : decode cX9_isDigit 16 = .ok (.iconst 0, 1) := by decide +kernel
theorem dX9_isDigit_17 : decode cX9_isDigit 17 = .ok (.ireturn, 1) := by decide +kernel
theorem dX10_init_0 : decode cX10_init 0 = .ok (.aload_n 0, 1) := by decide +kernel
theorem dX10_init_1 : decode cX10_init 1 = .ok (.invokespecial 1, 3) := by decide +kernel
theorem dX10_init_4 : decode cX10_init 4 = .ok (.aload_n 0, 1) := by decide +kernel
theorem dX10_init_5 : decode cX10_init 5 = .ok (.iconst 0, 1) := by decide +kernel
theorem dX10_init_6 : decode cX10_init 6 = .ok (.putfield 7, 3) := by decide +kernel
theorem dX10_init_9 : decode cX10_init 9 = .ok (.aload_n 0, 1) := by decide +kernel
theorem dX10_init_10 : decode cX10_init 10 = .ok (.iload_n 1, 1) := by decide +kernel
theorem dX10_init_11 : decode cX10_init 11 = .ok (.iconst 0, 1) := by decide +kernel
theorem dX10_init_12 : decode cX10_init 12 = .ok (.invokestatic 13, 3) := by decide +kernel
theorem dX10_init_15 : decode cX10_init 15 = .ok (.putfield 19, 3) := by decide +kernel
theorem dX10_init_18 : decode cX10_init 18 = .ok (.aload_n 0, 1) := by decide +kernel
theorem dX10_init_19 : decode cX10_init 19 = .ok (.iconst 3, 1) := by decide +kernel
theorem dX10_init_20 : decode cX10_init 20 = .ok (.aload_n 0, 1) := by decide +kernel
theorem dX10_init_21 : decode cX10_init 21 = .ok (.getfield 19, 3) := by decide +kernel
theorem dX10_init_24 : decode cX10_init 24 = .ok (.imul, 1) := by decide +kernel
theorem dX10_init_25 : decode cX10_init 25 = .ok (.newarray .int, 2) := by decide +kernel
theorem dX10_init_27 : decode cX10_init 27 = .ok (.putfield 22, 3) := by decide +kernel
theorem dX10_init_30 : decode cX10_init 30 = .ok (.return_, 1) := by decide +kernel
theorem dX10_put_0 : decode cX10_put 0 = .ok (.aload_n 0, 1) := by decide +kernel
theorem dX10_put_1 : decode cX10_put 1 = .ok (.getfield 7, 3) := by decide +kernel
theorem dX10_put_4 : decode cX10_put 4 = .ok (.aload_n 0, 1) := by decide +kernel
theorem dX10_put_5 : decode cX10_put 5 = .ok (.getfield 19, 3) := by decide +kernel
theorem dX10_put_8 : decode cX10_put 8 = .ok (.if_icmp .lt 5, 3) := by decide +kernel
theorem dX10_put_11 : decode cX10_put 11 = .ok (.iconst 0, 1) := by decide +kernel
theorem dX10_put_12 : decode cX10_put 12 = .ok (.ireturn, 1) := by decide +kernel
theorem dX10_put_13 : decode cX10_put 13 = .ok (.aload_n 0, 1) := by decide +kernel
theorem dX10_put_14 : decode cX10_put 14 = .ok (.getfield 22, 3) := by decide +kernel
theorem dX10_put_17 : decode cX10_put 17 = .ok (.iconst 3, 1) := by decide +kernel
theorem dX10_put_18 : decode cX10_put 18 = .ok (.aload_n 0, 1) := by decide +kernel
theorem dX10_put_19 : decode cX10_put 19 = .ok (.getfield 7, 3) := by decide +kernel
theorem dX10_put_22 : decode cX10_put 22 = .ok (.imul, 1) := by decide +kernel
theorem dX10_put_23 : decode cX10_put 23 = .ok (.iload_n 1, 1) := by decide +kernel
theorem dX10_put_24 : decode cX10_put 24 = .ok (.iastore, 1) := by decide +kernel
theorem dX10_put_25 : decode cX10_put 25 = .ok (.aload_n 0, 1) := by decide +kernel
theorem dX10_put_26 : decode cX10_put 26 = .ok (.getfield 22, 3) := by decide +kernel
theorem dX10_put_29 : decode cX10_put 29 = .ok (.iconst 3, 1) := by decide +kernel
theorem dX10_put_30 : decode cX10_put 30 = .ok (.aload_n 0, 1) := by decide +kernel
theorem dX10_put_31 : decode cX10_put 31 = .ok (.getfield 7, 3) := by decide +kernel
theorem dX10_put_34 : decode cX10_put 34 = .ok (.imul, 1) := by decide +kernel
theorem dX10_put_35 : decode cX10_put 35 = .ok (.iconst 1, 1) := by decide +kernel
theorem dX10_put_36 : decode cX10_put 36 = .ok (.iadd, 1) := by decide +kernel
theorem dX10_put_37 : decode cX10_put 37 = .ok (.iload_n 2, 1) := by decide +kernel
theorem dX10_put_38 : decode cX10_put 38 = .ok (.iastore, 1) := by decide +kernel
theorem dX10_put_39 : decode cX10_put 39 = .ok (.aload_n 0, 1) := by decide +kernel
theorem dX10_put_40 : decode cX10_put 40 = .ok (.getfield 22, 3) := by decide +kernel
theorem dX10_put_43 : decode cX10_put 43 = .ok (.iconst 3, 1) := by decide +kernel
theorem dX10_put_44 : decode cX10_put 44 = .ok (.aload_n 0, 1) := by decide +kernel
theorem dX10_put_45 : decode cX10_put 45 = .ok (.getfield 7, 3) := by decide +kernel
theorem dX10_put_48 : decode cX10_put 48 = .ok (.imul, 1) := by decide +kernel
theorem dX10_put_49 : decode cX10_put 49 = .ok (.iconst 2, 1) := by decide +kernel
theorem dX10_put_50 : decode cX10_put 50 = .ok (.iadd, 1) := by decide +kernel
theorem dX10_put_51 : decode cX10_put 51 = .ok (.iload_n 3, 1) := by decide +kernel
theorem dX10_put_52 : decode cX10_put 52 = .ok (.iastore, 1) := by decide +kernel
theorem dX10_put_53 : decode cX10_put 53 = .ok (.aload_n 0, 1) := by decide +kernel
theorem dX10_put_54 : decode cX10_put 54 = .ok (.dup, 1) := by decide +kernel
theorem dX10_put_55 : decode cX10_put 55 = .ok (.getfield 7, 3) := by decide +kernel
theorem dX10_put_58 : decode cX10_put 58 = .ok (.iconst 1, 1) := by decide +kernel
theorem dX10_put_59 : decode cX10_put 59 = .ok (.iadd, 1) := by decide +kernel
theorem dX10_put_60 : decode cX10_put 60 = .ok (.putfield 7, 3) := by decide +kernel
theorem dX10_put_63 : decode cX10_put 63 = .ok (.iconst 1, 1) := by decide +kernel
theorem dX10_put_64 : decode cX10_put 64 = .ok (.ireturn, 1) := by decide +kernel
theorem dX10_part_0 : decode cX10_part 0 = .ok (.iconst 3, 1) := by decide +kernel
theorem dX10_part_1 : decode cX10_part 1 = .ok (.iload_n 1, 1) := by decide +kernel
theorem dX10_part_2 : decode cX10_part 2 = .ok (.imul, 1) := by decide +kernel
theorem dX10_part_3 : decode cX10_part 3 = .ok (.iload_n 2, 1) := by decide +kernel
theorem dX10_part_4 : decode cX10_part 4 = .ok (.iadd, 1) := by decide +kernel
theorem dX10_part_5 : decode cX10_part 5 = .ok (.istore_n 3, 1) := by decide +kernel
theorem dX10_part_6 : decode cX10_part 6 = .ok (.iload_n 3, 1) := by decide +kernel
theorem dX10_part_7 : decode cX10_part 7 = .ok (.ifCond .lt 21, 3) := by decide +kernel
theorem dX10_part_10 : decode cX10_part 10 = .ok (.iload_n 3, 1) := by decide +kernel
theorem dX10_part_11 : decode cX10_part 11 = .ok (.aload_n 0, 1) := by decide +kernel
theorem dX10_part_12 : decode cX10_part 12 = .ok (.getfield 22, 3) := by decide +kernel
theorem dX10_part_15 : decode cX10_part 15 = .ok (.arraylength, 1) := by decide +kernel
theorem dX10_part_16 : decode cX10_part 16 = .ok (.if_icmp .ge 12, 3) := by decide +kernel
theorem dX10_part_19 : decode cX10_part 19 = .ok (.aload_n 0, 1) := by decide +kernel
theorem dX10_part_20 : decode cX10_part 20 = .ok (.getfield 22, 3) := by decide +kernel
theorem dX10_part_23 : decode cX10_part 23 = .ok (.iload_n 3, 1) := by decide +kernel
theorem dX10_part_24 : decode cX10_part 24 = .ok (.iaload, 1) := by decide +kernel
theorem dX10_part_25 : decode cX10_part 25 = .ok (.goto 4, 3) := by decide +kernel
theorem dX10_part_28 : decode cX10_part 28 = .ok (.iconst 0, 1) := by decide +kernel
theorem dX10_part_29 : decode cX10_part 29 = .ok (.ireturn, 1) := by decide +kernel
theorem dX10_copy_0 : decode cX10_copy 0 = .ok (.aload_n 0, 1) := by decide +kernel
theorem dX10_copy_1 : decode cX10_copy 1 = .ok (.aload_n 1, 1) := by decide +kernel
theorem dX10_copy_2 : decode cX10_copy 2 = .ok (.getfield 7, 3) := by decide +kernel
theorem dX10_copy_5 : decode cX10_copy 5 = .ok (.aload_n 0, 1) := by decide +kernel
theorem dX10_copy_6 : decode cX10_copy 6 = .ok (.getfield 19, 3) := by decide +kernel
theorem dX10_copy_9 : decode cX10_copy 9 = .ok (.invokestatic 26, 3) := by decide +kernel
theorem dX10_copy_12 : decode cX10_copy 12 = .ok (.putfield 7, 3) := by decide +kernel
theorem dX10_copy_15 : decode cX10_copy 15 = .ok (.aload_n 1, 1) := by decide +kernel
theorem dX10_copy_16 : decode cX10_copy 16 = .ok (.getfield 22, 3) := by decide +kernel
theorem dX10_copy_19 : decode cX10_copy 19 = .ok (.iconst 0, 1) := by decide +kernel
theorem dX10_copy_20 : decode cX10_copy 20 = .ok (.aload_n 0, 1) := by decide +kernel
theorem dX10_copy_21 : decode cX10_copy 21 = .ok (.getfield 22, 3) := by decide +kernel
theorem dX10_copy_24 : decode cX10_copy 24 = .ok (.iconst 0, 1) := by decide +kernel
theorem dX10_copy_25 : decode cX10_copy 25 = .ok (.aload_n 1, 1) := by decide +kernel
theorem dX10_copy_26 : decode cX10_copy 26 = .ok (.getfield 22, 3) := by decide +kernel
theorem dX10_copy_29 : decode cX10_copy 29 = .ok (.arraylength, 1) := by decide +kernel
theorem dX10_copy_30 : decode cX10_copy 30 = .ok (.aload_n 0, 1) := by decide +kernel
theorem dX10_copy_31 : decode cX10_copy 31 = .ok (.getfield 22, 3) := by decide +kernel
theorem dX10_copy_34 : decode cX10_copy 34 = .ok (.arraylength, 1) := by decide +kernel
theorem dX10_copy_35 : decode cX10_copy 35 = .ok (.invokestatic 26, 3) := by decide +kernel
theorem dX10_copy_38 : decode cX10_copy 38 = .ok (.invokestatic 29, 3) := by decide +kernel
theorem dX10_copy_41 : decode cX10_copy 41 = .ok (.return_, 1) := by decide +kernel
theorem dX11_init_0 : decode cX11_init 0 = .ok (.aload_n 0, 1) := by decide +kernel
theorem dX11_init_1 : decode cX11_init 1 = .ok (.invokespecial 1, 3) := by decide +kernel
theorem dX11_init_4 : decode cX11_init 4 = .ok (.aload_n 0, 1) := by decide +kernel
theorem dX11_init_5 : decode cX11_init 5 = .ok (.new 7, 3) := by decide +kernel
theorem dX11_init_8 : decode cX11_init 8 = .ok (.dup, 1) := by decide +kernel
theorem dX11_init_9 : decode cX11_init 9 = .ok (.invokespecial 9, 3) := by decide +kernel
theorem dX11_init_12 : decode cX11_init 12 = .ok (.putfield 10, 3) := by decide +kernel
theorem dX11_init_15 : decode cX11_init 15 = .ok (.aload_n 0, 1) := by decide +kernel
theorem dX11_init_16 : decode cX11_init 16 = .ok (.new 7, 3) := by decide +kernel
theorem dX11_init_19 : decode cX11_init 19 = .ok (.dup, 1) := by decide +kernel
theorem dX11_init_20 : decode cX11_init 20 = .ok (.invokespecial 9, 3) := by decide +kernel
theorem dX11_init_23 : decode cX11_init 23 = .ok (.putfield 16, 3) := by decide +kernel
theorem dX11_init_26 : decode cX11_init 26 = .ok (.aload_n 0, 1) := by decide +kernel
theorem dX11_init_27 : decode cX11_init 27 = .ok (.iconst 4, 1) := by decide +kernel
theorem dX11_init_28 : decode cX11_init 28 = .ok (.anewarray 19, 3) := by decide +kernel
theorem dX11_init_31 : decode cX11_init 31 = .ok (.putfield 21, 3) := by decide +kernel
theorem dX11_init_34 : decode cX11_init 34 = .ok (.aload_n 0, 1) := by decide +kernel
theorem dX11_init_35 : decode cX11_init 35 = .ok (.new 25, 3) := by decide +kernel
theorem dX11_init_38 : decode cX11_init 38 = .ok (.dup, 1) := by decide +kernel
theorem dX11_init_39 : decode cX11_init 39 = .ok (.aload_n 0, 1) := by decide +kernel
theorem dX11_init_40 : decode cX11_init 40 = .ok (.getfield 10, 3) := by decide +kernel
theorem dX11_init_43 : decode cX11_init 43 = .ok (.aload_n 0, 1) := by decide +kernel
theorem dX11_init_44 : decode cX11_init 44 = .ok (.getfield 21, 3) := by decide +kernel
theorem dX11_init_47 : decode cX11_init 47 = .ok (.invokespecial 27, 3) := by decide +kernel
theorem dX11_init_50 : decode cX11_init 50 = .ok (.putfield 30, 3) := by decide +kernel
theorem dX11_init_53 : decode cX11_init 53 = .ok (.aload_n 0, 1) := by decide +kernel
theorem dX11_init_54 : decode cX11_init 54 = .ok (.new 34, 3) := by decide +kernel
theorem dX11_init_57 : decode cX11_init 57 = .ok (.dup, 1) := by decide +kernel
theorem dX11_init_58 : decode cX11_init 58 = .ok (.aload_n 0, 1) := by decide +kernel
theorem dX11_init_59 : decode cX11_init 59 = .ok (.getfield 10, 3) := by decide +kernel
theorem dX11_init_62 : decode cX11_init 62 = .ok (.aload_n 0, 1) := by decide +kernel
theorem dX11_init_63 : decode cX11_init 63 = .ok (.getfield 30, 3) := by decide +kernel
theorem dX11_init_66 : decode cX11_init 66 = .ok (.invokespecial 36, 3) := by decide +kernel
theorem dX11_init_69 : decode cX11_init 69 = .ok (.putfield 39, 3) := by decide +kernel
theorem dX11_init_72 : decode cX11_init 72 = .ok (.aload_n 0, 1) := by decide +kernel
theorem dX11_init_73 : decode cX11_init 73 = .ok (.new 43, 3) := by decide +kernel
theorem dX11_init_76 : decode cX11_init 76 = .ok (.dup, 1) := by decide +kernel
theorem dX11_init_77 : decode cX11_init 77 = .ok (.aload_n 0, 1) := by decide +kernel
theorem dX11_init_78 : decode cX11_init 78 = .ok (.getfield 10, 3) := by decide +kernel
theorem dX11_init_81 : decode cX11_init 81 = .ok (.aload_n 0, 1) := by decide +kernel
theorem dX11_init_82 : decode cX11_init 82 = .ok (.getfield 30, 3) := by decide +kernel
theorem dX11_init_85 : decode cX11_init 85 = .ok (.invokespecial 45, 3) := by decide +kernel
theorem dX11_init_88 : decode cX11_init 88 = .ok (.putfield 46, 3) := by decide +kernel
theorem dX11_init_91 : decode cX11_init 91 = .ok (.aload_n 0, 1) := by decide +kernel
theorem dX11_init_92 : decode cX11_init 92 = .ok (.new 50, 3) := by decide +kernel
theorem dX11_init_95 : decode cX11_init 95 = .ok (.dup, 1) := by decide +kernel
theorem dX11_init_96 : decode cX11_init 96 = .ok (.invokespecial 52, 3) := by decide +kernel
theorem dX11_init_99 : decode cX11_init 99 = .ok (.putfield 53, 3) := by decide +kernel
theorem dX11_init_102 : decode cX11_init 102 = .ok (.aload_n 0, 1) := by decide +kernel
theorem dX11_init_103 : decode cX11_init 103 = .ok (.new 57, 3) := by decide +kernel
theorem dX11_init_106 : decode cX11_init 106 = .ok (.dup, 1) := by decide +kernel
theorem dX11_init_107 : decode cX11_init 107 = .ok (.invokespecial 59, 3) := by decide +kernel
theorem dX11_init_110 : decode cX11_init 110 = .ok (.putfield 60, 3) := by decide +kernel
theorem dX11_init_113 : decode cX11_init 113 = .ok (.aload_n 0, 1) := by decide +kernel
theorem dX11_init_114 : decode cX11_init 114 = .ok (.new 64, 3) := by decide +kernel
theorem dX11_init_117 : decode cX11_init 117 = .ok (.dup, 1) := by decide +kernel
theorem dX11_init_118 : decode cX11_init 118 = .ok (.invokespecial 66, 3) := by decide +kernel
theorem dX11_init_121 : decode cX11_init 121 = .ok (.putfield 67, 3) := by decide +kernel
theorem dX11_init_124 : decode cX11_init 124 = .ok (.aload_n 0, 1) := by decide +kernel
theorem dX11_init_125 : decode cX11_init 125 = .ok (.sipush 300, 3) := by decide +kernel
theorem dX11_init_128 : decode cX11_init 128 = .ok (.newarray .int, 2) := by decide +kernel
theorem dX11_init_130 : decode cX11_init 130 = .ok (.putfield 71, 3) := by decide +kernel
theorem dX11_init_133 : decode cX11_init 133 = .ok (.aload_n 0, 1) := by decide +kernel
theorem dX11_init_134 : decode cX11_init 134 = .ok (.iconst 0, 1) := by decide +kernel
theorem dX11_init_135 : decode cX11_init 135 = .ok (.putfield 75, 3) := by decide +kernel
theorem dX11_init_138 : decode cX11_init 138 = .ok (.aload_n 0, 1) := by decide +kernel
theorem dX11_init_139 : decode cX11_init 139 = .ok (.iconst (-1), 1) := by decide +kernel
theorem dX11_init_140 : decode cX11_init 140 = .ok (.putfield 79, 3) := by decide +kernel
theorem dX11_init_143 : decode cX11_init 143 = .ok (.aload_n 0, 1) := by decide +kernel
theorem dX11_init_144 : decode cX11_init 144 = .ok (.iconst (-1), 1) := by decide +kernel
theorem dX11_init_145 : decode cX11_init 145 = .ok (.putfield 82, 3) := by decide +kernel
theorem dX11_init_148 : decode cX11_init 148 = .ok (.return_, 1) := by decide +kernel
theorem dX11_bar_0 : decode cX11_bar 0 = .ok (.aload_n 0, 1) := by decide +kernel
theorem dX11_bar_1 : decode cX11_bar 1 = .ok (.getfield 39, 3) := by decide +kernel
theorem dX11_bar_4 : decode cX11_bar 4 = .ok (.iload_n 1, 1) := by decide +kernel
theorem dX11_bar_5 : decode cX11_bar 5 = .ok (.iload_n 2, 1) := by decide +kernel
theorem dX11_bar_6 : decode cX11_bar 6 = .ok (.invokevirtual 85, 3) := by decide +kernel
theorem dX11_bar_9 : decode cX11_bar 9 = .ok (.ireturn, 1) := by decide +kernel
theorem dX11_paint_0 : decode cX11_paint 0 = .ok (.aload_n 0, 1) := by decide +kernel
theorem dX11_paint_1 : decode cX11_paint 1 = .ok (.getfield 39, 3) := by decide +kernel
theorem dX11_paint_4 : decode cX11_paint 4 = .ok (.iload_n 1, 1) := by decide +kernel
theorem dX11_paint_5 : decode cX11_paint 5 = .ok (.iload_n 2, 1) := by decide +kernel
theorem dX11_paint_6 : decode cX11_paint 6 = .ok (.invokevirtual 89, 3) := by decide +kernel
theorem dX11_paint_9 : decode cX11_paint 9 = .ok (.ireturn, 1) := by decide +kernel
theorem dX11_child_0 : decode cX11_child 0 = .ok (.aload_n 0, 1) := by decide +kernel
theorem dX11_child_1 : decode cX11_child 1 = .ok (.getfield 39, 3) := by decide +kernel
theorem dX11_child_4 : decode cX11_child 4 = .ok (.iload_n 1, 1) := by decide +kernel
theorem dX11_child_5 : decode cX11_child 5 = .ok (.iload_n 2, 1) := by decide +kernel
theorem dX11_child_6 : decode cX11_child 6 = .ok (.invokevirtual 92, 3) := by decide +kernel
theorem dX11_child_9 : decode cX11_child 9 = .ok (.ireturn, 1) := by decide +kernel
theorem dX11_feed_0 : decode cX11_feed 0 = .ok (.aload_n 0, 1) := by decide +kernel
theorem dX11_feed_1 : decode cX11_feed 1 = .ok (.getfield 75, 3) := by decide +kernel
theorem dX11_feed_4 : decode cX11_feed 4 = .ok (.bipush 20, 2) := by decide +kernel
theorem dX11_feed_6 : decode cX11_feed 6 = .ok (.iadd, 1) := by decide +kernel
theorem dX11_feed_7 : decode cX11_feed 7 = .ok (.sipush 300, 3) := by decide +kernel
theorem dX11_feed_10 : decode cX11_feed 10 = .ok (.if_icmp .le 5, 3) := by decide +kernel
theorem dX11_feed_13 : decode cX11_feed 13 = .ok (.iconst (-1), 1) := by decide +kernel
theorem dX11_feed_14 : decode cX11_feed 14 = .ok (.ireturn, 1) := by decide +kernel
theorem dX11_feed_15 : decode cX11_feed 15 = .ok (.aload_n 0, 1) := by decide +kernel
theorem dX11_feed_16 : decode cX11_feed 16 = .ok (.iload_n 1, 1) := by decide +kernel
theorem dX11_feed_17 : decode cX11_feed 17 = .ok (.invokevirtual 96, 3) := by decide +kernel
theorem dX11_feed_20 : decode cX11_feed 20 = .ok (.aload_n 0, 1) := by decide +kernel
theorem dX11_feed_21 : decode cX11_feed 21 = .ok (.iload_n 2, 1) := by decide +kernel
theorem dX11_feed_22 : decode cX11_feed 22 = .ok (.invokevirtual 96, 3) := by decide +kernel
theorem dX11_feed_25 : decode cX11_feed 25 = .ok (.aload_n 0, 1) := by decide +kernel
theorem dX11_feed_26 : decode cX11_feed 26 = .ok (.iload_n 3, 1) := by decide +kernel
theorem dX11_feed_27 : decode cX11_feed 27 = .ok (.invokevirtual 96, 3) := by decide +kernel
theorem dX11_feed_30 : decode cX11_feed 30 = .ok (.aload_n 0, 1) := by decide +kernel
theorem dX11_feed_31 : decode cX11_feed 31 = .ok (.iload 4, 2) := by decide +kernel
theorem dX11_feed_33 : decode cX11_feed 33 = .ok (.invokevirtual 96, 3) := by decide +kernel
theorem dX11_feed_36 : decode cX11_feed 36 = .ok (.aload_n 0, 1) := by decide +kernel
theorem dX11_feed_37 : decode cX11_feed 37 = .ok (.iload 5, 2) := by decide +kernel
theorem dX11_feed_39 : decode cX11_feed 39 = .ok (.invokevirtual 96, 3) := by decide +kernel
theorem dX11_feed_42 : decode cX11_feed 42 = .ok (.aload_n 0, 1) := by decide +kernel
theorem dX11_feed_43 : decode cX11_feed 43 = .ok (.getfield 75, 3) := by decide +kernel
theorem dX11_feed_46 : decode cX11_feed 46 = .ok (.ireturn, 1) := by decide +kernel
theorem dX11_putFour_0 : decode cX11_putFour 0 = .ok (.bipush 24, 2) := by decide +kernel
theorem dX11_putFour_2 : decode cX11_putFour 2 = .ok (.istore_n 2, 1) := by decide +kernel
theorem dX11_putFour_3 : decode cX11_putFour 3 = .ok (.iload_n 2, 1) := by decide +kernel
theorem dX11_putFour_4 : decode cX11_putFour 4 = .ok (.ifCond .lt 45, 3) := by decide +kernel
theorem dX11_putFour_7 : decode cX11_putFour 7 = .ok (.aload_n 0, 1) := by decide +kernel
theorem dX11_putFour_8 : decode cX11_putFour 8 = .ok (.getfield 75, 3) := by decide +kernel
theorem dX11_putFour_11 : decode cX11_putFour 11 = .ok (.sipush 300, 3) := by decide +kernel
theorem dX11_putFour_14 : decode cX11_putFour 14 = .ok (.if_icmp .ge 35, 3) := by decide +kernel
theorem dX11_putFour_17 : decode cX11_putFour 17 = .ok (.aload_n 0, 1) := by decide +kernel
theorem dX11_putFour_18 : decode cX11_putFour 18 = .ok (.getfield 71, 3) := by decide +kernel
theorem dX11_putFour_21 : decode cX11_putFour 21 = .ok (.aload_n 0, 1) := by decide +kernel
theorem dX11_putFour_22 : decode cX11_putFour 22 = .ok (.getfield 75, 3) := by decide +kernel
theorem dX11_putFour_25 : decode cX11_putFour 25 = .ok (.iload_n 1, 1) := by decide +kernel
theorem dX11_putFour_26 : decode cX11_putFour 26 = .ok (.iload_n 2, 1) := by decide +kernel
theorem dX11_putFour_27 : decode cX11_putFour 27 = .ok (.iushr, 1) := by decide +kernel
theorem dX11_putFour_28 : decode cX11_putFour 28 = .ok (.sipush 255, 3) := by decide +kernel
theorem dX11_putFour_31 : decode cX11_putFour 31 = .ok (.iand, 1) := by decide +kernel
theorem dX11_putFour_32 : decode cX11_putFour 32 = .ok (.iastore, 1) := by decide +kernel
theorem dX11_putFour_33 : decode cX11_putFour 33 = .ok (.aload_n 0, 1) := by decide +kernel
theorem dX11_putFour_34 : decode cX11_putFour 34 = .ok (.dup, 1) := by decide +kernel
theorem dX11_putFour_35 : decode cX11_putFour 35 = .ok (.getfield 75, 3) := by decide +kernel
theorem dX11_putFour_38 : decode cX11_putFour 38 = .ok (.iconst 1, 1) := by decide +kernel
theorem dX11_putFour_39 : decode cX11_putFour 39 = .ok (.iadd, 1) := by decide +kernel
theorem dX11_putFour_40 : decode cX11_putFour 40 = .ok (.putfield 75, 3) := by decide +kernel
theorem dX11_putFour_43 : decode cX11_putFour 43 = .ok (.iinc 2 (-8), 3) := by decide +kernel
theorem dX11_putFour_46 : decode cX11_putFour 46 = .ok (.goto (-43), 3) := by decide +kernel
theorem dX11_putFour_49 : decode cX11_putFour 49 = .ok (.return_, 1) := by decide +kernel
theorem dX11_end_0 : decode cX11_end 0 = .ok (.iload_n 1, 1) := by decide +kernel
theorem dX11_end_1 : decode cX11_end 1 = .ok (.ifCond .lt 11, 3) := by decide +kernel
theorem dX11_end_4 : decode cX11_end 4 = .ok (.iload_n 1, 1) := by decide +kernel
theorem dX11_end_5 : decode cX11_end 5 = .ok (.aload_n 0, 1) := by decide +kernel
theorem dX11_end_6 : decode cX11_end 6 = .ok (.getfield 75, 3) := by decide +kernel
theorem dX11_end_9 : decode cX11_end 9 = .ok (.if_icmp .le 5, 3) := by decide +kernel
theorem dX11_end_12 : decode cX11_end 12 = .ok (.iconst (-1), 1) := by decide +kernel
theorem dX11_end_13 : decode cX11_end 13 = .ok (.ireturn, 1) := by decide +kernel
theorem dX11_end_14 : decode cX11_end 14 = .ok (.aload_n 0, 1) := by decide +kernel
theorem dX11_end_15 : decode cX11_end 15 = .ok (.iload_n 1, 1) := by decide +kernel
theorem dX11_end_16 : decode cX11_end 16 = .ok (.putfield 75, 3) := by decide +kernel
theorem dX11_end_19 : decode cX11_end 19 = .ok (.iload_n 1, 1) := by decide +kernel
theorem dX11_end_20 : decode cX11_end 20 = .ok (.ireturn, 1) := by decide +kernel
theorem dX11_text_0 : decode cX11_text 0 = .ok (.aload_n 0, 1) := by decide +kernel
theorem dX11_text_1 : decode cX11_text 1 = .ok (.getfield 10, 3) := by decide +kernel
theorem dX11_text_4 : decode cX11_text 4 = .ok (.getfield 100, 3) := by decide +kernel
theorem dX11_text_7 : decode cX11_text 7 = .ok (.iconst 4, 1) := by decide +kernel
theorem dX11_text_8 : decode cX11_text 8 = .ok (.if_icmp .lt 5, 3) := by decide +kernel
theorem dX11_text_11 : decode cX11_text 11 = .ok (.iconst (-1), 1) := by decide +kernel
theorem dX11_text_12 : decode cX11_text 12 = .ok (.ireturn, 1) := by decide +kernel
theorem dX11_text_13 : decode cX11_text 13 = .ok (.aload_n 0, 1) := by decide +kernel
theorem dX11_text_14 : decode cX11_text 14 = .ok (.getfield 60, 3) := by decide +kernel
theorem dX11_text_17 : decode cX11_text 17 = .ok (.aload_n 0, 1) := by decide +kernel
theorem dX11_text_18 : decode cX11_text 18 = .ok (.getfield 71, 3) := by decide +kernel
theorem dX11_text_21 : decode cX11_text 21 = .ok (.aload_n 0, 1) := by decide +kernel
theorem dX11_text_22 : decode cX11_text 22 = .ok (.getfield 75, 3) := by decide +kernel
theorem dX11_text_25 : decode cX11_text 25 = .ok (.invokevirtual 102, 3) := by decide +kernel
theorem dX11_text_28 : decode cX11_text 28 = .ok (.astore_n 1, 1) := by decide +kernel
theorem dX11_text_29 : decode cX11_text 29 = .ok (.aload_n 0, 1) := by decide +kernel
theorem dX11_text_30 : decode cX11_text 30 = .ok (.iconst 0, 1) := by decide +kernel
theorem dX11_text_31 : decode cX11_text 31 = .ok (.putfield 75, 3) := by decide +kernel
theorem dX11_text_34 : decode cX11_text 34 = .ok (.aload_n 0, 1) := by decide +kernel
theorem dX11_text_35 : decode cX11_text 35 = .ok (.aload_n 0, 1) := by decide +kernel
theorem dX11_text_36 : decode cX11_text 36 = .ok (.getfield 60, 3) := by decide +kernel
theorem dX11_text_39 : decode cX11_text 39 = .ok (.getfield 106, 3) := by decide +kernel
theorem dX11_text_42 : decode cX11_text 42 = .ok (.putfield 79, 3) := by decide +kernel
theorem dX11_text_45 : decode cX11_text 45 = .ok (.aload_n 0, 1) := by decide +kernel
theorem dX11_text_46 : decode cX11_text 46 = .ok (.aload_n 0, 1) := by decide +kernel
theorem dX11_text_47 : decode cX11_text 47 = .ok (.getfield 60, 3) := by decide +kernel
theorem dX11_text_50 : decode cX11_text 50 = .ok (.getfield 107, 3) := by decide +kernel
theorem dX11_text_53 : decode cX11_text 53 = .ok (.putfield 82, 3) := by decide +kernel
theorem dX11_text_56 : decode cX11_text 56 = .ok (.aload_n 1, 1) := by decide +kernel
theorem dX11_text_57 : decode cX11_text 57 = .ok (.ifnonnull 5, 3) := by decide +kernel
theorem dX11_text_60 : decode cX11_text 60 = .ok (.iconst (-1), 1) := by decide +kernel
theorem dX11_text_61 : decode cX11_text 61 = .ok (.ireturn, 1) := by decide +kernel
theorem dX11_text_62 : decode cX11_text 62 = .ok (.aload_n 0, 1) := by decide +kernel
theorem dX11_text_63 : decode cX11_text 63 = .ok (.getfield 21, 3) := by decide +kernel
theorem dX11_text_66 : decode cX11_text 66 = .ok (.aload_n 0, 1) := by decide +kernel
theorem dX11_text_67 : decode cX11_text 67 = .ok (.getfield 10, 3) := by decide +kernel
theorem dX11_text_70 : decode cX11_text 70 = .ok (.getfield 100, 3) := by decide +kernel
theorem dX11_text_73 : decode cX11_text 73 = .ok (.aload_n 1, 1) := by decide +kernel
theorem dX11_text_74 : decode cX11_text 74 = .ok (.aastore, 1) := by decide +kernel
theorem dX11_text_75 : decode cX11_text 75 = .ok (.aload_n 0, 1) := by decide +kernel
theorem dX11_text_76 : decode cX11_text 76 = .ok (.getfield 10, 3) := by decide +kernel
theorem dX11_text_79 : decode cX11_text 79 = .ok (.dup, 1) := by decide +kernel
theorem dX11_text_80 : decode cX11_text 80 = .ok (.getfield 100, 3) := by decide +kernel
theorem dX11_text_83 : decode cX11_text 83 = .ok (.iconst 1, 1) := by decide +kernel
theorem dX11_text_84 : decode cX11_text 84 = .ok (.iadd, 1) := by decide +kernel
theorem dX11_text_85 : decode cX11_text 85 = .ok (.putfield 100, 3) := by decide +kernel
theorem dX11_text_88 : decode cX11_text 88 = .ok (.aload_n 0, 1) := by decide +kernel
theorem dX11_text_89 : decode cX11_text 89 = .ok (.getfield 10, 3) := by decide +kernel
theorem dX11_text_92 : decode cX11_text 92 = .ok (.getfield 100, 3) := by decide +kernel
theorem dX11_text_95 : decode cX11_text 95 = .ok (.iconst 1, 1) := by decide +kernel
theorem dX11_text_96 : decode cX11_text 96 = .ok (.isub, 1) := by decide +kernel
theorem dX11_text_97 : decode cX11_text 97 = .ok (.ireturn, 1) := by decide +kernel
theorem dX11_fault_0 : decode cX11_fault 0 = .ok (.iload_n 1, 1) := by decide +kernel
theorem dX11_fault_1 : decode cX11_fault 1 = .ok (.ifCond .ne 8, 3) := by decide +kernel
theorem dX11_fault_4 : decode cX11_fault 4 = .ok (.aload_n 0, 1) := by decide +kernel
theorem dX11_fault_5 : decode cX11_fault 5 = .ok (.getfield 79, 3) := by decide +kernel
theorem dX11_fault_8 : decode cX11_fault 8 = .ok (.ireturn, 1) := by decide +kernel
theorem dX11_fault_9 : decode cX11_fault 9 = .ok (.iload_n 1, 1) := by decide +kernel
theorem dX11_fault_10 : decode cX11_fault 10 = .ok (.iconst 1, 1) := by decide +kernel
theorem dX11_fault_11 : decode cX11_fault 11 = .ok (.if_icmp .ne 10, 3) := by decide +kernel
theorem dX11_fault_14 : decode cX11_fault 14 = .ok (.aload_n 0, 1) := by decide +kernel
theorem dX11_fault_15 : decode cX11_fault 15 = .ok (.getfield 82, 3) := by decide +kernel
theorem dX11_fault_18 : decode cX11_fault 18 = .ok (.goto 4, 3) := by decide +kernel
theorem dX11_fault_21 : decode cX11_fault 21 = .ok (.iconst (-1), 1) := by decide +kernel
theorem dX11_fault_22 : decode cX11_fault 22 = .ok (.ireturn, 1) := by decide +kernel
theorem dX11_by_0 : decode cX11_by 0 = .ok (.iload_n 1, 1) := by decide +kernel
theorem dX11_by_1 : decode cX11_by 1 = .ok (.iconst (-1), 1) := by decide +kernel
theorem dX11_by_2 : decode cX11_by 2 = .ok (.if_icmp .eq 16, 3) := by decide +kernel
theorem dX11_by_5 : decode cX11_by 5 = .ok (.aload_n 0, 1) := by decide +kernel
theorem dX11_by_6 : decode cX11_by 6 = .ok (.getfield 10, 3) := by decide +kernel
theorem dX11_by_9 : decode cX11_by 9 = .ok (.iload_n 1, 1) := by decide +kernel
theorem dX11_by_10 : decode cX11_by 10 = .ok (.invokevirtual 108, 3) := by decide +kernel
theorem dX11_by_13 : decode cX11_by 13 = .ok (.ifCond .ne 5, 3) := by decide +kernel
theorem dX11_by_16 : decode cX11_by 16 = .ok (.iconst 0, 1) := by decide +kernel
theorem dX11_by_17 : decode cX11_by 17 = .ok (.ireturn, 1) := by decide +kernel
theorem dX11_by_18 : decode cX11_by 18 = .ok (.aload_n 0, 1) := by decide +kernel
theorem dX11_by_19 : decode cX11_by 19 = .ok (.getfield 10, 3) := by decide +kernel
theorem dX11_by_22 : decode cX11_by 22 = .ok (.iload_n 1, 1) := by decide +kernel
theorem dX11_by_23 : decode cX11_by 23 = .ok (.putfield 112, 3) := by decide +kernel
theorem dX11_by_26 : decode cX11_by 26 = .ok (.iconst 1, 1) := by decide +kernel
theorem dX11_by_27 : decode cX11_by 27 = .ok (.ireturn, 1) := by decide +kernel
theorem dX11_run_0 : decode cX11_run 0 = .ok (.aload_n 0, 1) := by decide +kernel
theorem dX11_run_1 : decode cX11_run 1 = .ok (.getfield 39, 3) := by decide +kernel
theorem dX11_run_4 : decode cX11_run 4 = .ok (.iload_n 1, 1) := by decide +kernel
theorem dX11_run_5 : decode cX11_run 5 = .ok (.iload_n 2, 1) := by decide +kernel
theorem dX11_run_6 : decode cX11_run 6 = .ok (.invokevirtual 115, 3) := by decide +kernel
theorem dX11_run_9 : decode cX11_run 9 = .ok (.ireturn, 1) := by decide +kernel
theorem dX11_cut_0 : decode cX11_cut 0 = .ok (.aload_n 0, 1) := by decide +kernel
theorem dX11_cut_1 : decode cX11_cut 1 = .ok (.getfield 39, 3) := by decide +kernel
theorem dX11_cut_4 : decode cX11_cut 4 = .ok (.iload_n 1, 1) := by decide +kernel
theorem dX11_cut_5 : decode cX11_cut 5 = .ok (.invokevirtual 118, 3) := by decide +kernel
theorem dX11_cut_8 : decode cX11_cut 8 = .ok (.ireturn, 1) := by decide +kernel
theorem dX11_add_0 : decode cX11_add 0 = .ok (.aload_n 0, 1) := by decide +kernel
theorem dX11_add_1 : decode cX11_add 1 = .ok (.getfield 39, 3) := by decide +kernel
theorem dX11_add_4 : decode cX11_add 4 = .ok (.iload_n 1, 1) := by decide +kernel
theorem dX11_add_5 : decode cX11_add 5 = .ok (.invokevirtual 121, 3) := by decide +kernel
theorem dX11_add_8 : decode cX11_add 8 = .ok (.ireturn, 1) := by decide +kernel
theorem dX11_year_0 : decode cX11_year 0 = .ok (.iload_n 1, 1) := by decide +kernel
theorem dX11_year_1 : decode cX11_year 1 = .ok (.iconst 1, 1) := by decide +kernel
theorem dX11_year_2 : decode cX11_year 2 = .ok (.if_icmp .lt 27, 3) := by decide +kernel
theorem dX11_year_5 : decode cX11_year 5 = .ok (.iload_n 1, 1) := by decide +kernel
theorem dX11_year_6 : decode cX11_year 6 = .ok (.bipush 60, 2) := by decide +kernel
theorem dX11_year_8 : decode cX11_year 8 = .ok (.if_icmp .gt 21, 3) := by decide +kernel
theorem dX11_year_11 : decode cX11_year 11 = .ok (.iload_n 1, 1) := by decide +kernel
theorem dX11_year_12 : decode cX11_year 12 = .ok (.sipush 9999, 3) := by decide +kernel
theorem dX11_year_15 : decode cX11_year 15 = .ok (.aload_n 0, 1) := by decide +kernel
theorem dX11_year_16 : decode cX11_year 16 = .ok (.getfield 10, 3) := by decide +kernel
theorem dX11_year_19 : decode cX11_year 19 = .ok (.getfield 124, 3) := by decide +kernel
theorem dX11_year_22 : decode cX11_year 22 = .ok (.getfield 127, 3) := by decide +kernel
theorem dX11_year_25 : decode cX11_year 25 = .ok (.isub, 1) := by decide +kernel
theorem dX11_year_26 : decode cX11_year 26 = .ok (.if_icmp .le 5, 3) := by decide +kernel
theorem dX11_year_29 : decode cX11_year 29 = .ok (.iconst (-1), 1) := by decide +kernel
theorem dX11_year_30 : decode cX11_year 30 = .ok (.ireturn, 1) := by decide +kernel
theorem dX11_year_31 : decode cX11_year 31 = .ok (.aload_n 0, 1) := by decide +kernel
theorem dX11_year_32 : decode cX11_year 32 = .ok (.getfield 39, 3) := by decide +kernel
theorem dX11_year_35 : decode cX11_year 35 = .ok (.iload_n 1, 1) := by decide +kernel
theorem dX11_year_36 : decode cX11_year 36 = .ok (.invokevirtual 130, 3) := by decide +kernel
theorem dX11_year_39 : decode cX11_year 39 = .ok (.ireturn, 1) := by decide +kernel
theorem dX11_played_0 : decode cX11_played 0 = .ok (.aload_n 0, 1) := by decide +kernel
theorem dX11_played_1 : decode cX11_played 1 = .ok (.getfield 10, 3) := by decide +kernel
theorem dX11_played_4 : decode cX11_played 4 = .ok (.iload_n 1, 1) := by decide +kernel
theorem dX11_played_5 : decode cX11_played 5 = .ok (.invokevirtual 108, 3) := by decide +kernel
theorem dX11_played_8 : decode cX11_played 8 = .ok (.ifCond .eq 12, 3) := by decide +kernel
theorem dX11_played_11 : decode cX11_played 11 = .ok (.aload_n 0, 1) := by decide +kernel
theorem dX11_played_12 : decode cX11_played 12 = .ok (.getfield 21, 3) := by decide +kernel
theorem dX11_played_15 : decode cX11_played 15 = .ok (.iload_n 1, 1) := by decide +kernel
theorem dX11_played_16 : decode cX11_played 16 = .ok (.aaload, 1) := by decide +kernel
theorem dX11_played_17 : decode cX11_played 17 = .ok (.ifnonnull 6, 3) := by decide +kernel
theorem dX11_played_20 : decode cX11_played 20 = .ok (.bipush (-2), 2) := by decide +kernel
theorem dX11_played_22 : decode cX11_played 22 = .ok (.ireturn, 1) := by decide +kernel
theorem dX11_played_23 : decode cX11_played 23 = .ok (.aload_n 0, 1) := by decide +kernel
theorem dX11_played_24 : decode cX11_played 24 = .ok (.getfield 21, 3) := by decide +kernel
theorem dX11_played_27 : decode cX11_played 27 = .ok (.iload_n 1, 1) := by decide +kernel
theorem dX11_played_28 : decode cX11_played 28 = .ok (.aaload, 1) := by decide +kernel
theorem dX11_played_29 : decode cX11_played 29 = .ok (.getfield 134, 3) := by decide +kernel
theorem dX11_played_32 : decode cX11_played 32 = .ok (.astore_n 2, 1) := by decide +kernel
theorem dX11_played_33 : decode cX11_played 33 = .ok (.iconst 0, 1) := by decide +kernel
theorem dX11_played_34 : decode cX11_played 34 = .ok (.istore_n 3, 1) := by decide +kernel
theorem dX11_played_35 : decode cX11_played 35 = .ok (.iconst 3, 1) := by decide +kernel
theorem dX11_played_36 : decode cX11_played 36 = .ok (.iload_n 3, 1) := by decide +kernel
theorem dX11_played_37 : decode cX11_played 37 = .ok (.imul, 1) := by decide +kernel
theorem dX11_played_38 : decode cX11_played 38 = .ok (.iconst 2, 1) := by decide +kernel
theorem dX11_played_39 : decode cX11_played 39 = .ok (.iadd, 1) := by decide +kernel
theorem dX11_played_40 : decode cX11_played 40 = .ok (.aload_n 2, 1) := by decide +kernel
theorem dX11_played_41 : decode cX11_played 41 = .ok (.arraylength, 1) := by decide +kernel
theorem dX11_played_42 : decode cX11_played 42 = .ok (.if_icmp .ge 40, 3) := by decide +kernel
theorem dX11_played_45 : decode cX11_played 45 = .ok (.aload_n 0, 1) := by decide +kernel
theorem dX11_played_46 : decode cX11_played 46 = .ok (.getfield 39, 3) := by decide +kernel
theorem dX11_played_49 : decode cX11_played 49 = .ok (.aload_n 2, 1) := by decide +kernel
theorem dX11_played_50 : decode cX11_played 50 = .ok (.iconst 3, 1) := by decide +kernel
theorem dX11_played_51 : decode cX11_played 51 = .ok (.iload_n 3, 1) := by decide +kernel
theorem dX11_played_52 : decode cX11_played 52 = .ok (.imul, 1) := by decide +kernel
theorem dX11_played_53 : decode cX11_played 53 = .ok (.iaload, 1) := by decide +kernel
theorem dX11_played_54 : decode cX11_played 54 = .ok (.aload_n 2, 1) := by decide +kernel
theorem dX11_played_55 : decode cX11_played 55 = .ok (.iconst 3, 1) := by decide +kernel
theorem dX11_played_56 : decode cX11_played 56 = .ok (.iload_n 3, 1) := by decide +kernel
theorem dX11_played_57 : decode cX11_played 57 = .ok (.imul, 1) := by decide +kernel
theorem dX11_played_58 : decode cX11_played 58 = .ok (.iconst 1, 1) := by decide +kernel
theorem dX11_played_59 : decode cX11_played 59 = .ok (.iadd, 1) := by decide +kernel
theorem dX11_played_60 : decode cX11_played 60 = .ok (.iaload, 1) := by decide +kernel
theorem dX11_played_61 : decode cX11_played 61 = .ok (.aload_n 2, 1) := by decide +kernel
theorem dX11_played_62 : decode cX11_played 62 = .ok (.iconst 3, 1) := by decide +kernel
theorem dX11_played_63 : decode cX11_played 63 = .ok (.iload_n 3, 1) := by decide +kernel
theorem dX11_played_64 : decode cX11_played 64 = .ok (.imul, 1) := by decide +kernel
theorem dX11_played_65 : decode cX11_played 65 = .ok (.iconst 2, 1) := by decide +kernel
theorem dX11_played_66 : decode cX11_played 66 = .ok (.iadd, 1) := by decide +kernel
theorem dX11_played_67 : decode cX11_played 67 = .ok (.iaload, 1) := by decide +kernel
theorem dX11_played_68 : decode cX11_played 68 = .ok (.invokevirtual 137, 3) := by decide +kernel
theorem dX11_played_71 : decode cX11_played 71 = .ok (.ifCond .ne 5, 3) := by decide +kernel
theorem dX11_played_74 : decode cX11_played 74 = .ok (.iload_n 3, 1) := by decide +kernel
theorem dX11_played_75 : decode cX11_played 75 = .ok (.ireturn, 1) := by decide +kernel
theorem dX11_played_76 : decode cX11_played 76 = .ok (.iinc 3 1, 3) := by decide +kernel
theorem dX11_played_79 : decode cX11_played 79 = .ok (.goto (-44), 3) := by decide +kernel
theorem dX11_played_82 : decode cX11_played 82 = .ok (.iconst (-1), 1) := by decide +kernel
theorem dX11_played_83 : decode cX11_played 83 = .ok (.ireturn, 1) := by decide +kernel
theorem dX11_ages_0 : decode cX11_ages 0 = .ok (.iload_n 1, 1) := by decide +kernel
theorem dX11_ages_1 : decode cX11_ages 1 = .ok (.ifCond .lt 21, 3) := by decide +kernel
theorem dX11_ages_4 : decode cX11_ages 4 = .ok (.iload_n 1, 1) := by decide +kernel
theorem dX11_ages_5 : decode cX11_ages 5 = .ok (.sipush 9999, 3) := by decide +kernel
theorem dX11_ages_8 : decode cX11_ages 8 = .ok (.if_icmp .gt 14, 3) := by decide +kernel
theorem dX11_ages_11 : decode cX11_ages 11 = .ok (.iload_n 2, 1) := by decide +kernel
theorem dX11_ages_12 : decode cX11_ages 12 = .ok (.iconst 1, 1) := by decide +kernel
theorem dX11_ages_13 : decode cX11_ages 13 = .ok (.if_icmp .lt 9, 3) := by decide +kernel
theorem dX11_ages_16 : decode cX11_ages 16 = .ok (.iload_n 2, 1) := by decide +kernel
theorem dX11_ages_17 : decode cX11_ages 17 = .ok (.bipush 40, 2) := by decide +kernel
theorem dX11_ages_19 : decode cX11_ages 19 = .ok (.if_icmp .le 5, 3) := by decide +kernel
theorem dX11_ages_22 : decode cX11_ages 22 = .ok (.iconst (-1), 1) := by decide +kernel
theorem dX11_ages_23 : decode cX11_ages 23 = .ok (.ireturn, 1) := by decide +kernel
theorem dX11_ages_24 : decode cX11_ages 24 = .ok (.aload_n 0, 1) := by decide +kernel
theorem dX11_ages_25 : decode cX11_ages 25 = .ok (.getfield 39, 3) := by decide +kernel
theorem dX11_ages_28 : decode cX11_ages 28 = .ok (.iload_n 1, 1) := by decide +kernel
theorem dX11_ages_29 : decode cX11_ages 29 = .ok (.iload_n 2, 1) := by decide +kernel
theorem dX11_ages_30 : decode cX11_ages 30 = .ok (.invokevirtual 141, 3) := by decide +kernel
theorem dX11_ages_33 : decode cX11_ages 33 = .ok (.aload_n 0, 1) := by decide +kernel
theorem dX11_ages_34 : decode cX11_ages 34 = .ok (.getfield 10, 3) := by decide +kernel
theorem dX11_ages_37 : decode cX11_ages 37 = .ok (.getfield 124, 3) := by decide +kernel
theorem dX11_ages_40 : decode cX11_ages 40 = .ok (.getfield 127, 3) := by decide +kernel
theorem dX11_ages_43 : decode cX11_ages 43 = .ok (.ireturn, 1) := by decide +kernel
theorem dX11_undo_0 : decode cX11_undo 0 = .ok (.aload_n 0, 1) := by decide +kernel
theorem dX11_undo_1 : decode cX11_undo 1 = .ok (.getfield 10, 3) := by decide +kernel
theorem dX11_undo_4 : decode cX11_undo 4 = .ok (.getfield 145, 3) := by decide +kernel
theorem dX11_undo_7 : decode cX11_undo 7 = .ok (.aload_n 0, 1) := by decide +kernel
theorem dX11_undo_8 : decode cX11_undo 8 = .ok (.getfield 10, 3) := by decide +kernel
theorem dX11_undo_11 : decode cX11_undo 11 = .ok (.getfield 124, 3) := by decide +kernel
theorem dX11_undo_14 : decode cX11_undo 14 = .ok (.invokevirtual 149, 3) := by decide +kernel
theorem dX11_undo_17 : decode cX11_undo 17 = .ok (.ifCond .eq 16, 3) := by decide +kernel
theorem dX11_undo_20 : decode cX11_undo 20 = .ok (.aload_n 0, 1) := by decide +kernel
theorem dX11_undo_21 : decode cX11_undo 21 = .ok (.getfield 10, 3) := by decide +kernel
theorem dX11_undo_24 : decode cX11_undo 24 = .ok (.getfield 145, 3) := by decide +kernel
theorem dX11_undo_27 : decode cX11_undo 27 = .ok (.getfield 155, 3) := by decide +kernel
theorem dX11_undo_30 : decode cX11_undo 30 = .ok (.goto 4, 3) := by decide +kernel
theorem dX11_undo_33 : decode cX11_undo 33 = .ok (.iconst (-1), 1) := by decide +kernel
theorem dX11_undo_34 : decode cX11_undo 34 = .ok (.ireturn, 1) := by decide +kernel
theorem dX11_of_0 : decode cX11_of 0 = .ok (.aload_n 0, 1) := by decide +kernel
theorem dX11_of_1 : decode cX11_of 1 = .ok (.getfield 10, 3) := by decide +kernel
theorem dX11_of_4 : decode cX11_of 4 = .ok (.iload_n 1, 1) := by decide +kernel
theorem dX11_of_5 : decode cX11_of 5 = .ok (.invokevirtual 158, 3) := by decide +kernel
theorem dX11_of_8 : decode cX11_of 8 = .ok (.ifCond .ne 6, 3) := by decide +kernel
theorem dX11_of_11 : decode cX11_of 11 = .ok (.bipush (-2), 2) := by decide +kernel
theorem dX11_of_13 : decode cX11_of 13 = .ok (.ireturn, 1) := by decide +kernel
theorem dX11_of_14 : decode cX11_of 14 = .ok (.iload_n 2, 1) := by decide +kernel
theorem dX11_of_15 : decode cX11_of 15 = .ok (.tableswitch 58 0 2 #[25, 35, 45], 25) := by decide +kernel
theorem dX11_of_40 : decode cX11_of 40 = .ok (.aload_n 0, 1) := by decide +kernel
theorem dX11_of_41 : decode cX11_of 41 = .ok (.getfield 10, 3) := by decide +kernel
theorem dX11_of_44 : decode cX11_of 44 = .ok (.getfield 161, 3) := by decide +kernel
theorem dX11_of_47 : decode cX11_of 47 = .ok (.iload_n 1, 1) := by decide +kernel
theorem dX11_of_48 : decode cX11_of 48 = .ok (.iaload, 1) := by decide +kernel
theorem dX11_of_49 : decode cX11_of 49 = .ok (.ireturn, 1) := by decide +kernel
theorem dX11_of_50 : decode cX11_of 50 = .ok (.aload_n 0, 1) := by decide +kernel
theorem dX11_of_51 : decode cX11_of 51 = .ok (.getfield 10, 3) := by decide +kernel
theorem dX11_of_54 : decode cX11_of 54 = .ok (.getfield 164, 3) := by decide +kernel
theorem dX11_of_57 : decode cX11_of 57 = .ok (.iload_n 1, 1) := by decide +kernel
theorem dX11_of_58 : decode cX11_of 58 = .ok (.iaload, 1) := by decide +kernel
theorem dX11_of_59 : decode cX11_of 59 = .ok (.ireturn, 1) := by decide +kernel
theorem dX11_of_60 : decode cX11_of 60 = .ok (.aload_n 0, 1) := by decide +kernel
theorem dX11_of_61 : decode cX11_of 61 = .ok (.getfield 10, 3) := by decide +kernel
theorem dX11_of_64 : decode cX11_of 64 = .ok (.getfield 124, 3) := by decide +kernel
theorem dX11_of_67 : decode cX11_of 67 = .ok (.getfield 167, 3) := by decide +kernel
theorem dX11_of_70 : decode cX11_of 70 = .ok (.iload_n 1, 1) := by decide +kernel
theorem dX11_of_71 : decode cX11_of 71 = .ok (.iaload, 1) := by decide +kernel
theorem dX11_of_72 : decode cX11_of 72 = .ok (.ireturn, 1) := by decide +kernel
theorem dX11_of_73 : decode cX11_of 73 = .ok (.bipush (-2), 2) := by decide +kernel
theorem dX11_of_75 : decode cX11_of 75 = .ok (.ireturn, 1) := by decide +kernel
theorem dX11_ofBar_0 : decode cX11_ofBar 0 = .ok (.iload_n 1, 1) := by decide +kernel
theorem dX11_ofBar_1 : decode cX11_ofBar 1 = .ok (.invokestatic 170, 3) := by decide +kernel
theorem dX11_ofBar_4 : decode cX11_ofBar 4 = .ok (.ifCond .ne 5, 3) := by decide +kernel
theorem dX11_ofBar_7 : decode cX11_ofBar 7 = .ok (.iconst (-1), 1) := by decide +kernel
theorem dX11_ofBar_8 : decode cX11_ofBar 8 = .ok (.ireturn, 1) := by decide +kernel
theorem dX11_ofBar_9 : decode cX11_ofBar 9 = .ok (.iload_n 2, 1) := by decide +kernel
theorem dX11_ofBar_10 : decode cX11_ofBar 10 = .ok (.tableswitch 68 0 2 #[26, 39, 52], 26) := by decide +kernel
theorem dX11_ofBar_36 : decode cX11_ofBar 36 = .ok (.aload_n 0, 1) := by decide +kernel
theorem dX11_ofBar_37 : decode cX11_ofBar 37 = .ok (.getfield 10, 3) := by decide +kernel
theorem dX11_ofBar_40 : decode cX11_ofBar 40 = .ok (.getfield 124, 3) := by decide +kernel
theorem dX11_ofBar_43 : decode cX11_ofBar 43 = .ok (.getfield 173, 3) := by decide +kernel
theorem dX11_ofBar_46 : decode cX11_ofBar 46 = .ok (.iload_n 1, 1) := by decide +kernel
theorem dX11_ofBar_47 : decode cX11_ofBar 47 = .ok (.iaload, 1) := by decide +kernel
theorem dX11_ofBar_48 : decode cX11_ofBar 48 = .ok (.ireturn, 1) := by decide +kernel
theorem dX11_ofBar_49 : decode cX11_ofBar 49 = .ok (.aload_n 0, 1) := by decide +kernel
theorem dX11_ofBar_50 : decode cX11_ofBar 50 = .ok (.getfield 10, 3) := by decide +kernel
theorem dX11_ofBar_53 : decode cX11_ofBar 53 = .ok (.getfield 124, 3) := by decide +kernel
theorem dX11_ofBar_56 : decode cX11_ofBar 56 = .ok (.getfield 176, 3) := by decide +kernel
theorem dX11_ofBar_59 : decode cX11_ofBar 59 = .ok (.iload_n 1, 1) := by decide +kernel
theorem dX11_ofBar_60 : decode cX11_ofBar 60 = .ok (.iaload, 1) := by decide +kernel
theorem dX11_ofBar_61 : decode cX11_ofBar 61 = .ok (.ireturn, 1) := by decide +kernel
theorem dX11_ofBar_62 : decode cX11_ofBar 62 = .ok (.aload_n 0, 1) := by decide +kernel
theorem dX11_ofBar_63 : decode cX11_ofBar 63 = .ok (.getfield 30, 3) := by decide +kernel
theorem dX11_ofBar_66 : decode cX11_ofBar 66 = .ok (.aload_n 0, 1) := by decide +kernel
theorem dX11_ofBar_67 : decode cX11_ofBar 67 = .ok (.getfield 10, 3) := by decide +kernel
theorem dX11_ofBar_70 : decode cX11_ofBar 70 = .ok (.getfield 124, 3) := by decide +kernel
theorem dX11_ofBar_73 : decode cX11_ofBar 73 = .ok (.iload_n 1, 1) := by decide +kernel
theorem dX11_ofBar_74 : decode cX11_ofBar 74 = .ok (.invokevirtual 179, 3) := by decide +kernel
theorem dX11_ofBar_77 : decode cX11_ofBar 77 = .ok (.ireturn, 1) := by decide +kernel
theorem dX11_ofBar_78 : decode cX11_ofBar 78 = .ok (.iconst (-1), 1) := by decide +kernel
theorem dX11_ofBar_79 : decode cX11_ofBar 79 = .ok (.ireturn, 1) := by decide +kernel
theorem dX11_catches_0 : decode cX11_catches 0 = .ok (.aload_n 0, 1) := by decide +kernel
theorem dX11_catches_1 : decode cX11_catches 1 = .ok (.getfield 10, 3) := by decide +kernel
theorem dX11_catches_4 : decode cX11_catches 4 = .ok (.iload_n 1, 1) := by decide +kernel
theorem dX11_catches_5 : decode cX11_catches 5 = .ok (.invokevirtual 158, 3) := by decide +kernel
theorem dX11_catches_8 : decode cX11_catches 8 = .ok (.ifCond .eq 21, 3) := by decide +kernel
theorem dX11_catches_11 : decode cX11_catches 11 = .ok (.iload_n 2, 1) := by decide +kernel
theorem dX11_catches_12 : decode cX11_catches 12 = .ok (.invokestatic 170, 3) := by decide +kernel
theorem dX11_catches_15 : decode cX11_catches 15 = .ok (.ifCond .eq 14, 3) := by decide +kernel
theorem dX11_catches_18 : decode cX11_catches 18 = .ok (.iload_n 3, 1) := by decide +kernel
theorem dX11_catches_19 : decode cX11_catches 19 = .ok (.iconst 1, 1) := by decide +kernel
theorem dX11_catches_20 : decode cX11_catches 20 = .ok (.if_icmp .lt 9, 3) := by decide +kernel
theorem dX11_catches_23 : decode cX11_catches 23 = .ok (.iload_n 3, 1) := by decide +kernel
theorem dX11_catches_24 : decode cX11_catches 24 = .ok (.bipush 60, 2) := by decide +kernel
theorem dX11_catches_26 : decode cX11_catches 26 = .ok (.if_icmp .le 5, 3) := by decide +kernel
theorem dX11_catches_29 : decode cX11_catches 29 = .ok (.iconst (-1), 1) := by decide +kernel
theorem dX11_catches_30 : decode cX11_catches 30 = .ok (.ireturn, 1) := by decide +kernel
theorem dX11_catches_31 : decode cX11_catches 31 = .ok (.aload_n 0, 1) := by decide +kernel
theorem dX11_catches_32 : decode cX11_catches 32 = .ok (.getfield 30, 3) := by decide +kernel
theorem dX11_catches_35 : decode cX11_catches 35 = .ok (.aload_n 0, 1) := by decide +kernel
theorem dX11_catches_36 : decode cX11_catches 36 = .ok (.getfield 10, 3) := by decide +kernel
theorem dX11_catches_39 : decode cX11_catches 39 = .ok (.getfield 124, 3) := by decide +kernel
theorem dX11_catches_42 : decode cX11_catches 42 = .ok (.aload_n 0, 1) := by decide +kernel
theorem dX11_catches_43 : decode cX11_catches 43 = .ok (.getfield 10, 3) := by decide +kernel
theorem dX11_catches_46 : decode cX11_catches 46 = .ok (.getfield 112, 3) := by decide +kernel
theorem dX11_catches_49 : decode cX11_catches 49 = .ok (.iload_n 1, 1) := by decide +kernel
theorem dX11_catches_50 : decode cX11_catches 50 = .ok (.iload_n 2, 1) := by decide +kernel
theorem dX11_catches_51 : decode cX11_catches 51 = .ok (.iload_n 3, 1) := by decide +kernel
theorem dX11_catches_52 : decode cX11_catches 52 = .ok (.invokevirtual 183, 3) := by decide +kernel
theorem dX11_catches_55 : decode cX11_catches 55 = .ok (.ireturn, 1) := by decide +kernel
theorem dX11_is_0 : decode cX11_is 0 = .ok (.iload_n 1, 1) := by decide +kernel
theorem dX11_is_1 : decode cX11_is 1 = .ok (.tableswitch 75 0 3 #[31, 42, 53, 67], 31) := by decide +kernel
theorem dX11_is_32 : decode cX11_is 32 = .ok (.aload_n 0, 1) := by decide +kernel
theorem dX11_is_33 : decode cX11_is 33 = .ok (.getfield 10, 3) := by decide +kernel
theorem dX11_is_36 : decode cX11_is 36 = .ok (.getfield 124, 3) := by decide +kernel
theorem dX11_is_39 : decode cX11_is 39 = .ok (.getfield 127, 3) := by decide +kernel
theorem dX11_is_42 : decode cX11_is 42 = .ok (.ireturn, 1) := by decide +kernel
theorem dX11_is_43 : decode cX11_is 43 = .ok (.aload_n 0, 1) := by decide +kernel
theorem dX11_is_44 : decode cX11_is 44 = .ok (.getfield 10, 3) := by decide +kernel
theorem dX11_is_47 : decode cX11_is 47 = .ok (.getfield 124, 3) := by decide +kernel
theorem dX11_is_50 : decode cX11_is 50 = .ok (.getfield 187, 3) := by decide +kernel
theorem dX11_is_53 : decode cX11_is 53 = .ok (.ireturn, 1) := by decide +kernel
theorem dX11_is_54 : decode cX11_is 54 = .ok (.aload_n 0, 1) := by decide +kernel
theorem dX11_is_55 : decode cX11_is 55 = .ok (.getfield 10, 3) := by decide +kernel
theorem dX11_is_58 : decode cX11_is 58 = .ok (.getfield 124, 3) := by decide +kernel
theorem dX11_is_61 : decode cX11_is 61 = .ok (.iconst 0, 1) := by decide +kernel
theorem dX11_is_62 : decode cX11_is 62 = .ok (.bipush 30, 2) := by decide +kernel
theorem dX11_is_64 : decode cX11_is 64 = .ok (.invokevirtual 190, 3) := by decide +kernel
theorem dX11_is_67 : decode cX11_is 67 = .ok (.ireturn, 1) := by decide +kernel
theorem dX11_is_68 : decode cX11_is 68 = .ok (.aload_n 0, 1) := by decide +kernel
theorem dX11_is_69 : decode cX11_is 69 = .ok (.getfield 10, 3) := by decide +kernel
theorem dX11_is_72 : decode cX11_is 72 = .ok (.invokevirtual 193, 3) := by decide +kernel
theorem dX11_is_75 : decode cX11_is 75 = .ok (.ireturn, 1) := by decide +kernel
theorem dX11_is_76 : decode cX11_is 76 = .ok (.bipush (-2), 2) := by decide +kernel
theorem dX11_is_78 : decode cX11_is 78 = .ok (.ireturn, 1) := by decide +kernel
theorem dX11_book_0 : decode cX11_book 0 = .ok (.aload_n 0, 1) := by decide +kernel
theorem dX11_book_1 : decode cX11_book 1 = .ok (.getfield 10, 3) := by decide +kernel
theorem dX11_book_4 : decode cX11_book 4 = .ok (.getfield 124, 3) := by decide +kernel
theorem dX11_book_7 : decode cX11_book 7 = .ok (.astore_n 3, 1) := by decide +kernel
theorem dX11_book_8 : decode cX11_book 8 = .ok (.iload_n 1, 1) := by decide +kernel
theorem dX11_book_9 : decode cX11_book 9 = .ok (.iconst (-1), 1) := by decide +kernel
theorem dX11_book_10 : decode cX11_book 10 = .ok (.if_icmp .ne 8, 3) := by decide +kernel
theorem dX11_book_13 : decode cX11_book 13 = .ok (.aload_n 3, 1) := by decide +kernel
theorem dX11_book_14 : decode cX11_book 14 = .ok (.getfield 197, 3) := by decide +kernel
theorem dX11_book_17 : decode cX11_book 17 = .ok (.ireturn, 1) := by decide +kernel
theorem dX11_book_18 : decode cX11_book 18 = .ok (.iload_n 1, 1) := by decide +kernel
theorem dX11_book_19 : decode cX11_book 19 = .ok (.ifCond .lt 20, 3) := by decide +kernel
theorem dX11_book_22 : decode cX11_book 22 = .ok (.iload_n 1, 1) := by decide +kernel
theorem dX11_book_23 : decode cX11_book 23 = .ok (.aload_n 3, 1) := by decide +kernel
theorem dX11_book_24 : decode cX11_book 24 = .ok (.getfield 197, 3) := by decide +kernel
theorem dX11_book_27 : decode cX11_book 27 = .ok (.if_icmp .ge 12, 3) := by decide +kernel
theorem dX11_book_30 : decode cX11_book 30 = .ok (.iload_n 2, 1) := by decide +kernel
theorem dX11_book_31 : decode cX11_book 31 = .ok (.ifCond .lt 8, 3) := by decide +kernel
theorem dX11_book_34 : decode cX11_book 34 = .ok (.iload_n 2, 1) := by decide +kernel
theorem dX11_book_35 : decode cX11_book 35 = .ok (.iconst 3, 1) := by decide +kernel
theorem dX11_book_36 : decode cX11_book 36 = .ok (.if_icmp .le 6, 3) := by decide +kernel
theorem dX11_book_39 : decode cX11_book 39 = .ok (.bipush (-2), 2) := by decide +kernel
theorem dX11_book_41 : decode cX11_book 41 = .ok (.ireturn, 1) := by decide +kernel
theorem dX11_book_42 : decode cX11_book 42 = .ok (.aload_n 3, 1) := by decide +kernel
theorem dX11_book_43 : decode cX11_book 43 = .ok (.getfield 200, 3) := by decide +kernel
theorem dX11_book_46 : decode cX11_book 46 = .ok (.iconst 4, 1) := by decide +kernel
theorem dX11_book_47 : decode cX11_book 47 = .ok (.iload_n 1, 1) := by decide +kernel
theorem dX11_book_48 : decode cX11_book 48 = .ok (.imul, 1) := by decide +kernel
theorem dX11_book_49 : decode cX11_book 49 = .ok (.iload_n 2, 1) := by decide +kernel
theorem dX11_book_50 : decode cX11_book 50 = .ok (.iadd, 1) := by decide +kernel
theorem dX11_book_51 : decode cX11_book 51 = .ok (.iaload, 1) := by decide +kernel
theorem dX11_book_52 : decode cX11_book 52 = .ok (.ireturn, 1) := by decide +kernel
theorem dX11_foretold_0 : decode cX11_foretold 0 = .ok (.iload_n 1, 1) := by decide +kernel
theorem dX11_foretold_1 : decode cX11_foretold 1 = .ok (.iconst 1, 1) := by decide +kernel
theorem dX11_foretold_2 : decode cX11_foretold 2 = .ok (.if_icmp .lt 20, 3) := by decide +kernel
theorem dX11_foretold_5 : decode cX11_foretold 5 = .ok (.iload_n 1, 1) := by decide +kernel
theorem dX11_foretold_6 : decode cX11_foretold 6 = .ok (.bipush 60, 2) := by decide +kernel
theorem dX11_foretold_8 : decode cX11_foretold 8 = .ok (.if_icmp .gt 14, 3) := by decide +kernel
theorem dX11_foretold_11 : decode cX11_foretold 11 = .ok (.aload_n 0, 1) := by decide +kernel
theorem dX11_foretold_12 : decode cX11_foretold 12 = .ok (.getfield 10, 3) := by decide +kernel
theorem dX11_foretold_15 : decode cX11_foretold 15 = .ok (.iload_n 2, 1) := by decide +kernel
theorem dX11_foretold_16 : decode cX11_foretold 16 = .ok (.invokevirtual 158, 3) := by decide +kernel
theorem dX11_foretold_19 : decode cX11_foretold 19 = .ok (.ifCond .ne 6, 3) := by decide +kernel
theorem dX11_foretold_22 : decode cX11_foretold 22 = .ok (.bipush (-2), 2) := by decide +kernel
theorem dX11_foretold_24 : decode cX11_foretold 24 = .ok (.ireturn, 1) := by decide +kernel
theorem dX11_foretold_25 : decode cX11_foretold 25 = .ok (.aload_n 0, 1) := by decide +kernel
theorem dX11_foretold_26 : decode cX11_foretold 26 = .ok (.getfield 67, 3) := by decide +kernel
theorem dX11_foretold_29 : decode cX11_foretold 29 = .ok (.aload_n 0, 1) := by decide +kernel
theorem dX11_foretold_30 : decode cX11_foretold 30 = .ok (.getfield 10, 3) := by decide +kernel
theorem dX11_foretold_33 : decode cX11_foretold 33 = .ok (.getfield 124, 3) := by decide +kernel
theorem dX11_foretold_36 : decode cX11_foretold 36 = .ok (.invokevirtual 203, 3) := by decide +kernel
theorem dX11_foretold_39 : decode cX11_foretold 39 = .ok (.aload_n 0, 1) := by decide +kernel
theorem dX11_foretold_40 : decode cX11_foretold 40 = .ok (.getfield 67, 3) := by decide +kernel
theorem dX11_foretold_43 : decode cX11_foretold 43 = .ok (.getfield 127, 3) := by decide +kernel
theorem dX11_foretold_46 : decode cX11_foretold 46 = .ok (.sipush 9999, 3) := by decide +kernel
theorem dX11_foretold_49 : decode cX11_foretold 49 = .ok (.if_icmp .ge 15, 3) := by decide +kernel
theorem dX11_foretold_52 : decode cX11_foretold 52 = .ok (.aload_n 0, 1) := by decide +kernel
theorem dX11_foretold_53 : decode cX11_foretold 53 = .ok (.getfield 39, 3) := by decide +kernel
theorem dX11_foretold_56 : decode cX11_foretold 56 = .ok (.aload_n 0, 1) := by decide +kernel
theorem dX11_foretold_57 : decode cX11_foretold 57 = .ok (.getfield 67, 3) := by decide +kernel
theorem dX11_foretold_60 : decode cX11_foretold 60 = .ok (.invokevirtual 207, 3) := by decide +kernel
theorem dX11_foretold_63 : decode cX11_foretold 63 = .ok (.pop, 1) := by decide +kernel
theorem dX11_foretold_64 : decode cX11_foretold 64 = .ok (.aload_n 0, 1) := by decide +kernel
theorem dX11_foretold_65 : decode cX11_foretold 65 = .ok (.getfield 67, 3) := by decide +kernel
theorem dX11_foretold_68 : decode cX11_foretold 68 = .ok (.getfield 167, 3) := by decide +kernel
theorem dX11_foretold_71 : decode cX11_foretold 71 = .ok (.iload_n 2, 1) := by decide +kernel
theorem dX11_foretold_72 : decode cX11_foretold 72 = .ok (.iaload, 1) := by decide +kernel
theorem dX11_foretold_73 : decode cX11_foretold 73 = .ok (.ireturn, 1) := by decide +kernel
theorem dX11_likely_0 : decode cX11_likely 0 = .ok (.aload_n 0, 1) := by decide +kernel
theorem dX11_likely_1 : decode cX11_likely 1 = .ok (.getfield 10, 3) := by decide +kernel
theorem dX11_likely_4 : decode cX11_likely 4 = .ok (.iload_n 1, 1) := by decide +kernel
theorem dX11_likely_5 : decode cX11_likely 5 = .ok (.invokevirtual 158, 3) := by decide +kernel
theorem dX11_likely_8 : decode cX11_likely 8 = .ok (.ifCond .eq 20, 3) := by decide +kernel
theorem dX11_likely_11 : decode cX11_likely 11 = .ok (.iload_n 2, 1) := by decide +kernel
theorem dX11_likely_12 : decode cX11_likely 12 = .ok (.invokestatic 170, 3) := by decide +kernel
theorem dX11_likely_15 : decode cX11_likely 15 = .ok (.ifCond .eq 13, 3) := by decide +kernel
theorem dX11_likely_18 : decode cX11_likely 18 = .ok (.iload_n 3, 1) := by decide +kernel
theorem dX11_likely_19 : decode cX11_likely 19 = .ok (.ifCond .lt 9, 3) := by decide +kernel
theorem dX11_likely_22 : decode cX11_likely 22 = .ok (.iload_n 3, 1) := by decide +kernel
theorem dX11_likely_23 : decode cX11_likely 23 = .ok (.bipush 12, 2) := by decide +kernel
theorem dX11_likely_25 : decode cX11_likely 25 = .ok (.if_icmp .le 7, 3) := by decide +kernel
theorem dX11_likely_28 : decode cX11_likely 28 = .ok (.ldc2_w 211, 3) := by decide +kernel
theorem dX11_likely_31 : decode cX11_likely 31 = .ok (.lreturn, 1) := by decide +kernel
theorem dX11_likely_32 : decode cX11_likely 32 = .ok (.aload_n 0, 1) := by decide +kernel
theorem dX11_likely_33 : decode cX11_likely 33 = .ok (.getfield 46, 3) := by decide +kernel
theorem dX11_likely_36 : decode cX11_likely 36 = .ok (.iload_n 1, 1) := by decide +kernel
theorem dX11_likely_37 : decode cX11_likely 37 = .ok (.iload_n 2, 1) := by decide +kernel
theorem dX11_likely_38 : decode cX11_likely 38 = .ok (.invokevirtual 213, 3) := by decide +kernel
theorem dX11_likely_41 : decode cX11_likely 41 = .ok (.aload_n 0, 1) := by decide +kernel
theorem dX11_likely_42 : decode cX11_likely 42 = .ok (.getfield 46, 3) := by decide +kernel
theorem dX11_likely_45 : decode cX11_likely 45 = .ok (.iload_n 3, 1) := by decide +kernel
theorem dX11_likely_46 : decode cX11_likely 46 = .ok (.invokevirtual 216, 3) := by decide +kernel
theorem dX11_likely_49 : decode cX11_likely 49 = .ok (.iload_n 3, 1) := by decide +kernel
theorem dX11_likely_50 : decode cX11_likely 50 = .ok (.invokestatic 220, 3) := by decide +kernel
theorem dX11_likely_53 : decode cX11_likely 53 = .ok (.iload 4, 2) := by decide +kernel
theorem dX11_likely_55 : decode cX11_likely 55 = .ok (.invokestatic 223, 3) := by decide +kernel
theorem dX11_likely_58 : decode cX11_likely 58 = .ok (.lreturn, 1) := by decide +kernel
theorem dX11_start_0 : decode cX11_start 0 = .ok (.aload_n 0, 1) := by decide +kernel
theorem dX11_start_1 : decode cX11_start 1 = .ok (.getfield 10, 3) := by decide +kernel
theorem dX11_start_4 : decode cX11_start 4 = .ok (.iload_n 1, 1) := by decide +kernel
theorem dX11_start_5 : decode cX11_start 5 = .ok (.invokevirtual 158, 3) := by decide +kernel
theorem dX11_start_8 : decode cX11_start 8 = .ok (.ifCond .eq 13, 3) := by decide +kernel
theorem dX11_start_11 : decode cX11_start 11 = .ok (.iload_n 2, 1) := by decide +kernel
theorem dX11_start_12 : decode cX11_start 12 = .ok (.ifCond .lt 9, 3) := by decide +kernel
theorem dX11_start_15 : decode cX11_start 15 = .ok (.iload_n 2, 1) := by decide +kernel
theorem dX11_start_16 : decode cX11_start 16 = .ok (.bipush 12, 2) := by decide +kernel
theorem dX11_start_18 : decode cX11_start 18 = .ok (.if_icmp .le 5, 3) := by decide +kernel
theorem dX11_start_21 : decode cX11_start 21 = .ok (.iconst (-1), 1) := by decide +kernel
theorem dX11_start_22 : decode cX11_start 22 = .ok (.ireturn, 1) := by decide +kernel
theorem dX11_start_23 : decode cX11_start 23 = .ok (.aload_n 0, 1) := by decide +kernel
theorem dX11_start_24 : decode cX11_start 24 = .ok (.getfield 46, 3) := by decide +kernel
theorem dX11_start_27 : decode cX11_start 27 = .ok (.iload_n 1, 1) := by decide +kernel
theorem dX11_start_28 : decode cX11_start 28 = .ok (.iload_n 2, 1) := by decide +kernel
theorem dX11_start_29 : decode cX11_start 29 = .ok (.invokevirtual 227, 3) := by decide +kernel
theorem dX11_start_32 : decode cX11_start 32 = .ok (.ireturn, 1) := by decide +kernel
theorem dX11_mean_0 : decode cX11_mean 0 = .ok (.aload_n 0, 1) := by decide +kernel
theorem dX11_mean_1 : decode cX11_mean 1 = .ok (.getfield 10, 3) := by decide +kernel
theorem dX11_mean_4 : decode cX11_mean 4 = .ok (.iload_n 1, 1) := by decide +kernel
theorem dX11_mean_5 : decode cX11_mean 5 = .ok (.invokevirtual 158, 3) := by decide +kernel
theorem dX11_mean_8 : decode cX11_mean 8 = .ok (.ifCond .eq 10, 3) := by decide +kernel
theorem dX11_mean_11 : decode cX11_mean 11 = .ok (.iload_n 2, 1) := by decide +kernel
theorem dX11_mean_12 : decode cX11_mean 12 = .ok (.invokestatic 170, 3) := by decide +kernel
theorem dX11_mean_15 : decode cX11_mean 15 = .ok (.ifCond .ne 7, 3) := by decide +kernel
theorem dX11_mean_18 : decode cX11_mean 18 = .ok (.ldc2_w 211, 3) := by decide +kernel
theorem dX11_mean_21 : decode cX11_mean 21 = .ok (.lreturn, 1) := by decide +kernel
theorem dX11_mean_22 : decode cX11_mean 22 = .ok (.aload_n 0, 1) := by decide +kernel
theorem dX11_mean_23 : decode cX11_mean 23 = .ok (.getfield 46, 3) := by decide +kernel
theorem dX11_mean_26 : decode cX11_mean 26 = .ok (.iload_n 1, 1) := by decide +kernel
theorem dX11_mean_27 : decode cX11_mean 27 = .ok (.iload_n 2, 1) := by decide +kernel
theorem dX11_mean_28 : decode cX11_mean 28 = .ok (.invokevirtual 213, 3) := by decide +kernel
theorem dX11_mean_31 : decode cX11_mean 31 = .ok (.aload_n 0, 1) := by decide +kernel
theorem dX11_mean_32 : decode cX11_mean 32 = .ok (.getfield 46, 3) := by decide +kernel
theorem dX11_mean_35 : decode cX11_mean 35 = .ok (.getfield 230, 3) := by decide +kernel
theorem dX11_mean_38 : decode cX11_mean 38 = .ok (.bipush 12, 2) := by decide +kernel
theorem dX11_mean_40 : decode cX11_mean 40 = .ok (.if_icmp .le 7, 3) := by decide +kernel
theorem dX11_mean_43 : decode cX11_mean 43 = .ok (.ldc2_w 211, 3) := by decide +kernel
theorem dX11_mean_46 : decode cX11_mean 46 = .ok (.lreturn, 1) := by decide +kernel
theorem dX11_mean_47 : decode cX11_mean 47 = .ok (.aload_n 0, 1) := by decide +kernel
theorem dX11_mean_48 : decode cX11_mean 48 = .ok (.getfield 46, 3) := by decide +kernel
theorem dX11_mean_51 : decode cX11_mean 51 = .ok (.invokevirtual 233, 3) := by decide +kernel
theorem dX11_mean_54 : decode cX11_mean 54 = .ok (.aload_n 0, 1) := by decide +kernel
theorem dX11_mean_55 : decode cX11_mean 55 = .ok (.getfield 46, 3) := by decide +kernel
theorem dX11_mean_58 : decode cX11_mean 58 = .ok (.getfield 230, 3) := by decide +kernel
theorem dX11_mean_61 : decode cX11_mean 61 = .ok (.invokestatic 220, 3) := by decide +kernel
theorem dX11_mean_64 : decode cX11_mean 64 = .ok (.iload_n 3, 1) := by decide +kernel
theorem dX11_mean_65 : decode cX11_mean 65 = .ok (.invokestatic 223, 3) := by decide +kernel
theorem dX11_mean_68 : decode cX11_mean 68 = .ok (.lreturn, 1) := by decide +kernel
theorem dX11_which_0 : decode cX11_which 0 = .ok (.aload_n 0, 1) := by decide +kernel
theorem dX11_which_1 : decode cX11_which 1 = .ok (.getfield 10, 3) := by decide +kernel
theorem dX11_which_4 : decode cX11_which 4 = .ok (.iload_n 1, 1) := by decide +kernel
theorem dX11_which_5 : decode cX11_which 5 = .ok (.invokevirtual 158, 3) := by decide +kernel
theorem dX11_which_8 : decode cX11_which 8 = .ok (.ifCond .eq 20, 3) := by decide +kernel
theorem dX11_which_11 : decode cX11_which 11 = .ok (.iload_n 2, 1) := by decide +kernel
theorem dX11_which_12 : decode cX11_which 12 = .ok (.invokestatic 170, 3) := by decide +kernel
theorem dX11_which_15 : decode cX11_which 15 = .ok (.ifCond .eq 13, 3) := by decide +kernel
theorem dX11_which_18 : decode cX11_which 18 = .ok (.iload_n 3, 1) := by decide +kernel
theorem dX11_which_19 : decode cX11_which 19 = .ok (.ifCond .lt 9, 3) := by decide +kernel
theorem dX11_which_22 : decode cX11_which 22 = .ok (.iload_n 3, 1) := by decide +kernel
theorem dX11_which_23 : decode cX11_which 23 = .ok (.bipush 12, 2) := by decide +kernel
theorem dX11_which_25 : decode cX11_which 25 = .ok (.if_icmp .le 5, 3) := by decide +kernel
theorem dX11_which_28 : decode cX11_which 28 = .ok (.iconst (-1), 1) := by decide +kernel
theorem dX11_which_29 : decode cX11_which 29 = .ok (.ireturn, 1) := by decide +kernel
theorem dX11_which_30 : decode cX11_which 30 = .ok (.aload_n 0, 1) := by decide +kernel
theorem dX11_which_31 : decode cX11_which 31 = .ok (.getfield 46, 3) := by decide +kernel
theorem dX11_which_34 : decode cX11_which 34 = .ok (.iload_n 1, 1) := by decide +kernel
theorem dX11_which_35 : decode cX11_which 35 = .ok (.iload_n 2, 1) := by decide +kernel
theorem dX11_which_36 : decode cX11_which 36 = .ok (.iload_n 3, 1) := by decide +kernel
theorem dX11_which_37 : decode cX11_which 37 = .ok (.invokevirtual 237, 3) := by decide +kernel
theorem dX11_which_40 : decode cX11_which 40 = .ok (.ireturn, 1) := by decide +kernel
theorem dX11_nth_0 : decode cX11_nth 0 = .ok (.iload_n 1, 1) := by decide +kernel
theorem dX11_nth_1 : decode cX11_nth 1 = .ok (.invokestatic 170, 3) := by decide +kernel
theorem dX11_nth_4 : decode cX11_nth 4 = .ok (.ifCond .eq 14, 3) := by decide +kernel
theorem dX11_nth_7 : decode cX11_nth 7 = .ok (.iload_n 2, 1) := by decide +kernel
theorem dX11_nth_8 : decode cX11_nth 8 = .ok (.iconst 1, 1) := by decide +kernel
theorem dX11_nth_9 : decode cX11_nth 9 = .ok (.if_icmp .lt 9, 3) := by decide +kernel
theorem dX11_nth_12 : decode cX11_nth 12 = .ok (.iload_n 2, 1) := by decide +kernel
theorem dX11_nth_13 : decode cX11_nth 13 = .ok (.bipush 60, 2) := by decide +kernel
theorem dX11_nth_15 : decode cX11_nth 15 = .ok (.if_icmp .le 5, 3) := by decide +kernel
theorem dX11_nth_18 : decode cX11_nth 18 = .ok (.iconst (-1), 1) := by decide +kernel
theorem dX11_nth_19 : decode cX11_nth 19 = .ok (.ireturn, 1) := by decide +kernel
theorem dX11_nth_20 : decode cX11_nth 20 = .ok (.aload_n 0, 1) := by decide +kernel
theorem dX11_nth_21 : decode cX11_nth 21 = .ok (.getfield 10, 3) := by decide +kernel
theorem dX11_nth_24 : decode cX11_nth 24 = .ok (.getfield 124, 3) := by decide +kernel
theorem dX11_nth_27 : decode cX11_nth 27 = .ok (.iload_n 1, 1) := by decide +kernel
theorem dX11_nth_28 : decode cX11_nth 28 = .ok (.iload_n 2, 1) := by decide +kernel
theorem dX11_nth_29 : decode cX11_nth 29 = .ok (.invokevirtual 241, 3) := by decide +kernel
theorem dX11_nth_32 : decode cX11_nth 32 = .ok (.ireturn, 1) := by decide +kernel
theorem dX11_value_0 : decode cX11_value 0 = .ok (.iload_n 1, 1) := by decide +kernel
theorem dX11_value_1 : decode cX11_value 1 = .ok (.ifCond .lt 19, 3) := by decide +kernel
theorem dX11_value_4 : decode cX11_value 4 = .ok (.iload_n 1, 1) := by decide +kernel
theorem dX11_value_5 : decode cX11_value 5 = .ok (.bipush 12, 2) := by decide +kernel
theorem dX11_value_7 : decode cX11_value 7 = .ok (.if_icmp .gt 13, 3) := by decide +kernel
theorem dX11_value_10 : decode cX11_value 10 = .ok (.iload_n 2, 1) := by decide +kernel
theorem dX11_value_11 : decode cX11_value 11 = .ok (.ifCond .lt 9, 3) := by decide +kernel
theorem dX11_value_14 : decode cX11_value 14 = .ok (.iload_n 2, 1) := by decide +kernel
theorem dX11_value_15 : decode cX11_value 15 = .ok (.bipush 99, 2) := by decide +kernel
theorem dX11_value_17 : decode cX11_value 17 = .ok (.if_icmp .le 5, 3) := by decide +kernel
theorem dX11_value_20 : decode cX11_value 20 = .ok (.iconst 0, 1) := by decide +kernel
theorem dX11_value_21 : decode cX11_value 21 = .ok (.ireturn, 1) := by decide +kernel
theorem dX11_value_22 : decode cX11_value 22 = .ok (.aload_n 0, 1) := by decide +kernel
theorem dX11_value_23 : decode cX11_value 23 = .ok (.getfield 10, 3) := by decide +kernel
theorem dX11_value_26 : decode cX11_value 26 = .ok (.getfield 244, 3) := by decide +kernel
theorem dX11_value_29 : decode cX11_value 29 = .ok (.iload_n 1, 1) := by decide +kernel
theorem dX11_value_30 : decode cX11_value 30 = .ok (.iload_n 2, 1) := by decide +kernel
theorem dX11_value_31 : decode cX11_value 31 = .ok (.iastore, 1) := by decide +kernel
theorem dX11_value_32 : decode cX11_value 32 = .ok (.iconst 1, 1) := by decide +kernel
theorem dX11_value_33 : decode cX11_value 33 = .ok (.ireturn, 1) := by decide +kernel
theorem dX11_worth_0 : decode cX11_worth 0 = .ok (.aload_n 0, 1) := by decide +kernel
theorem dX11_worth_1 : decode cX11_worth 1 = .ok (.getfield 10, 3) := by decide +kernel
theorem dX11_worth_4 : decode cX11_worth 4 = .ok (.iload_n 1, 1) := by decide +kernel
theorem dX11_worth_5 : decode cX11_worth 5 = .ok (.invokevirtual 158, 3) := by decide +kernel
theorem dX11_worth_8 : decode cX11_worth 8 = .ok (.ifCond .eq 10, 3) := by decide +kernel
theorem dX11_worth_11 : decode cX11_worth 11 = .ok (.iload_n 2, 1) := by decide +kernel
theorem dX11_worth_12 : decode cX11_worth 12 = .ok (.invokestatic 170, 3) := by decide +kernel
theorem dX11_worth_15 : decode cX11_worth 15 = .ok (.ifCond .ne 7, 3) := by decide +kernel
theorem dX11_worth_18 : decode cX11_worth 18 = .ok (.ldc2_w 211, 3) := by decide +kernel
theorem dX11_worth_21 : decode cX11_worth 21 = .ok (.lreturn, 1) := by decide +kernel
theorem dX11_worth_22 : decode cX11_worth 22 = .ok (.aload_n 0, 1) := by decide +kernel
theorem dX11_worth_23 : decode cX11_worth 23 = .ok (.getfield 46, 3) := by decide +kernel
theorem dX11_worth_26 : decode cX11_worth 26 = .ok (.iload_n 1, 1) := by decide +kernel
theorem dX11_worth_27 : decode cX11_worth 27 = .ok (.iload_n 2, 1) := by decide +kernel
theorem dX11_worth_28 : decode cX11_worth 28 = .ok (.invokevirtual 213, 3) := by decide +kernel
theorem dX11_worth_31 : decode cX11_worth 31 = .ok (.aload_n 0, 1) := by decide +kernel
theorem dX11_worth_32 : decode cX11_worth 32 = .ok (.getfield 46, 3) := by decide +kernel
theorem dX11_worth_35 : decode cX11_worth 35 = .ok (.iconst 0, 1) := by decide +kernel
theorem dX11_worth_36 : decode cX11_worth 36 = .ok (.invokevirtual 247, 3) := by decide +kernel
theorem dX11_worth_39 : decode cX11_worth 39 = .ok (.aload_n 0, 1) := by decide +kernel
theorem dX11_worth_40 : decode cX11_worth 40 = .ok (.getfield 46, 3) := by decide +kernel
theorem dX11_worth_43 : decode cX11_worth 43 = .ok (.invokevirtual 250, 3) := by decide +kernel
theorem dX11_worth_46 : decode cX11_worth 46 = .ok (.invokestatic 220, 3) := by decide +kernel
theorem dX11_worth_49 : decode cX11_worth 49 = .ok (.iload_n 3, 1) := by decide +kernel
theorem dX11_worth_50 : decode cX11_worth 50 = .ok (.invokestatic 223, 3) := by decide +kernel
theorem dX11_worth_53 : decode cX11_worth 53 = .ok (.lreturn, 1) := by decide +kernel
theorem dX11_goesOn_0 : decode cX11_goesOn 0 = .ok (.aload_n 0, 1) := by decide +kernel
theorem dX11_goesOn_1 : decode cX11_goesOn 1 = .ok (.getfield 10, 3) := by decide +kernel
theorem dX11_goesOn_4 : decode cX11_goesOn 4 = .ok (.iload_n 1, 1) := by decide +kernel
theorem dX11_goesOn_5 : decode cX11_goesOn 5 = .ok (.invokevirtual 158, 3) := by decide +kernel
theorem dX11_goesOn_8 : decode cX11_goesOn 8 = .ok (.ifCond .eq 20, 3) := by decide +kernel
theorem dX11_goesOn_11 : decode cX11_goesOn 11 = .ok (.iload_n 2, 1) := by decide +kernel
theorem dX11_goesOn_12 : decode cX11_goesOn 12 = .ok (.invokestatic 170, 3) := by decide +kernel
theorem dX11_goesOn_15 : decode cX11_goesOn 15 = .ok (.ifCond .eq 13, 3) := by decide +kernel
theorem dX11_goesOn_18 : decode cX11_goesOn 18 = .ok (.iload_n 3, 1) := by decide +kernel
theorem dX11_goesOn_19 : decode cX11_goesOn 19 = .ok (.ifCond .lt 9, 3) := by decide +kernel
theorem dX11_goesOn_22 : decode cX11_goesOn 22 = .ok (.iload_n 3, 1) := by decide +kernel
theorem dX11_goesOn_23 : decode cX11_goesOn 23 = .ok (.bipush 12, 2) := by decide +kernel
theorem dX11_goesOn_25 : decode cX11_goesOn 25 = .ok (.if_icmp .lt 5, 3) := by decide +kernel
theorem dX11_goesOn_28 : decode cX11_goesOn 28 = .ok (.iconst (-1), 1) := by decide +kernel
theorem dX11_goesOn_29 : decode cX11_goesOn 29 = .ok (.ireturn, 1) := by decide +kernel
theorem dX11_goesOn_30 : decode cX11_goesOn 30 = .ok (.aload_n 0, 1) := by decide +kernel
theorem dX11_goesOn_31 : decode cX11_goesOn 31 = .ok (.getfield 46, 3) := by decide +kernel
theorem dX11_goesOn_34 : decode cX11_goesOn 34 = .ok (.iload_n 1, 1) := by decide +kernel
theorem dX11_goesOn_35 : decode cX11_goesOn 35 = .ok (.iload_n 2, 1) := by decide +kernel
theorem dX11_goesOn_36 : decode cX11_goesOn 36 = .ok (.invokevirtual 213, 3) := by decide +kernel
theorem dX11_goesOn_39 : decode cX11_goesOn 39 = .ok (.aload_n 0, 1) := by decide +kernel
theorem dX11_goesOn_40 : decode cX11_goesOn 40 = .ok (.getfield 46, 3) := by decide +kernel
theorem dX11_goesOn_43 : decode cX11_goesOn 43 = .ok (.getfield 230, 3) := by decide +kernel
theorem dX11_goesOn_46 : decode cX11_goesOn 46 = .ok (.iload_n 3, 1) := by decide +kernel
theorem dX11_goesOn_47 : decode cX11_goesOn 47 = .ok (.if_icmp .gt 5, 3) := by decide +kernel
theorem dX11_goesOn_50 : decode cX11_goesOn 50 = .ok (.iconst (-1), 1) := by decide +kernel
theorem dX11_goesOn_51 : decode cX11_goesOn 51 = .ok (.ireturn, 1) := by decide +kernel
theorem dX11_goesOn_52 : decode cX11_goesOn 52 = .ok (.aload_n 0, 1) := by decide +kernel
theorem dX11_goesOn_53 : decode cX11_goesOn 53 = .ok (.getfield 46, 3) := by decide +kernel
theorem dX11_goesOn_56 : decode cX11_goesOn 56 = .ok (.iload_n 3, 1) := by decide +kernel
theorem dX11_goesOn_57 : decode cX11_goesOn 57 = .ok (.invokevirtual 253, 3) := by decide +kernel
theorem dX11_goesOn_60 : decode cX11_goesOn 60 = .ok (.ifCond .eq 7, 3) := by decide +kernel
theorem dX11_goesOn_63 : decode cX11_goesOn 63 = .ok (.iconst 1, 1) := by decide +kernel
theorem dX11_goesOn_64 : decode cX11_goesOn 64 = .ok (.goto 4, 3) := by decide +kernel
theorem dX11_goesOn_67 : decode cX11_goesOn 67 = .ok (.iconst 0, 1) := by decide +kernel
theorem dX11_goesOn_68 : decode cX11_goesOn 68 = .ok (.ireturn, 1) := by decide +kernel
theorem dX11_best_0 : decode cX11_best 0 = .ok (.aload_n 0, 1) := by decide +kernel
theorem dX11_best_1 : decode cX11_best 1 = .ok (.getfield 10, 3) := by decide +kernel
theorem dX11_best_4 : decode cX11_best 4 = .ok (.iload_n 1, 1) := by decide +kernel
theorem dX11_best_5 : decode cX11_best 5 = .ok (.invokevirtual 158, 3) := by decide +kernel
theorem dX11_best_8 : decode cX11_best 8 = .ok (.ifCond .eq 14, 3) := by decide +kernel
theorem dX11_best_11 : decode cX11_best 11 = .ok (.aload_n 0, 1) := by decide +kernel
theorem dX11_best_12 : decode cX11_best 12 = .ok (.getfield 46, 3) := by decide +kernel
theorem dX11_best_15 : decode cX11_best 15 = .ok (.iload_n 1, 1) := by decide +kernel
theorem dX11_best_16 : decode cX11_best 16 = .ok (.invokevirtual 256, 3) := by decide +kernel
theorem dX11_best_19 : decode cX11_best 19 = .ok (.goto 4, 3) := by decide +kernel
theorem dX11_best_22 : decode cX11_best 22 = .ok (.iconst (-1), 1) := by decide +kernel
theorem dX11_best_23 : decode cX11_best 23 = .ok (.ireturn, 1) := by decide +kernel
theorem dX11_tell_0 : decode cX11_tell 0 = .ok (.iload_n 1, 1) := by decide +kernel
theorem dX11_tell_1 : decode cX11_tell 1 = .ok (.iconst (-1), 1) := by decide +kernel
theorem dX11_tell_2 : decode cX11_tell 2 = .ok (.if_icmp .ne 16, 3) := by decide +kernel
theorem dX11_tell_5 : decode cX11_tell 5 = .ok (.aload_n 0, 1) := by decide +kernel
theorem dX11_tell_6 : decode cX11_tell 6 = .ok (.getfield 10, 3) := by decide +kernel
theorem dX11_tell_9 : decode cX11_tell 9 = .ok (.getfield 259, 3) := by decide +kernel
theorem dX11_tell_12 : decode cX11_tell 12 = .ok (.iconst 0, 1) := by decide +kernel
theorem dX11_tell_13 : decode cX11_tell 13 = .ok (.putfield 263, 3) := by decide +kernel
theorem dX11_tell_16 : decode cX11_tell 16 = .ok (.iconst 0, 1) := by decide +kernel
theorem dX11_tell_17 : decode cX11_tell 17 = .ok (.ireturn, 1) := by decide +kernel
theorem dX11_tell_18 : decode cX11_tell 18 = .ok (.iload_n 1, 1) := by decide +kernel
theorem dX11_tell_19 : decode cX11_tell 19 = .ok (.ifCond .lt 32, 3) := by decide +kernel
theorem dX11_tell_22 : decode cX11_tell 22 = .ok (.iload_n 1, 1) := by decide +kernel
theorem dX11_tell_23 : decode cX11_tell 23 = .ok (.bipush 12, 2) := by decide +kernel
theorem dX11_tell_25 : decode cX11_tell 25 = .ok (.if_icmp .ge 26, 3) := by decide +kernel
theorem dX11_tell_28 : decode cX11_tell 28 = .ok (.iload_n 2, 1) := by decide +kernel
theorem dX11_tell_29 : decode cX11_tell 29 = .ok (.iconst 1, 1) := by decide +kernel
theorem dX11_tell_30 : decode cX11_tell 30 = .ok (.if_icmp .lt 21, 3) := by decide +kernel
theorem dX11_tell_33 : decode cX11_tell 33 = .ok (.iload_n 2, 1) := by decide +kernel
theorem dX11_tell_34 : decode cX11_tell 34 = .ok (.bipush 12, 2) := by decide +kernel
theorem dX11_tell_36 : decode cX11_tell 36 = .ok (.iload_n 1, 1) := by decide +kernel
theorem dX11_tell_37 : decode cX11_tell 37 = .ok (.isub, 1) := by decide +kernel
theorem dX11_tell_38 : decode cX11_tell 38 = .ok (.if_icmp .gt 13, 3) := by decide +kernel
theorem dX11_tell_41 : decode cX11_tell 41 = .ok (.iload_n 3, 1) := by decide +kernel
theorem dX11_tell_42 : decode cX11_tell 42 = .ok (.ifCond .lt 9, 3) := by decide +kernel
theorem dX11_tell_45 : decode cX11_tell 45 = .ok (.iload_n 3, 1) := by decide +kernel
theorem dX11_tell_46 : decode cX11_tell 46 = .ok (.bipush 12, 2) := by decide +kernel
theorem dX11_tell_48 : decode cX11_tell 48 = .ok (.if_icmp .le 6, 3) := by decide +kernel
theorem dX11_tell_51 : decode cX11_tell 51 = .ok (.bipush (-2), 2) := by decide +kernel
theorem dX11_tell_53 : decode cX11_tell 53 = .ok (.ireturn, 1) := by decide +kernel
theorem dX11_tell_54 : decode cX11_tell 54 = .ok (.aload_n 0, 1) := by decide +kernel
theorem dX11_tell_55 : decode cX11_tell 55 = .ok (.getfield 10, 3) := by decide +kernel
theorem dX11_tell_58 : decode cX11_tell 58 = .ok (.getfield 259, 3) := by decide +kernel
theorem dX11_tell_61 : decode cX11_tell 61 = .ok (.iload_n 1, 1) := by decide +kernel
theorem dX11_tell_62 : decode cX11_tell 62 = .ok (.iload_n 2, 1) := by decide +kernel
theorem dX11_tell_63 : decode cX11_tell 63 = .ok (.iload_n 3, 1) := by decide +kernel
theorem dX11_tell_64 : decode cX11_tell 64 = .ok (.invokevirtual 266, 3) := by decide +kernel
theorem dX11_tell_67 : decode cX11_tell 67 = .ok (.ifCond .eq 16, 3) := by decide +kernel
theorem dX11_tell_70 : decode cX11_tell 70 = .ok (.aload_n 0, 1) := by decide +kernel
theorem dX11_tell_71 : decode cX11_tell 71 = .ok (.getfield 10, 3) := by decide +kernel
theorem dX11_tell_74 : decode cX11_tell 74 = .ok (.getfield 259, 3) := by decide +kernel
theorem dX11_tell_77 : decode cX11_tell 77 = .ok (.getfield 263, 3) := by decide +kernel
theorem dX11_tell_80 : decode cX11_tell 80 = .ok (.goto 5, 3) := by decide +kernel
theorem dX11_tell_83 : decode cX11_tell 83 = .ok (.bipush (-2), 2) := by decide +kernel
theorem dX11_tell_85 : decode cX11_tell 85 = .ok (.ireturn, 1) := by decide +kernel
theorem dX11_could_0 : decode cX11_could 0 = .ok (.iload_n 1, 1) := by decide +kernel
theorem dX11_could_1 : decode cX11_could 1 = .ok (.ifCond .lt 17, 3) := by decide +kernel
theorem dX11_could_4 : decode cX11_could 4 = .ok (.iload_n 1, 1) := by decide +kernel
theorem dX11_could_5 : decode cX11_could 5 = .ok (.iconst 2, 1) := by decide +kernel
theorem dX11_could_6 : decode cX11_could 6 = .ok (.if_icmp .gt 12, 3) := by decide +kernel
theorem dX11_could_9 : decode cX11_could 9 = .ok (.iload_n 2, 1) := by decide +kernel
theorem dX11_could_10 : decode cX11_could 10 = .ok (.ifCond .lt 8, 3) := by decide +kernel
theorem dX11_could_13 : decode cX11_could 13 = .ok (.iload_n 2, 1) := by decide +kernel
theorem dX11_could_14 : decode cX11_could 14 = .ok (.iconst 2, 1) := by decide +kernel
theorem dX11_could_15 : decode cX11_could 15 = .ok (.if_icmp .le 5, 3) := by decide +kernel
theorem dX11_could_18 : decode cX11_could 18 = .ok (.iconst (-1), 1) := by decide +kernel
theorem dX11_could_19 : decode cX11_could 19 = .ok (.ireturn, 1) := by decide +kernel
theorem dX11_could_20 : decode cX11_could 20 = .ok (.aload_n 0, 1) := by decide +kernel
theorem dX11_could_21 : decode cX11_could 21 = .ok (.getfield 53, 3) := by decide +kernel
theorem dX11_could_24 : decode cX11_could 24 = .ok (.aload_n 0, 1) := by decide +kernel
theorem dX11_could_25 : decode cX11_could 25 = .ok (.getfield 10, 3) := by decide +kernel
theorem dX11_could_28 : decode cX11_could 28 = .ok (.getfield 259, 3) := by decide +kernel
theorem dX11_could_31 : decode cX11_could 31 = .ok (.iload_n 1, 1) := by decide +kernel
theorem dX11_could_32 : decode cX11_could 32 = .ok (.invokevirtual 269, 3) := by decide +kernel
theorem dX11_could_35 : decode cX11_could 35 = .ok (.iload_n 2, 1) := by decide +kernel
theorem dX11_could_36 : decode cX11_could 36 = .ok (.ifCond .ne 11, 3) := by decide +kernel
theorem dX11_could_39 : decode cX11_could 39 = .ok (.aload_n 0, 1) := by decide +kernel
theorem dX11_could_40 : decode cX11_could 40 = .ok (.getfield 53, 3) := by decide +kernel
theorem dX11_could_43 : decode cX11_could 43 = .ok (.getfield 273, 3) := by decide +kernel
theorem dX11_could_46 : decode cX11_could 46 = .ok (.ireturn, 1) := by decide +kernel
theorem dX11_could_47 : decode cX11_could 47 = .ok (.aload_n 0, 1) := by decide +kernel
theorem dX11_could_48 : decode cX11_could 48 = .ok (.getfield 53, 3) := by decide +kernel
theorem dX11_could_51 : decode cX11_could 51 = .ok (.getfield 273, 3) := by decide +kernel
theorem dX11_could_54 : decode cX11_could 54 = .ok (.ifCond .ne 5, 3) := by decide +kernel
theorem dX11_could_57 : decode cX11_could 57 = .ok (.iconst (-1), 1) := by decide +kernel
theorem dX11_could_58 : decode cX11_could 58 = .ok (.ireturn, 1) := by decide +kernel
theorem dX11_could_59 : decode cX11_could 59 = .ok (.iload_n 2, 1) := by decide +kernel
theorem dX11_could_60 : decode cX11_could 60 = .ok (.iconst 1, 1) := by decide +kernel
theorem dX11_could_61 : decode cX11_could 61 = .ok (.if_icmp .ne 13, 3) := by decide +kernel
theorem dX11_could_64 : decode cX11_could 64 = .ok (.aload_n 0, 1) := by decide +kernel
theorem dX11_could_65 : decode cX11_could 65 = .ok (.getfield 53, 3) := by decide +kernel
theorem dX11_could_68 : decode cX11_could 68 = .ok (.getfield 274, 3) := by decide +kernel
theorem dX11_could_71 : decode cX11_could 71 = .ok (.goto 10, 3) := by decide +kernel
theorem dX11_could_74 : decode cX11_could 74 = .ok (.aload_n 0, 1) := by decide +kernel
theorem dX11_could_75 : decode cX11_could 75 = .ok (.getfield 53, 3) := by decide +kernel
theorem dX11_could_78 : decode cX11_could 78 = .ok (.invokevirtual 277, 3) := by decide +kernel
theorem dX11_could_81 : decode cX11_could 81 = .ok (.ireturn, 1) := by decide +kernel
theorem dX11_ask_0 : decode cX11_ask 0 = .ok (.iload_n 1, 1) := by decide +kernel
theorem dX11_ask_1 : decode cX11_ask 1 = .ok (.ifCond .lt 8, 3) := by decide +kernel
theorem dX11_ask_4 : decode cX11_ask 4 = .ok (.iload_n 1, 1) := by decide +kernel
theorem dX11_ask_5 : decode cX11_ask 5 = .ok (.iconst 2, 1) := by decide +kernel
theorem dX11_ask_6 : decode cX11_ask 6 = .ok (.if_icmp .le 5, 3) := by decide +kernel
theorem dX11_ask_9 : decode cX11_ask 9 = .ok (.iconst (-1), 1) := by decide +kernel
theorem dX11_ask_10 : decode cX11_ask 10 = .ok (.ireturn, 1) := by decide +kernel
theorem dX11_ask_11 : decode cX11_ask 11 = .ok (.aload_n 0, 1) := by decide +kernel
theorem dX11_ask_12 : decode cX11_ask 12 = .ok (.getfield 53, 3) := by decide +kernel
theorem dX11_ask_15 : decode cX11_ask 15 = .ok (.aload_n 0, 1) := by decide +kernel
theorem dX11_ask_16 : decode cX11_ask 16 = .ok (.getfield 10, 3) := by decide +kernel
theorem dX11_ask_19 : decode cX11_ask 19 = .ok (.getfield 259, 3) := by decide +kernel
theorem dX11_ask_22 : decode cX11_ask 22 = .ok (.iload_n 1, 1) := by decide +kernel
theorem dX11_ask_23 : decode cX11_ask 23 = .ok (.invokevirtual 269, 3) := by decide +kernel
theorem dX11_ask_26 : decode cX11_ask 26 = .ok (.aload_n 0, 1) := by decide +kernel
theorem dX11_ask_27 : decode cX11_ask 27 = .ok (.getfield 53, 3) := by decide +kernel
theorem dX11_ask_30 : decode cX11_ask 30 = .ok (.invokevirtual 280, 3) := by decide +kernel
theorem dX11_ask_33 : decode cX11_ask 33 = .ok (.ireturn, 1) := by decide +kernel
theorem dX11_sings_0 : decode cX11_sings 0 = .ok (.iload_n 1, 1) := by decide +kernel
theorem dX11_sings_1 : decode cX11_sings 1 = .ok (.invokestatic 170, 3) := by decide +kernel
theorem dX11_sings_4 : decode cX11_sings 4 = .ok (.ifCond .eq 15, 3) := by decide +kernel
theorem dX11_sings_7 : decode cX11_sings 7 = .ok (.iload_n 2, 1) := by decide +kernel
theorem dX11_sings_8 : decode cX11_sings 8 = .ok (.invokestatic 170, 3) := by decide +kernel
theorem dX11_sings_11 : decode cX11_sings 11 = .ok (.ifCond .eq 8, 3) := by decide +kernel
theorem dX11_sings_14 : decode cX11_sings 14 = .ok (.iload_n 1, 1) := by decide +kernel
theorem dX11_sings_15 : decode cX11_sings 15 = .ok (.iload_n 2, 1) := by decide +kernel
theorem dX11_sings_16 : decode cX11_sings 16 = .ok (.if_icmp .le 5, 3) := by decide +kernel
theorem dX11_sings_19 : decode cX11_sings 19 = .ok (.iconst (-1), 1) := by decide +kernel
theorem dX11_sings_20 : decode cX11_sings 20 = .ok (.ireturn, 1) := by decide +kernel
theorem dX11_sings_21 : decode cX11_sings 21 = .ok (.aload_n 0, 1) := by decide +kernel
theorem dX11_sings_22 : decode cX11_sings 22 = .ok (.getfield 53, 3) := by decide +kernel
theorem dX11_sings_25 : decode cX11_sings 25 = .ok (.aload_n 0, 1) := by decide +kernel
theorem dX11_sings_26 : decode cX11_sings 26 = .ok (.getfield 10, 3) := by decide +kernel
theorem dX11_sings_29 : decode cX11_sings 29 = .ok (.getfield 124, 3) := by decide +kernel
theorem dX11_sings_32 : decode cX11_sings 32 = .ok (.getfield 176, 3) := by decide +kernel
theorem dX11_sings_35 : decode cX11_sings 35 = .ok (.iload_n 1, 1) := by decide +kernel
theorem dX11_sings_36 : decode cX11_sings 36 = .ok (.iload_n 2, 1) := by decide +kernel
theorem dX11_sings_37 : decode cX11_sings 37 = .ok (.invokevirtual 283, 3) := by decide +kernel
theorem dX11_sings_40 : decode cX11_sings 40 = .ok (.iload_n 3, 1) := by decide +kernel
theorem dX11_sings_41 : decode cX11_sings 41 = .ok (.ifCond .eq 15, 3) := by decide +kernel
theorem dX11_sings_44 : decode cX11_sings 44 = .ok (.aload_n 0, 1) := by decide +kernel
theorem dX11_sings_45 : decode cX11_sings 45 = .ok (.getfield 53, 3) := by decide +kernel
theorem dX11_sings_48 : decode cX11_sings 48 = .ok (.iload_n 1, 1) := by decide +kernel
theorem dX11_sings_49 : decode cX11_sings 49 = .ok (.iload_n 2, 1) := by decide +kernel
theorem dX11_sings_50 : decode cX11_sings 50 = .ok (.invokevirtual 287, 3) := by decide +kernel
theorem dX11_sings_53 : decode cX11_sings 53 = .ok (.goto 12, 3) := by decide +kernel
theorem dX11_sings_56 : decode cX11_sings 56 = .ok (.aload_n 0, 1) := by decide +kernel
theorem dX11_sings_57 : decode cX11_sings 57 = .ok (.getfield 53, 3) := by decide +kernel
theorem dX11_sings_60 : decode cX11_sings 60 = .ok (.iload_n 1, 1) := by decide +kernel
theorem dX11_sings_61 : decode cX11_sings 61 = .ok (.iload_n 2, 1) := by decide +kernel
theorem dX11_sings_62 : decode cX11_sings 62 = .ok (.invokevirtual 290, 3) := by decide +kernel
theorem dX11_sings_65 : decode cX11_sings 65 = .ok (.ireturn, 1) := by decide +kernel
theorem dX11_visits_0 : decode cX11_visits 0 = .ok (.aload_n 0, 1) := by decide +kernel
theorem dX11_visits_1 : decode cX11_visits 1 = .ok (.getfield 10, 3) := by decide +kernel
theorem dX11_visits_4 : decode cX11_visits 4 = .ok (.iload_n 1, 1) := by decide +kernel
theorem dX11_visits_5 : decode cX11_visits 5 = .ok (.invokevirtual 158, 3) := by decide +kernel
theorem dX11_visits_8 : decode cX11_visits 8 = .ok (.ifCond .eq 10, 3) := by decide +kernel
theorem dX11_visits_11 : decode cX11_visits 11 = .ok (.iload_n 2, 1) := by decide +kernel
theorem dX11_visits_12 : decode cX11_visits 12 = .ok (.invokestatic 170, 3) := by decide +kernel
theorem dX11_visits_15 : decode cX11_visits 15 = .ok (.ifCond .ne 5, 3) := by decide +kernel
theorem dX11_visits_18 : decode cX11_visits 18 = .ok (.iconst (-1), 1) := by decide +kernel
theorem dX11_visits_19 : decode cX11_visits 19 = .ok (.ireturn, 1) := by decide +kernel
theorem dX11_visits_20 : decode cX11_visits 20 = .ok (.iconst 0, 1) := by decide +kernel
theorem dX11_visits_21 : decode cX11_visits 21 = .ok (.istore_n 3, 1) := by decide +kernel
theorem dX11_visits_22 : decode cX11_visits 22 = .ok (.iconst 0, 1) := by decide +kernel
theorem dX11_visits_23 : decode cX11_visits 23 = .ok (.istore 4, 2) := by decide +kernel
theorem dX11_visits_25 : decode cX11_visits 25 = .ok (.iload 4, 2) := by decide +kernel
theorem dX11_visits_27 : decode cX11_visits 27 = .ok (.bipush 30, 2) := by decide +kernel
theorem dX11_visits_29 : decode cX11_visits 29 = .ok (.if_icmp .ge 31, 3) := by decide +kernel
theorem dX11_visits_32 : decode cX11_visits 32 = .ok (.iload_n 3, 1) := by decide +kernel
theorem dX11_visits_33 : decode cX11_visits 33 = .ok (.iconst 1, 1) := by decide +kernel
theorem dX11_visits_34 : decode cX11_visits 34 = .ok (.iload_n 2, 1) := by decide +kernel
theorem dX11_visits_35 : decode cX11_visits 35 = .ok (.iload 4, 2) := by decide +kernel
theorem dX11_visits_37 : decode cX11_visits 37 = .ok (.aload_n 0, 1) := by decide +kernel
theorem dX11_visits_38 : decode cX11_visits 38 = .ok (.getfield 10, 3) := by decide +kernel
theorem dX11_visits_41 : decode cX11_visits 41 = .ok (.getfield 161, 3) := by decide +kernel
theorem dX11_visits_44 : decode cX11_visits 44 = .ok (.iload_n 1, 1) := by decide +kernel
theorem dX11_visits_45 : decode cX11_visits 45 = .ok (.iaload, 1) := by decide +kernel
theorem dX11_visits_46 : decode cX11_visits 46 = .ok (.imul, 1) := by decide +kernel
theorem dX11_visits_47 : decode cX11_visits 47 = .ok (.iadd, 1) := by decide +kernel
theorem dX11_visits_48 : decode cX11_visits 48 = .ok (.bipush 30, 2) := by decide +kernel
theorem dX11_visits_50 : decode cX11_visits 50 = .ok (.irem, 1) := by decide +kernel
theorem dX11_visits_51 : decode cX11_visits 51 = .ok (.ishl, 1) := by decide +kernel
theorem dX11_visits_52 : decode cX11_visits 52 = .ok (.ior, 1) := by decide +kernel
theorem dX11_visits_53 : decode cX11_visits 53 = .ok (.istore_n 3, 1) := by decide +kernel
theorem dX11_visits_54 : decode cX11_visits 54 = .ok (.iinc 4 1, 3) := by decide +kernel
theorem dX11_visits_57 : decode cX11_visits 57 = .ok (.goto (-32), 3) := by decide +kernel
theorem dX11_visits_60 : decode cX11_visits 60 = .ok (.iload_n 3, 1) := by decide +kernel
theorem dX11_visits_61 : decode cX11_visits 61 = .ok (.ireturn, 1) := by decide +kernel
theorem dX11_meet_0 : decode cX11_meet 0 = .ok (.aload_n 0, 1) := by decide +kernel
theorem dX11_meet_1 : decode cX11_meet 1 = .ok (.getfield 10, 3) := by decide +kernel
theorem dX11_meet_4 : decode cX11_meet 4 = .ok (.iload_n 1, 1) := by decide +kernel
theorem dX11_meet_5 : decode cX11_meet 5 = .ok (.invokevirtual 158, 3) := by decide +kernel
theorem dX11_meet_8 : decode cX11_meet 8 = .ok (.ifCond .eq 29, 3) := by decide +kernel
theorem dX11_meet_11 : decode cX11_meet 11 = .ok (.iload_n 2, 1) := by decide +kernel
theorem dX11_meet_12 : decode cX11_meet 12 = .ok (.invokestatic 170, 3) := by decide +kernel
theorem dX11_meet_15 : decode cX11_meet 15 = .ok (.ifCond .eq 22, 3) := by decide +kernel
theorem dX11_meet_18 : decode cX11_meet 18 = .ok (.aload_n 0, 1) := by decide +kernel
theorem dX11_meet_19 : decode cX11_meet 19 = .ok (.getfield 10, 3) := by decide +kernel
theorem dX11_meet_22 : decode cX11_meet 22 = .ok (.iload_n 3, 1) := by decide +kernel
theorem dX11_meet_23 : decode cX11_meet 23 = .ok (.invokevirtual 158, 3) := by decide +kernel
theorem dX11_meet_26 : decode cX11_meet 26 = .ok (.ifCond .eq 11, 3) := by decide +kernel
theorem dX11_meet_29 : decode cX11_meet 29 = .ok (.iload 4, 2) := by decide +kernel
theorem dX11_meet_31 : decode cX11_meet 31 = .ok (.invokestatic 170, 3) := by decide +kernel
theorem dX11_meet_34 : decode cX11_meet 34 = .ok (.ifCond .ne 5, 3) := by decide +kernel
theorem dX11_meet_37 : decode cX11_meet 37 = .ok (.iconst (-1), 1) := by decide +kernel
theorem dX11_meet_38 : decode cX11_meet 38 = .ok (.ireturn, 1) := by decide +kernel
theorem dX11_meet_39 : decode cX11_meet 39 = .ok (.iconst 0, 1) := by decide +kernel
theorem dX11_meet_40 : decode cX11_meet 40 = .ok (.istore 5, 2) := by decide +kernel
theorem dX11_meet_42 : decode cX11_meet 42 = .ok (.iload 5, 2) := by decide +kernel
theorem dX11_meet_44 : decode cX11_meet 44 = .ok (.bipush 30, 2) := by decide +kernel
theorem dX11_meet_46 : decode cX11_meet 46 = .ok (.if_icmp .ge 50, 3) := by decide +kernel
theorem dX11_meet_49 : decode cX11_meet 49 = .ok (.iload_n 2, 1) := by decide +kernel
theorem dX11_meet_50 : decode cX11_meet 50 = .ok (.iload 5, 2) := by decide +kernel
theorem dX11_meet_52 : decode cX11_meet 52 = .ok (.aload_n 0, 1) := by decide +kernel
theorem dX11_meet_53 : decode cX11_meet 53 = .ok (.getfield 10, 3) := by decide +kernel
theorem dX11_meet_56 : decode cX11_meet 56 = .ok (.getfield 161, 3) := by decide +kernel
theorem dX11_meet_59 : decode cX11_meet 59 = .ok (.iload_n 1, 1) := by decide +kernel
theorem dX11_meet_60 : decode cX11_meet 60 = .ok (.iaload, 1) := by decide +kernel
theorem dX11_meet_61 : decode cX11_meet 61 = .ok (.imul, 1) := by decide +kernel
theorem dX11_meet_62 : decode cX11_meet 62 = .ok (.iadd, 1) := by decide +kernel
theorem dX11_meet_63 : decode cX11_meet 63 = .ok (.bipush 30, 2) := by decide +kernel
theorem dX11_meet_65 : decode cX11_meet 65 = .ok (.irem, 1) := by decide +kernel
theorem dX11_meet_66 : decode cX11_meet 66 = .ok (.iload 4, 2) := by decide +kernel
theorem dX11_meet_68 : decode cX11_meet 68 = .ok (.iload 5, 2) := by decide +kernel
theorem dX11_meet_70 : decode cX11_meet 70 = .ok (.aload_n 0, 1) := by decide +kernel
theorem dX11_meet_71 : decode cX11_meet 71 = .ok (.getfield 10, 3) := by decide +kernel
theorem dX11_meet_74 : decode cX11_meet 74 = .ok (.getfield 161, 3) := by decide +kernel
theorem dX11_meet_77 : decode cX11_meet 77 = .ok (.iload_n 3, 1) := by decide +kernel
theorem dX11_meet_78 : decode cX11_meet 78 = .ok (.iaload, 1) := by decide +kernel
theorem dX11_meet_79 : decode cX11_meet 79 = .ok (.imul, 1) := by decide +kernel
theorem dX11_meet_80 : decode cX11_meet 80 = .ok (.iadd, 1) := by decide +kernel
theorem dX11_meet_81 : decode cX11_meet 81 = .ok (.bipush 30, 2) := by decide +kernel
theorem dX11_meet_83 : decode cX11_meet 83 = .ok (.irem, 1) := by decide +kernel
theorem dX11_meet_84 : decode cX11_meet 84 = .ok (.if_icmp .ne 6, 3) := by decide +kernel
theorem dX11_meet_87 : decode cX11_meet 87 = .ok (.iload 5, 2) := by decide +kernel
theorem dX11_meet_89 : decode cX11_meet 89 = .ok (.ireturn, 1) := by decide +kernel
theorem dX11_meet_90 : decode cX11_meet 90 = .ok (.iinc 5 1, 3) := by decide +kernel
theorem dX11_meet_93 : decode cX11_meet 93 = .ok (.goto (-51), 3) := by decide +kernel
theorem dX11_meet_96 : decode cX11_meet 96 = .ok (.iconst (-1), 1) := by decide +kernel
theorem dX11_meet_97 : decode cX11_meet 97 = .ok (.ireturn, 1) := by decide +kernel
theorem dX11_period_0 : decode cX11_period 0 = .ok (.aload_n 0, 1) := by decide +kernel
theorem dX11_period_1 : decode cX11_period 1 = .ok (.getfield 10, 3) := by decide +kernel
theorem dX11_period_4 : decode cX11_period 4 = .ok (.getfield 124, 3) := by decide +kernel
theorem dX11_period_7 : decode cX11_period 7 = .ok (.invokevirtual 293, 3) := by decide +kernel
theorem dX11_period_10 : decode cX11_period 10 = .ok (.ireturn, 1) := by decide +kernel
theorem dX11_least_0 : decode cX11_least 0 = .ok (.aload_n 0, 1) := by decide +kernel
theorem dX11_least_1 : decode cX11_least 1 = .ok (.getfield 10, 3) := by decide +kernel
theorem dX11_least_4 : decode cX11_least 4 = .ok (.getfield 124, 3) := by decide +kernel
theorem dX11_least_7 : decode cX11_least 7 = .ok (.invokevirtual 296, 3) := by decide +kernel
theorem dX11_least_10 : decode cX11_least 10 = .ok (.ireturn, 1) := by decide +kernel
theorem dX11_mirrors_0 : decode cX11_mirrors 0 = .ok (.aload_n 0, 1) := by decide +kernel
theorem dX11_mirrors_1 : decode cX11_mirrors 1 = .ok (.getfield 10, 3) := by decide +kernel
theorem dX11_mirrors_4 : decode cX11_mirrors 4 = .ok (.getfield 124, 3) := by decide +kernel
theorem dX11_mirrors_7 : decode cX11_mirrors 7 = .ok (.invokevirtual 299, 3) := by decide +kernel
theorem dX11_mirrors_10 : decode cX11_mirrors 10 = .ok (.ireturn, 1) := by decide +kernel
theorem dX11_longest_0 : decode cX11_longest 0 = .ok (.iload_n 1, 1) := by decide +kernel
theorem dX11_longest_1 : decode cX11_longest 1 = .ok (.ifCond .lt 8, 3) := by decide +kernel
theorem dX11_longest_4 : decode cX11_longest 4 = .ok (.iload_n 1, 1) := by decide +kernel
theorem dX11_longest_5 : decode cX11_longest 5 = .ok (.iconst 3, 1) := by decide +kernel
theorem dX11_longest_6 : decode cX11_longest 6 = .ok (.if_icmp .le 6, 3) := by decide +kernel
theorem dX11_longest_9 : decode cX11_longest 9 = .ok (.bipush (-2), 2) := by decide +kernel
theorem dX11_longest_11 : decode cX11_longest 11 = .ok (.ireturn, 1) := by decide +kernel
theorem dX11_longest_12 : decode cX11_longest 12 = .ok (.iconst 0, 1) := by decide +kernel
theorem dX11_longest_13 : decode cX11_longest 13 = .ok (.istore_n 3, 1) := by decide +kernel
theorem dX11_longest_14 : decode cX11_longest 14 = .ok (.iconst (-1), 1) := by decide +kernel
theorem dX11_longest_15 : decode cX11_longest 15 = .ok (.istore 4, 2) := by decide +kernel
theorem dX11_longest_17 : decode cX11_longest 17 = .ok (.iconst 0, 1) := by decide +kernel
theorem dX11_longest_18 : decode cX11_longest 18 = .ok (.istore 5, 2) := by decide +kernel
theorem dX11_longest_20 : decode cX11_longest 20 = .ok (.iload 5, 2) := by decide +kernel
theorem dX11_longest_22 : decode cX11_longest 22 = .ok (.bipush 30, 2) := by decide +kernel
theorem dX11_longest_24 : decode cX11_longest 24 = .ok (.if_icmp .ge 37, 3) := by decide +kernel
theorem dX11_longest_27 : decode cX11_longest 27 = .ok (.aload_n 0, 1) := by decide +kernel
theorem dX11_longest_28 : decode cX11_longest 28 = .ok (.getfield 10, 3) := by decide +kernel
theorem dX11_longest_31 : decode cX11_longest 31 = .ok (.getfield 124, 3) := by decide +kernel
theorem dX11_longest_34 : decode cX11_longest 34 = .ok (.iload 5, 2) := by decide +kernel
theorem dX11_longest_36 : decode cX11_longest 36 = .ok (.iload_n 1, 1) := by decide +kernel
theorem dX11_longest_37 : decode cX11_longest 37 = .ok (.invokevirtual 302, 3) := by decide +kernel
theorem dX11_longest_40 : decode cX11_longest 40 = .ok (.istore 6, 2) := by decide +kernel
theorem dX11_longest_42 : decode cX11_longest 42 = .ok (.iload 6, 2) := by decide +kernel
theorem dX11_longest_44 : decode cX11_longest 44 = .ok (.iload_n 3, 1) := by decide +kernel
theorem dX11_longest_45 : decode cX11_longest 45 = .ok (.if_icmp .le 10, 3) := by decide +kernel
theorem dX11_longest_48 : decode cX11_longest 48 = .ok (.iload 6, 2) := by decide +kernel
theorem dX11_longest_50 : decode cX11_longest 50 = .ok (.istore_n 3, 1) := by decide +kernel
theorem dX11_longest_51 : decode cX11_longest 51 = .ok (.iload 5, 2) := by decide +kernel
theorem dX11_longest_53 : decode cX11_longest 53 = .ok (.istore 4, 2) := by decide +kernel
theorem dX11_longest_55 : decode cX11_longest 55 = .ok (.iinc 5 1, 3) := by decide +kernel
theorem dX11_longest_58 : decode cX11_longest 58 = .ok (.goto (-38), 3) := by decide +kernel
theorem dX11_longest_61 : decode cX11_longest 61 = .ok (.iload_n 2, 1) := by decide +kernel
theorem dX11_longest_62 : decode cX11_longest 62 = .ok (.ifCond .eq 8, 3) := by decide +kernel
theorem dX11_longest_65 : decode cX11_longest 65 = .ok (.iload 4, 2) := by decide +kernel
theorem dX11_longest_67 : decode cX11_longest 67 = .ok (.goto 4, 3) := by decide +kernel
theorem dX11_longest_70 : decode cX11_longest 70 = .ok (.iload_n 3, 1) := by decide +kernel
theorem dX11_longest_71 : decode cX11_longest 71 = .ok (.ireturn, 1) := by decide +kernel
theorem dX11_arc_0 : decode cX11_arc 0 = .ok (.iload_n 1, 1) := by decide +kernel
theorem dX11_arc_1 : decode cX11_arc 1 = .ok (.iconst 1, 1) := by decide +kernel
theorem dX11_arc_2 : decode cX11_arc 2 = .ok (.if_icmp .lt 9, 3) := by decide +kernel
theorem dX11_arc_5 : decode cX11_arc 5 = .ok (.iload_n 1, 1) := by decide +kernel
theorem dX11_arc_6 : decode cX11_arc 6 = .ok (.bipush 30, 2) := by decide +kernel
theorem dX11_arc_8 : decode cX11_arc 8 = .ok (.if_icmp .le 5, 3) := by decide +kernel
theorem dX11_arc_11 : decode cX11_arc 11 = .ok (.iconst (-1), 1) := by decide +kernel
theorem dX11_arc_12 : decode cX11_arc 12 = .ok (.ireturn, 1) := by decide +kernel
theorem dX11_arc_13 : decode cX11_arc 13 = .ok (.iconst (-1), 1) := by decide +kernel
theorem dX11_arc_14 : decode cX11_arc 14 = .ok (.istore_n 2, 1) := by decide +kernel
theorem dX11_arc_15 : decode cX11_arc 15 = .ok (.iconst (-1), 1) := by decide +kernel
theorem dX11_arc_16 : decode cX11_arc 16 = .ok (.istore_n 3, 1) := by decide +kernel
theorem dX11_arc_17 : decode cX11_arc 17 = .ok (.iconst 0, 1) := by decide +kernel
theorem dX11_arc_18 : decode cX11_arc 18 = .ok (.istore 4, 2) := by decide +kernel
theorem dX11_arc_20 : decode cX11_arc 20 = .ok (.iload 4, 2) := by decide +kernel
theorem dX11_arc_22 : decode cX11_arc 22 = .ok (.bipush 30, 2) := by decide +kernel
theorem dX11_arc_24 : decode cX11_arc 24 = .ok (.if_icmp .ge 36, 3) := by decide +kernel
theorem dX11_arc_27 : decode cX11_arc 27 = .ok (.aload_n 0, 1) := by decide +kernel
theorem dX11_arc_28 : decode cX11_arc 28 = .ok (.getfield 10, 3) := by decide +kernel
theorem dX11_arc_31 : decode cX11_arc 31 = .ok (.getfield 124, 3) := by decide +kernel
theorem dX11_arc_34 : decode cX11_arc 34 = .ok (.iload 4, 2) := by decide +kernel
theorem dX11_arc_36 : decode cX11_arc 36 = .ok (.iload_n 1, 1) := by decide +kernel
theorem dX11_arc_37 : decode cX11_arc 37 = .ok (.invokevirtual 190, 3) := by decide +kernel
theorem dX11_arc_40 : decode cX11_arc 40 = .ok (.istore 5, 2) := by decide +kernel
theorem dX11_arc_42 : decode cX11_arc 42 = .ok (.iload 5, 2) := by decide +kernel
theorem dX11_arc_44 : decode cX11_arc 44 = .ok (.iload_n 2, 1) := by decide +kernel
theorem dX11_arc_45 : decode cX11_arc 45 = .ok (.if_icmp .le 9, 3) := by decide +kernel
theorem dX11_arc_48 : decode cX11_arc 48 = .ok (.iload 5, 2) := by decide +kernel
theorem dX11_arc_50 : decode cX11_arc 50 = .ok (.istore_n 2, 1) := by decide +kernel
theorem dX11_arc_51 : decode cX11_arc 51 = .ok (.iload 4, 2) := by decide +kernel
theorem dX11_arc_53 : decode cX11_arc 53 = .ok (.istore_n 3, 1) := by decide +kernel
theorem dX11_arc_54 : decode cX11_arc 54 = .ok (.iinc 4 1, 3) := by decide +kernel
theorem dX11_arc_57 : decode cX11_arc 57 = .ok (.goto (-37), 3) := by decide +kernel
theorem dX11_arc_60 : decode cX11_arc 60 = .ok (.iload_n 3, 1) := by decide +kernel
theorem dX11_arc_61 : decode cX11_arc 61 = .ok (.ireturn, 1) := by decide +kernel
theorem dX11_quiet_0 : decode cX11_quiet 0 = .ok (.iload_n 1, 1) := by decide +kernel
theorem dX11_quiet_1 : decode cX11_quiet 1 = .ok (.iconst 1, 1) := by decide +kernel
theorem dX11_quiet_2 : decode cX11_quiet 2 = .ok (.if_icmp .lt 9, 3) := by decide +kernel
theorem dX11_quiet_5 : decode cX11_quiet 5 = .ok (.iload_n 1, 1) := by decide +kernel
theorem dX11_quiet_6 : decode cX11_quiet 6 = .ok (.bipush 30, 2) := by decide +kernel
theorem dX11_quiet_8 : decode cX11_quiet 8 = .ok (.if_icmp .le 5, 3) := by decide +kernel
theorem dX11_quiet_11 : decode cX11_quiet 11 = .ok (.iconst (-1), 1) := by decide +kernel
theorem dX11_quiet_12 : decode cX11_quiet 12 = .ok (.ireturn, 1) := by decide +kernel
theorem dX11_quiet_13 : decode cX11_quiet 13 = .ok (.iconst 0, 1) := by decide +kernel
theorem dX11_quiet_14 : decode cX11_quiet 14 = .ok (.istore_n 2, 1) := by decide +kernel
theorem dX11_quiet_15 : decode cX11_quiet 15 = .ok (.iconst 0, 1) := by decide +kernel
theorem dX11_quiet_16 : decode cX11_quiet 16 = .ok (.istore_n 3, 1) := by decide +kernel
theorem dX11_quiet_17 : decode cX11_quiet 17 = .ok (.iload_n 3, 1) := by decide +kernel
theorem dX11_quiet_18 : decode cX11_quiet 18 = .ok (.bipush 30, 2) := by decide +kernel
theorem dX11_quiet_20 : decode cX11_quiet 20 = .ok (.if_icmp .ge 27, 3) := by decide +kernel
theorem dX11_quiet_23 : decode cX11_quiet 23 = .ok (.aload_n 0, 1) := by decide +kernel
theorem dX11_quiet_24 : decode cX11_quiet 24 = .ok (.getfield 10, 3) := by decide +kernel
theorem dX11_quiet_27 : decode cX11_quiet 27 = .ok (.getfield 124, 3) := by decide +kernel
theorem dX11_quiet_30 : decode cX11_quiet 30 = .ok (.iload_n 3, 1) := by decide +kernel
theorem dX11_quiet_31 : decode cX11_quiet 31 = .ok (.iload_n 1, 1) := by decide +kernel
theorem dX11_quiet_32 : decode cX11_quiet 32 = .ok (.invokevirtual 190, 3) := by decide +kernel
theorem dX11_quiet_35 : decode cX11_quiet 35 = .ok (.ifCond .ne 6, 3) := by decide +kernel
theorem dX11_quiet_38 : decode cX11_quiet 38 = .ok (.iinc 2 1, 3) := by decide +kernel
theorem dX11_quiet_41 : decode cX11_quiet 41 = .ok (.iinc 3 1, 3) := by decide +kernel
theorem dX11_quiet_44 : decode cX11_quiet 44 = .ok (.goto (-27), 3) := by decide +kernel
theorem dX11_quiet_47 : decode cX11_quiet 47 = .ok (.iload_n 2, 1) := by decide +kernel
theorem dX11_quiet_48 : decode cX11_quiet 48 = .ok (.ireturn, 1) := by decide +kernel
theorem dX11_changed_0 : decode cX11_changed 0 = .ok (.iconst 0, 1) := by decide +kernel
theorem dX11_changed_1 : decode cX11_changed 1 = .ok (.istore_n 1, 1) := by decide +kernel
theorem dX11_changed_2 : decode cX11_changed 2 = .ok (.iconst 0, 1) := by decide +kernel
theorem dX11_changed_3 : decode cX11_changed 3 = .ok (.istore_n 2, 1) := by decide +kernel
theorem dX11_changed_4 : decode cX11_changed 4 = .ok (.iload_n 2, 1) := by decide +kernel
theorem dX11_changed_5 : decode cX11_changed 5 = .ok (.bipush 30, 2) := by decide +kernel
theorem dX11_changed_7 : decode cX11_changed 7 = .ok (.if_icmp .ge 42, 3) := by decide +kernel
theorem dX11_changed_10 : decode cX11_changed 10 = .ok (.aload_n 0, 1) := by decide +kernel
theorem dX11_changed_11 : decode cX11_changed 11 = .ok (.getfield 10, 3) := by decide +kernel
theorem dX11_changed_14 : decode cX11_changed 14 = .ok (.getfield 124, 3) := by decide +kernel
theorem dX11_changed_17 : decode cX11_changed 17 = .ok (.getfield 173, 3) := by decide +kernel
theorem dX11_changed_20 : decode cX11_changed 20 = .ok (.iload_n 2, 1) := by decide +kernel
theorem dX11_changed_21 : decode cX11_changed 21 = .ok (.iaload, 1) := by decide +kernel
theorem dX11_changed_22 : decode cX11_changed 22 = .ok (.aload_n 0, 1) := by decide +kernel
theorem dX11_changed_23 : decode cX11_changed 23 = .ok (.getfield 16, 3) := by decide +kernel
theorem dX11_changed_26 : decode cX11_changed 26 = .ok (.getfield 124, 3) := by decide +kernel
theorem dX11_changed_29 : decode cX11_changed 29 = .ok (.getfield 173, 3) := by decide +kernel
theorem dX11_changed_32 : decode cX11_changed 32 = .ok (.iload_n 2, 1) := by decide +kernel
theorem dX11_changed_33 : decode cX11_changed 33 = .ok (.iaload, 1) := by decide +kernel
theorem dX11_changed_34 : decode cX11_changed 34 = .ok (.if_icmp .eq 9, 3) := by decide +kernel
theorem dX11_changed_37 : decode cX11_changed 37 = .ok (.iload_n 1, 1) := by decide +kernel
theorem dX11_changed_38 : decode cX11_changed 38 = .ok (.iconst 1, 1) := by decide +kernel
theorem dX11_changed_39 : decode cX11_changed 39 = .ok (.iload_n 2, 1) := by decide +kernel
theorem dX11_changed_40 : decode cX11_changed 40 = .ok (.ishl, 1) := by decide +kernel
theorem dX11_changed_41 : decode cX11_changed 41 = .ok (.ior, 1) := by decide +kernel
theorem dX11_changed_42 : decode cX11_changed 42 = .ok (.istore_n 1, 1) := by decide +kernel
theorem dX11_changed_43 : decode cX11_changed 43 = .ok (.iinc 2 1, 3) := by decide +kernel
theorem dX11_changed_46 : decode cX11_changed 46 = .ok (.goto (-42), 3) := by decide +kernel
theorem dX11_changed_49 : decode cX11_changed 49 = .ok (.iload_n 1, 1) := by decide +kernel
theorem dX11_changed_50 : decode cX11_changed 50 = .ok (.ireturn, 1) := by decide +kernel
theorem dX11_said_0 : decode cX11_said 0 = .ok (.iload_n 1, 1) := by decide +kernel
theorem dX11_said_1 : decode cX11_said 1 = .ok (.iconst (-1), 1) := by decide +kernel
theorem dX11_said_2 : decode cX11_said 2 = .ok (.if_icmp .ne 16, 3) := by decide +kernel
theorem dX11_said_5 : decode cX11_said 5 = .ok (.aload_n 0, 1) := by decide +kernel
theorem dX11_said_6 : decode cX11_said 6 = .ok (.getfield 10, 3) := by decide +kernel
theorem dX11_said_9 : decode cX11_said 9 = .ok (.getfield 305, 3) := by decide +kernel
theorem dX11_said_12 : decode cX11_said 12 = .ok (.iconst 0, 1) := by decide +kernel
theorem dX11_said_13 : decode cX11_said 13 = .ok (.putfield 263, 3) := by decide +kernel
theorem dX11_said_16 : decode cX11_said 16 = .ok (.iconst 0, 1) := by decide +kernel
theorem dX11_said_17 : decode cX11_said 17 = .ok (.ireturn, 1) := by decide +kernel
theorem dX11_said_18 : decode cX11_said 18 = .ok (.aload_n 0, 1) := by decide +kernel
theorem dX11_said_19 : decode cX11_said 19 = .ok (.getfield 10, 3) := by decide +kernel
theorem dX11_said_22 : decode cX11_said 22 = .ok (.iload_n 1, 1) := by decide +kernel
theorem dX11_said_23 : decode cX11_said 23 = .ok (.invokevirtual 158, 3) := by decide +kernel
theorem dX11_said_26 : decode cX11_said 26 = .ok (.ifCond .eq 20, 3) := by decide +kernel
theorem dX11_said_29 : decode cX11_said 29 = .ok (.iload_n 2, 1) := by decide +kernel
theorem dX11_said_30 : decode cX11_said 30 = .ok (.invokestatic 170, 3) := by decide +kernel
theorem dX11_said_33 : decode cX11_said 33 = .ok (.ifCond .eq 13, 3) := by decide +kernel
theorem dX11_said_36 : decode cX11_said 36 = .ok (.iload_n 3, 1) := by decide +kernel
theorem dX11_said_37 : decode cX11_said 37 = .ok (.ifCond .lt 9, 3) := by decide +kernel
theorem dX11_said_40 : decode cX11_said 40 = .ok (.iload_n 3, 1) := by decide +kernel
theorem dX11_said_41 : decode cX11_said 41 = .ok (.bipush 10, 2) := by decide +kernel
theorem dX11_said_43 : decode cX11_said 43 = .ok (.if_icmp .le 6, 3) := by decide +kernel
theorem dX11_said_46 : decode cX11_said 46 = .ok (.bipush (-2), 2) := by decide +kernel
theorem dX11_said_48 : decode cX11_said 48 = .ok (.ireturn, 1) := by decide +kernel
theorem dX11_said_49 : decode cX11_said 49 = .ok (.aload_n 0, 1) := by decide +kernel
theorem dX11_said_50 : decode cX11_said 50 = .ok (.getfield 10, 3) := by decide +kernel
theorem dX11_said_53 : decode cX11_said 53 = .ok (.getfield 305, 3) := by decide +kernel
theorem dX11_said_56 : decode cX11_said 56 = .ok (.iload_n 1, 1) := by decide +kernel
theorem dX11_said_57 : decode cX11_said 57 = .ok (.iload_n 2, 1) := by decide +kernel
theorem dX11_said_58 : decode cX11_said 58 = .ok (.iload_n 3, 1) := by decide +kernel
theorem dX11_said_59 : decode cX11_said 59 = .ok (.invokevirtual 266, 3) := by decide +kernel
theorem dX11_said_62 : decode cX11_said 62 = .ok (.ifCond .eq 16, 3) := by decide +kernel
theorem dX11_said_65 : decode cX11_said 65 = .ok (.aload_n 0, 1) := by decide +kernel
theorem dX11_said_66 : decode cX11_said 66 = .ok (.getfield 10, 3) := by decide +kernel
theorem dX11_said_69 : decode cX11_said 69 = .ok (.getfield 305, 3) := by decide +kernel
theorem dX11_said_72 : decode cX11_said 72 = .ok (.getfield 263, 3) := by decide +kernel
theorem dX11_said_75 : decode cX11_said 75 = .ok (.goto 5, 3) := by decide +kernel
theorem dX11_said_78 : decode cX11_said 78 = .ok (.bipush (-2), 2) := by decide +kernel
theorem dX11_said_80 : decode cX11_said 80 = .ok (.ireturn, 1) := by decide +kernel
theorem dX11_whose_0 : decode cX11_whose 0 = .ok (.iconst 0, 1) := by decide +kernel
theorem dX11_whose_1 : decode cX11_whose 1 = .ok (.istore_n 1, 1) := by decide +kernel
theorem dX11_whose_2 : decode cX11_whose 2 = .ok (.iconst 0, 1) := by decide +kernel
theorem dX11_whose_3 : decode cX11_whose 3 = .ok (.istore_n 2, 1) := by decide +kernel
theorem dX11_whose_4 : decode cX11_whose 4 = .ok (.iload_n 2, 1) := by decide +kernel
theorem dX11_whose_5 : decode cX11_whose 5 = .ok (.aload_n 0, 1) := by decide +kernel
theorem dX11_whose_6 : decode cX11_whose 6 = .ok (.getfield 10, 3) := by decide +kernel
theorem dX11_whose_9 : decode cX11_whose 9 = .ok (.getfield 100, 3) := by decide +kernel
theorem dX11_whose_12 : decode cX11_whose 12 = .ok (.if_icmp .ge 26, 3) := by decide +kernel
theorem dX11_whose_15 : decode cX11_whose 15 = .ok (.aload_n 0, 1) := by decide +kernel
theorem dX11_whose_16 : decode cX11_whose 16 = .ok (.getfield 30, 3) := by decide +kernel
theorem dX11_whose_19 : decode cX11_whose 19 = .ok (.iload_n 2, 1) := by decide +kernel
theorem dX11_whose_20 : decode cX11_whose 20 = .ok (.invokevirtual 308, 3) := by decide +kernel
theorem dX11_whose_23 : decode cX11_whose 23 = .ok (.ifCond .eq 9, 3) := by decide +kernel
theorem dX11_whose_26 : decode cX11_whose 26 = .ok (.iload_n 1, 1) := by decide +kernel
theorem dX11_whose_27 : decode cX11_whose 27 = .ok (.iconst 1, 1) := by decide +kernel
theorem dX11_whose_28 : decode cX11_whose 28 = .ok (.iload_n 2, 1) := by decide +kernel
theorem dX11_whose_29 : decode cX11_whose 29 = .ok (.ishl, 1) := by decide +kernel
theorem dX11_whose_30 : decode cX11_whose 30 = .ok (.ior, 1) := by decide +kernel
theorem dX11_whose_31 : decode cX11_whose 31 = .ok (.istore_n 1, 1) := by decide +kernel
theorem dX11_whose_32 : decode cX11_whose 32 = .ok (.iinc 2 1, 3) := by decide +kernel
theorem dX11_whose_35 : decode cX11_whose 35 = .ok (.goto (-31), 3) := by decide +kernel
theorem dX11_whose_38 : decode cX11_whose 38 = .ok (.iload_n 1, 1) := by decide +kernel
theorem dX11_whose_39 : decode cX11_whose 39 = .ok (.ireturn, 1) := by decide +kernel
theorem dX11_greatest_0 : decode cX11_greatest 0 = .ok (.iconst (-1), 1) := by decide +kernel
theorem dX11_greatest_1 : decode cX11_greatest 1 = .ok (.istore_n 1, 1) := by decide +kernel
theorem dX11_greatest_2 : decode cX11_greatest 2 = .ok (.iconst (-1), 1) := by decide +kernel
theorem dX11_greatest_3 : decode cX11_greatest 3 = .ok (.istore_n 2, 1) := by decide +kernel
theorem dX11_greatest_4 : decode cX11_greatest 4 = .ok (.iconst 0, 1) := by decide +kernel
theorem dX11_greatest_5 : decode cX11_greatest 5 = .ok (.istore_n 3, 1) := by decide +kernel
theorem dX11_greatest_6 : decode cX11_greatest 6 = .ok (.iload_n 3, 1) := by decide +kernel
theorem dX11_greatest_7 : decode cX11_greatest 7 = .ok (.aload_n 0, 1) := by decide +kernel
theorem dX11_greatest_8 : decode cX11_greatest 8 = .ok (.getfield 10, 3) := by decide +kernel
theorem dX11_greatest_11 : decode cX11_greatest 11 = .ok (.getfield 311, 3) := by decide +kernel
theorem dX11_greatest_14 : decode cX11_greatest 14 = .ok (.if_icmp .ge 40, 3) := by decide +kernel
theorem dX11_greatest_17 : decode cX11_greatest 17 = .ok (.aload_n 0, 1) := by decide +kernel
theorem dX11_greatest_18 : decode cX11_greatest 18 = .ok (.getfield 10, 3) := by decide +kernel
theorem dX11_greatest_21 : decode cX11_greatest 21 = .ok (.getfield 124, 3) := by decide +kernel
theorem dX11_greatest_24 : decode cX11_greatest 24 = .ok (.getfield 167, 3) := by decide +kernel
theorem dX11_greatest_27 : decode cX11_greatest 27 = .ok (.iload_n 3, 1) := by decide +kernel
theorem dX11_greatest_28 : decode cX11_greatest 28 = .ok (.iaload, 1) := by decide +kernel
theorem dX11_greatest_29 : decode cX11_greatest 29 = .ok (.iload_n 1, 1) := by decide +kernel
theorem dX11_greatest_30 : decode cX11_greatest 30 = .ok (.if_icmp .le 18, 3) := by decide +kernel
theorem dX11_greatest_33 : decode cX11_greatest 33 = .ok (.aload_n 0, 1) := by decide +kernel
theorem dX11_greatest_34 : decode cX11_greatest 34 = .ok (.getfield 10, 3) := by decide +kernel
theorem dX11_greatest_37 : decode cX11_greatest 37 = .ok (.getfield 124, 3) := by decide +kernel
theorem dX11_greatest_40 : decode cX11_greatest 40 = .ok (.getfield 167, 3) := by decide +kernel
theorem dX11_greatest_43 : decode cX11_greatest 43 = .ok (.iload_n 3, 1) := by decide +kernel
theorem dX11_greatest_44 : decode cX11_greatest 44 = .ok (.iaload, 1) := by decide +kernel
theorem dX11_greatest_45 : decode cX11_greatest 45 = .ok (.istore_n 1, 1) := by decide +kernel
theorem dX11_greatest_46 : decode cX11_greatest 46 = .ok (.iload_n 3, 1) := by decide +kernel
theorem dX11_greatest_47 : decode cX11_greatest 47 = .ok (.istore_n 2, 1) := by decide +kernel
theorem dX11_greatest_48 : decode cX11_greatest 48 = .ok (.iinc 3 1, 3) := by decide +kernel
theorem dX11_greatest_51 : decode cX11_greatest 51 = .ok (.goto (-45), 3) := by decide +kernel
theorem dX11_greatest_54 : decode cX11_greatest 54 = .ok (.iload_n 2, 1) := by decide +kernel
theorem dX11_greatest_55 : decode cX11_greatest 55 = .ok (.ireturn, 1) := by decide +kernel
theorem dX11_twins_0 : decode cX11_twins 0 = .ok (.aload_n 0, 1) := by decide +kernel
theorem dX11_twins_1 : decode cX11_twins 1 = .ok (.getfield 10, 3) := by decide +kernel
theorem dX11_twins_4 : decode cX11_twins 4 = .ok (.getfield 124, 3) := by decide +kernel
theorem dX11_twins_7 : decode cX11_twins 7 = .ok (.getfield 167, 3) := by decide +kernel
theorem dX11_twins_10 : decode cX11_twins 10 = .ok (.astore_n 1, 1) := by decide +kernel
theorem dX11_twins_11 : decode cX11_twins 11 = .ok (.iconst 0, 1) := by decide +kernel
theorem dX11_twins_12 : decode cX11_twins 12 = .ok (.istore_n 2, 1) := by decide +kernel
theorem dX11_twins_13 : decode cX11_twins 13 = .ok (.iconst 0, 1) := by decide +kernel
theorem dX11_twins_14 : decode cX11_twins 14 = .ok (.istore_n 3, 1) := by decide +kernel
theorem dX11_twins_15 : decode cX11_twins 15 = .ok (.iload_n 3, 1) := by decide +kernel
theorem dX11_twins_16 : decode cX11_twins 16 = .ok (.aload_n 0, 1) := by decide +kernel
theorem dX11_twins_17 : decode cX11_twins 17 = .ok (.getfield 10, 3) := by decide +kernel
theorem dX11_twins_20 : decode cX11_twins 20 = .ok (.getfield 311, 3) := by decide +kernel
theorem dX11_twins_23 : decode cX11_twins 23 = .ok (.if_icmp .ge 52, 3) := by decide +kernel
theorem dX11_twins_26 : decode cX11_twins 26 = .ok (.iload_n 3, 1) := by decide +kernel
theorem dX11_twins_27 : decode cX11_twins 27 = .ok (.iconst 1, 1) := by decide +kernel
theorem dX11_twins_28 : decode cX11_twins 28 = .ok (.iadd, 1) := by decide +kernel
theorem dX11_twins_29 : decode cX11_twins 29 = .ok (.istore 4, 2) := by decide +kernel
theorem dX11_twins_31 : decode cX11_twins 31 = .ok (.iload 4, 2) := by decide +kernel
theorem dX11_twins_33 : decode cX11_twins 33 = .ok (.aload_n 0, 1) := by decide +kernel
theorem dX11_twins_34 : decode cX11_twins 34 = .ok (.getfield 10, 3) := by decide +kernel
theorem dX11_twins_37 : decode cX11_twins 37 = .ok (.getfield 311, 3) := by decide +kernel
theorem dX11_twins_40 : decode cX11_twins 40 = .ok (.if_icmp .ge 29, 3) := by decide +kernel
theorem dX11_twins_43 : decode cX11_twins 43 = .ok (.aload_n 1, 1) := by decide +kernel
theorem dX11_twins_44 : decode cX11_twins 44 = .ok (.iload_n 3, 1) := by decide +kernel
theorem dX11_twins_45 : decode cX11_twins 45 = .ok (.iaload, 1) := by decide +kernel
theorem dX11_twins_46 : decode cX11_twins 46 = .ok (.iconst (-1), 1) := by decide +kernel
theorem dX11_twins_47 : decode cX11_twins 47 = .ok (.if_icmp .eq 16, 3) := by decide +kernel
theorem dX11_twins_50 : decode cX11_twins 50 = .ok (.aload_n 1, 1) := by decide +kernel
theorem dX11_twins_51 : decode cX11_twins 51 = .ok (.iload_n 3, 1) := by decide +kernel
theorem dX11_twins_52 : decode cX11_twins 52 = .ok (.iaload, 1) := by decide +kernel
theorem dX11_twins_53 : decode cX11_twins 53 = .ok (.aload_n 1, 1) := by decide +kernel
theorem dX11_twins_54 : decode cX11_twins 54 = .ok (.iload 4, 2) := by decide +kernel
theorem dX11_twins_56 : decode cX11_twins 56 = .ok (.iaload, 1) := by decide +kernel
theorem dX11_twins_57 : decode cX11_twins 57 = .ok (.if_icmp .ne 6, 3) := by decide +kernel
theorem dX11_twins_60 : decode cX11_twins 60 = .ok (.iinc 2 1, 3) := by decide +kernel
theorem dX11_twins_63 : decode cX11_twins 63 = .ok (.iinc 4 1, 3) := by decide +kernel
theorem dX11_twins_66 : decode cX11_twins 66 = .ok (.goto (-35), 3) := by decide +kernel
theorem dX11_twins_69 : decode cX11_twins 69 = .ok (.iinc 3 1, 3) := by decide +kernel
theorem dX11_twins_72 : decode cX11_twins 72 = .ok (.goto (-57), 3) := by decide +kernel
theorem dX11_twins_75 : decode cX11_twins 75 = .ok (.iload_n 2, 1) := by decide +kernel
theorem dX11_twins_76 : decode cX11_twins 76 = .ok (.ireturn, 1) := by decide +kernel
theorem dX11_odd_0 : decode cX11_odd 0 = .ok (.iconst 0, 1) := by decide +kernel
theorem dX11_odd_1 : decode cX11_odd 1 = .ok (.istore_n 1, 1) := by decide +kernel
theorem dX11_odd_2 : decode cX11_odd 2 = .ok (.iconst 0, 1) := by decide +kernel
theorem dX11_odd_3 : decode cX11_odd 3 = .ok (.istore_n 2, 1) := by decide +kernel
theorem dX11_odd_4 : decode cX11_odd 4 = .ok (.iload_n 2, 1) := by decide +kernel
theorem dX11_odd_5 : decode cX11_odd 5 = .ok (.aload_n 0, 1) := by decide +kernel
theorem dX11_odd_6 : decode cX11_odd 6 = .ok (.getfield 10, 3) := by decide +kernel
theorem dX11_odd_9 : decode cX11_odd 9 = .ok (.getfield 311, 3) := by decide +kernel
theorem dX11_odd_12 : decode cX11_odd 12 = .ok (.if_icmp .ge 40, 3) := by decide +kernel
theorem dX11_odd_15 : decode cX11_odd 15 = .ok (.aload_n 0, 1) := by decide +kernel
theorem dX11_odd_16 : decode cX11_odd 16 = .ok (.getfield 10, 3) := by decide +kernel
theorem dX11_odd_19 : decode cX11_odd 19 = .ok (.getfield 124, 3) := by decide +kernel
theorem dX11_odd_22 : decode cX11_odd 22 = .ok (.getfield 167, 3) := by decide +kernel
theorem dX11_odd_25 : decode cX11_odd 25 = .ok (.iload_n 2, 1) := by decide +kernel
theorem dX11_odd_26 : decode cX11_odd 26 = .ok (.iaload, 1) := by decide +kernel
theorem dX11_odd_27 : decode cX11_odd 27 = .ok (.istore_n 3, 1) := by decide +kernel
theorem dX11_odd_28 : decode cX11_odd 28 = .ok (.iload_n 3, 1) := by decide +kernel
theorem dX11_odd_29 : decode cX11_odd 29 = .ok (.iconst (-1), 1) := by decide +kernel
theorem dX11_odd_30 : decode cX11_odd 30 = .ok (.if_icmp .eq 16, 3) := by decide +kernel
theorem dX11_odd_33 : decode cX11_odd 33 = .ok (.iload_n 3, 1) := by decide +kernel
theorem dX11_odd_34 : decode cX11_odd 34 = .ok (.iconst 2, 1) := by decide +kernel
theorem dX11_odd_35 : decode cX11_odd 35 = .ok (.irem, 1) := by decide +kernel
theorem dX11_odd_36 : decode cX11_odd 36 = .ok (.iconst 1, 1) := by decide +kernel
theorem dX11_odd_37 : decode cX11_odd 37 = .ok (.if_icmp .ne 9, 3) := by decide +kernel
theorem dX11_odd_40 : decode cX11_odd 40 = .ok (.iload_n 1, 1) := by decide +kernel
theorem dX11_odd_41 : decode cX11_odd 41 = .ok (.iconst 1, 1) := by decide +kernel
theorem dX11_odd_42 : decode cX11_odd 42 = .ok (.iload_n 2, 1) := by decide +kernel
theorem dX11_odd_43 : decode cX11_odd 43 = .ok (.ishl, 1) := by decide +kernel
theorem dX11_odd_44 : decode cX11_odd 44 = .ok (.ior, 1) := by decide +kernel
theorem dX11_odd_45 : decode cX11_odd 45 = .ok (.istore_n 1, 1) := by decide +kernel
theorem dX11_odd_46 : decode cX11_odd 46 = .ok (.iinc 2 1, 3) := by decide +kernel
theorem dX11_odd_49 : decode cX11_odd 49 = .ok (.goto (-45), 3) := by decide +kernel
theorem dX11_odd_52 : decode cX11_odd 52 = .ok (.iload_n 1, 1) := by decide +kernel
theorem dX11_odd_53 : decode cX11_odd 53 = .ok (.ireturn, 1) := by decide +kernel
theorem dX11_thickest_0 : decode cX11_thickest 0 = .ok (.iconst 0, 1) := by decide +kernel
theorem dX11_thickest_1 : decode cX11_thickest 1 = .ok (.istore_n 1, 1) := by decide +kernel
theorem dX11_thickest_2 : decode cX11_thickest 2 = .ok (.iconst 1, 1) := by decide +kernel
theorem dX11_thickest_3 : decode cX11_thickest 3 = .ok (.istore_n 2, 1) := by decide +kernel
theorem dX11_thickest_4 : decode cX11_thickest 4 = .ok (.iload_n 2, 1) := by decide +kernel
theorem dX11_thickest_5 : decode cX11_thickest 5 = .ok (.bipush 30, 2) := by decide +kernel
theorem dX11_thickest_7 : decode cX11_thickest 7 = .ok (.if_icmp .ge 38, 3) := by decide +kernel
theorem dX11_thickest_10 : decode cX11_thickest 10 = .ok (.aload_n 0, 1) := by decide +kernel
theorem dX11_thickest_11 : decode cX11_thickest 11 = .ok (.getfield 10, 3) := by decide +kernel
theorem dX11_thickest_14 : decode cX11_thickest 14 = .ok (.getfield 124, 3) := by decide +kernel
theorem dX11_thickest_17 : decode cX11_thickest 17 = .ok (.getfield 176, 3) := by decide +kernel
theorem dX11_thickest_20 : decode cX11_thickest 20 = .ok (.iload_n 2, 1) := by decide +kernel
theorem dX11_thickest_21 : decode cX11_thickest 21 = .ok (.iaload, 1) := by decide +kernel
theorem dX11_thickest_22 : decode cX11_thickest 22 = .ok (.aload_n 0, 1) := by decide +kernel
theorem dX11_thickest_23 : decode cX11_thickest 23 = .ok (.getfield 10, 3) := by decide +kernel
theorem dX11_thickest_26 : decode cX11_thickest 26 = .ok (.getfield 124, 3) := by decide +kernel
theorem dX11_thickest_29 : decode cX11_thickest 29 = .ok (.getfield 176, 3) := by decide +kernel
theorem dX11_thickest_32 : decode cX11_thickest 32 = .ok (.iload_n 1, 1) := by decide +kernel
theorem dX11_thickest_33 : decode cX11_thickest 33 = .ok (.iaload, 1) := by decide +kernel
theorem dX11_thickest_34 : decode cX11_thickest 34 = .ok (.if_icmp .le 5, 3) := by decide +kernel
theorem dX11_thickest_37 : decode cX11_thickest 37 = .ok (.iload_n 2, 1) := by decide +kernel
theorem dX11_thickest_38 : decode cX11_thickest 38 = .ok (.istore_n 1, 1) := by decide +kernel
theorem dX11_thickest_39 : decode cX11_thickest 39 = .ok (.iinc 2 1, 3) := by decide +kernel
theorem dX11_thickest_42 : decode cX11_thickest 42 = .ok (.goto (-38), 3) := by decide +kernel
theorem dX11_thickest_45 : decode cX11_thickest 45 = .ok (.iload_n 1, 1) := by decide +kernel
theorem dX11_thickest_46 : decode cX11_thickest 46 = .ok (.ireturn, 1) := by decide +kernel
theorem dX11_ledger_0 : decode cX11_ledger 0 = .ok (.iload_n 1, 1) := by decide +kernel
theorem dX11_ledger_1 : decode cX11_ledger 1 = .ok (.iconst (-1), 1) := by decide +kernel
theorem dX11_ledger_2 : decode cX11_ledger 2 = .ok (.if_icmp .eq 17, 3) := by decide +kernel
theorem dX11_ledger_5 : decode cX11_ledger 5 = .ok (.aload_n 0, 1) := by decide +kernel
theorem dX11_ledger_6 : decode cX11_ledger 6 = .ok (.getfield 10, 3) := by decide +kernel
theorem dX11_ledger_9 : decode cX11_ledger 9 = .ok (.iload_n 1, 1) := by decide +kernel
theorem dX11_ledger_10 : decode cX11_ledger 10 = .ok (.invokevirtual 158, 3) := by decide +kernel
theorem dX11_ledger_13 : decode cX11_ledger 13 = .ok (.ifCond .ne 6, 3) := by decide +kernel
theorem dX11_ledger_16 : decode cX11_ledger 16 = .ok (.bipush (-2), 2) := by decide +kernel
theorem dX11_ledger_18 : decode cX11_ledger 18 = .ok (.ireturn, 1) := by decide +kernel
theorem dX11_ledger_19 : decode cX11_ledger 19 = .ok (.aload_n 0, 1) := by decide +kernel
theorem dX11_ledger_20 : decode cX11_ledger 20 = .ok (.getfield 10, 3) := by decide +kernel
theorem dX11_ledger_23 : decode cX11_ledger 23 = .ok (.getfield 124, 3) := by decide +kernel
theorem dX11_ledger_26 : decode cX11_ledger 26 = .ok (.iload_n 1, 1) := by decide +kernel
theorem dX11_ledger_27 : decode cX11_ledger 27 = .ok (.invokevirtual 314, 3) := by decide +kernel
theorem dX11_ledger_30 : decode cX11_ledger 30 = .ok (.ireturn, 1) := by decide +kernel
theorem dX11_image_0 : decode cX11_image 0 = .ok (.aload_n 0, 1) := by decide +kernel
theorem dX11_image_1 : decode cX11_image 1 = .ok (.getfield 16, 3) := by decide +kernel
theorem dX11_image_4 : decode cX11_image 4 = .ok (.aload_n 0, 1) := by decide +kernel
theorem dX11_image_5 : decode cX11_image 5 = .ok (.getfield 10, 3) := by decide +kernel
theorem dX11_image_8 : decode cX11_image 8 = .ok (.invokevirtual 317, 3) := by decide +kernel
theorem dX11_image_11 : decode cX11_image 11 = .ok (.aload_n 0, 1) := by decide +kernel
theorem dX11_image_12 : decode cX11_image 12 = .ok (.getfield 10, 3) := by decide +kernel
theorem dX11_image_15 : decode cX11_image 15 = .ok (.getfield 124, 3) := by decide +kernel
theorem dX11_image_18 : decode cX11_image 18 = .ok (.getfield 127, 3) := by decide +kernel
theorem dX11_image_21 : decode cX11_image 21 = .ok (.ireturn, 1) := by decide +kernel
theorem dX11_back_0 : decode cX11_back 0 = .ok (.aload_n 0, 1) := by decide +kernel
theorem dX11_back_1 : decode cX11_back 1 = .ok (.getfield 10, 3) := by decide +kernel
theorem dX11_back_4 : decode cX11_back 4 = .ok (.aload_n 0, 1) := by decide +kernel
theorem dX11_back_5 : decode cX11_back 5 = .ok (.getfield 16, 3) := by decide +kernel
theorem dX11_back_8 : decode cX11_back 8 = .ok (.invokevirtual 317, 3) := by decide +kernel
theorem dX11_back_11 : decode cX11_back 11 = .ok (.aload_n 0, 1) := by decide +kernel
theorem dX11_back_12 : decode cX11_back 12 = .ok (.getfield 10, 3) := by decide +kernel
theorem dX11_back_15 : decode cX11_back 15 = .ok (.getfield 124, 3) := by decide +kernel
theorem dX11_back_18 : decode cX11_back 18 = .ok (.getfield 127, 3) := by decide +kernel
theorem dX11_back_21 : decode cX11_back 21 = .ok (.ireturn, 1) := by decide +kernel
theorem dX11_about_0 : decode cX11_about 0 = .ok (.iload_n 1, 1) := by decide +kernel
theorem dX11_about_1 : decode cX11_about 1 = .ok (.tableswitch 105 0 6 #[43, 51, 59, 67, 78, 89, 100], 43) := by decide +kernel
theorem dX11_about_44 : decode cX11_about 44 = .ok (.aload_n 0, 1) := by decide +kernel
theorem dX11_about_45 : decode cX11_about 45 = .ok (.getfield 10, 3) := by decide +kernel
theorem dX11_about_48 : decode cX11_about 48 = .ok (.getfield 311, 3) := by decide +kernel
theorem dX11_about_51 : decode cX11_about 51 = .ok (.ireturn, 1) := by decide +kernel
theorem dX11_about_52 : decode cX11_about 52 = .ok (.aload_n 0, 1) := by decide +kernel
theorem dX11_about_53 : decode cX11_about 53 = .ok (.getfield 10, 3) := by decide +kernel
theorem dX11_about_56 : decode cX11_about 56 = .ok (.getfield 100, 3) := by decide +kernel
theorem dX11_about_59 : decode cX11_about 59 = .ok (.ireturn, 1) := by decide +kernel
theorem dX11_about_60 : decode cX11_about 60 = .ok (.aload_n 0, 1) := by decide +kernel
theorem dX11_about_61 : decode cX11_about 61 = .ok (.getfield 10, 3) := by decide +kernel
theorem dX11_about_64 : decode cX11_about 64 = .ok (.getfield 112, 3) := by decide +kernel
theorem dX11_about_67 : decode cX11_about 67 = .ok (.ireturn, 1) := by decide +kernel
theorem dX11_about_68 : decode cX11_about 68 = .ok (.aload_n 0, 1) := by decide +kernel
theorem dX11_about_69 : decode cX11_about 69 = .ok (.getfield 10, 3) := by decide +kernel
theorem dX11_about_72 : decode cX11_about 72 = .ok (.getfield 145, 3) := by decide +kernel
theorem dX11_about_75 : decode cX11_about 75 = .ok (.getfield 155, 3) := by decide +kernel
theorem dX11_about_78 : decode cX11_about 78 = .ok (.ireturn, 1) := by decide +kernel
theorem dX11_about_79 : decode cX11_about 79 = .ok (.aload_n 0, 1) := by decide +kernel
theorem dX11_about_80 : decode cX11_about 80 = .ok (.getfield 10, 3) := by decide +kernel
theorem dX11_about_83 : decode cX11_about 83 = .ok (.getfield 259, 3) := by decide +kernel
theorem dX11_about_86 : decode cX11_about 86 = .ok (.getfield 263, 3) := by decide +kernel
theorem dX11_about_89 : decode cX11_about 89 = .ok (.ireturn, 1) := by decide +kernel
theorem dX11_about_90 : decode cX11_about 90 = .ok (.aload_n 0, 1) := by decide +kernel
theorem dX11_about_91 : decode cX11_about 91 = .ok (.getfield 10, 3) := by decide +kernel
theorem dX11_about_94 : decode cX11_about 94 = .ok (.getfield 305, 3) := by decide +kernel
theorem dX11_about_97 : decode cX11_about 97 = .ok (.getfield 263, 3) := by decide +kernel
theorem dX11_about_100 : decode cX11_about 100 = .ok (.ireturn, 1) := by decide +kernel
theorem dX11_about_101 : decode cX11_about 101 = .ok (.aload_n 0, 1) := by decide +kernel
theorem dX11_about_102 : decode cX11_about 102 = .ok (.getfield 75, 3) := by decide +kernel
theorem dX11_about_105 : decode cX11_about 105 = .ok (.ireturn, 1) := by decide +kernel
theorem dX11_about_106 : decode cX11_about 106 = .ok (.bipush (-2), 2) := by decide +kernel
theorem dX11_about_108 : decode cX11_about 108 = .ok (.ireturn, 1) := by decide +kernel
theorem dX11_isPlace_0 : decode cX11_isPlace 0 = .ok (.iload_n 0, 1) := by decide +kernel
theorem dX11_isPlace_1 : decode cX11_isPlace 1 = .ok (.ifCond .lt 13, 3) := by decide +kernel
theorem dX11_isPlace_4 : decode cX11_isPlace 4 = .ok (.iload_n 0, 1) := by decide +kernel
theorem dX11_isPlace_5 : decode cX11_isPlace 5 = .ok (.bipush 30, 2) := by decide +kernel
theorem dX11_isPlace_7 : decode cX11_isPlace 7 = .ok (.if_icmp .ge 7, 3) := by decide +kernel
theorem dX11_isPlace_10 : decode cX11_isPlace 10 = .ok (.iconst 1, 1) := by decide +kernel
theorem dX11_isPlace_11 : decode cX11_isPlace 11 = .ok (.goto 4, 3) := by decide +kernel
theorem dX11_isPlace_14 : decode cX11_isPlace 14 = .ok (.iconst 0, 1) := by decide +kernel
theorem dX11_isPlace_15 : decode cX11_isPlace 15 = .ok (.ireturn, 1) := by decide +kernel
