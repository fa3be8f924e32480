theorem d_Bk_init_0 : decode b_Bk_init 0 = .ok (.aload_n 0, 1) := by decide +kernel
theorem d_Bk_init_1 : decode b_Bk_init 1 = .ok (.invokespecial 1, 3) := by decide +kernel
theorem d_Bk_init_4 : decode b_Bk_init 4 = .ok (.aload_n 0, 1) := by decide +kernel
theorem d_Bk_init_5 : decode b_Bk_init 5 = .ok (.iload_n 1, 1) := by decide +kernel
theorem d_Bk_init_6 : decode b_Bk_init 6 = .ok (.putfield 7, 3) := by decide +kernel
theorem d_Bk_init_9 : decode b_Bk_init 9 = .ok (.aload_n 0, 1) := by decide +kernel
theorem d_Bk_init_10 : decode b_Bk_init 10 = .ok (.aload_n 2, 1) := by decide +kernel
theorem d_Bk_init_11 : decode b_Bk_init 11 = .ok (.putfield 13, 3) := by decide +kernel
theorem d_Bk_init_14 : decode b_Bk_init 14 = .ok (.aload_n 0, 1) := by decide +kernel
theorem d_Bk_init_15 : decode b_Bk_init 15 = .ok (.iload_n 3, 1) := by decide +kernel
theorem d_Bk_init_16 : decode b_Bk_init 16 = .ok (.putfield 17, 3) := by decide +kernel
theorem d_Bk_init_19 : decode b_Bk_init 19 = .ok (.aload_n 0, 1) := by decide +kernel
theorem d_Bk_init_20 : decode b_Bk_init 20 = .ok (.iload 4, 2) := by decide +kernel
theorem d_Bk_init_22 : decode b_Bk_init 22 = .ok (.putfield 20, 3) := by decide +kernel
theorem d_Bk_init_25 : decode b_Bk_init 25 = .ok (.aload_n 0, 1) := by decide +kernel
theorem d_Bk_init_26 : decode b_Bk_init 26 = .ok (.iload 5, 2) := by decide +kernel
theorem d_Bk_init_28 : decode b_Bk_init 28 = .ok (.putfield 23, 3) := by decide +kernel
theorem d_Bk_init_31 : decode b_Bk_init 31 = .ok (.return_, 1) := by decide +kernel
theorem d_Ma_init_0 : decode b_Ma_init 0 = .ok (.aload_n 0, 1) := by decide +kernel
theorem d_Ma_init_1 : decode b_Ma_init 1 = .ok (.invokespecial 3, 3) := by decide +kernel
theorem d_Ma_init_4 : decode b_Ma_init 4 = .ok (.aload_n 0, 1) := by decide +kernel
theorem d_Ma_init_5 : decode b_Ma_init 5 = .ok (.bipush 14, 2) := by decide +kernel
theorem d_Ma_init_7 : decode b_Ma_init 7 = .ok (.anewarray 9, 3) := by decide +kernel
theorem d_Ma_init_10 : decode b_Ma_init 10 = .ok (.putfield 11, 3) := by decide +kernel
theorem d_Ma_init_13 : decode b_Ma_init 13 = .ok (.iconst 0, 1) := by decide +kernel
theorem d_Ma_init_14 : decode b_Ma_init 14 = .ok (.istore_n 1, 1) := by decide +kernel
theorem d_Ma_init_15 : decode b_Ma_init 15 = .ok (.iload_n 1, 1) := by decide +kernel
theorem d_Ma_init_16 : decode b_Ma_init 16 = .ok (.bipush 14, 2) := by decide +kernel
theorem d_Ma_init_18 : decode b_Ma_init 18 = .ok (.if_icmp .ge 22, 3) := by decide +kernel
theorem d_Ma_init_21 : decode b_Ma_init 21 = .ok (.aload_n 0, 1) := by decide +kernel
theorem d_Ma_init_22 : decode b_Ma_init 22 = .ok (.getfield 11, 3) := by decide +kernel
theorem d_Ma_init_25 : decode b_Ma_init 25 = .ok (.iload_n 1, 1) := by decide +kernel
theorem d_Ma_init_26 : decode b_Ma_init 26 = .ok (.new 9, 3) := by decide +kernel
theorem d_Ma_init_29 : decode b_Ma_init 29 = .ok (.dup, 1) := by decide +kernel
theorem d_Ma_init_30 : decode b_Ma_init 30 = .ok (.invokespecial 17, 3) := by decide +kernel
theorem d_Ma_init_33 : decode b_Ma_init 33 = .ok (.aastore, 1) := by decide +kernel
theorem d_Ma_init_34 : decode b_Ma_init 34 = .ok (.iinc 1 1, 3) := by decide +kernel
theorem d_Ma_init_37 : decode b_Ma_init 37 = .ok (.goto (-22), 3) := by decide +kernel
theorem d_Ma_init_40 : decode b_Ma_init 40 = .ok (.return_, 1) := by decide +kernel
theorem d_Ma_match_0 : decode b_Ma_match 0 = .ok (.aload_n 0, 1) := by decide +kernel
theorem d_Ma_match_1 : decode b_Ma_match 1 = .ok (.iload 4, 2) := by decide +kernel
theorem d_Ma_match_3 : decode b_Ma_match 3 = .ok (.invokevirtual 18, 3) := by decide +kernel
theorem d_Ma_match_6 : decode b_Ma_match 6 = .ok (.iconst 0, 1) := by decide +kernel
theorem d_Ma_match_7 : decode b_Ma_match 7 = .ok (.istore 5, 2) := by decide +kernel
theorem d_Ma_match_9 : decode b_Ma_match 9 = .ok (.iload 5, 2) := by decide +kernel
theorem d_Ma_match_11 : decode b_Ma_match 11 = .ok (.iload_n 2, 1) := by decide +kernel
theorem d_Ma_match_12 : decode b_Ma_match 12 = .ok (.if_icmp .ge 35, 3) := by decide +kernel
theorem d_Ma_match_15 : decode b_Ma_match 15 = .ok (.iload 5, 2) := by decide +kernel
theorem d_Ma_match_17 : decode b_Ma_match 17 = .ok (.aload_n 1, 1) := by decide +kernel
theorem d_Ma_match_18 : decode b_Ma_match 18 = .ok (.arraylength, 1) := by decide +kernel
theorem d_Ma_match_19 : decode b_Ma_match 19 = .ok (.if_icmp .ge 28, 3) := by decide +kernel
theorem d_Ma_match_22 : decode b_Ma_match 22 = .ok (.iload 5, 2) := by decide +kernel
theorem d_Ma_match_24 : decode b_Ma_match 24 = .ok (.iload_n 3, 1) := by decide +kernel
theorem d_Ma_match_25 : decode b_Ma_match 25 = .ok (.if_icmp .eq 16, 3) := by decide +kernel
theorem d_Ma_match_28 : decode b_Ma_match 28 = .ok (.aload_n 0, 1) := by decide +kernel
theorem d_Ma_match_29 : decode b_Ma_match 29 = .ok (.aload_n 1, 1) := by decide +kernel
theorem d_Ma_match_30 : decode b_Ma_match 30 = .ok (.iload 5, 2) := by decide +kernel
theorem d_Ma_match_32 : decode b_Ma_match 32 = .ok (.aaload, 1) := by decide +kernel
theorem d_Ma_match_33 : decode b_Ma_match 33 = .ok (.invokevirtual 22, 3) := by decide +kernel
theorem d_Ma_match_36 : decode b_Ma_match 36 = .ok (.ifCond .ne 5, 3) := by decide +kernel
theorem d_Ma_match_39 : decode b_Ma_match 39 = .ok (.iconst (-1), 1) := by decide +kernel
theorem d_Ma_match_40 : decode b_Ma_match 40 = .ok (.ireturn, 1) := by decide +kernel
theorem d_Ma_match_41 : decode b_Ma_match 41 = .ok (.iinc 5 1, 3) := by decide +kernel
theorem d_Ma_match_44 : decode b_Ma_match 44 = .ok (.goto (-35), 3) := by decide +kernel
theorem d_Ma_match_47 : decode b_Ma_match 47 = .ok (.aload_n 0, 1) := by decide +kernel
theorem d_Ma_match_48 : decode b_Ma_match 48 = .ok (.invokevirtual 26, 3) := by decide +kernel
theorem d_Ma_match_51 : decode b_Ma_match 51 = .ok (.ireturn, 1) := by decide +kernel
theorem d_Ma_tellPersons_0 : decode b_Ma_tellPersons 0 = .ok (.iconst 0, 1) := by decide +kernel
theorem d_Ma_tellPersons_1 : decode b_Ma_tellPersons 1 = .ok (.istore_n 1, 1) := by decide +kernel
theorem d_Ma_tellPersons_2 : decode b_Ma_tellPersons 2 = .ok (.iload_n 1, 1) := by decide +kernel
theorem d_Ma_tellPersons_3 : decode b_Ma_tellPersons 3 = .ok (.aload_n 0, 1) := by decide +kernel
theorem d_Ma_tellPersons_4 : decode b_Ma_tellPersons 4 = .ok (.getfield 30, 3) := by decide +kernel
theorem d_Ma_tellPersons_7 : decode b_Ma_tellPersons 7 = .ok (.if_icmp .ge 28, 3) := by decide +kernel
theorem d_Ma_tellPersons_10 : decode b_Ma_tellPersons 10 = .ok (.aload_n 0, 1) := by decide +kernel
theorem d_Ma_tellPersons_11 : decode b_Ma_tellPersons 11 = .ok (.getfield 11, 3) := by decide +kernel
theorem d_Ma_tellPersons_14 : decode b_Ma_tellPersons 14 = .ok (.iload_n 1, 1) := by decide +kernel
theorem d_Ma_tellPersons_15 : decode b_Ma_tellPersons 15 = .ok (.aaload, 1) := by decide +kernel
theorem d_Ma_tellPersons_16 : decode b_Ma_tellPersons 16 = .ok (.getfield 34, 3) := by decide +kernel
theorem d_Ma_tellPersons_19 : decode b_Ma_tellPersons 19 = .ok (.astore_n 2, 1) := by decide +kernel
theorem d_Ma_tellPersons_20 : decode b_Ma_tellPersons 20 = .ok (.aload_n 2, 1) := by decide +kernel
theorem d_Ma_tellPersons_21 : decode b_Ma_tellPersons 21 = .ok (.ifnull 8, 3) := by decide +kernel
theorem d_Ma_tellPersons_24 : decode b_Ma_tellPersons 24 = .ok (.aload_n 2, 1) := by decide +kernel
theorem d_Ma_tellPersons_25 : decode b_Ma_tellPersons 25 = .ok (.iload_n 1, 1) := by decide +kernel
theorem d_Ma_tellPersons_26 : decode b_Ma_tellPersons 26 = .ok (.putfield 38, 3) := by decide +kernel
theorem d_Ma_tellPersons_29 : decode b_Ma_tellPersons 29 = .ok (.iinc 1 1, 3) := by decide +kernel
theorem d_Ma_tellPersons_32 : decode b_Ma_tellPersons 32 = .ok (.goto (-30), 3) := by decide +kernel
theorem d_Ma_tellPersons_35 : decode b_Ma_tellPersons 35 = .ok (.return_, 1) := by decide +kernel
theorem d_Ma_clearSpots_0 : decode b_Ma_clearSpots 0 = .ok (.aload_n 0, 1) := by decide +kernel
theorem d_Ma_clearSpots_1 : decode b_Ma_clearSpots 1 = .ok (.iload_n 1, 1) := by decide +kernel
theorem d_Ma_clearSpots_2 : decode b_Ma_clearSpots 2 = .ok (.bipush 14, 2) := by decide +kernel
theorem d_Ma_clearSpots_4 : decode b_Ma_clearSpots 4 = .ok (.invokestatic 43, 3) := by decide +kernel
theorem d_Ma_clearSpots_7 : decode b_Ma_clearSpots 7 = .ok (.putfield 30, 3) := by decide +kernel
theorem d_Ma_clearSpots_10 : decode b_Ma_clearSpots 10 = .ok (.iconst 0, 1) := by decide +kernel
theorem d_Ma_clearSpots_11 : decode b_Ma_clearSpots 11 = .ok (.istore_n 2, 1) := by decide +kernel
theorem d_Ma_clearSpots_12 : decode b_Ma_clearSpots 12 = .ok (.iload_n 2, 1) := by decide +kernel
theorem d_Ma_clearSpots_13 : decode b_Ma_clearSpots 13 = .ok (.aload_n 0, 1) := by decide +kernel
theorem d_Ma_clearSpots_14 : decode b_Ma_clearSpots 14 = .ok (.getfield 30, 3) := by decide +kernel
theorem d_Ma_clearSpots_17 : decode b_Ma_clearSpots 17 = .ok (.if_icmp .ge 29, 3) := by decide +kernel
theorem d_Ma_clearSpots_20 : decode b_Ma_clearSpots 20 = .ok (.aload_n 0, 1) := by decide +kernel
theorem d_Ma_clearSpots_21 : decode b_Ma_clearSpots 21 = .ok (.getfield 11, 3) := by decide +kernel
theorem d_Ma_clearSpots_24 : decode b_Ma_clearSpots 24 = .ok (.iload_n 2, 1) := by decide +kernel
theorem d_Ma_clearSpots_25 : decode b_Ma_clearSpots 25 = .ok (.aaload, 1) := by decide +kernel
theorem d_Ma_clearSpots_26 : decode b_Ma_clearSpots 26 = .ok (.aconst_null, 1) := by decide +kernel
theorem d_Ma_clearSpots_27 : decode b_Ma_clearSpots 27 = .ok (.putfield 34, 3) := by decide +kernel
theorem d_Ma_clearSpots_30 : decode b_Ma_clearSpots 30 = .ok (.aload_n 0, 1) := by decide +kernel
theorem d_Ma_clearSpots_31 : decode b_Ma_clearSpots 31 = .ok (.getfield 11, 3) := by decide +kernel
theorem d_Ma_clearSpots_34 : decode b_Ma_clearSpots 34 = .ok (.iload_n 2, 1) := by decide +kernel
theorem d_Ma_clearSpots_35 : decode b_Ma_clearSpots 35 = .ok (.aaload, 1) := by decide +kernel
theorem d_Ma_clearSpots_36 : decode b_Ma_clearSpots 36 = .ok (.lconst 0, 1) := by decide +kernel
theorem d_Ma_clearSpots_37 : decode b_Ma_clearSpots 37 = .ok (.putfield 49, 3) := by decide +kernel
theorem d_Ma_clearSpots_40 : decode b_Ma_clearSpots 40 = .ok (.iinc 2 1, 3) := by decide +kernel
theorem d_Ma_clearSpots_43 : decode b_Ma_clearSpots 43 = .ok (.goto (-31), 3) := by decide +kernel
theorem d_Ma_clearSpots_46 : decode b_Ma_clearSpots 46 = .ok (.return_, 1) := by decide +kernel
theorem d_Ma_worthOfSpots_0 : decode b_Ma_worthOfSpots 0 = .ok (.iconst 0, 1) := by decide +kernel
theorem d_Ma_worthOfSpots_1 : decode b_Ma_worthOfSpots 1 = .ok (.istore_n 1, 1) := by decide +kernel
theorem d_Ma_worthOfSpots_2 : decode b_Ma_worthOfSpots 2 = .ok (.iconst 0, 1) := by decide +kernel
theorem d_Ma_worthOfSpots_3 : decode b_Ma_worthOfSpots 3 = .ok (.istore_n 2, 1) := by decide +kernel
theorem d_Ma_worthOfSpots_4 : decode b_Ma_worthOfSpots 4 = .ok (.iload_n 2, 1) := by decide +kernel
theorem d_Ma_worthOfSpots_5 : decode b_Ma_worthOfSpots 5 = .ok (.aload_n 0, 1) := by decide +kernel
theorem d_Ma_worthOfSpots_6 : decode b_Ma_worthOfSpots 6 = .ok (.getfield 30, 3) := by decide +kernel
theorem d_Ma_worthOfSpots_9 : decode b_Ma_worthOfSpots 9 = .ok (.if_icmp .ge 32, 3) := by decide +kernel
theorem d_Ma_worthOfSpots_12 : decode b_Ma_worthOfSpots 12 = .ok (.aload_n 0, 1) := by decide +kernel
theorem d_Ma_worthOfSpots_13 : decode b_Ma_worthOfSpots 13 = .ok (.getfield 11, 3) := by decide +kernel
theorem d_Ma_worthOfSpots_16 : decode b_Ma_worthOfSpots 16 = .ok (.iload_n 2, 1) := by decide +kernel
theorem d_Ma_worthOfSpots_17 : decode b_Ma_worthOfSpots 17 = .ok (.aaload, 1) := by decide +kernel
theorem d_Ma_worthOfSpots_18 : decode b_Ma_worthOfSpots 18 = .ok (.getfield 34, 3) := by decide +kernel
theorem d_Ma_worthOfSpots_21 : decode b_Ma_worthOfSpots 21 = .ok (.astore_n 3, 1) := by decide +kernel
theorem d_Ma_worthOfSpots_22 : decode b_Ma_worthOfSpots 22 = .ok (.aload_n 3, 1) := by decide +kernel
theorem d_Ma_worthOfSpots_23 : decode b_Ma_worthOfSpots 23 = .ok (.ifnull 12, 3) := by decide +kernel
theorem d_Ma_worthOfSpots_26 : decode b_Ma_worthOfSpots 26 = .ok (.iload_n 1, 1) := by decide +kernel
theorem d_Ma_worthOfSpots_27 : decode b_Ma_worthOfSpots 27 = .ok (.aload_n 3, 1) := by decide +kernel
theorem d_Ma_worthOfSpots_28 : decode b_Ma_worthOfSpots 28 = .ok (.getfield 53, 3) := by decide +kernel
theorem d_Ma_worthOfSpots_31 : decode b_Ma_worthOfSpots 31 = .ok (.iload_n 2, 1) := by decide +kernel
theorem d_Ma_worthOfSpots_32 : decode b_Ma_worthOfSpots 32 = .ok (.iaload, 1) := by decide +kernel
theorem d_Ma_worthOfSpots_33 : decode b_Ma_worthOfSpots 33 = .ok (.iadd, 1) := by decide +kernel
theorem d_Ma_worthOfSpots_34 : decode b_Ma_worthOfSpots 34 = .ok (.istore_n 1, 1) := by decide +kernel
theorem d_Ma_worthOfSpots_35 : decode b_Ma_worthOfSpots 35 = .ok (.iinc 2 1, 3) := by decide +kernel
theorem d_Ma_worthOfSpots_38 : decode b_Ma_worthOfSpots 38 = .ok (.goto (-34), 3) := by decide +kernel
theorem d_Ma_worthOfSpots_41 : decode b_Ma_worthOfSpots 41 = .ok (.iload_n 1, 1) := by decide +kernel
theorem d_Ma_worthOfSpots_42 : decode b_Ma_worthOfSpots 42 = .ok (.ireturn, 1) := by decide +kernel
theorem d_Ma_addPerson_0 : decode b_Ma_addPerson 0 = .ok (.aload_n 0, 1) := by decide +kernel
theorem d_Ma_addPerson_1 : decode b_Ma_addPerson 1 = .ok (.invokevirtual 57, 3) := by decide +kernel
theorem d_Ma_addPerson_4 : decode b_Ma_addPerson 4 = .ok (.aload_n 1, 1) := by decide +kernel
theorem d_Ma_addPerson_5 : decode b_Ma_addPerson 5 = .ok (.lconst 0, 1) := by decide +kernel
theorem d_Ma_addPerson_6 : decode b_Ma_addPerson 6 = .ok (.putfield 60, 3) := by decide +kernel
theorem d_Ma_addPerson_9 : decode b_Ma_addPerson 9 = .ok (.aload_n 1, 1) := by decide +kernel
theorem d_Ma_addPerson_10 : decode b_Ma_addPerson 10 = .ok (.astore_n 2, 1) := by decide +kernel
theorem d_Ma_addPerson_11 : decode b_Ma_addPerson 11 = .ok (.aconst_null, 1) := by decide +kernel
theorem d_Ma_addPerson_12 : decode b_Ma_addPerson 12 = .ok (.astore_n 3, 1) := by decide +kernel
theorem d_Ma_addPerson_13 : decode b_Ma_addPerson 13 = .ok (.iconst 0, 1) := by decide +kernel
theorem d_Ma_addPerson_14 : decode b_Ma_addPerson 14 = .ok (.istore 4, 2) := by decide +kernel
theorem d_Ma_addPerson_16 : decode b_Ma_addPerson 16 = .ok (.iload 4, 2) := by decide +kernel
theorem d_Ma_addPerson_18 : decode b_Ma_addPerson 18 = .ok (.aload_n 0, 1) := by decide +kernel
theorem d_Ma_addPerson_19 : decode b_Ma_addPerson 19 = .ok (.getfield 30, 3) := by decide +kernel
theorem d_Ma_addPerson_22 : decode b_Ma_addPerson 22 = .ok (.if_icmp .ge 70, 3) := by decide +kernel
theorem d_Ma_addPerson_25 : decode b_Ma_addPerson 25 = .ok (.aload_n 0, 1) := by decide +kernel
theorem d_Ma_addPerson_26 : decode b_Ma_addPerson 26 = .ok (.aload_n 2, 1) := by decide +kernel
theorem d_Ma_addPerson_27 : decode b_Ma_addPerson 27 = .ok (.aload_n 3, 1) := by decide +kernel
theorem d_Ma_addPerson_28 : decode b_Ma_addPerson 28 = .ok (.invokevirtual 61, 3) := by decide +kernel
theorem d_Ma_addPerson_31 : decode b_Ma_addPerson 31 = .ok (.aload_n 0, 1) := by decide +kernel
theorem d_Ma_addPerson_32 : decode b_Ma_addPerson 32 = .ok (.invokevirtual 65, 3) := by decide +kernel
theorem d_Ma_addPerson_35 : decode b_Ma_addPerson 35 = .ok (.astore 5, 2) := by decide +kernel
theorem d_Ma_addPerson_37 : decode b_Ma_addPerson 37 = .ok (.aload 5, 2) := by decide +kernel
theorem d_Ma_addPerson_39 : decode b_Ma_addPerson 39 = .ok (.ifnonnull 5, 3) := by decide +kernel
theorem d_Ma_addPerson_42 : decode b_Ma_addPerson 42 = .ok (.iconst 0, 1) := by decide +kernel
theorem d_Ma_addPerson_43 : decode b_Ma_addPerson 43 = .ok (.ireturn, 1) := by decide +kernel
theorem d_Ma_addPerson_44 : decode b_Ma_addPerson 44 = .ok (.aload_n 0, 1) := by decide +kernel
theorem d_Ma_addPerson_45 : decode b_Ma_addPerson 45 = .ok (.aload_n 1, 1) := by decide +kernel
theorem d_Ma_addPerson_46 : decode b_Ma_addPerson 46 = .ok (.aload 5, 2) := by decide +kernel
theorem d_Ma_addPerson_48 : decode b_Ma_addPerson 48 = .ok (.getfield 69, 3) := by decide +kernel
theorem d_Ma_addPerson_51 : decode b_Ma_addPerson 51 = .ok (.invokevirtual 72, 3) := by decide +kernel
theorem d_Ma_addPerson_54 : decode b_Ma_addPerson 54 = .ok (.aload 5, 2) := by decide +kernel
theorem d_Ma_addPerson_56 : decode b_Ma_addPerson 56 = .ok (.iconst 1, 1) := by decide +kernel
theorem d_Ma_addPerson_57 : decode b_Ma_addPerson 57 = .ok (.putfield 76, 3) := by decide +kernel
theorem d_Ma_addPerson_60 : decode b_Ma_addPerson 60 = .ok (.aload 5, 2) := by decide +kernel
theorem d_Ma_addPerson_62 : decode b_Ma_addPerson 62 = .ok (.getfield 34, 3) := by decide +kernel
theorem d_Ma_addPerson_65 : decode b_Ma_addPerson 65 = .ok (.ifnonnull 12, 3) := by decide +kernel
theorem d_Ma_addPerson_68 : decode b_Ma_addPerson 68 = .ok (.aload_n 0, 1) := by decide +kernel
theorem d_Ma_addPerson_69 : decode b_Ma_addPerson 69 = .ok (.aload 5, 2) := by decide +kernel
theorem d_Ma_addPerson_71 : decode b_Ma_addPerson 71 = .ok (.aload_n 1, 1) := by decide +kernel
theorem d_Ma_addPerson_72 : decode b_Ma_addPerson 72 = .ok (.invokevirtual 80, 3) := by decide +kernel
theorem d_Ma_addPerson_75 : decode b_Ma_addPerson 75 = .ok (.iconst 1, 1) := by decide +kernel
theorem d_Ma_addPerson_76 : decode b_Ma_addPerson 76 = .ok (.ireturn, 1) := by decide +kernel
theorem d_Ma_addPerson_77 : decode b_Ma_addPerson 77 = .ok (.aload 5, 2) := by decide +kernel
theorem d_Ma_addPerson_79 : decode b_Ma_addPerson 79 = .ok (.getfield 34, 3) := by decide +kernel
theorem d_Ma_addPerson_82 : decode b_Ma_addPerson 82 = .ok (.astore_n 2, 1) := by decide +kernel
theorem d_Ma_addPerson_83 : decode b_Ma_addPerson 83 = .ok (.aload 5, 2) := by decide +kernel
theorem d_Ma_addPerson_85 : decode b_Ma_addPerson 85 = .ok (.astore_n 3, 1) := by decide +kernel
theorem d_Ma_addPerson_86 : decode b_Ma_addPerson 86 = .ok (.iinc 4 1, 3) := by decide +kernel
theorem d_Ma_addPerson_89 : decode b_Ma_addPerson 89 = .ok (.goto (-73), 3) := by decide +kernel
theorem d_Ma_addPerson_92 : decode b_Ma_addPerson 92 = .ok (.iconst 0, 1) := by decide +kernel
theorem d_Ma_addPerson_93 : decode b_Ma_addPerson 93 = .ok (.ireturn, 1) := by decide +kernel
theorem d_Ma_startSearch_0 : decode b_Ma_startSearch 0 = .ok (.iconst 0, 1) := by decide +kernel
theorem d_Ma_startSearch_1 : decode b_Ma_startSearch 1 = .ok (.istore_n 1, 1) := by decide +kernel
theorem d_Ma_startSearch_2 : decode b_Ma_startSearch 2 = .ok (.iload_n 1, 1) := by decide +kernel
theorem d_Ma_startSearch_3 : decode b_Ma_startSearch 3 = .ok (.aload_n 0, 1) := by decide +kernel
theorem d_Ma_startSearch_4 : decode b_Ma_startSearch 4 = .ok (.getfield 30, 3) := by decide +kernel
theorem d_Ma_startSearch_7 : decode b_Ma_startSearch 7 = .ok (.if_icmp .ge 41, 3) := by decide +kernel
theorem d_Ma_startSearch_10 : decode b_Ma_startSearch 10 = .ok (.aload_n 0, 1) := by decide +kernel
theorem d_Ma_startSearch_11 : decode b_Ma_startSearch 11 = .ok (.getfield 11, 3) := by decide +kernel
theorem d_Ma_startSearch_14 : decode b_Ma_startSearch 14 = .ok (.iload_n 1, 1) := by decide +kernel
theorem d_Ma_startSearch_15 : decode b_Ma_startSearch 15 = .ok (.aaload, 1) := by decide +kernel
theorem d_Ma_startSearch_16 : decode b_Ma_startSearch 16 = .ok (.ldc2_w 84, 3) := by decide +kernel
theorem d_Ma_startSearch_19 : decode b_Ma_startSearch 19 = .ok (.putfield 69, 3) := by decide +kernel
theorem d_Ma_startSearch_22 : decode b_Ma_startSearch 22 = .ok (.aload_n 0, 1) := by decide +kernel
theorem d_Ma_startSearch_23 : decode b_Ma_startSearch 23 = .ok (.getfield 11, 3) := by decide +kernel
theorem d_Ma_startSearch_26 : decode b_Ma_startSearch 26 = .ok (.iload_n 1, 1) := by decide +kernel
theorem d_Ma_startSearch_27 : decode b_Ma_startSearch 27 = .ok (.aaload, 1) := by decide +kernel
theorem d_Ma_startSearch_28 : decode b_Ma_startSearch 28 = .ok (.aconst_null, 1) := by decide +kernel
theorem d_Ma_startSearch_29 : decode b_Ma_startSearch 29 = .ok (.putfield 86, 3) := by decide +kernel
theorem d_Ma_startSearch_32 : decode b_Ma_startSearch 32 = .ok (.aload_n 0, 1) := by decide +kernel
theorem d_Ma_startSearch_33 : decode b_Ma_startSearch 33 = .ok (.getfield 11, 3) := by decide +kernel
theorem d_Ma_startSearch_36 : decode b_Ma_startSearch 36 = .ok (.iload_n 1, 1) := by decide +kernel
theorem d_Ma_startSearch_37 : decode b_Ma_startSearch 37 = .ok (.aaload, 1) := by decide +kernel
theorem d_Ma_startSearch_38 : decode b_Ma_startSearch 38 = .ok (.iconst 0, 1) := by decide +kernel
theorem d_Ma_startSearch_39 : decode b_Ma_startSearch 39 = .ok (.putfield 76, 3) := by decide +kernel
theorem d_Ma_startSearch_42 : decode b_Ma_startSearch 42 = .ok (.iinc 1 1, 3) := by decide +kernel
theorem d_Ma_startSearch_45 : decode b_Ma_startSearch 45 = .ok (.goto (-43), 3) := by decide +kernel
theorem d_Ma_startSearch_48 : decode b_Ma_startSearch 48 = .ok (.return_, 1) := by decide +kernel
theorem d_Ma_lookFrom_0 : decode b_Ma_lookFrom 0 = .ok (.iconst 0, 1) := by decide +kernel
theorem d_Ma_lookFrom_1 : decode b_Ma_lookFrom 1 = .ok (.istore_n 3, 1) := by decide +kernel
theorem d_Ma_lookFrom_2 : decode b_Ma_lookFrom 2 = .ok (.iload_n 3, 1) := by decide +kernel
theorem d_Ma_lookFrom_3 : decode b_Ma_lookFrom 3 = .ok (.aload_n 0, 1) := by decide +kernel
theorem d_Ma_lookFrom_4 : decode b_Ma_lookFrom 4 = .ok (.getfield 30, 3) := by decide +kernel
theorem d_Ma_lookFrom_7 : decode b_Ma_lookFrom 7 = .ok (.if_icmp .ge 79, 3) := by decide +kernel
theorem d_Ma_lookFrom_10 : decode b_Ma_lookFrom 10 = .ok (.aload_n 0, 1) := by decide +kernel
theorem d_Ma_lookFrom_11 : decode b_Ma_lookFrom 11 = .ok (.getfield 11, 3) := by decide +kernel
theorem d_Ma_lookFrom_14 : decode b_Ma_lookFrom 14 = .ok (.iload_n 3, 1) := by decide +kernel
theorem d_Ma_lookFrom_15 : decode b_Ma_lookFrom 15 = .ok (.aaload, 1) := by decide +kernel
theorem d_Ma_lookFrom_16 : decode b_Ma_lookFrom 16 = .ok (.astore 4, 2) := by decide +kernel
theorem d_Ma_lookFrom_18 : decode b_Ma_lookFrom 18 = .ok (.aload 4, 2) := by decide +kernel
theorem d_Ma_lookFrom_20 : decode b_Ma_lookFrom 20 = .ok (.getfield 76, 3) := by decide +kernel
theorem d_Ma_lookFrom_23 : decode b_Ma_lookFrom 23 = .ok (.ifCond .ne 57, 3) := by decide +kernel
theorem d_Ma_lookFrom_26 : decode b_Ma_lookFrom 26 = .ok (.aload_n 1, 1) := by decide +kernel
theorem d_Ma_lookFrom_27 : decode b_Ma_lookFrom 27 = .ok (.getfield 90, 3) := by decide +kernel
theorem d_Ma_lookFrom_30 : decode b_Ma_lookFrom 30 = .ok (.iload_n 3, 1) := by decide +kernel
theorem d_Ma_lookFrom_31 : decode b_Ma_lookFrom 31 = .ok (.baload, 1) := by decide +kernel
theorem d_Ma_lookFrom_32 : decode b_Ma_lookFrom 32 = .ok (.ifCond .eq 6, 3) := by decide +kernel
theorem d_Ma_lookFrom_35 : decode b_Ma_lookFrom 35 = .ok (.goto 45, 3) := by decide +kernel
theorem d_Ma_lookFrom_38 : decode b_Ma_lookFrom 38 = .ok (.aload_n 1, 1) := by decide +kernel
theorem d_Ma_lookFrom_39 : decode b_Ma_lookFrom 39 = .ok (.iload_n 3, 1) := by decide +kernel
theorem d_Ma_lookFrom_40 : decode b_Ma_lookFrom 40 = .ok (.invokevirtual 94, 3) := by decide +kernel
theorem d_Ma_lookFrom_43 : decode b_Ma_lookFrom 43 = .ok (.aload_n 1, 1) := by decide +kernel
theorem d_Ma_lookFrom_44 : decode b_Ma_lookFrom 44 = .ok (.getfield 60, 3) := by decide +kernel
theorem d_Ma_lookFrom_47 : decode b_Ma_lookFrom 47 = .ok (.lsub, 1) := by decide +kernel
theorem d_Ma_lookFrom_48 : decode b_Ma_lookFrom 48 = .ok (.aload 4, 2) := by decide +kernel
theorem d_Ma_lookFrom_50 : decode b_Ma_lookFrom 50 = .ok (.getfield 49, 3) := by decide +kernel
theorem d_Ma_lookFrom_53 : decode b_Ma_lookFrom 53 = .ok (.lsub, 1) := by decide +kernel
theorem d_Ma_lookFrom_54 : decode b_Ma_lookFrom 54 = .ok (.lstore 5, 2) := by decide +kernel
theorem d_Ma_lookFrom_56 : decode b_Ma_lookFrom 56 = .ok (.lload 5, 2) := by decide +kernel
theorem d_Ma_lookFrom_58 : decode b_Ma_lookFrom 58 = .ok (.aload 4, 2) := by decide +kernel
theorem d_Ma_lookFrom_60 : decode b_Ma_lookFrom 60 = .ok (.getfield 69, 3) := by decide +kernel
theorem d_Ma_lookFrom_63 : decode b_Ma_lookFrom 63 = .ok (.lcmp, 1) := by decide +kernel
theorem d_Ma_lookFrom_64 : decode b_Ma_lookFrom 64 = .ok (.ifCond .ge 16, 3) := by decide +kernel
theorem d_Ma_lookFrom_67 : decode b_Ma_lookFrom 67 = .ok (.aload 4, 2) := by decide +kernel
theorem d_Ma_lookFrom_69 : decode b_Ma_lookFrom 69 = .ok (.lload 5, 2) := by decide +kernel
theorem d_Ma_lookFrom_71 : decode b_Ma_lookFrom 71 = .ok (.putfield 69, 3) := by decide +kernel
theorem d_Ma_lookFrom_74 : decode b_Ma_lookFrom 74 = .ok (.aload 4, 2) := by decide +kernel
theorem d_Ma_lookFrom_76 : decode b_Ma_lookFrom 76 = .ok (.aload_n 2, 1) := by decide +kernel
theorem d_Ma_lookFrom_77 : decode b_Ma_lookFrom 77 = .ok (.putfield 86, 3) := by decide +kernel
theorem d_Ma_lookFrom_80 : decode b_Ma_lookFrom 80 = .ok (.iinc 3 1, 3) := by decide +kernel
theorem d_Ma_lookFrom_83 : decode b_Ma_lookFrom 83 = .ok (.goto (-81), 3) := by decide +kernel
theorem d_Ma_lookFrom_86 : decode b_Ma_lookFrom 86 = .ok (.return_, 1) := by decide +kernel
theorem d_Ma_nearestSpot_0 : decode b_Ma_nearestSpot 0 = .ok (.aconst_null, 1) := by decide +kernel
theorem d_Ma_nearestSpot_1 : decode b_Ma_nearestSpot 1 = .ok (.astore_n 1, 1) := by decide +kernel
theorem d_Ma_nearestSpot_2 : decode b_Ma_nearestSpot 2 = .ok (.ldc2_w 84, 3) := by decide +kernel
theorem d_Ma_nearestSpot_5 : decode b_Ma_nearestSpot 5 = .ok (.lstore_n 2, 1) := by decide +kernel
theorem d_Ma_nearestSpot_6 : decode b_Ma_nearestSpot 6 = .ok (.iconst 0, 1) := by decide +kernel
theorem d_Ma_nearestSpot_7 : decode b_Ma_nearestSpot 7 = .ok (.istore 4, 2) := by decide +kernel
theorem d_Ma_nearestSpot_9 : decode b_Ma_nearestSpot 9 = .ok (.iload 4, 2) := by decide +kernel
theorem d_Ma_nearestSpot_11 : decode b_Ma_nearestSpot 11 = .ok (.aload_n 0, 1) := by decide +kernel
theorem d_Ma_nearestSpot_12 : decode b_Ma_nearestSpot 12 = .ok (.getfield 30, 3) := by decide +kernel
theorem d_Ma_nearestSpot_15 : decode b_Ma_nearestSpot 15 = .ok (.if_icmp .ge 50, 3) := by decide +kernel
theorem d_Ma_nearestSpot_18 : decode b_Ma_nearestSpot 18 = .ok (.aload_n 0, 1) := by decide +kernel
theorem d_Ma_nearestSpot_19 : decode b_Ma_nearestSpot 19 = .ok (.getfield 11, 3) := by decide +kernel
theorem d_Ma_nearestSpot_22 : decode b_Ma_nearestSpot 22 = .ok (.iload 4, 2) := by decide +kernel
theorem d_Ma_nearestSpot_24 : decode b_Ma_nearestSpot 24 = .ok (.aaload, 1) := by decide +kernel
theorem d_Ma_nearestSpot_25 : decode b_Ma_nearestSpot 25 = .ok (.getfield 76, 3) := by decide +kernel
theorem d_Ma_nearestSpot_28 : decode b_Ma_nearestSpot 28 = .ok (.ifCond .ne 31, 3) := by decide +kernel
theorem d_Ma_nearestSpot_31 : decode b_Ma_nearestSpot 31 = .ok (.aload_n 0, 1) := by decide +kernel
theorem d_Ma_nearestSpot_32 : decode b_Ma_nearestSpot 32 = .ok (.getfield 11, 3) := by decide +kernel
theorem d_Ma_nearestSpot_35 : decode b_Ma_nearestSpot 35 = .ok (.iload 4, 2) := by decide +kernel
theorem d_Ma_nearestSpot_37 : decode b_Ma_nearestSpot 37 = .ok (.aaload, 1) := by decide +kernel
theorem d_Ma_nearestSpot_38 : decode b_Ma_nearestSpot 38 = .ok (.getfield 69, 3) := by decide +kernel
theorem d_Ma_nearestSpot_41 : decode b_Ma_nearestSpot 41 = .ok (.lload_n 2, 1) := by decide +kernel
theorem d_Ma_nearestSpot_42 : decode b_Ma_nearestSpot 42 = .ok (.lcmp, 1) := by decide +kernel
theorem d_Ma_nearestSpot_43 : decode b_Ma_nearestSpot 43 = .ok (.ifCond .ge 16, 3) := by decide +kernel
theorem d_Ma_nearestSpot_46 : decode b_Ma_nearestSpot 46 = .ok (.aload_n 0, 1) := by decide +kernel
theorem d_Ma_nearestSpot_47 : decode b_Ma_nearestSpot 47 = .ok (.getfield 11, 3) := by decide +kernel
theorem d_Ma_nearestSpot_50 : decode b_Ma_nearestSpot 50 = .ok (.iload 4, 2) := by decide +kernel
theorem d_Ma_nearestSpot_52 : decode b_Ma_nearestSpot 52 = .ok (.aaload, 1) := by decide +kernel
theorem d_Ma_nearestSpot_53 : decode b_Ma_nearestSpot 53 = .ok (.astore_n 1, 1) := by decide +kernel
theorem d_Ma_nearestSpot_54 : decode b_Ma_nearestSpot 54 = .ok (.aload_n 1, 1) := by decide +kernel
theorem d_Ma_nearestSpot_55 : decode b_Ma_nearestSpot 55 = .ok (.getfield 69, 3) := by decide +kernel
theorem d_Ma_nearestSpot_58 : decode b_Ma_nearestSpot 58 = .ok (.lstore_n 2, 1) := by decide +kernel
theorem d_Ma_nearestSpot_59 : decode b_Ma_nearestSpot 59 = .ok (.iinc 4 1, 3) := by decide +kernel
theorem d_Ma_nearestSpot_62 : decode b_Ma_nearestSpot 62 = .ok (.goto (-53), 3) := by decide +kernel
theorem d_Ma_nearestSpot_65 : decode b_Ma_nearestSpot 65 = .ok (.aload_n 1, 1) := by decide +kernel
theorem d_Ma_nearestSpot_66 : decode b_Ma_nearestSpot 66 = .ok (.areturn, 1) := by decide +kernel
theorem d_Ma_shiftPrices_0 : decode b_Ma_shiftPrices 0 = .ok (.aload_n 1, 1) := by decide +kernel
theorem d_Ma_shiftPrices_1 : decode b_Ma_shiftPrices 1 = .ok (.dup, 1) := by decide +kernel
theorem d_Ma_shiftPrices_2 : decode b_Ma_shiftPrices 2 = .ok (.getfield 60, 3) := by decide +kernel
theorem d_Ma_shiftPrices_5 : decode b_Ma_shiftPrices 5 = .ok (.lload_n 2, 1) := by decide +kernel
theorem d_Ma_shiftPrices_6 : decode b_Ma_shiftPrices 6 = .ok (.ladd, 1) := by decide +kernel
theorem d_Ma_shiftPrices_7 : decode b_Ma_shiftPrices 7 = .ok (.putfield 60, 3) := by decide +kernel
theorem d_Ma_shiftPrices_10 : decode b_Ma_shiftPrices 10 = .ok (.iconst 0, 1) := by decide +kernel
theorem d_Ma_shiftPrices_11 : decode b_Ma_shiftPrices 11 = .ok (.istore 4, 2) := by decide +kernel
theorem d_Ma_shiftPrices_13 : decode b_Ma_shiftPrices 13 = .ok (.iload 4, 2) := by decide +kernel
theorem d_Ma_shiftPrices_15 : decode b_Ma_shiftPrices 15 = .ok (.aload_n 0, 1) := by decide +kernel
theorem d_Ma_shiftPrices_16 : decode b_Ma_shiftPrices 16 = .ok (.getfield 30, 3) := by decide +kernel
theorem d_Ma_shiftPrices_19 : decode b_Ma_shiftPrices 19 = .ok (.if_icmp .ge 85, 3) := by decide +kernel
theorem d_Ma_shiftPrices_22 : decode b_Ma_shiftPrices 22 = .ok (.aload_n 0, 1) := by decide +kernel
theorem d_Ma_shiftPrices_23 : decode b_Ma_shiftPrices 23 = .ok (.getfield 11, 3) := by decide +kernel
theorem d_Ma_shiftPrices_26 : decode b_Ma_shiftPrices 26 = .ok (.iload 4, 2) := by decide +kernel
theorem d_Ma_shiftPrices_28 : decode b_Ma_shiftPrices 28 = .ok (.aaload, 1) := by decide +kernel
theorem d_Ma_shiftPrices_29 : decode b_Ma_shiftPrices 29 = .ok (.astore 5, 2) := by decide +kernel
theorem d_Ma_shiftPrices_31 : decode b_Ma_shiftPrices 31 = .ok (.aload 5, 2) := by decide +kernel
theorem d_Ma_shiftPrices_33 : decode b_Ma_shiftPrices 33 = .ok (.getfield 76, 3) := by decide +kernel
theorem d_Ma_shiftPrices_36 : decode b_Ma_shiftPrices 36 = .ok (.ifCond .eq 39, 3) := by decide +kernel
theorem d_Ma_shiftPrices_39 : decode b_Ma_shiftPrices 39 = .ok (.aload 5, 2) := by decide +kernel
theorem d_Ma_shiftPrices_41 : decode b_Ma_shiftPrices 41 = .ok (.dup, 1) := by decide +kernel
theorem d_Ma_shiftPrices_42 : decode b_Ma_shiftPrices 42 = .ok (.getfield 49, 3) := by decide +kernel
theorem d_Ma_shiftPrices_45 : decode b_Ma_shiftPrices 45 = .ok (.lload_n 2, 1) := by decide +kernel
theorem d_Ma_shiftPrices_46 : decode b_Ma_shiftPrices 46 = .ok (.lsub, 1) := by decide +kernel
theorem d_Ma_shiftPrices_47 : decode b_Ma_shiftPrices 47 = .ok (.putfield 49, 3) := by decide +kernel
theorem d_Ma_shiftPrices_50 : decode b_Ma_shiftPrices 50 = .ok (.aload 5, 2) := by decide +kernel
theorem d_Ma_shiftPrices_52 : decode b_Ma_shiftPrices 52 = .ok (.getfield 34, 3) := by decide +kernel
theorem d_Ma_shiftPrices_55 : decode b_Ma_shiftPrices 55 = .ok (.ifnull 43, 3) := by decide +kernel
theorem d_Ma_shiftPrices_58 : decode b_Ma_shiftPrices 58 = .ok (.aload 5, 2) := by decide +kernel
theorem d_Ma_shiftPrices_60 : decode b_Ma_shiftPrices 60 = .ok (.getfield 34, 3) := by decide +kernel
theorem d_Ma_shiftPrices_63 : decode b_Ma_shiftPrices 63 = .ok (.dup, 1) := by decide +kernel
theorem d_Ma_shiftPrices_64 : decode b_Ma_shiftPrices 64 = .ok (.getfield 60, 3) := by decide +kernel
theorem d_Ma_shiftPrices_67 : decode b_Ma_shiftPrices 67 = .ok (.lload_n 2, 1) := by decide +kernel
theorem d_Ma_shiftPrices_68 : decode b_Ma_shiftPrices 68 = .ok (.ladd, 1) := by decide +kernel
theorem d_Ma_shiftPrices_69 : decode b_Ma_shiftPrices 69 = .ok (.putfield 60, 3) := by decide +kernel
theorem d_Ma_shiftPrices_72 : decode b_Ma_shiftPrices 72 = .ok (.goto 26, 3) := by decide +kernel
theorem d_Ma_shiftPrices_75 : decode b_Ma_shiftPrices 75 = .ok (.aload 5, 2) := by decide +kernel
theorem d_Ma_shiftPrices_77 : decode b_Ma_shiftPrices 77 = .ok (.getfield 69, 3) := by decide +kernel
theorem d_Ma_shiftPrices_80 : decode b_Ma_shiftPrices 80 = .ok (.ldc2_w 84, 3) := by decide +kernel
theorem d_Ma_shiftPrices_83 : decode b_Ma_shiftPrices 83 = .ok (.lcmp, 1) := by decide +kernel
theorem d_Ma_shiftPrices_84 : decode b_Ma_shiftPrices 84 = .ok (.ifCond .ge 14, 3) := by decide +kernel
theorem d_Ma_shiftPrices_87 : decode b_Ma_shiftPrices 87 = .ok (.aload 5, 2) := by decide +kernel
theorem d_Ma_shiftPrices_89 : decode b_Ma_shiftPrices 89 = .ok (.dup, 1) := by decide +kernel
theorem d_Ma_shiftPrices_90 : decode b_Ma_shiftPrices 90 = .ok (.getfield 69, 3) := by decide +kernel
theorem d_Ma_shiftPrices_93 : decode b_Ma_shiftPrices 93 = .ok (.lload_n 2, 1) := by decide +kernel
theorem d_Ma_shiftPrices_94 : decode b_Ma_shiftPrices 94 = .ok (.lsub, 1) := by decide +kernel
theorem d_Ma_shiftPrices_95 : decode b_Ma_shiftPrices 95 = .ok (.putfield 69, 3) := by decide +kernel
theorem d_Ma_shiftPrices_98 : decode b_Ma_shiftPrices 98 = .ok (.iinc 4 1, 3) := by decide +kernel
theorem d_Ma_shiftPrices_101 : decode b_Ma_shiftPrices 101 = .ok (.goto (-88), 3) := by decide +kernel
theorem d_Ma_shiftPrices_104 : decode b_Ma_shiftPrices 104 = .ok (.return_, 1) := by decide +kernel
theorem d_Ma_handOn_0 : decode b_Ma_handOn 0 = .ok (.aload_n 1, 1) := by decide +kernel
theorem d_Ma_handOn_1 : decode b_Ma_handOn 1 = .ok (.astore_n 3, 1) := by decide +kernel
theorem d_Ma_handOn_2 : decode b_Ma_handOn 2 = .ok (.aload_n 3, 1) := by decide +kernel
theorem d_Ma_handOn_3 : decode b_Ma_handOn 3 = .ok (.ifnull 33, 3) := by decide +kernel
theorem d_Ma_handOn_6 : decode b_Ma_handOn 6 = .ok (.aload_n 3, 1) := by decide +kernel
theorem d_Ma_handOn_7 : decode b_Ma_handOn 7 = .ok (.aload_n 3, 1) := by decide +kernel
theorem d_Ma_handOn_8 : decode b_Ma_handOn 8 = .ok (.getfield 86, 3) := by decide +kernel
theorem d_Ma_handOn_11 : decode b_Ma_handOn 11 = .ok (.ifnonnull 7, 3) := by decide +kernel
theorem d_Ma_handOn_14 : decode b_Ma_handOn 14 = .ok (.aload_n 2, 1) := by decide +kernel
theorem d_Ma_handOn_15 : decode b_Ma_handOn 15 = .ok (.goto 10, 3) := by decide +kernel
theorem d_Ma_handOn_18 : decode b_Ma_handOn 18 = .ok (.aload_n 3, 1) := by decide +kernel
theorem d_Ma_handOn_19 : decode b_Ma_handOn 19 = .ok (.getfield 86, 3) := by decide +kernel
theorem d_Ma_handOn_22 : decode b_Ma_handOn 22 = .ok (.getfield 34, 3) := by decide +kernel
theorem d_Ma_handOn_25 : decode b_Ma_handOn 25 = .ok (.putfield 34, 3) := by decide +kernel
theorem d_Ma_handOn_28 : decode b_Ma_handOn 28 = .ok (.aload_n 3, 1) := by decide +kernel
theorem d_Ma_handOn_29 : decode b_Ma_handOn 29 = .ok (.getfield 86, 3) := by decide +kernel
theorem d_Ma_handOn_32 : decode b_Ma_handOn 32 = .ok (.astore_n 3, 1) := by decide +kernel
theorem d_Ma_handOn_33 : decode b_Ma_handOn 33 = .ok (.goto (-31), 3) := by decide +kernel
theorem d_Ma_handOn_36 : decode b_Ma_handOn 36 = .ok (.return_, 1) := by decide +kernel
theorem d_Pe_init_0 : decode b_Pe_init 0 = .ok (.aload_n 0, 1) := by decide +kernel
theorem d_Pe_init_1 : decode b_Pe_init 1 = .ok (.invokespecial 3, 3) := by decide +kernel
theorem d_Pe_init_4 : decode b_Pe_init 4 = .ok (.aload_n 0, 1) := by decide +kernel
theorem d_Pe_init_5 : decode b_Pe_init 5 = .ok (.bipush 14, 2) := by decide +kernel
theorem d_Pe_init_7 : decode b_Pe_init 7 = .ok (.newarray .int, 2) := by decide +kernel
theorem d_Pe_init_9 : decode b_Pe_init 9 = .ok (.putfield 9, 3) := by decide +kernel
theorem d_Pe_init_12 : decode b_Pe_init 12 = .ok (.aload_n 0, 1) := by decide +kernel
theorem d_Pe_init_13 : decode b_Pe_init 13 = .ok (.bipush 14, 2) := by decide +kernel
theorem d_Pe_init_15 : decode b_Pe_init 15 = .ok (.newarray .boolean, 2) := by decide +kernel
theorem d_Pe_init_17 : decode b_Pe_init 17 = .ok (.putfield 15, 3) := by decide +kernel
theorem d_Pe_init_20 : decode b_Pe_init 20 = .ok (.aload_n 0, 1) := by decide +kernel
theorem d_Pe_init_21 : decode b_Pe_init 21 = .ok (.iconst (-1), 1) := by decide +kernel
theorem d_Pe_init_22 : decode b_Pe_init 22 = .ok (.putfield 19, 3) := by decide +kernel
theorem d_Pe_init_25 : decode b_Pe_init 25 = .ok (.aload_n 0, 1) := by decide +kernel
theorem d_Pe_init_26 : decode b_Pe_init 26 = .ok (.iconst (-1), 1) := by decide +kernel
theorem d_Pe_init_27 : decode b_Pe_init 27 = .ok (.putfield 23, 3) := by decide +kernel
theorem d_Pe_init_30 : decode b_Pe_init 30 = .ok (.aload_n 0, 1) := by decide +kernel
theorem d_Pe_init_31 : decode b_Pe_init 31 = .ok (.iconst (-1), 1) := by decide +kernel
theorem d_Pe_init_32 : decode b_Pe_init 32 = .ok (.putfield 26, 3) := by decide +kernel
theorem d_Pe_init_35 : decode b_Pe_init 35 = .ok (.aload_n 0, 1) := by decide +kernel
theorem d_Pe_init_36 : decode b_Pe_init 36 = .ok (.iload_n 1, 1) := by decide +kernel
theorem d_Pe_init_37 : decode b_Pe_init 37 = .ok (.putfield 29, 3) := by decide +kernel
theorem d_Pe_init_40 : decode b_Pe_init 40 = .ok (.return_, 1) := by decide +kernel
theorem d_Pe_wouldMoveTo_0 : decode b_Pe_wouldMoveTo 0 = .ok (.aload_n 0, 1) := by decide +kernel
theorem d_Pe_wouldMoveTo_1 : decode b_Pe_wouldMoveTo 1 = .ok (.getfield 19, 3) := by decide +kernel
theorem d_Pe_wouldMoveTo_4 : decode b_Pe_wouldMoveTo 4 = .ok (.iconst (-1), 1) := by decide +kernel
theorem d_Pe_wouldMoveTo_5 : decode b_Pe_wouldMoveTo 5 = .ok (.if_icmp .eq 15, 3) := by decide +kernel
theorem d_Pe_wouldMoveTo_8 : decode b_Pe_wouldMoveTo 8 = .ok (.aload_n 0, 1) := by decide +kernel
theorem d_Pe_wouldMoveTo_9 : decode b_Pe_wouldMoveTo 9 = .ok (.getfield 19, 3) := by decide +kernel
theorem d_Pe_wouldMoveTo_12 : decode b_Pe_wouldMoveTo 12 = .ok (.iload_n 1, 1) := by decide +kernel
theorem d_Pe_wouldMoveTo_13 : decode b_Pe_wouldMoveTo 13 = .ok (.if_icmp .eq 7, 3) := by decide +kernel
theorem d_Pe_wouldMoveTo_16 : decode b_Pe_wouldMoveTo 16 = .ok (.iconst 1, 1) := by decide +kernel
theorem d_Pe_wouldMoveTo_17 : decode b_Pe_wouldMoveTo 17 = .ok (.goto 4, 3) := by decide +kernel
theorem d_Pe_wouldMoveTo_20 : decode b_Pe_wouldMoveTo 20 = .ok (.iconst 0, 1) := by decide +kernel
theorem d_Pe_wouldMoveTo_21 : decode b_Pe_wouldMoveTo 21 = .ok (.ireturn, 1) := by decide +kernel
theorem d_Pe_costAt_0 : decode b_Pe_costAt 0 = .ok (.sipush 1000, 3) := by decide +kernel
theorem d_Pe_costAt_3 : decode b_Pe_costAt 3 = .ok (.aload_n 0, 1) := by decide +kernel
theorem d_Pe_costAt_4 : decode b_Pe_costAt 4 = .ok (.getfield 9, 3) := by decide +kernel
theorem d_Pe_costAt_7 : decode b_Pe_costAt 7 = .ok (.iload_n 1, 1) := by decide +kernel
theorem d_Pe_costAt_8 : decode b_Pe_costAt 8 = .ok (.iaload, 1) := by decide +kernel
theorem d_Pe_costAt_9 : decode b_Pe_costAt 9 = .ok (.isub, 1) := by decide +kernel
theorem d_Pe_costAt_10 : decode b_Pe_costAt 10 = .ok (.i2l, 1) := by decide +kernel
theorem d_Pe_costAt_11 : decode b_Pe_costAt 11 = .ok (.ldc2_w 32, 3) := by decide +kernel
theorem d_Pe_costAt_14 : decode b_Pe_costAt 14 = .ok (.lmul, 1) := by decide +kernel
theorem d_Pe_costAt_15 : decode b_Pe_costAt 15 = .ok (.lstore_n 2, 1) := by decide +kernel
theorem d_Pe_costAt_16 : decode b_Pe_costAt 16 = .ok (.aload_n 0, 1) := by decide +kernel
theorem d_Pe_costAt_17 : decode b_Pe_costAt 17 = .ok (.iload_n 1, 1) := by decide +kernel
theorem d_Pe_costAt_18 : decode b_Pe_costAt 18 = .ok (.invokevirtual 34, 3) := by decide +kernel
theorem d_Pe_costAt_21 : decode b_Pe_costAt 21 = .ok (.ifCond .eq 9, 3) := by decide +kernel
theorem d_Pe_costAt_24 : decode b_Pe_costAt 24 = .ok (.lload_n 2, 1) := by decide +kernel
theorem d_Pe_costAt_25 : decode b_Pe_costAt 25 = .ok (.ldc2_w 38, 3) := by decide +kernel
theorem d_Pe_costAt_28 : decode b_Pe_costAt 28 = .ok (.ladd, 1) := by decide +kernel
theorem d_Pe_costAt_29 : decode b_Pe_costAt 29 = .ok (.lstore_n 2, 1) := by decide +kernel
theorem d_Pe_costAt_30 : decode b_Pe_costAt 30 = .ok (.lload_n 2, 1) := by decide +kernel
theorem d_Pe_costAt_31 : decode b_Pe_costAt 31 = .ok (.iload_n 1, 1) := by decide +kernel
theorem d_Pe_costAt_32 : decode b_Pe_costAt 32 = .ok (.i2l, 1) := by decide +kernel
theorem d_Pe_costAt_33 : decode b_Pe_costAt 33 = .ok (.iconst 4, 1) := by decide +kernel
theorem d_Pe_costAt_34 : decode b_Pe_costAt 34 = .ok (.bipush 9, 2) := by decide +kernel
theorem d_Pe_costAt_36 : decode b_Pe_costAt 36 = .ok (.aload_n 0, 1) := by decide +kernel
theorem d_Pe_costAt_37 : decode b_Pe_costAt 37 = .ok (.getfield 29, 3) := by decide +kernel
theorem d_Pe_costAt_40 : decode b_Pe_costAt 40 = .ok (.isub, 1) := by decide +kernel
theorem d_Pe_costAt_41 : decode b_Pe_costAt 41 = .ok (.imul, 1) := by decide +kernel
theorem d_Pe_costAt_42 : decode b_Pe_costAt 42 = .ok (.lshl, 1) := by decide +kernel
theorem d_Pe_costAt_43 : decode b_Pe_costAt 43 = .ok (.ladd, 1) := by decide +kernel
theorem d_Pe_costAt_44 : decode b_Pe_costAt 44 = .ok (.lreturn, 1) := by decide +kernel
theorem d_Ro_init_0 : decode b_Ro_init 0 = .ok (.aload_n 0, 1) := by decide +kernel
theorem d_Ro_init_1 : decode b_Ro_init 1 = .ok (.invokespecial 1, 3) := by decide +kernel
theorem d_Ro_init_4 : decode b_Ro_init 4 = .ok (.aload_n 0, 1) := by decide +kernel
theorem d_Ro_init_5 : decode b_Ro_init 5 = .ok (.iload_n 1, 1) := by decide +kernel
theorem d_Ro_init_6 : decode b_Ro_init 6 = .ok (.putfield 7, 3) := by decide +kernel
theorem d_Ro_init_9 : decode b_Ro_init 9 = .ok (.return_, 1) := by decide +kernel
theorem d_Ro_bookingWithin_0 : decode b_Ro_bookingWithin 0 = .ok (.aload_n 0, 1) := by decide +kernel
theorem d_Ro_bookingWithin_1 : decode b_Ro_bookingWithin 1 = .ok (.getfield 13, 3) := by decide +kernel
theorem d_Ro_bookingWithin_4 : decode b_Ro_bookingWithin 4 = .ok (.astore_n 3, 1) := by decide +kernel
theorem d_Ro_bookingWithin_5 : decode b_Ro_bookingWithin 5 = .ok (.aload_n 3, 1) := by decide +kernel
theorem d_Ro_bookingWithin_6 : decode b_Ro_bookingWithin 6 = .ok (.ifnull 29, 3) := by decide +kernel
theorem d_Ro_bookingWithin_9 : decode b_Ro_bookingWithin 9 = .ok (.aload_n 3, 1) := by decide +kernel
theorem d_Ro_bookingWithin_10 : decode b_Ro_bookingWithin 10 = .ok (.getfield 17, 3) := by decide +kernel
theorem d_Ro_bookingWithin_13 : decode b_Ro_bookingWithin 13 = .ok (.iload_n 2, 1) := by decide +kernel
theorem d_Ro_bookingWithin_14 : decode b_Ro_bookingWithin 14 = .ok (.if_icmp .ge 13, 3) := by decide +kernel
theorem d_Ro_bookingWithin_17 : decode b_Ro_bookingWithin 17 = .ok (.aload_n 3, 1) := by decide +kernel
theorem d_Ro_bookingWithin_18 : decode b_Ro_bookingWithin 18 = .ok (.getfield 22, 3) := by decide +kernel
theorem d_Ro_bookingWithin_21 : decode b_Ro_bookingWithin 21 = .ok (.iload_n 1, 1) := by decide +kernel
theorem d_Ro_bookingWithin_22 : decode b_Ro_bookingWithin 22 = .ok (.if_icmp .le 5, 3) := by decide +kernel
theorem d_Ro_bookingWithin_25 : decode b_Ro_bookingWithin 25 = .ok (.aload_n 3, 1) := by decide +kernel
theorem d_Ro_bookingWithin_26 : decode b_Ro_bookingWithin 26 = .ok (.areturn, 1) := by decide +kernel
theorem d_Ro_bookingWithin_27 : decode b_Ro_bookingWithin 27 = .ok (.aload_n 3, 1) := by decide +kernel
theorem d_Ro_bookingWithin_28 : decode b_Ro_bookingWithin 28 = .ok (.getfield 25, 3) := by decide +kernel
theorem d_Ro_bookingWithin_31 : decode b_Ro_bookingWithin 31 = .ok (.astore_n 3, 1) := by decide +kernel
theorem d_Ro_bookingWithin_32 : decode b_Ro_bookingWithin 32 = .ok (.goto (-27), 3) := by decide +kernel
theorem d_Ro_bookingWithin_35 : decode b_Ro_bookingWithin 35 = .ok (.aconst_null, 1) := by decide +kernel
theorem d_Ro_bookingWithin_36 : decode b_Ro_bookingWithin 36 = .ok (.areturn, 1) := by decide +kernel
theorem d_Ro_firstFree_0 : decode b_Ro_firstFree 0 = .ok (.iload_n 1, 1) := by decide +kernel
theorem d_Ro_firstFree_1 : decode b_Ro_firstFree 1 = .ok (.istore_n 3, 1) := by decide +kernel
theorem d_Ro_firstFree_2 : decode b_Ro_firstFree 2 = .ok (.aload_n 0, 1) := by decide +kernel
theorem d_Ro_firstFree_3 : decode b_Ro_firstFree 3 = .ok (.getfield 13, 3) := by decide +kernel
theorem d_Ro_firstFree_6 : decode b_Ro_firstFree 6 = .ok (.astore 4, 2) := by decide +kernel
theorem d_Ro_firstFree_8 : decode b_Ro_firstFree 8 = .ok (.aload 4, 2) := by decide +kernel
theorem d_Ro_firstFree_10 : decode b_Ro_firstFree 10 = .ok (.ifnull 39, 3) := by decide +kernel
theorem d_Ro_firstFree_13 : decode b_Ro_firstFree 13 = .ok (.aload 4, 2) := by decide +kernel
theorem d_Ro_firstFree_15 : decode b_Ro_firstFree 15 = .ok (.getfield 17, 3) := by decide +kernel
theorem d_Ro_firstFree_18 : decode b_Ro_firstFree 18 = .ok (.iload_n 3, 1) := by decide +kernel
theorem d_Ro_firstFree_19 : decode b_Ro_firstFree 19 = .ok (.iload_n 2, 1) := by decide +kernel
theorem d_Ro_firstFree_20 : decode b_Ro_firstFree 20 = .ok (.iadd, 1) := by decide +kernel
theorem d_Ro_firstFree_21 : decode b_Ro_firstFree 21 = .ok (.if_icmp .ge 18, 3) := by decide +kernel
theorem d_Ro_firstFree_24 : decode b_Ro_firstFree 24 = .ok (.aload 4, 2) := by decide +kernel
theorem d_Ro_firstFree_26 : decode b_Ro_firstFree 26 = .ok (.getfield 22, 3) := by decide +kernel
theorem d_Ro_firstFree_29 : decode b_Ro_firstFree 29 = .ok (.iload_n 3, 1) := by decide +kernel
theorem d_Ro_firstFree_30 : decode b_Ro_firstFree 30 = .ok (.if_icmp .le 9, 3) := by decide +kernel
theorem d_Ro_firstFree_33 : decode b_Ro_firstFree 33 = .ok (.aload 4, 2) := by decide +kernel
theorem d_Ro_firstFree_35 : decode b_Ro_firstFree 35 = .ok (.getfield 22, 3) := by decide +kernel
theorem d_Ro_firstFree_38 : decode b_Ro_firstFree 38 = .ok (.istore_n 3, 1) := by decide +kernel
theorem d_Ro_firstFree_39 : decode b_Ro_firstFree 39 = .ok (.aload 4, 2) := by decide +kernel
theorem d_Ro_firstFree_41 : decode b_Ro_firstFree 41 = .ok (.getfield 25, 3) := by decide +kernel
theorem d_Ro_firstFree_44 : decode b_Ro_firstFree 44 = .ok (.astore 4, 2) := by decide +kernel
theorem d_Ro_firstFree_46 : decode b_Ro_firstFree 46 = .ok (.goto (-38), 3) := by decide +kernel
theorem d_Ro_firstFree_49 : decode b_Ro_firstFree 49 = .ok (.iload_n 3, 1) := by decide +kernel
theorem d_Ro_firstFree_50 : decode b_Ro_firstFree 50 = .ok (.ireturn, 1) := by decide +kernel
theorem d_Ro_placesLeftOver_0 : decode b_Ro_placesLeftOver 0 = .ok (.iconst 0, 1) := by decide +kernel
theorem d_Ro_placesLeftOver_1 : decode b_Ro_placesLeftOver 1 = .ok (.istore_n 1, 1) := by decide +kernel
theorem d_Ro_placesLeftOver_2 : decode b_Ro_placesLeftOver 2 = .ok (.aload_n 0, 1) := by decide +kernel
theorem d_Ro_placesLeftOver_3 : decode b_Ro_placesLeftOver 3 = .ok (.getfield 13, 3) := by decide +kernel
theorem d_Ro_placesLeftOver_6 : decode b_Ro_placesLeftOver 6 = .ok (.astore_n 2, 1) := by decide +kernel
theorem d_Ro_placesLeftOver_7 : decode b_Ro_placesLeftOver 7 = .ok (.aload_n 2, 1) := by decide +kernel
theorem d_Ro_placesLeftOver_8 : decode b_Ro_placesLeftOver 8 = .ok (.ifnull 23, 3) := by decide +kernel
theorem d_Ro_placesLeftOver_11 : decode b_Ro_placesLeftOver 11 = .ok (.iload_n 1, 1) := by decide +kernel
theorem d_Ro_placesLeftOver_12 : decode b_Ro_placesLeftOver 12 = .ok (.aload_n 0, 1) := by decide +kernel
theorem d_Ro_placesLeftOver_13 : decode b_Ro_placesLeftOver 13 = .ok (.getfield 28, 3) := by decide +kernel
theorem d_Ro_placesLeftOver_16 : decode b_Ro_placesLeftOver 16 = .ok (.aload_n 2, 1) := by decide +kernel
theorem d_Ro_placesLeftOver_17 : decode b_Ro_placesLeftOver 17 = .ok (.getfield 31, 3) := by decide +kernel
theorem d_Ro_placesLeftOver_20 : decode b_Ro_placesLeftOver 20 = .ok (.isub, 1) := by decide +kernel
theorem d_Ro_placesLeftOver_21 : decode b_Ro_placesLeftOver 21 = .ok (.iadd, 1) := by decide +kernel
theorem d_Ro_placesLeftOver_22 : decode b_Ro_placesLeftOver 22 = .ok (.istore_n 1, 1) := by decide +kernel
theorem d_Ro_placesLeftOver_23 : decode b_Ro_placesLeftOver 23 = .ok (.aload_n 2, 1) := by decide +kernel
theorem d_Ro_placesLeftOver_24 : decode b_Ro_placesLeftOver 24 = .ok (.getfield 25, 3) := by decide +kernel
theorem d_Ro_placesLeftOver_27 : decode b_Ro_placesLeftOver 27 = .ok (.astore_n 2, 1) := by decide +kernel
theorem d_Ro_placesLeftOver_28 : decode b_Ro_placesLeftOver 28 = .ok (.goto (-21), 3) := by decide +kernel
theorem d_Ro_placesLeftOver_31 : decode b_Ro_placesLeftOver 31 = .ok (.iload_n 1, 1) := by decide +kernel
theorem d_Ro_placesLeftOver_32 : decode b_Ro_placesLeftOver 32 = .ok (.ireturn, 1) := by decide +kernel
theorem d_Ro_add_0 : decode b_Ro_add 0 = .ok (.aconst_null, 1) := by decide +kernel
theorem d_Ro_add_1 : decode b_Ro_add 1 = .ok (.astore_n 2, 1) := by decide +kernel
theorem d_Ro_add_2 : decode b_Ro_add 2 = .ok (.aload_n 0, 1) := by decide +kernel
theorem d_Ro_add_3 : decode b_Ro_add 3 = .ok (.getfield 13, 3) := by decide +kernel
theorem d_Ro_add_6 : decode b_Ro_add 6 = .ok (.astore_n 3, 1) := by decide +kernel
theorem d_Ro_add_7 : decode b_Ro_add 7 = .ok (.aload_n 3, 1) := by decide +kernel
theorem d_Ro_add_8 : decode b_Ro_add 8 = .ok (.ifnull 24, 3) := by decide +kernel
theorem d_Ro_add_11 : decode b_Ro_add 11 = .ok (.aload_n 3, 1) := by decide +kernel
theorem d_Ro_add_12 : decode b_Ro_add 12 = .ok (.getfield 17, 3) := by decide +kernel
theorem d_Ro_add_15 : decode b_Ro_add 15 = .ok (.aload_n 1, 1) := by decide +kernel
theorem d_Ro_add_16 : decode b_Ro_add 16 = .ok (.getfield 17, 3) := by decide +kernel
theorem d_Ro_add_19 : decode b_Ro_add 19 = .ok (.if_icmp .ge 13, 3) := by decide +kernel
theorem d_Ro_add_22 : decode b_Ro_add 22 = .ok (.aload_n 3, 1) := by decide +kernel
theorem d_Ro_add_23 : decode b_Ro_add 23 = .ok (.astore_n 2, 1) := by decide +kernel
theorem d_Ro_add_24 : decode b_Ro_add 24 = .ok (.aload_n 3, 1) := by decide +kernel
theorem d_Ro_add_25 : decode b_Ro_add 25 = .ok (.getfield 25, 3) := by decide +kernel
theorem d_Ro_add_28 : decode b_Ro_add 28 = .ok (.astore_n 3, 1) := by decide +kernel
theorem d_Ro_add_29 : decode b_Ro_add 29 = .ok (.goto (-22), 3) := by decide +kernel
theorem d_Ro_add_32 : decode b_Ro_add 32 = .ok (.aload_n 2, 1) := by decide +kernel
theorem d_Ro_add_33 : decode b_Ro_add 33 = .ok (.ifnonnull 19, 3) := by decide +kernel
theorem d_Ro_add_36 : decode b_Ro_add 36 = .ok (.aload_n 1, 1) := by decide +kernel
theorem d_Ro_add_37 : decode b_Ro_add 37 = .ok (.aload_n 0, 1) := by decide +kernel
theorem d_Ro_add_38 : decode b_Ro_add 38 = .ok (.getfield 13, 3) := by decide +kernel
theorem d_Ro_add_41 : decode b_Ro_add 41 = .ok (.putfield 25, 3) := by decide +kernel
theorem d_Ro_add_44 : decode b_Ro_add 44 = .ok (.aload_n 0, 1) := by decide +kernel
theorem d_Ro_add_45 : decode b_Ro_add 45 = .ok (.aload_n 1, 1) := by decide +kernel
theorem d_Ro_add_46 : decode b_Ro_add 46 = .ok (.putfield 13, 3) := by decide +kernel
theorem d_Ro_add_49 : decode b_Ro_add 49 = .ok (.goto 16, 3) := by decide +kernel
theorem d_Ro_add_52 : decode b_Ro_add 52 = .ok (.aload_n 1, 1) := by decide +kernel
theorem d_Ro_add_53 : decode b_Ro_add 53 = .ok (.aload_n 2, 1) := by decide +kernel
theorem d_Ro_add_54 : decode b_Ro_add 54 = .ok (.getfield 25, 3) := by decide +kernel
theorem d_Ro_add_57 : decode b_Ro_add 57 = .ok (.putfield 25, 3) := by decide +kernel
theorem d_Ro_add_60 : decode b_Ro_add 60 = .ok (.aload_n 2, 1) := by decide +kernel
theorem d_Ro_add_61 : decode b_Ro_add 61 = .ok (.aload_n 1, 1) := by decide +kernel
theorem d_Ro_add_62 : decode b_Ro_add 62 = .ok (.putfield 25, 3) := by decide +kernel
theorem d_Ro_add_65 : decode b_Ro_add 65 = .ok (.return_, 1) := by decide +kernel
theorem d_Ro_remove_0 : decode b_Ro_remove 0 = .ok (.aload_n 0, 1) := by decide +kernel
theorem d_Ro_remove_1 : decode b_Ro_remove 1 = .ok (.getfield 13, 3) := by decide +kernel
theorem d_Ro_remove_4 : decode b_Ro_remove 4 = .ok (.aload_n 1, 1) := by decide +kernel
theorem d_Ro_remove_5 : decode b_Ro_remove 5 = .ok (.if_acmp .ne 13, 3) := by decide +kernel
theorem d_Ro_remove_8 : decode b_Ro_remove 8 = .ok (.aload_n 0, 1) := by decide +kernel
theorem d_Ro_remove_9 : decode b_Ro_remove 9 = .ok (.aload_n 1, 1) := by decide +kernel
theorem d_Ro_remove_10 : decode b_Ro_remove 10 = .ok (.getfield 25, 3) := by decide +kernel
theorem d_Ro_remove_13 : decode b_Ro_remove 13 = .ok (.putfield 13, 3) := by decide +kernel
theorem d_Ro_remove_16 : decode b_Ro_remove 16 = .ok (.iconst 1, 1) := by decide +kernel
theorem d_Ro_remove_17 : decode b_Ro_remove 17 = .ok (.ireturn, 1) := by decide +kernel
theorem d_Ro_remove_18 : decode b_Ro_remove 18 = .ok (.aload_n 0, 1) := by decide +kernel
theorem d_Ro_remove_19 : decode b_Ro_remove 19 = .ok (.getfield 13, 3) := by decide +kernel
theorem d_Ro_remove_22 : decode b_Ro_remove 22 = .ok (.astore_n 2, 1) := by decide +kernel
theorem d_Ro_remove_23 : decode b_Ro_remove 23 = .ok (.aload_n 2, 1) := by decide +kernel
theorem d_Ro_remove_24 : decode b_Ro_remove 24 = .ok (.ifnull 29, 3) := by decide +kernel
theorem d_Ro_remove_27 : decode b_Ro_remove 27 = .ok (.aload_n 2, 1) := by decide +kernel
theorem d_Ro_remove_28 : decode b_Ro_remove 28 = .ok (.getfield 25, 3) := by decide +kernel
theorem d_Ro_remove_31 : decode b_Ro_remove 31 = .ok (.aload_n 1, 1) := by decide +kernel
theorem d_Ro_remove_32 : decode b_Ro_remove 32 = .ok (.if_acmp .ne 13, 3) := by decide +kernel
theorem d_Ro_remove_35 : decode b_Ro_remove 35 = .ok (.aload_n 2, 1) := by decide +kernel
theorem d_Ro_remove_36 : decode b_Ro_remove 36 = .ok (.aload_n 1, 1) := by decide +kernel
theorem d_Ro_remove_37 : decode b_Ro_remove 37 = .ok (.getfield 25, 3) := by decide +kernel
theorem d_Ro_remove_40 : decode b_Ro_remove 40 = .ok (.putfield 25, 3) := by decide +kernel
theorem d_Ro_remove_43 : decode b_Ro_remove 43 = .ok (.iconst 1, 1) := by decide +kernel
theorem d_Ro_remove_44 : decode b_Ro_remove 44 = .ok (.ireturn, 1) := by decide +kernel
theorem d_Ro_remove_45 : decode b_Ro_remove 45 = .ok (.aload_n 2, 1) := by decide +kernel
theorem d_Ro_remove_46 : decode b_Ro_remove 46 = .ok (.getfield 25, 3) := by decide +kernel
theorem d_Ro_remove_49 : decode b_Ro_remove 49 = .ok (.astore_n 2, 1) := by decide +kernel
theorem d_Ro_remove_50 : decode b_Ro_remove 50 = .ok (.goto (-27), 3) := by decide +kernel
theorem d_Ro_remove_53 : decode b_Ro_remove 53 = .ok (.iconst 0, 1) := by decide +kernel
theorem d_Ro_remove_54 : decode b_Ro_remove 54 = .ok (.ireturn, 1) := by decide +kernel
theorem d_Sp_init_0 : decode b_Sp_init 0 = .ok (.aload_n 0, 1) := by decide +kernel
theorem d_Sp_init_1 : decode b_Sp_init 1 = .ok (.invokespecial 1, 3) := by decide +kernel
theorem d_Sp_init_4 : decode b_Sp_init 4 = .ok (.return_, 1) := by decide +kernel
theorem d_Wa_init_0 : decode b_Wa_init 0 = .ok (.aload_n 0, 1) := by decide +kernel
theorem d_Wa_init_1 : decode b_Wa_init 1 = .ok (.invokespecial 3, 3) := by decide +kernel
theorem d_Wa_init_4 : decode b_Wa_init 4 = .ok (.aload_n 0, 1) := by decide +kernel
theorem d_Wa_init_5 : decode b_Wa_init 5 = .ok (.bipush 15, 2) := by decide +kernel
theorem d_Wa_init_7 : decode b_Wa_init 7 = .ok (.newarray .int, 2) := by decide +kernel
theorem d_Wa_init_9 : decode b_Wa_init 9 = .ok (.putfield 9, 3) := by decide +kernel
theorem d_Wa_init_12 : decode b_Wa_init 12 = .ok (.aload_n 0, 1) := by decide +kernel
theorem d_Wa_init_13 : decode b_Wa_init 13 = .ok (.bipush 15, 2) := by decide +kernel
theorem d_Wa_init_15 : decode b_Wa_init 15 = .ok (.newarray .int, 2) := by decide +kernel
theorem d_Wa_init_17 : decode b_Wa_init 17 = .ok (.putfield 15, 3) := by decide +kernel
theorem d_Wa_init_20 : decode b_Wa_init 20 = .ok (.aload_n 0, 1) := by decide +kernel
theorem d_Wa_init_21 : decode b_Wa_init 21 = .ok (.bipush 15, 2) := by decide +kernel
theorem d_Wa_init_23 : decode b_Wa_init 23 = .ok (.newarray .int, 2) := by decide +kernel
theorem d_Wa_init_25 : decode b_Wa_init 25 = .ok (.putfield 18, 3) := by decide +kernel
theorem d_Wa_init_28 : decode b_Wa_init 28 = .ok (.return_, 1) := by decide +kernel
theorem d_Wa_plan_0 : decode b_Wa_plan 0 = .ok (.aload_n 0, 1) := by decide +kernel
theorem d_Wa_plan_1 : decode b_Wa_plan 1 = .ok (.aload_n 1, 1) := by decide +kernel
theorem d_Wa_plan_2 : decode b_Wa_plan 2 = .ok (.iload_n 2, 1) := by decide +kernel
theorem d_Wa_plan_3 : decode b_Wa_plan 3 = .ok (.invokevirtual 21, 3) := by decide +kernel
theorem d_Wa_plan_6 : decode b_Wa_plan 6 = .ok (.iconst 0, 1) := by decide +kernel
theorem d_Wa_plan_7 : decode b_Wa_plan 7 = .ok (.istore 4, 2) := by decide +kernel
theorem d_Wa_plan_9 : decode b_Wa_plan 9 = .ok (.iload 4, 2) := by decide +kernel
theorem d_Wa_plan_11 : decode b_Wa_plan 11 = .ok (.bipush 15, 2) := by decide +kernel
theorem d_Wa_plan_13 : decode b_Wa_plan 13 = .ok (.if_icmp .ge 77, 3) := by decide +kernel
theorem d_Wa_plan_16 : decode b_Wa_plan 16 = .ok (.aload_n 0, 1) := by decide +kernel
theorem d_Wa_plan_17 : decode b_Wa_plan 17 = .ok (.aload_n 1, 1) := by decide +kernel
theorem d_Wa_plan_18 : decode b_Wa_plan 18 = .ok (.iload_n 2, 1) := by decide +kernel
theorem d_Wa_plan_19 : decode b_Wa_plan 19 = .ok (.invokevirtual 25, 3) := by decide +kernel
theorem d_Wa_plan_22 : decode b_Wa_plan 22 = .ok (.astore 5, 2) := by decide +kernel
theorem d_Wa_plan_24 : decode b_Wa_plan 24 = .ok (.aload 5, 2) := by decide +kernel
theorem d_Wa_plan_26 : decode b_Wa_plan 26 = .ok (.ifnull 17, 3) := by decide +kernel
theorem d_Wa_plan_29 : decode b_Wa_plan 29 = .ok (.aload_n 0, 1) := by decide +kernel
theorem d_Wa_plan_30 : decode b_Wa_plan 30 = .ok (.aload 5, 2) := by decide +kernel
theorem d_Wa_plan_32 : decode b_Wa_plan 32 = .ok (.aload 5, 2) := by decide +kernel
theorem d_Wa_plan_34 : decode b_Wa_plan 34 = .ok (.getfield 29, 3) := by decide +kernel
theorem d_Wa_plan_37 : decode b_Wa_plan 37 = .ok (.invokevirtual 35, 3) := by decide +kernel
theorem d_Wa_plan_40 : decode b_Wa_plan 40 = .ok (.goto 44, 3) := by decide +kernel
theorem d_Wa_plan_43 : decode b_Wa_plan 43 = .ok (.aload_n 0, 1) := by decide +kernel
theorem d_Wa_plan_44 : decode b_Wa_plan 44 = .ok (.aload_n 1, 1) := by decide +kernel
theorem d_Wa_plan_45 : decode b_Wa_plan 45 = .ok (.iload_n 2, 1) := by decide +kernel
theorem d_Wa_plan_46 : decode b_Wa_plan 46 = .ok (.invokevirtual 39, 3) := by decide +kernel
theorem d_Wa_plan_49 : decode b_Wa_plan 49 = .ok (.astore 5, 2) := by decide +kernel
theorem d_Wa_plan_51 : decode b_Wa_plan 51 = .ok (.aload 5, 2) := by decide +kernel
theorem d_Wa_plan_53 : decode b_Wa_plan 53 = .ok (.ifnonnull 4, 3) := by decide +kernel
theorem d_Wa_plan_56 : decode b_Wa_plan 56 = .ok (.return_, 1) := by decide +kernel
theorem d_Wa_plan_57 : decode b_Wa_plan 57 = .ok (.aload_n 0, 1) := by decide +kernel
theorem d_Wa_plan_58 : decode b_Wa_plan 58 = .ok (.iload_n 3, 1) := by decide +kernel
theorem d_Wa_plan_59 : decode b_Wa_plan 59 = .ok (.invokevirtual 42, 3) := by decide +kernel
theorem d_Wa_plan_62 : decode b_Wa_plan 62 = .ok (.istore 6, 2) := by decide +kernel
theorem d_Wa_plan_64 : decode b_Wa_plan 64 = .ok (.iload 6, 2) := by decide +kernel
theorem d_Wa_plan_66 : decode b_Wa_plan 66 = .ok (.iconst (-1), 1) := by decide +kernel
theorem d_Wa_plan_67 : decode b_Wa_plan 67 = .ok (.if_icmp .ne 9, 3) := by decide +kernel
theorem d_Wa_plan_70 : decode b_Wa_plan 70 = .ok (.aload_n 0, 1) := by decide +kernel
theorem d_Wa_plan_71 : decode b_Wa_plan 71 = .ok (.iconst 1, 1) := by decide +kernel
theorem d_Wa_plan_72 : decode b_Wa_plan 72 = .ok (.putfield 46, 3) := by decide +kernel
theorem d_Wa_plan_75 : decode b_Wa_plan 75 = .ok (.return_, 1) := by decide +kernel
theorem d_Wa_plan_76 : decode b_Wa_plan 76 = .ok (.aload_n 0, 1) := by decide +kernel
theorem d_Wa_plan_77 : decode b_Wa_plan 77 = .ok (.aload 5, 2) := by decide +kernel
theorem d_Wa_plan_79 : decode b_Wa_plan 79 = .ok (.iload 6, 2) := by decide +kernel
theorem d_Wa_plan_81 : decode b_Wa_plan 81 = .ok (.invokevirtual 35, 3) := by decide +kernel
theorem d_Wa_plan_84 : decode b_Wa_plan 84 = .ok (.iinc 4 1, 3) := by decide +kernel
theorem d_Wa_plan_87 : decode b_Wa_plan 87 = .ok (.goto (-78), 3) := by decide +kernel
theorem d_Wa_plan_90 : decode b_Wa_plan 90 = .ok (.return_, 1) := by decide +kernel
theorem d_Wa_sitAtOldDesks_0 : decode b_Wa_sitAtOldDesks 0 = .ok (.aload_n 0, 1) := by decide +kernel
theorem d_Wa_sitAtOldDesks_1 : decode b_Wa_sitAtOldDesks 1 = .ok (.iconst 0, 1) := by decide +kernel
theorem d_Wa_sitAtOldDesks_2 : decode b_Wa_sitAtOldDesks 2 = .ok (.putfield 50, 3) := by decide +kernel
theorem d_Wa_sitAtOldDesks_5 : decode b_Wa_sitAtOldDesks 5 = .ok (.aload_n 0, 1) := by decide +kernel
theorem d_Wa_sitAtOldDesks_6 : decode b_Wa_sitAtOldDesks 6 = .ok (.iconst 0, 1) := by decide +kernel
theorem d_Wa_sitAtOldDesks_7 : decode b_Wa_sitAtOldDesks 7 = .ok (.putfield 46, 3) := by decide +kernel
theorem d_Wa_sitAtOldDesks_10 : decode b_Wa_sitAtOldDesks 10 = .ok (.aload_n 0, 1) := by decide +kernel
theorem d_Wa_sitAtOldDesks_11 : decode b_Wa_sitAtOldDesks 11 = .ok (.iconst 0, 1) := by decide +kernel
theorem d_Wa_sitAtOldDesks_12 : decode b_Wa_sitAtOldDesks 12 = .ok (.putfield 53, 3) := by decide +kernel
theorem d_Wa_sitAtOldDesks_15 : decode b_Wa_sitAtOldDesks 15 = .ok (.iconst 0, 1) := by decide +kernel
theorem d_Wa_sitAtOldDesks_16 : decode b_Wa_sitAtOldDesks 16 = .ok (.istore_n 3, 1) := by decide +kernel
theorem d_Wa_sitAtOldDesks_17 : decode b_Wa_sitAtOldDesks 17 = .ok (.iload_n 3, 1) := by decide +kernel
theorem d_Wa_sitAtOldDesks_18 : decode b_Wa_sitAtOldDesks 18 = .ok (.iload_n 2, 1) := by decide +kernel
theorem d_Wa_sitAtOldDesks_19 : decode b_Wa_sitAtOldDesks 19 = .ok (.if_icmp .ge 54, 3) := by decide +kernel
theorem d_Wa_sitAtOldDesks_22 : decode b_Wa_sitAtOldDesks 22 = .ok (.iload_n 3, 1) := by decide +kernel
theorem d_Wa_sitAtOldDesks_23 : decode b_Wa_sitAtOldDesks 23 = .ok (.aload_n 1, 1) := by decide +kernel
theorem d_Wa_sitAtOldDesks_24 : decode b_Wa_sitAtOldDesks 24 = .ok (.arraylength, 1) := by decide +kernel
theorem d_Wa_sitAtOldDesks_25 : decode b_Wa_sitAtOldDesks 25 = .ok (.if_icmp .ge 48, 3) := by decide +kernel
theorem d_Wa_sitAtOldDesks_28 : decode b_Wa_sitAtOldDesks 28 = .ok (.aload_n 1, 1) := by decide +kernel
theorem d_Wa_sitAtOldDesks_29 : decode b_Wa_sitAtOldDesks 29 = .ok (.iload_n 3, 1) := by decide +kernel
theorem d_Wa_sitAtOldDesks_30 : decode b_Wa_sitAtOldDesks 30 = .ok (.aaload, 1) := by decide +kernel
theorem d_Wa_sitAtOldDesks_31 : decode b_Wa_sitAtOldDesks 31 = .ok (.aload_n 1, 1) := by decide +kernel
theorem d_Wa_sitAtOldDesks_32 : decode b_Wa_sitAtOldDesks 32 = .ok (.iload_n 3, 1) := by decide +kernel
theorem d_Wa_sitAtOldDesks_33 : decode b_Wa_sitAtOldDesks 33 = .ok (.aaload, 1) := by decide +kernel
theorem d_Wa_sitAtOldDesks_34 : decode b_Wa_sitAtOldDesks 34 = .ok (.getfield 56, 3) := by decide +kernel
theorem d_Wa_sitAtOldDesks_37 : decode b_Wa_sitAtOldDesks 37 = .ok (.putfield 59, 3) := by decide +kernel
theorem d_Wa_sitAtOldDesks_40 : decode b_Wa_sitAtOldDesks 40 = .ok (.aload_n 1, 1) := by decide +kernel
theorem d_Wa_sitAtOldDesks_41 : decode b_Wa_sitAtOldDesks 41 = .ok (.iload_n 3, 1) := by decide +kernel
theorem d_Wa_sitAtOldDesks_42 : decode b_Wa_sitAtOldDesks 42 = .ok (.aaload, 1) := by decide +kernel
theorem d_Wa_sitAtOldDesks_43 : decode b_Wa_sitAtOldDesks 43 = .ok (.getfield 59, 3) := by decide +kernel
theorem d_Wa_sitAtOldDesks_46 : decode b_Wa_sitAtOldDesks 46 = .ok (.iconst (-1), 1) := by decide +kernel
theorem d_Wa_sitAtOldDesks_47 : decode b_Wa_sitAtOldDesks 47 = .ok (.if_icmp .eq 20, 3) := by decide +kernel
theorem d_Wa_sitAtOldDesks_50 : decode b_Wa_sitAtOldDesks 50 = .ok (.aload_n 0, 1) := by decide +kernel
theorem d_Wa_sitAtOldDesks_51 : decode b_Wa_sitAtOldDesks 51 = .ok (.dup, 1) := by decide +kernel
theorem d_Wa_sitAtOldDesks_52 : decode b_Wa_sitAtOldDesks 52 = .ok (.getfield 53, 3) := by decide +kernel
theorem d_Wa_sitAtOldDesks_55 : decode b_Wa_sitAtOldDesks 55 = .ok (.iconst 1, 1) := by decide +kernel
theorem d_Wa_sitAtOldDesks_56 : decode b_Wa_sitAtOldDesks 56 = .ok (.aload_n 1, 1) := by decide +kernel
theorem d_Wa_sitAtOldDesks_57 : decode b_Wa_sitAtOldDesks 57 = .ok (.iload_n 3, 1) := by decide +kernel
theorem d_Wa_sitAtOldDesks_58 : decode b_Wa_sitAtOldDesks 58 = .ok (.aaload, 1) := by decide +kernel
theorem d_Wa_sitAtOldDesks_59 : decode b_Wa_sitAtOldDesks 59 = .ok (.getfield 59, 3) := by decide +kernel
theorem d_Wa_sitAtOldDesks_62 : decode b_Wa_sitAtOldDesks 62 = .ok (.ishl, 1) := by decide +kernel
theorem d_Wa_sitAtOldDesks_63 : decode b_Wa_sitAtOldDesks 63 = .ok (.ior, 1) := by decide +kernel
theorem d_Wa_sitAtOldDesks_64 : decode b_Wa_sitAtOldDesks 64 = .ok (.putfield 53, 3) := by decide +kernel
theorem d_Wa_sitAtOldDesks_67 : decode b_Wa_sitAtOldDesks 67 = .ok (.iinc 3 1, 3) := by decide +kernel
theorem d_Wa_sitAtOldDesks_70 : decode b_Wa_sitAtOldDesks 70 = .ok (.goto (-53), 3) := by decide +kernel
theorem d_Wa_sitAtOldDesks_73 : decode b_Wa_sitAtOldDesks 73 = .ok (.return_, 1) := by decide +kernel
theorem d_Wa_firstWhoCanGoHome_0 : decode b_Wa_firstWhoCanGoHome 0 = .ok (.iconst 0, 1) := by decide +kernel
theorem d_Wa_firstWhoCanGoHome_1 : decode b_Wa_firstWhoCanGoHome 1 = .ok (.istore_n 3, 1) := by decide +kernel
theorem d_Wa_firstWhoCanGoHome_2 : decode b_Wa_firstWhoCanGoHome 2 = .ok (.iload_n 3, 1) := by decide +kernel
theorem d_Wa_firstWhoCanGoHome_3 : decode b_Wa_firstWhoCanGoHome 3 = .ok (.iload_n 2, 1) := by decide +kernel
theorem d_Wa_firstWhoCanGoHome_4 : decode b_Wa_firstWhoCanGoHome 4 = .ok (.if_icmp .ge 48, 3) := by decide +kernel
theorem d_Wa_firstWhoCanGoHome_7 : decode b_Wa_firstWhoCanGoHome 7 = .ok (.iload_n 3, 1) := by decide +kernel
theorem d_Wa_firstWhoCanGoHome_8 : decode b_Wa_firstWhoCanGoHome 8 = .ok (.aload_n 1, 1) := by decide +kernel
theorem d_Wa_firstWhoCanGoHome_9 : decode b_Wa_firstWhoCanGoHome 9 = .ok (.arraylength, 1) := by decide +kernel
theorem d_Wa_firstWhoCanGoHome_10 : decode b_Wa_firstWhoCanGoHome 10 = .ok (.if_icmp .ge 42, 3) := by decide +kernel
theorem d_Wa_firstWhoCanGoHome_13 : decode b_Wa_firstWhoCanGoHome 13 = .ok (.aload_n 1, 1) := by decide +kernel
theorem d_Wa_firstWhoCanGoHome_14 : decode b_Wa_firstWhoCanGoHome 14 = .ok (.iload_n 3, 1) := by decide +kernel
theorem d_Wa_firstWhoCanGoHome_15 : decode b_Wa_firstWhoCanGoHome 15 = .ok (.aaload, 1) := by decide +kernel
theorem d_Wa_firstWhoCanGoHome_16 : decode b_Wa_firstWhoCanGoHome 16 = .ok (.astore 4, 2) := by decide +kernel
theorem d_Wa_firstWhoCanGoHome_18 : decode b_Wa_firstWhoCanGoHome 18 = .ok (.aload 4, 2) := by decide +kernel
theorem d_Wa_firstWhoCanGoHome_20 : decode b_Wa_firstWhoCanGoHome 20 = .ok (.getfield 59, 3) := by decide +kernel
theorem d_Wa_firstWhoCanGoHome_23 : decode b_Wa_firstWhoCanGoHome 23 = .ok (.aload 4, 2) := by decide +kernel
theorem d_Wa_firstWhoCanGoHome_25 : decode b_Wa_firstWhoCanGoHome 25 = .ok (.getfield 29, 3) := by decide +kernel
theorem d_Wa_firstWhoCanGoHome_28 : decode b_Wa_firstWhoCanGoHome 28 = .ok (.if_icmp .eq 18, 3) := by decide +kernel
theorem d_Wa_firstWhoCanGoHome_31 : decode b_Wa_firstWhoCanGoHome 31 = .ok (.aload_n 0, 1) := by decide +kernel
theorem d_Wa_firstWhoCanGoHome_32 : decode b_Wa_firstWhoCanGoHome 32 = .ok (.aload 4, 2) := by decide +kernel
theorem d_Wa_firstWhoCanGoHome_34 : decode b_Wa_firstWhoCanGoHome 34 = .ok (.getfield 29, 3) := by decide +kernel
theorem d_Wa_firstWhoCanGoHome_37 : decode b_Wa_firstWhoCanGoHome 37 = .ok (.invokevirtual 62, 3) := by decide +kernel
theorem d_Wa_firstWhoCanGoHome_40 : decode b_Wa_firstWhoCanGoHome 40 = .ok (.ifCond .eq 6, 3) := by decide +kernel
theorem d_Wa_firstWhoCanGoHome_43 : decode b_Wa_firstWhoCanGoHome 43 = .ok (.aload 4, 2) := by decide +kernel
theorem d_Wa_firstWhoCanGoHome_45 : decode b_Wa_firstWhoCanGoHome 45 = .ok (.areturn, 1) := by decide +kernel
theorem d_Wa_firstWhoCanGoHome_46 : decode b_Wa_firstWhoCanGoHome 46 = .ok (.iinc 3 1, 3) := by decide +kernel
theorem d_Wa_firstWhoCanGoHome_49 : decode b_Wa_firstWhoCanGoHome 49 = .ok (.goto (-47), 3) := by decide +kernel
theorem d_Wa_firstWhoCanGoHome_52 : decode b_Wa_firstWhoCanGoHome 52 = .ok (.aconst_null, 1) := by decide +kernel
theorem d_Wa_firstWhoCanGoHome_53 : decode b_Wa_firstWhoCanGoHome 53 = .ok (.areturn, 1) := by decide +kernel
theorem d_Wa_firstNotHome_0 : decode b_Wa_firstNotHome 0 = .ok (.iconst 0, 1) := by decide +kernel
theorem d_Wa_firstNotHome_1 : decode b_Wa_firstNotHome 1 = .ok (.istore_n 3, 1) := by decide +kernel
theorem d_Wa_firstNotHome_2 : decode b_Wa_firstNotHome 2 = .ok (.iload_n 3, 1) := by decide +kernel
theorem d_Wa_firstNotHome_3 : decode b_Wa_firstNotHome 3 = .ok (.iload_n 2, 1) := by decide +kernel
theorem d_Wa_firstNotHome_4 : decode b_Wa_firstNotHome 4 = .ok (.if_icmp .ge 34, 3) := by decide +kernel
theorem d_Wa_firstNotHome_7 : decode b_Wa_firstNotHome 7 = .ok (.iload_n 3, 1) := by decide +kernel
theorem d_Wa_firstNotHome_8 : decode b_Wa_firstNotHome 8 = .ok (.aload_n 1, 1) := by decide +kernel
theorem d_Wa_firstNotHome_9 : decode b_Wa_firstNotHome 9 = .ok (.arraylength, 1) := by decide +kernel
theorem d_Wa_firstNotHome_10 : decode b_Wa_firstNotHome 10 = .ok (.if_icmp .ge 28, 3) := by decide +kernel
theorem d_Wa_firstNotHome_13 : decode b_Wa_firstNotHome 13 = .ok (.aload_n 1, 1) := by decide +kernel
theorem d_Wa_firstNotHome_14 : decode b_Wa_firstNotHome 14 = .ok (.iload_n 3, 1) := by decide +kernel
theorem d_Wa_firstNotHome_15 : decode b_Wa_firstNotHome 15 = .ok (.aaload, 1) := by decide +kernel
theorem d_Wa_firstNotHome_16 : decode b_Wa_firstNotHome 16 = .ok (.getfield 59, 3) := by decide +kernel
theorem d_Wa_firstNotHome_19 : decode b_Wa_firstNotHome 19 = .ok (.aload_n 1, 1) := by decide +kernel
theorem d_Wa_firstNotHome_20 : decode b_Wa_firstNotHome 20 = .ok (.iload_n 3, 1) := by decide +kernel
theorem d_Wa_firstNotHome_21 : decode b_Wa_firstNotHome 21 = .ok (.aaload, 1) := by decide +kernel
theorem d_Wa_firstNotHome_22 : decode b_Wa_firstNotHome 22 = .ok (.getfield 29, 3) := by decide +kernel
theorem d_Wa_firstNotHome_25 : decode b_Wa_firstNotHome 25 = .ok (.if_icmp .eq 7, 3) := by decide +kernel
theorem d_Wa_firstNotHome_28 : decode b_Wa_firstNotHome 28 = .ok (.aload_n 1, 1) := by decide +kernel
theorem d_Wa_firstNotHome_29 : decode b_Wa_firstNotHome 29 = .ok (.iload_n 3, 1) := by decide +kernel
theorem d_Wa_firstNotHome_30 : decode b_Wa_firstNotHome 30 = .ok (.aaload, 1) := by decide +kernel
theorem d_Wa_firstNotHome_31 : decode b_Wa_firstNotHome 31 = .ok (.areturn, 1) := by decide +kernel
theorem d_Wa_firstNotHome_32 : decode b_Wa_firstNotHome 32 = .ok (.iinc 3 1, 3) := by decide +kernel
theorem d_Wa_firstNotHome_35 : decode b_Wa_firstNotHome 35 = .ok (.goto (-33), 3) := by decide +kernel
theorem d_Wa_firstNotHome_38 : decode b_Wa_firstNotHome 38 = .ok (.aconst_null, 1) := by decide +kernel
theorem d_Wa_firstNotHome_39 : decode b_Wa_firstNotHome 39 = .ok (.areturn, 1) := by decide +kernel
theorem d_Wa_firstFreeDesk_0 : decode b_Wa_firstFreeDesk 0 = .ok (.iconst 0, 1) := by decide +kernel
theorem d_Wa_firstFreeDesk_1 : decode b_Wa_firstFreeDesk 1 = .ok (.istore_n 2, 1) := by decide +kernel
theorem d_Wa_firstFreeDesk_2 : decode b_Wa_firstFreeDesk 2 = .ok (.iload_n 2, 1) := by decide +kernel
theorem d_Wa_firstFreeDesk_3 : decode b_Wa_firstFreeDesk 3 = .ok (.iload_n 1, 1) := by decide +kernel
theorem d_Wa_firstFreeDesk_4 : decode b_Wa_firstFreeDesk 4 = .ok (.if_icmp .ge 19, 3) := by decide +kernel
theorem d_Wa_firstFreeDesk_7 : decode b_Wa_firstFreeDesk 7 = .ok (.aload_n 0, 1) := by decide +kernel
theorem d_Wa_firstFreeDesk_8 : decode b_Wa_firstFreeDesk 8 = .ok (.iload_n 2, 1) := by decide +kernel
theorem d_Wa_firstFreeDesk_9 : decode b_Wa_firstFreeDesk 9 = .ok (.invokevirtual 62, 3) := by decide +kernel
theorem d_Wa_firstFreeDesk_12 : decode b_Wa_firstFreeDesk 12 = .ok (.ifCond .eq 5, 3) := by decide +kernel
theorem d_Wa_firstFreeDesk_15 : decode b_Wa_firstFreeDesk 15 = .ok (.iload_n 2, 1) := by decide +kernel
theorem d_Wa_firstFreeDesk_16 : decode b_Wa_firstFreeDesk 16 = .ok (.ireturn, 1) := by decide +kernel
theorem d_Wa_firstFreeDesk_17 : decode b_Wa_firstFreeDesk 17 = .ok (.iinc 2 1, 3) := by decide +kernel
theorem d_Wa_firstFreeDesk_20 : decode b_Wa_firstFreeDesk 20 = .ok (.goto (-18), 3) := by decide +kernel
theorem d_Wa_firstFreeDesk_23 : decode b_Wa_firstFreeDesk 23 = .ok (.iconst (-1), 1) := by decide +kernel
theorem d_Wa_firstFreeDesk_24 : decode b_Wa_firstFreeDesk 24 = .ok (.ireturn, 1) := by decide +kernel
theorem d_Wa_isFree_0 : decode b_Wa_isFree 0 = .ok (.aload_n 0, 1) := by decide +kernel
theorem d_Wa_isFree_1 : decode b_Wa_isFree 1 = .ok (.getfield 53, 3) := by decide +kernel
theorem d_Wa_isFree_4 : decode b_Wa_isFree 4 = .ok (.iconst 1, 1) := by decide +kernel
theorem d_Wa_isFree_5 : decode b_Wa_isFree 5 = .ok (.iload_n 1, 1) := by decide +kernel
theorem d_Wa_isFree_6 : decode b_Wa_isFree 6 = .ok (.ishl, 1) := by decide +kernel
theorem d_Wa_isFree_7 : decode b_Wa_isFree 7 = .ok (.iand, 1) := by decide +kernel
theorem d_Wa_isFree_8 : decode b_Wa_isFree 8 = .ok (.ifCond .ne 7, 3) := by decide +kernel
theorem d_Wa_isFree_11 : decode b_Wa_isFree 11 = .ok (.iconst 1, 1) := by decide +kernel
theorem d_Wa_isFree_12 : decode b_Wa_isFree 12 = .ok (.goto 4, 3) := by decide +kernel
theorem d_Wa_isFree_15 : decode b_Wa_isFree 15 = .ok (.iconst 0, 1) := by decide +kernel
theorem d_Wa_isFree_16 : decode b_Wa_isFree 16 = .ok (.ireturn, 1) := by decide +kernel
theorem d_Wa_go_0 : decode b_Wa_go 0 = .ok (.aload_n 0, 1) := by decide +kernel
theorem d_Wa_go_1 : decode b_Wa_go 1 = .ok (.getfield 50, 3) := by decide +kernel
theorem d_Wa_go_4 : decode b_Wa_go 4 = .ok (.bipush 15, 2) := by decide +kernel
theorem d_Wa_go_6 : decode b_Wa_go 6 = .ok (.if_icmp .lt 4, 3) := by decide +kernel
theorem d_Wa_go_9 : decode b_Wa_go 9 = .ok (.return_, 1) := by decide +kernel
theorem d_Wa_go_10 : decode b_Wa_go 10 = .ok (.aload_n 0, 1) := by decide +kernel
theorem d_Wa_go_11 : decode b_Wa_go 11 = .ok (.getfield 9, 3) := by decide +kernel
theorem d_Wa_go_14 : decode b_Wa_go 14 = .ok (.aload_n 0, 1) := by decide +kernel
theorem d_Wa_go_15 : decode b_Wa_go 15 = .ok (.getfield 50, 3) := by decide +kernel
theorem d_Wa_go_18 : decode b_Wa_go 18 = .ok (.aload_n 1, 1) := by decide +kernel
theorem d_Wa_go_19 : decode b_Wa_go 19 = .ok (.getfield 66, 3) := by decide +kernel
theorem d_Wa_go_22 : decode b_Wa_go 22 = .ok (.iastore, 1) := by decide +kernel
theorem d_Wa_go_23 : decode b_Wa_go 23 = .ok (.aload_n 0, 1) := by decide +kernel
theorem d_Wa_go_24 : decode b_Wa_go 24 = .ok (.getfield 15, 3) := by decide +kernel
theorem d_Wa_go_27 : decode b_Wa_go 27 = .ok (.aload_n 0, 1) := by decide +kernel
theorem d_Wa_go_28 : decode b_Wa_go 28 = .ok (.getfield 50, 3) := by decide +kernel
theorem d_Wa_go_31 : decode b_Wa_go 31 = .ok (.aload_n 1, 1) := by decide +kernel
theorem d_Wa_go_32 : decode b_Wa_go 32 = .ok (.getfield 59, 3) := by decide +kernel
theorem d_Wa_go_35 : decode b_Wa_go 35 = .ok (.iastore, 1) := by decide +kernel
theorem d_Wa_go_36 : decode b_Wa_go 36 = .ok (.aload_n 0, 1) := by decide +kernel
theorem d_Wa_go_37 : decode b_Wa_go 37 = .ok (.getfield 18, 3) := by decide +kernel
theorem d_Wa_go_40 : decode b_Wa_go 40 = .ok (.aload_n 0, 1) := by decide +kernel
theorem d_Wa_go_41 : decode b_Wa_go 41 = .ok (.getfield 50, 3) := by decide +kernel
theorem d_Wa_go_44 : decode b_Wa_go 44 = .ok (.iload_n 2, 1) := by decide +kernel
theorem d_Wa_go_45 : decode b_Wa_go 45 = .ok (.iastore, 1) := by decide +kernel
theorem d_Wa_go_46 : decode b_Wa_go 46 = .ok (.aload_n 0, 1) := by decide +kernel
theorem d_Wa_go_47 : decode b_Wa_go 47 = .ok (.dup, 1) := by decide +kernel
theorem d_Wa_go_48 : decode b_Wa_go 48 = .ok (.getfield 50, 3) := by decide +kernel
theorem d_Wa_go_51 : decode b_Wa_go 51 = .ok (.iconst 1, 1) := by decide +kernel
theorem d_Wa_go_52 : decode b_Wa_go 52 = .ok (.iadd, 1) := by decide +kernel
theorem d_Wa_go_53 : decode b_Wa_go 53 = .ok (.putfield 50, 3) := by decide +kernel
theorem d_Wa_go_56 : decode b_Wa_go 56 = .ok (.aload_n 1, 1) := by decide +kernel
theorem d_Wa_go_57 : decode b_Wa_go 57 = .ok (.getfield 59, 3) := by decide +kernel
theorem d_Wa_go_60 : decode b_Wa_go 60 = .ok (.iconst (-1), 1) := by decide +kernel
theorem d_Wa_go_61 : decode b_Wa_go 61 = .ok (.if_icmp .eq 20, 3) := by decide +kernel
theorem d_Wa_go_64 : decode b_Wa_go 64 = .ok (.aload_n 0, 1) := by decide +kernel
theorem d_Wa_go_65 : decode b_Wa_go 65 = .ok (.dup, 1) := by decide +kernel
theorem d_Wa_go_66 : decode b_Wa_go 66 = .ok (.getfield 53, 3) := by decide +kernel
theorem d_Wa_go_69 : decode b_Wa_go 69 = .ok (.iconst 1, 1) := by decide +kernel
theorem d_Wa_go_70 : decode b_Wa_go 70 = .ok (.aload_n 1, 1) := by decide +kernel
theorem d_Wa_go_71 : decode b_Wa_go 71 = .ok (.getfield 59, 3) := by decide +kernel
theorem d_Wa_go_74 : decode b_Wa_go 74 = .ok (.ishl, 1) := by decide +kernel
theorem d_Wa_go_75 : decode b_Wa_go 75 = .ok (.iconst (-1), 1) := by decide +kernel
theorem d_Wa_go_76 : decode b_Wa_go 76 = .ok (.ixor, 1) := by decide +kernel
theorem d_Wa_go_77 : decode b_Wa_go 77 = .ok (.iand, 1) := by decide +kernel
theorem d_Wa_go_78 : decode b_Wa_go 78 = .ok (.putfield 53, 3) := by decide +kernel
theorem d_Wa_go_81 : decode b_Wa_go 81 = .ok (.aload_n 0, 1) := by decide +kernel
theorem d_Wa_go_82 : decode b_Wa_go 82 = .ok (.dup, 1) := by decide +kernel
theorem d_Wa_go_83 : decode b_Wa_go 83 = .ok (.getfield 53, 3) := by decide +kernel
theorem d_Wa_go_86 : decode b_Wa_go 86 = .ok (.iconst 1, 1) := by decide +kernel
theorem d_Wa_go_87 : decode b_Wa_go 87 = .ok (.iload_n 2, 1) := by decide +kernel
theorem d_Wa_go_88 : decode b_Wa_go 88 = .ok (.ishl, 1) := by decide +kernel
theorem d_Wa_go_89 : decode b_Wa_go 89 = .ok (.ior, 1) := by decide +kernel
theorem d_Wa_go_90 : decode b_Wa_go 90 = .ok (.putfield 53, 3) := by decide +kernel
theorem d_Wa_go_93 : decode b_Wa_go 93 = .ok (.aload_n 1, 1) := by decide +kernel
theorem d_Wa_go_94 : decode b_Wa_go 94 = .ok (.iload_n 2, 1) := by decide +kernel
theorem d_Wa_go_95 : decode b_Wa_go 95 = .ok (.putfield 59, 3) := by decide +kernel
theorem d_Wa_go_98 : decode b_Wa_go 98 = .ok (.return_, 1) := by decide +kernel
