theorem d_Mo_init_0 : decode b_Mo_init 0 = .ok (.aload_n 0, 1) := by decide +kernel
theorem d_Mo_init_1 : decode b_Mo_init 1 = .ok (.invokespecial 1, 3) := by decide +kernel
theorem d_Mo_init_4 : decode b_Mo_init 4 = .ok (.aload_n 0, 1) := by decide +kernel
theorem d_Mo_init_5 : decode b_Mo_init 5 = .ok (.sipush 140, 3) := by decide +kernel
theorem d_Mo_init_8 : decode b_Mo_init 8 = .ok (.newarray .int, 2) := by decide +kernel
theorem d_Mo_init_10 : decode b_Mo_init 10 = .ok (.putfield 7, 3) := by decide +kernel
theorem d_Mo_init_13 : decode b_Mo_init 13 = .ok (.aload_n 0, 1) := by decide +kernel
theorem d_Mo_init_14 : decode b_Mo_init 14 = .ok (.sipush 140, 3) := by decide +kernel
theorem d_Mo_init_17 : decode b_Mo_init 17 = .ok (.newarray .boolean, 2) := by decide +kernel
theorem d_Mo_init_19 : decode b_Mo_init 19 = .ok (.putfield 13, 3) := by decide +kernel
theorem d_Mo_init_22 : decode b_Mo_init 22 = .ok (.aload_n 0, 1) := by decide +kernel
theorem d_Mo_init_23 : decode b_Mo_init 23 = .ok (.bipush 10, 2) := by decide +kernel
theorem d_Mo_init_25 : decode b_Mo_init 25 = .ok (.newarray .int, 2) := by decide +kernel
theorem d_Mo_init_27 : decode b_Mo_init 27 = .ok (.putfield 17, 3) := by decide +kernel
theorem d_Mo_init_30 : decode b_Mo_init 30 = .ok (.aload_n 0, 1) := by decide +kernel
theorem d_Mo_init_31 : decode b_Mo_init 31 = .ok (.bipush 10, 2) := by decide +kernel
theorem d_Mo_init_33 : decode b_Mo_init 33 = .ok (.newarray .int, 2) := by decide +kernel
theorem d_Mo_init_35 : decode b_Mo_init 35 = .ok (.putfield 20, 3) := by decide +kernel
theorem d_Mo_init_38 : decode b_Mo_init 38 = .ok (.aload_n 0, 1) := by decide +kernel
theorem d_Mo_init_39 : decode b_Mo_init 39 = .ok (.sipush 16384, 3) := by decide +kernel
theorem d_Mo_init_42 : decode b_Mo_init 42 = .ok (.newarray .int, 2) := by decide +kernel
theorem d_Mo_init_44 : decode b_Mo_init 44 = .ok (.putfield 23, 3) := by decide +kernel
theorem d_Mo_init_47 : decode b_Mo_init 47 = .ok (.aload_n 0, 1) := by decide +kernel
theorem d_Mo_init_48 : decode b_Mo_init 48 = .ok (.bipush 10, 2) := by decide +kernel
theorem d_Mo_init_50 : decode b_Mo_init 50 = .ok (.newarray .int, 2) := by decide +kernel
theorem d_Mo_init_52 : decode b_Mo_init 52 = .ok (.putfield 26, 3) := by decide +kernel
theorem d_Mo_init_55 : decode b_Mo_init 55 = .ok (.aload_n 0, 1) := by decide +kernel
theorem d_Mo_init_56 : decode b_Mo_init 56 = .ok (.sipush 600, 3) := by decide +kernel
theorem d_Mo_init_59 : decode b_Mo_init 59 = .ok (.newarray .int, 2) := by decide +kernel
theorem d_Mo_init_61 : decode b_Mo_init 61 = .ok (.putfield 29, 3) := by decide +kernel
theorem d_Mo_init_64 : decode b_Mo_init 64 = .ok (.aload_n 0, 1) := by decide +kernel
theorem d_Mo_init_65 : decode b_Mo_init 65 = .ok (.bipush 10, 2) := by decide +kernel
theorem d_Mo_init_67 : decode b_Mo_init 67 = .ok (.newarray .int, 2) := by decide +kernel
theorem d_Mo_init_69 : decode b_Mo_init 69 = .ok (.putfield 32, 3) := by decide +kernel
theorem d_Mo_init_72 : decode b_Mo_init 72 = .ok (.aload_n 0, 1) := by decide +kernel
theorem d_Mo_init_73 : decode b_Mo_init 73 = .ok (.bipush 8, 2) := by decide +kernel
theorem d_Mo_init_75 : decode b_Mo_init 75 = .ok (.newarray .int, 2) := by decide +kernel
theorem d_Mo_init_77 : decode b_Mo_init 77 = .ok (.putfield 35, 3) := by decide +kernel
theorem d_Mo_init_80 : decode b_Mo_init 80 = .ok (.aload_n 0, 1) := by decide +kernel
theorem d_Mo_init_81 : decode b_Mo_init 81 = .ok (.sipush 300, 3) := by decide +kernel
theorem d_Mo_init_84 : decode b_Mo_init 84 = .ok (.newarray .int, 2) := by decide +kernel
theorem d_Mo_init_86 : decode b_Mo_init 86 = .ok (.putfield 38, 3) := by decide +kernel
theorem d_Mo_init_89 : decode b_Mo_init 89 = .ok (.aload_n 0, 1) := by decide +kernel
theorem d_Mo_init_90 : decode b_Mo_init 90 = .ok (.sipush 300, 3) := by decide +kernel
theorem d_Mo_init_93 : decode b_Mo_init 93 = .ok (.newarray .int, 2) := by decide +kernel
theorem d_Mo_init_95 : decode b_Mo_init 95 = .ok (.putfield 41, 3) := by decide +kernel
theorem d_Mo_init_98 : decode b_Mo_init 98 = .ok (.aload_n 0, 1) := by decide +kernel
theorem d_Mo_init_99 : decode b_Mo_init 99 = .ok (.sipush 300, 3) := by decide +kernel
theorem d_Mo_init_102 : decode b_Mo_init 102 = .ok (.newarray .int, 2) := by decide +kernel
theorem d_Mo_init_104 : decode b_Mo_init 104 = .ok (.putfield 44, 3) := by decide +kernel
theorem d_Mo_init_107 : decode b_Mo_init 107 = .ok (.aload_n 0, 1) := by decide +kernel
theorem d_Mo_init_108 : decode b_Mo_init 108 = .ok (.sipush 300, 3) := by decide +kernel
theorem d_Mo_init_111 : decode b_Mo_init 111 = .ok (.newarray .int, 2) := by decide +kernel
theorem d_Mo_init_113 : decode b_Mo_init 113 = .ok (.putfield 47, 3) := by decide +kernel
theorem d_Mo_init_116 : decode b_Mo_init 116 = .ok (.aload_n 0, 1) := by decide +kernel
theorem d_Mo_init_117 : decode b_Mo_init 117 = .ok (.sipush 300, 3) := by decide +kernel
theorem d_Mo_init_120 : decode b_Mo_init 120 = .ok (.newarray .boolean, 2) := by decide +kernel
theorem d_Mo_init_122 : decode b_Mo_init 122 = .ok (.putfield 50, 3) := by decide +kernel
theorem d_Mo_init_125 : decode b_Mo_init 125 = .ok (.aload_n 0, 1) := by decide +kernel
theorem d_Mo_init_126 : decode b_Mo_init 126 = .ok (.iconst 0, 1) := by decide +kernel
theorem d_Mo_init_127 : decode b_Mo_init 127 = .ok (.putfield 53, 3) := by decide +kernel
theorem d_Mo_init_130 : decode b_Mo_init 130 = .ok (.return_, 1) := by decide +kernel
theorem d_Mo_thrown_0 : decode b_Mo_thrown 0 = .ok (.aload_n 0, 1) := by decide +kernel
theorem d_Mo_thrown_1 : decode b_Mo_thrown 1 = .ok (.getfield 57, 3) := by decide +kernel
theorem d_Mo_thrown_4 : decode b_Mo_thrown 4 = .ok (.ireturn, 1) := by decide +kernel
theorem d_Mo_in_0 : decode b_Mo_in 0 = .ok (.iload_n 0, 1) := by decide +kernel
theorem d_Mo_in_1 : decode b_Mo_in 1 = .ok (.iload_n 1, 1) := by decide +kernel
theorem d_Mo_in_2 : decode b_Mo_in 2 = .ok (.if_icmp .lt 12, 3) := by decide +kernel
theorem d_Mo_in_5 : decode b_Mo_in 5 = .ok (.iload_n 0, 1) := by decide +kernel
theorem d_Mo_in_6 : decode b_Mo_in 6 = .ok (.iload_n 2, 1) := by decide +kernel
theorem d_Mo_in_7 : decode b_Mo_in 7 = .ok (.if_icmp .gt 7, 3) := by decide +kernel
theorem d_Mo_in_10 : decode b_Mo_in 10 = .ok (.iconst 1, 1) := by decide +kernel
theorem d_Mo_in_11 : decode b_Mo_in 11 = .ok (.goto 4, 3) := by decide +kernel
theorem d_Mo_in_14 : decode b_Mo_in 14 = .ok (.iconst 0, 1) := by decide +kernel
theorem d_Mo_in_15 : decode b_Mo_in 15 = .ok (.ireturn, 1) := by decide +kernel
theorem d_Mo_isPerson_0 : decode b_Mo_isPerson 0 = .ok (.iload_n 1, 1) := by decide +kernel
theorem d_Mo_isPerson_1 : decode b_Mo_isPerson 1 = .ok (.iconst 0, 1) := by decide +kernel
theorem d_Mo_isPerson_2 : decode b_Mo_isPerson 2 = .ok (.aload_n 0, 1) := by decide +kernel
theorem d_Mo_isPerson_3 : decode b_Mo_isPerson 3 = .ok (.getfield 60, 3) := by decide +kernel
theorem d_Mo_isPerson_6 : decode b_Mo_isPerson 6 = .ok (.iconst 1, 1) := by decide +kernel
theorem d_Mo_isPerson_7 : decode b_Mo_isPerson 7 = .ok (.isub, 1) := by decide +kernel
theorem d_Mo_isPerson_8 : decode b_Mo_isPerson 8 = .ok (.invokestatic 63, 3) := by decide +kernel
theorem d_Mo_isPerson_11 : decode b_Mo_isPerson 11 = .ok (.ireturn, 1) := by decide +kernel
theorem d_Mo_isDesk_0 : decode b_Mo_isDesk 0 = .ok (.iload_n 1, 1) := by decide +kernel
theorem d_Mo_isDesk_1 : decode b_Mo_isDesk 1 = .ok (.iconst 0, 1) := by decide +kernel
theorem d_Mo_isDesk_2 : decode b_Mo_isDesk 2 = .ok (.aload_n 0, 1) := by decide +kernel
theorem d_Mo_isDesk_3 : decode b_Mo_isDesk 3 = .ok (.getfield 53, 3) := by decide +kernel
theorem d_Mo_isDesk_6 : decode b_Mo_isDesk 6 = .ok (.iconst 1, 1) := by decide +kernel
theorem d_Mo_isDesk_7 : decode b_Mo_isDesk 7 = .ok (.isub, 1) := by decide +kernel
theorem d_Mo_isDesk_8 : decode b_Mo_isDesk 8 = .ok (.invokestatic 63, 3) := by decide +kernel
theorem d_Mo_isDesk_11 : decode b_Mo_isDesk 11 = .ok (.ireturn, 1) := by decide +kernel
theorem d_Mo_isRoom_0 : decode b_Mo_isRoom 0 = .ok (.iload_n 1, 1) := by decide +kernel
theorem d_Mo_isRoom_1 : decode b_Mo_isRoom 1 = .ok (.iconst 0, 1) := by decide +kernel
theorem d_Mo_isRoom_2 : decode b_Mo_isRoom 2 = .ok (.aload_n 0, 1) := by decide +kernel
theorem d_Mo_isRoom_3 : decode b_Mo_isRoom 3 = .ok (.getfield 67, 3) := by decide +kernel
theorem d_Mo_isRoom_6 : decode b_Mo_isRoom 6 = .ok (.iconst 1, 1) := by decide +kernel
theorem d_Mo_isRoom_7 : decode b_Mo_isRoom 7 = .ok (.isub, 1) := by decide +kernel
theorem d_Mo_isRoom_8 : decode b_Mo_isRoom 8 = .ok (.invokestatic 63, 3) := by decide +kernel
theorem d_Mo_isRoom_11 : decode b_Mo_isRoom 11 = .ok (.ireturn, 1) := by decide +kernel
theorem d_Mo_desk_0 : decode b_Mo_desk 0 = .ok (.aload_n 0, 1) := by decide +kernel
theorem d_Mo_desk_1 : decode b_Mo_desk 1 = .ok (.aload_n 0, 1) := by decide +kernel
theorem d_Mo_desk_2 : decode b_Mo_desk 2 = .ok (.getfield 53, 3) := by decide +kernel
theorem d_Mo_desk_5 : decode b_Mo_desk 5 = .ok (.bipush 14, 2) := by decide +kernel
theorem d_Mo_desk_7 : decode b_Mo_desk 7 = .ok (.if_icmp .ne 7, 3) := by decide +kernel
theorem d_Mo_desk_10 : decode b_Mo_desk 10 = .ok (.iconst 1, 1) := by decide +kernel
theorem d_Mo_desk_11 : decode b_Mo_desk 11 = .ok (.goto 4, 3) := by decide +kernel
theorem d_Mo_desk_14 : decode b_Mo_desk 14 = .ok (.iconst 0, 1) := by decide +kernel
theorem d_Mo_desk_15 : decode b_Mo_desk 15 = .ok (.putfield 57, 3) := by decide +kernel
theorem d_Mo_desk_18 : decode b_Mo_desk 18 = .ok (.aload_n 0, 1) := by decide +kernel
theorem d_Mo_desk_19 : decode b_Mo_desk 19 = .ok (.getfield 57, 3) := by decide +kernel
theorem d_Mo_desk_22 : decode b_Mo_desk 22 = .ok (.ifCond .le 5, 3) := by decide +kernel
theorem d_Mo_desk_25 : decode b_Mo_desk 25 = .ok (.iconst 0, 1) := by decide +kernel
theorem d_Mo_desk_26 : decode b_Mo_desk 26 = .ok (.ireturn, 1) := by decide +kernel
theorem d_Mo_desk_27 : decode b_Mo_desk 27 = .ok (.aload_n 0, 1) := by decide +kernel
theorem d_Mo_desk_28 : decode b_Mo_desk 28 = .ok (.iconst 0, 1) := by decide +kernel
theorem d_Mo_desk_29 : decode b_Mo_desk 29 = .ok (.putfield 70, 3) := by decide +kernel
theorem d_Mo_desk_32 : decode b_Mo_desk 32 = .ok (.aload_n 0, 1) := by decide +kernel
theorem d_Mo_desk_33 : decode b_Mo_desk 33 = .ok (.dup, 1) := by decide +kernel
theorem d_Mo_desk_34 : decode b_Mo_desk 34 = .ok (.getfield 53, 3) := by decide +kernel
theorem d_Mo_desk_37 : decode b_Mo_desk 37 = .ok (.iconst 1, 1) := by decide +kernel
theorem d_Mo_desk_38 : decode b_Mo_desk 38 = .ok (.iadd, 1) := by decide +kernel
theorem d_Mo_desk_39 : decode b_Mo_desk 39 = .ok (.putfield 53, 3) := by decide +kernel
theorem d_Mo_desk_42 : decode b_Mo_desk 42 = .ok (.aload_n 0, 1) := by decide +kernel
theorem d_Mo_desk_43 : decode b_Mo_desk 43 = .ok (.getfield 53, 3) := by decide +kernel
theorem d_Mo_desk_46 : decode b_Mo_desk 46 = .ok (.iconst 1, 1) := by decide +kernel
theorem d_Mo_desk_47 : decode b_Mo_desk 47 = .ok (.isub, 1) := by decide +kernel
theorem d_Mo_desk_48 : decode b_Mo_desk 48 = .ok (.ireturn, 1) := by decide +kernel
theorem d_Mo_person_0 : decode b_Mo_person 0 = .ok (.aload_n 0, 1) := by decide +kernel
theorem d_Mo_person_1 : decode b_Mo_person 1 = .ok (.aload_n 0, 1) := by decide +kernel
theorem d_Mo_person_2 : decode b_Mo_person 2 = .ok (.getfield 60, 3) := by decide +kernel
theorem d_Mo_person_5 : decode b_Mo_person 5 = .ok (.bipush 10, 2) := by decide +kernel
theorem d_Mo_person_7 : decode b_Mo_person 7 = .ok (.if_icmp .ne 7, 3) := by decide +kernel
theorem d_Mo_person_10 : decode b_Mo_person 10 = .ok (.iconst 1, 1) := by decide +kernel
theorem d_Mo_person_11 : decode b_Mo_person 11 = .ok (.goto 4, 3) := by decide +kernel
theorem d_Mo_person_14 : decode b_Mo_person 14 = .ok (.iconst 0, 1) := by decide +kernel
theorem d_Mo_person_15 : decode b_Mo_person 15 = .ok (.putfield 57, 3) := by decide +kernel
theorem d_Mo_person_18 : decode b_Mo_person 18 = .ok (.aload_n 0, 1) := by decide +kernel
theorem d_Mo_person_19 : decode b_Mo_person 19 = .ok (.getfield 57, 3) := by decide +kernel
theorem d_Mo_person_22 : decode b_Mo_person 22 = .ok (.ifCond .le 5, 3) := by decide +kernel
theorem d_Mo_person_25 : decode b_Mo_person 25 = .ok (.iconst 0, 1) := by decide +kernel
theorem d_Mo_person_26 : decode b_Mo_person 26 = .ok (.ireturn, 1) := by decide +kernel
theorem d_Mo_person_27 : decode b_Mo_person 27 = .ok (.aload_n 0, 1) := by decide +kernel
theorem d_Mo_person_28 : decode b_Mo_person 28 = .ok (.iconst 0, 1) := by decide +kernel
theorem d_Mo_person_29 : decode b_Mo_person 29 = .ok (.putfield 70, 3) := by decide +kernel
theorem d_Mo_person_32 : decode b_Mo_person 32 = .ok (.aload_n 0, 1) := by decide +kernel
theorem d_Mo_person_33 : decode b_Mo_person 33 = .ok (.getfield 17, 3) := by decide +kernel
theorem d_Mo_person_36 : decode b_Mo_person 36 = .ok (.aload_n 0, 1) := by decide +kernel
theorem d_Mo_person_37 : decode b_Mo_person 37 = .ok (.getfield 60, 3) := by decide +kernel
theorem d_Mo_person_40 : decode b_Mo_person 40 = .ok (.iconst (-1), 1) := by decide +kernel
theorem d_Mo_person_41 : decode b_Mo_person 41 = .ok (.iastore, 1) := by decide +kernel
theorem d_Mo_person_42 : decode b_Mo_person 42 = .ok (.aload_n 0, 1) := by decide +kernel
theorem d_Mo_person_43 : decode b_Mo_person 43 = .ok (.dup, 1) := by decide +kernel
theorem d_Mo_person_44 : decode b_Mo_person 44 = .ok (.getfield 60, 3) := by decide +kernel
theorem d_Mo_person_47 : decode b_Mo_person 47 = .ok (.iconst 1, 1) := by decide +kernel
theorem d_Mo_person_48 : decode b_Mo_person 48 = .ok (.iadd, 1) := by decide +kernel
theorem d_Mo_person_49 : decode b_Mo_person 49 = .ok (.putfield 60, 3) := by decide +kernel
theorem d_Mo_person_52 : decode b_Mo_person 52 = .ok (.aload_n 0, 1) := by decide +kernel
theorem d_Mo_person_53 : decode b_Mo_person 53 = .ok (.getfield 60, 3) := by decide +kernel
theorem d_Mo_person_56 : decode b_Mo_person 56 = .ok (.iconst 1, 1) := by decide +kernel
theorem d_Mo_person_57 : decode b_Mo_person 57 = .ok (.isub, 1) := by decide +kernel
theorem d_Mo_person_58 : decode b_Mo_person 58 = .ok (.ireturn, 1) := by decide +kernel
theorem d_Mo_wish_0 : decode b_Mo_wish 0 = .ok (.aload_n 0, 1) := by decide +kernel
theorem d_Mo_wish_1 : decode b_Mo_wish 1 = .ok (.aload_n 0, 1) := by decide +kernel
theorem d_Mo_wish_2 : decode b_Mo_wish 2 = .ok (.iload_n 1, 1) := by decide +kernel
theorem d_Mo_wish_3 : decode b_Mo_wish 3 = .ok (.invokevirtual 74, 3) := by decide +kernel
theorem d_Mo_wish_6 : decode b_Mo_wish 6 = .ok (.ifCond .eq 26, 3) := by decide +kernel
theorem d_Mo_wish_9 : decode b_Mo_wish 9 = .ok (.aload_n 0, 1) := by decide +kernel
theorem d_Mo_wish_10 : decode b_Mo_wish 10 = .ok (.iload_n 2, 1) := by decide +kernel
theorem d_Mo_wish_11 : decode b_Mo_wish 11 = .ok (.invokevirtual 78, 3) := by decide +kernel
theorem d_Mo_wish_14 : decode b_Mo_wish 14 = .ok (.ifCond .eq 18, 3) := by decide +kernel
theorem d_Mo_wish_17 : decode b_Mo_wish 17 = .ok (.iload_n 3, 1) := by decide +kernel
theorem d_Mo_wish_18 : decode b_Mo_wish 18 = .ok (.iconst 0, 1) := by decide +kernel
theorem d_Mo_wish_19 : decode b_Mo_wish 19 = .ok (.sipush 1000, 3) := by decide +kernel
theorem d_Mo_wish_22 : decode b_Mo_wish 22 = .ok (.invokestatic 63, 3) := by decide +kernel
theorem d_Mo_wish_25 : decode b_Mo_wish 25 = .ok (.ifCond .eq 7, 3) := by decide +kernel
theorem d_Mo_wish_28 : decode b_Mo_wish 28 = .ok (.iconst 0, 1) := by decide +kernel
theorem d_Mo_wish_29 : decode b_Mo_wish 29 = .ok (.goto 4, 3) := by decide +kernel
theorem d_Mo_wish_32 : decode b_Mo_wish 32 = .ok (.iconst 1, 1) := by decide +kernel
theorem d_Mo_wish_33 : decode b_Mo_wish 33 = .ok (.putfield 57, 3) := by decide +kernel
theorem d_Mo_wish_36 : decode b_Mo_wish 36 = .ok (.aload_n 0, 1) := by decide +kernel
theorem d_Mo_wish_37 : decode b_Mo_wish 37 = .ok (.getfield 57, 3) := by decide +kernel
theorem d_Mo_wish_40 : decode b_Mo_wish 40 = .ok (.ifCond .le 5, 3) := by decide +kernel
theorem d_Mo_wish_43 : decode b_Mo_wish 43 = .ok (.iconst 0, 1) := by decide +kernel
theorem d_Mo_wish_44 : decode b_Mo_wish 44 = .ok (.ireturn, 1) := by decide +kernel
theorem d_Mo_wish_45 : decode b_Mo_wish 45 = .ok (.aload_n 0, 1) := by decide +kernel
theorem d_Mo_wish_46 : decode b_Mo_wish 46 = .ok (.iconst 0, 1) := by decide +kernel
theorem d_Mo_wish_47 : decode b_Mo_wish 47 = .ok (.putfield 70, 3) := by decide +kernel
theorem d_Mo_wish_50 : decode b_Mo_wish 50 = .ok (.aload_n 0, 1) := by decide +kernel
theorem d_Mo_wish_51 : decode b_Mo_wish 51 = .ok (.getfield 7, 3) := by decide +kernel
theorem d_Mo_wish_54 : decode b_Mo_wish 54 = .ok (.bipush 14, 2) := by decide +kernel
theorem d_Mo_wish_56 : decode b_Mo_wish 56 = .ok (.iload_n 1, 1) := by decide +kernel
theorem d_Mo_wish_57 : decode b_Mo_wish 57 = .ok (.imul, 1) := by decide +kernel
theorem d_Mo_wish_58 : decode b_Mo_wish 58 = .ok (.iload_n 2, 1) := by decide +kernel
theorem d_Mo_wish_59 : decode b_Mo_wish 59 = .ok (.iadd, 1) := by decide +kernel
theorem d_Mo_wish_60 : decode b_Mo_wish 60 = .ok (.iaload, 1) := by decide +kernel
theorem d_Mo_wish_61 : decode b_Mo_wish 61 = .ok (.istore 4, 2) := by decide +kernel
theorem d_Mo_wish_63 : decode b_Mo_wish 63 = .ok (.aload_n 0, 1) := by decide +kernel
theorem d_Mo_wish_64 : decode b_Mo_wish 64 = .ok (.getfield 7, 3) := by decide +kernel
theorem d_Mo_wish_67 : decode b_Mo_wish 67 = .ok (.bipush 14, 2) := by decide +kernel
theorem d_Mo_wish_69 : decode b_Mo_wish 69 = .ok (.iload_n 1, 1) := by decide +kernel
theorem d_Mo_wish_70 : decode b_Mo_wish 70 = .ok (.imul, 1) := by decide +kernel
theorem d_Mo_wish_71 : decode b_Mo_wish 71 = .ok (.iload_n 2, 1) := by decide +kernel
theorem d_Mo_wish_72 : decode b_Mo_wish 72 = .ok (.iadd, 1) := by decide +kernel
theorem d_Mo_wish_73 : decode b_Mo_wish 73 = .ok (.iload_n 3, 1) := by decide +kernel
theorem d_Mo_wish_74 : decode b_Mo_wish 74 = .ok (.iastore, 1) := by decide +kernel
theorem d_Mo_wish_75 : decode b_Mo_wish 75 = .ok (.iload 4, 2) := by decide +kernel
theorem d_Mo_wish_77 : decode b_Mo_wish 77 = .ok (.ireturn, 1) := by decide +kernel
theorem d_Mo_bar_0 : decode b_Mo_bar 0 = .ok (.aload_n 0, 1) := by decide +kernel
theorem d_Mo_bar_1 : decode b_Mo_bar 1 = .ok (.aload_n 0, 1) := by decide +kernel
theorem d_Mo_bar_2 : decode b_Mo_bar 2 = .ok (.iload_n 1, 1) := by decide +kernel
theorem d_Mo_bar_3 : decode b_Mo_bar 3 = .ok (.invokevirtual 74, 3) := by decide +kernel
theorem d_Mo_bar_6 : decode b_Mo_bar 6 = .ok (.ifCond .eq 15, 3) := by decide +kernel
theorem d_Mo_bar_9 : decode b_Mo_bar 9 = .ok (.aload_n 0, 1) := by decide +kernel
theorem d_Mo_bar_10 : decode b_Mo_bar 10 = .ok (.iload_n 2, 1) := by decide +kernel
theorem d_Mo_bar_11 : decode b_Mo_bar 11 = .ok (.invokevirtual 78, 3) := by decide +kernel
theorem d_Mo_bar_14 : decode b_Mo_bar 14 = .ok (.ifCond .eq 7, 3) := by decide +kernel
theorem d_Mo_bar_17 : decode b_Mo_bar 17 = .ok (.iconst 0, 1) := by decide +kernel
theorem d_Mo_bar_18 : decode b_Mo_bar 18 = .ok (.goto 4, 3) := by decide +kernel
theorem d_Mo_bar_21 : decode b_Mo_bar 21 = .ok (.iconst 1, 1) := by decide +kernel
theorem d_Mo_bar_22 : decode b_Mo_bar 22 = .ok (.putfield 57, 3) := by decide +kernel
theorem d_Mo_bar_25 : decode b_Mo_bar 25 = .ok (.aload_n 0, 1) := by decide +kernel
theorem d_Mo_bar_26 : decode b_Mo_bar 26 = .ok (.getfield 57, 3) := by decide +kernel
theorem d_Mo_bar_29 : decode b_Mo_bar 29 = .ok (.ifCond .le 5, 3) := by decide +kernel
theorem d_Mo_bar_32 : decode b_Mo_bar 32 = .ok (.iconst 0, 1) := by decide +kernel
theorem d_Mo_bar_33 : decode b_Mo_bar 33 = .ok (.ireturn, 1) := by decide +kernel
theorem d_Mo_bar_34 : decode b_Mo_bar 34 = .ok (.aload_n 0, 1) := by decide +kernel
theorem d_Mo_bar_35 : decode b_Mo_bar 35 = .ok (.iconst 0, 1) := by decide +kernel
theorem d_Mo_bar_36 : decode b_Mo_bar 36 = .ok (.putfield 70, 3) := by decide +kernel
theorem d_Mo_bar_39 : decode b_Mo_bar 39 = .ok (.aload_n 0, 1) := by decide +kernel
theorem d_Mo_bar_40 : decode b_Mo_bar 40 = .ok (.getfield 13, 3) := by decide +kernel
theorem d_Mo_bar_43 : decode b_Mo_bar 43 = .ok (.bipush 14, 2) := by decide +kernel
theorem d_Mo_bar_45 : decode b_Mo_bar 45 = .ok (.iload_n 1, 1) := by decide +kernel
theorem d_Mo_bar_46 : decode b_Mo_bar 46 = .ok (.imul, 1) := by decide +kernel
theorem d_Mo_bar_47 : decode b_Mo_bar 47 = .ok (.iload_n 2, 1) := by decide +kernel
theorem d_Mo_bar_48 : decode b_Mo_bar 48 = .ok (.iadd, 1) := by decide +kernel
theorem d_Mo_bar_49 : decode b_Mo_bar 49 = .ok (.baload, 1) := by decide +kernel
theorem d_Mo_bar_50 : decode b_Mo_bar 50 = .ok (.istore 4, 2) := by decide +kernel
theorem d_Mo_bar_52 : decode b_Mo_bar 52 = .ok (.aload_n 0, 1) := by decide +kernel
theorem d_Mo_bar_53 : decode b_Mo_bar 53 = .ok (.getfield 13, 3) := by decide +kernel
theorem d_Mo_bar_56 : decode b_Mo_bar 56 = .ok (.bipush 14, 2) := by decide +kernel
theorem d_Mo_bar_58 : decode b_Mo_bar 58 = .ok (.iload_n 1, 1) := by decide +kernel
theorem d_Mo_bar_59 : decode b_Mo_bar 59 = .ok (.imul, 1) := by decide +kernel
theorem d_Mo_bar_60 : decode b_Mo_bar 60 = .ok (.iload_n 2, 1) := by decide +kernel
theorem d_Mo_bar_61 : decode b_Mo_bar 61 = .ok (.iadd, 1) := by decide +kernel
theorem d_Mo_bar_62 : decode b_Mo_bar 62 = .ok (.iload_n 3, 1) := by decide +kernel
theorem d_Mo_bar_63 : decode b_Mo_bar 63 = .ok (.bastore, 1) := by decide +kernel
theorem d_Mo_bar_64 : decode b_Mo_bar 64 = .ok (.iload 4, 2) := by decide +kernel
theorem d_Mo_bar_66 : decode b_Mo_bar 66 = .ok (.ireturn, 1) := by decide +kernel
theorem d_Mo_sits_0 : decode b_Mo_sits 0 = .ok (.aload_n 0, 1) := by decide +kernel
theorem d_Mo_sits_1 : decode b_Mo_sits 1 = .ok (.aload_n 0, 1) := by decide +kernel
theorem d_Mo_sits_2 : decode b_Mo_sits 2 = .ok (.iload_n 1, 1) := by decide +kernel
theorem d_Mo_sits_3 : decode b_Mo_sits 3 = .ok (.invokevirtual 74, 3) := by decide +kernel
theorem d_Mo_sits_6 : decode b_Mo_sits 6 = .ok (.ifCond .eq 20, 3) := by decide +kernel
theorem d_Mo_sits_9 : decode b_Mo_sits 9 = .ok (.iload_n 2, 1) := by decide +kernel
theorem d_Mo_sits_10 : decode b_Mo_sits 10 = .ok (.iconst (-1), 1) := by decide +kernel
theorem d_Mo_sits_11 : decode b_Mo_sits 11 = .ok (.if_icmp .eq 11, 3) := by decide +kernel
theorem d_Mo_sits_14 : decode b_Mo_sits 14 = .ok (.aload_n 0, 1) := by decide +kernel
theorem d_Mo_sits_15 : decode b_Mo_sits 15 = .ok (.iload_n 2, 1) := by decide +kernel
theorem d_Mo_sits_16 : decode b_Mo_sits 16 = .ok (.invokevirtual 78, 3) := by decide +kernel
theorem d_Mo_sits_19 : decode b_Mo_sits 19 = .ok (.ifCond .eq 7, 3) := by decide +kernel
theorem d_Mo_sits_22 : decode b_Mo_sits 22 = .ok (.iconst 0, 1) := by decide +kernel
theorem d_Mo_sits_23 : decode b_Mo_sits 23 = .ok (.goto 4, 3) := by decide +kernel
theorem d_Mo_sits_26 : decode b_Mo_sits 26 = .ok (.iconst 1, 1) := by decide +kernel
theorem d_Mo_sits_27 : decode b_Mo_sits 27 = .ok (.putfield 57, 3) := by decide +kernel
theorem d_Mo_sits_30 : decode b_Mo_sits 30 = .ok (.iconst 0, 1) := by decide +kernel
theorem d_Mo_sits_31 : decode b_Mo_sits 31 = .ok (.istore_n 3, 1) := by decide +kernel
theorem d_Mo_sits_32 : decode b_Mo_sits 32 = .ok (.iload_n 3, 1) := by decide +kernel
theorem d_Mo_sits_33 : decode b_Mo_sits 33 = .ok (.aload_n 0, 1) := by decide +kernel
theorem d_Mo_sits_34 : decode b_Mo_sits 34 = .ok (.getfield 60, 3) := by decide +kernel
theorem d_Mo_sits_37 : decode b_Mo_sits 37 = .ok (.if_icmp .ge 45, 3) := by decide +kernel
theorem d_Mo_sits_40 : decode b_Mo_sits 40 = .ok (.aload_n 0, 1) := by decide +kernel
theorem d_Mo_sits_41 : decode b_Mo_sits 41 = .ok (.getfield 57, 3) := by decide +kernel
theorem d_Mo_sits_44 : decode b_Mo_sits 44 = .ok (.ifCond .ne 38, 3) := by decide +kernel
theorem d_Mo_sits_47 : decode b_Mo_sits 47 = .ok (.aload_n 0, 1) := by decide +kernel
theorem d_Mo_sits_48 : decode b_Mo_sits 48 = .ok (.iload_n 3, 1) := by decide +kernel
theorem d_Mo_sits_49 : decode b_Mo_sits 49 = .ok (.iload_n 1, 1) := by decide +kernel
theorem d_Mo_sits_50 : decode b_Mo_sits 50 = .ok (.if_icmp .eq 22, 3) := by decide +kernel
theorem d_Mo_sits_53 : decode b_Mo_sits 53 = .ok (.iload_n 2, 1) := by decide +kernel
theorem d_Mo_sits_54 : decode b_Mo_sits 54 = .ok (.iconst (-1), 1) := by decide +kernel
theorem d_Mo_sits_55 : decode b_Mo_sits 55 = .ok (.if_icmp .eq 17, 3) := by decide +kernel
theorem d_Mo_sits_58 : decode b_Mo_sits 58 = .ok (.aload_n 0, 1) := by decide +kernel
theorem d_Mo_sits_59 : decode b_Mo_sits 59 = .ok (.getfield 17, 3) := by decide +kernel
theorem d_Mo_sits_62 : decode b_Mo_sits 62 = .ok (.iload_n 3, 1) := by decide +kernel
theorem d_Mo_sits_63 : decode b_Mo_sits 63 = .ok (.iaload, 1) := by decide +kernel
theorem d_Mo_sits_64 : decode b_Mo_sits 64 = .ok (.iload_n 2, 1) := by decide +kernel
theorem d_Mo_sits_65 : decode b_Mo_sits 65 = .ok (.if_icmp .ne 7, 3) := by decide +kernel
theorem d_Mo_sits_68 : decode b_Mo_sits 68 = .ok (.iconst 2, 1) := by decide +kernel
theorem d_Mo_sits_69 : decode b_Mo_sits 69 = .ok (.goto 4, 3) := by decide +kernel
theorem d_Mo_sits_72 : decode b_Mo_sits 72 = .ok (.iconst 0, 1) := by decide +kernel
theorem d_Mo_sits_73 : decode b_Mo_sits 73 = .ok (.putfield 57, 3) := by decide +kernel
theorem d_Mo_sits_76 : decode b_Mo_sits 76 = .ok (.iinc 3 1, 3) := by decide +kernel
theorem d_Mo_sits_79 : decode b_Mo_sits 79 = .ok (.goto (-47), 3) := by decide +kernel
theorem d_Mo_sits_82 : decode b_Mo_sits 82 = .ok (.aload_n 0, 1) := by decide +kernel
theorem d_Mo_sits_83 : decode b_Mo_sits 83 = .ok (.getfield 57, 3) := by decide +kernel
theorem d_Mo_sits_86 : decode b_Mo_sits 86 = .ok (.ifCond .le 5, 3) := by decide +kernel
theorem d_Mo_sits_89 : decode b_Mo_sits 89 = .ok (.iconst 0, 1) := by decide +kernel
theorem d_Mo_sits_90 : decode b_Mo_sits 90 = .ok (.ireturn, 1) := by decide +kernel
theorem d_Mo_sits_91 : decode b_Mo_sits 91 = .ok (.aload_n 0, 1) := by decide +kernel
theorem d_Mo_sits_92 : decode b_Mo_sits 92 = .ok (.iconst 0, 1) := by decide +kernel
theorem d_Mo_sits_93 : decode b_Mo_sits 93 = .ok (.putfield 70, 3) := by decide +kernel
theorem d_Mo_sits_96 : decode b_Mo_sits 96 = .ok (.aload_n 0, 1) := by decide +kernel
theorem d_Mo_sits_97 : decode b_Mo_sits 97 = .ok (.getfield 17, 3) := by decide +kernel
theorem d_Mo_sits_100 : decode b_Mo_sits 100 = .ok (.iload_n 1, 1) := by decide +kernel
theorem d_Mo_sits_101 : decode b_Mo_sits 101 = .ok (.iaload, 1) := by decide +kernel
theorem d_Mo_sits_102 : decode b_Mo_sits 102 = .ok (.istore_n 3, 1) := by decide +kernel
theorem d_Mo_sits_103 : decode b_Mo_sits 103 = .ok (.aload_n 0, 1) := by decide +kernel
theorem d_Mo_sits_104 : decode b_Mo_sits 104 = .ok (.getfield 17, 3) := by decide +kernel
theorem d_Mo_sits_107 : decode b_Mo_sits 107 = .ok (.iload_n 1, 1) := by decide +kernel
theorem d_Mo_sits_108 : decode b_Mo_sits 108 = .ok (.iload_n 2, 1) := by decide +kernel
theorem d_Mo_sits_109 : decode b_Mo_sits 109 = .ok (.iastore, 1) := by decide +kernel
theorem d_Mo_sits_110 : decode b_Mo_sits 110 = .ok (.iload_n 3, 1) := by decide +kernel
theorem d_Mo_sits_111 : decode b_Mo_sits 111 = .ok (.ireturn, 1) := by decide +kernel
theorem d_Mo_bits_0 : decode b_Mo_bits 0 = .ok (.iconst 0, 1) := by decide +kernel
theorem d_Mo_bits_1 : decode b_Mo_bits 1 = .ok (.istore_n 1, 1) := by decide +kernel
theorem d_Mo_bits_2 : decode b_Mo_bits 2 = .ok (.iload_n 0, 1) := by decide +kernel
theorem d_Mo_bits_3 : decode b_Mo_bits 3 = .ok (.istore_n 2, 1) := by decide +kernel
theorem d_Mo_bits_4 : decode b_Mo_bits 4 = .ok (.iload_n 2, 1) := by decide +kernel
theorem d_Mo_bits_5 : decode b_Mo_bits 5 = .ok (.ifCond .le 16, 3) := by decide +kernel
theorem d_Mo_bits_8 : decode b_Mo_bits 8 = .ok (.iload_n 1, 1) := by decide +kernel
theorem d_Mo_bits_9 : decode b_Mo_bits 9 = .ok (.iload_n 2, 1) := by decide +kernel
theorem d_Mo_bits_10 : decode b_Mo_bits 10 = .ok (.iconst 2, 1) := by decide +kernel
theorem d_Mo_bits_11 : decode b_Mo_bits 11 = .ok (.irem, 1) := by decide +kernel
theorem d_Mo_bits_12 : decode b_Mo_bits 12 = .ok (.iadd, 1) := by decide +kernel
theorem d_Mo_bits_13 : decode b_Mo_bits 13 = .ok (.istore_n 1, 1) := by decide +kernel
theorem d_Mo_bits_14 : decode b_Mo_bits 14 = .ok (.iload_n 2, 1) := by decide +kernel
theorem d_Mo_bits_15 : decode b_Mo_bits 15 = .ok (.iconst 2, 1) := by decide +kernel
theorem d_Mo_bits_16 : decode b_Mo_bits 16 = .ok (.idiv, 1) := by decide +kernel
theorem d_Mo_bits_17 : decode b_Mo_bits 17 = .ok (.istore_n 2, 1) := by decide +kernel
theorem d_Mo_bits_18 : decode b_Mo_bits 18 = .ok (.goto (-14), 3) := by decide +kernel
theorem d_Mo_bits_21 : decode b_Mo_bits 21 = .ok (.iload_n 1, 1) := by decide +kernel
theorem d_Mo_bits_22 : decode b_Mo_bits 22 = .ok (.ireturn, 1) := by decide +kernel
theorem d_Mo_isMove_0 : decode b_Mo_isMove 0 = .ok (.aload_n 0, 1) := by decide +kernel
theorem d_Mo_isMove_1 : decode b_Mo_isMove 1 = .ok (.getfield 17, 3) := by decide +kernel
theorem d_Mo_isMove_4 : decode b_Mo_isMove 4 = .ok (.iload_n 1, 1) := by decide +kernel
theorem d_Mo_isMove_5 : decode b_Mo_isMove 5 = .ok (.iaload, 1) := by decide +kernel
theorem d_Mo_isMove_6 : decode b_Mo_isMove 6 = .ok (.iconst (-1), 1) := by decide +kernel
theorem d_Mo_isMove_7 : decode b_Mo_isMove 7 = .ok (.if_icmp .eq 17, 3) := by decide +kernel
theorem d_Mo_isMove_10 : decode b_Mo_isMove 10 = .ok (.aload_n 0, 1) := by decide +kernel
theorem d_Mo_isMove_11 : decode b_Mo_isMove 11 = .ok (.getfield 17, 3) := by decide +kernel
theorem d_Mo_isMove_14 : decode b_Mo_isMove 14 = .ok (.iload_n 1, 1) := by decide +kernel
theorem d_Mo_isMove_15 : decode b_Mo_isMove 15 = .ok (.iaload, 1) := by decide +kernel
theorem d_Mo_isMove_16 : decode b_Mo_isMove 16 = .ok (.iload_n 2, 1) := by decide +kernel
theorem d_Mo_isMove_17 : decode b_Mo_isMove 17 = .ok (.if_icmp .eq 7, 3) := by decide +kernel
theorem d_Mo_isMove_20 : decode b_Mo_isMove 20 = .ok (.iconst 1, 1) := by decide +kernel
theorem d_Mo_isMove_21 : decode b_Mo_isMove 21 = .ok (.goto 4, 3) := by decide +kernel
theorem d_Mo_isMove_24 : decode b_Mo_isMove 24 = .ok (.iconst 0, 1) := by decide +kernel
theorem d_Mo_isMove_25 : decode b_Mo_isMove 25 = .ok (.ireturn, 1) := by decide +kernel
theorem d_Mo_value_0 : decode b_Mo_value 0 = .ok (.bipush 16, 2) := by decide +kernel
theorem d_Mo_value_2 : decode b_Mo_value 2 = .ok (.aload_n 0, 1) := by decide +kernel
theorem d_Mo_value_3 : decode b_Mo_value 3 = .ok (.getfield 7, 3) := by decide +kernel
theorem d_Mo_value_6 : decode b_Mo_value 6 = .ok (.bipush 14, 2) := by decide +kernel
theorem d_Mo_value_8 : decode b_Mo_value 8 = .ok (.iload_n 1, 1) := by decide +kernel
theorem d_Mo_value_9 : decode b_Mo_value 9 = .ok (.imul, 1) := by decide +kernel
theorem d_Mo_value_10 : decode b_Mo_value 10 = .ok (.iload_n 2, 1) := by decide +kernel
theorem d_Mo_value_11 : decode b_Mo_value 11 = .ok (.iadd, 1) := by decide +kernel
theorem d_Mo_value_12 : decode b_Mo_value 12 = .ok (.iaload, 1) := by decide +kernel
theorem d_Mo_value_13 : decode b_Mo_value 13 = .ok (.imul, 1) := by decide +kernel
theorem d_Mo_value_14 : decode b_Mo_value 14 = .ok (.aload_n 0, 1) := by decide +kernel
theorem d_Mo_value_15 : decode b_Mo_value 15 = .ok (.iload_n 1, 1) := by decide +kernel
theorem d_Mo_value_16 : decode b_Mo_value 16 = .ok (.iload_n 2, 1) := by decide +kernel
theorem d_Mo_value_17 : decode b_Mo_value 17 = .ok (.invokevirtual 81, 3) := by decide +kernel
theorem d_Mo_value_20 : decode b_Mo_value 20 = .ok (.ifCond .eq 7, 3) := by decide +kernel
theorem d_Mo_value_23 : decode b_Mo_value 23 = .ok (.iconst 1, 1) := by decide +kernel
theorem d_Mo_value_24 : decode b_Mo_value 24 = .ok (.goto 4, 3) := by decide +kernel
theorem d_Mo_value_27 : decode b_Mo_value 27 = .ok (.iconst 0, 1) := by decide +kernel
theorem d_Mo_value_28 : decode b_Mo_value 28 = .ok (.isub, 1) := by decide +kernel
theorem d_Mo_value_29 : decode b_Mo_value 29 = .ok (.ireturn, 1) := by decide +kernel
theorem d_Mo_findBest_0 : decode b_Mo_findBest 0 = .ok (.aload_n 0, 1) := by decide +kernel
theorem d_Mo_findBest_1 : decode b_Mo_findBest 1 = .ok (.iconst 0, 1) := by decide +kernel
theorem d_Mo_findBest_2 : decode b_Mo_findBest 2 = .ok (.putfield 85, 3) := by decide +kernel
theorem d_Mo_findBest_5 : decode b_Mo_findBest 5 = .ok (.iconst 0, 1) := by decide +kernel
theorem d_Mo_findBest_6 : decode b_Mo_findBest 6 = .ok (.istore_n 2, 1) := by decide +kernel
theorem d_Mo_findBest_7 : decode b_Mo_findBest 7 = .ok (.iload_n 2, 1) := by decide +kernel
theorem d_Mo_findBest_8 : decode b_Mo_findBest 8 = .ok (.aload_n 0, 1) := by decide +kernel
theorem d_Mo_findBest_9 : decode b_Mo_findBest 9 = .ok (.getfield 60, 3) := by decide +kernel
theorem d_Mo_findBest_12 : decode b_Mo_findBest 12 = .ok (.if_icmp .ge 34, 3) := by decide +kernel
theorem d_Mo_findBest_15 : decode b_Mo_findBest 15 = .ok (.iload_n 2, 1) := by decide +kernel
theorem d_Mo_findBest_16 : decode b_Mo_findBest 16 = .ok (.iload_n 1, 1) := by decide +kernel
theorem d_Mo_findBest_17 : decode b_Mo_findBest 17 = .ok (.if_icmp .eq 23, 3) := by decide +kernel
theorem d_Mo_findBest_20 : decode b_Mo_findBest 20 = .ok (.aload_n 0, 1) := by decide +kernel
theorem d_Mo_findBest_21 : decode b_Mo_findBest 21 = .ok (.getfield 26, 3) := by decide +kernel
theorem d_Mo_findBest_24 : decode b_Mo_findBest 24 = .ok (.aload_n 0, 1) := by decide +kernel
theorem d_Mo_findBest_25 : decode b_Mo_findBest 25 = .ok (.getfield 85, 3) := by decide +kernel
theorem d_Mo_findBest_28 : decode b_Mo_findBest 28 = .ok (.iload_n 2, 1) := by decide +kernel
theorem d_Mo_findBest_29 : decode b_Mo_findBest 29 = .ok (.iastore, 1) := by decide +kernel
theorem d_Mo_findBest_30 : decode b_Mo_findBest 30 = .ok (.aload_n 0, 1) := by decide +kernel
theorem d_Mo_findBest_31 : decode b_Mo_findBest 31 = .ok (.dup, 1) := by decide +kernel
theorem d_Mo_findBest_32 : decode b_Mo_findBest 32 = .ok (.getfield 85, 3) := by decide +kernel
theorem d_Mo_findBest_35 : decode b_Mo_findBest 35 = .ok (.iconst 1, 1) := by decide +kernel
theorem d_Mo_findBest_36 : decode b_Mo_findBest 36 = .ok (.iadd, 1) := by decide +kernel
theorem d_Mo_findBest_37 : decode b_Mo_findBest 37 = .ok (.putfield 85, 3) := by decide +kernel
theorem d_Mo_findBest_40 : decode b_Mo_findBest 40 = .ok (.iinc 2 1, 3) := by decide +kernel
theorem d_Mo_findBest_43 : decode b_Mo_findBest 43 = .ok (.goto (-36), 3) := by decide +kernel
theorem d_Mo_findBest_46 : decode b_Mo_findBest 46 = .ok (.iconst 1, 1) := by decide +kernel
theorem d_Mo_findBest_47 : decode b_Mo_findBest 47 = .ok (.aload_n 0, 1) := by decide +kernel
theorem d_Mo_findBest_48 : decode b_Mo_findBest 48 = .ok (.getfield 53, 3) := by decide +kernel
theorem d_Mo_findBest_51 : decode b_Mo_findBest 51 = .ok (.ishl, 1) := by decide +kernel
theorem d_Mo_findBest_52 : decode b_Mo_findBest 52 = .ok (.iconst 1, 1) := by decide +kernel
theorem d_Mo_findBest_53 : decode b_Mo_findBest 53 = .ok (.isub, 1) := by decide +kernel
theorem d_Mo_findBest_54 : decode b_Mo_findBest 54 = .ok (.istore_n 2, 1) := by decide +kernel
theorem d_Mo_findBest_55 : decode b_Mo_findBest 55 = .ok (.iload_n 2, 1) := by decide +kernel
theorem d_Mo_findBest_56 : decode b_Mo_findBest 56 = .ok (.ifCond .lt 159, 3) := by decide +kernel
theorem d_Mo_findBest_59 : decode b_Mo_findBest 59 = .ok (.iload_n 2, 1) := by decide +kernel
theorem d_Mo_findBest_60 : decode b_Mo_findBest 60 = .ok (.invokestatic 88, 3) := by decide +kernel
theorem d_Mo_findBest_63 : decode b_Mo_findBest 63 = .ok (.istore_n 3, 1) := by decide +kernel
theorem d_Mo_findBest_64 : decode b_Mo_findBest 64 = .ok (.aload_n 0, 1) := by decide +kernel
theorem d_Mo_findBest_65 : decode b_Mo_findBest 65 = .ok (.getfield 23, 3) := by decide +kernel
theorem d_Mo_findBest_68 : decode b_Mo_findBest 68 = .ok (.iload_n 2, 1) := by decide +kernel
theorem d_Mo_findBest_69 : decode b_Mo_findBest 69 = .ok (.iload_n 3, 1) := by decide +kernel
theorem d_Mo_findBest_70 : decode b_Mo_findBest 70 = .ok (.aload_n 0, 1) := by decide +kernel
theorem d_Mo_findBest_71 : decode b_Mo_findBest 71 = .ok (.getfield 85, 3) := by decide +kernel
theorem d_Mo_findBest_74 : decode b_Mo_findBest 74 = .ok (.if_icmp .ne 7, 3) := by decide +kernel
theorem d_Mo_findBest_77 : decode b_Mo_findBest 77 = .ok (.iconst 0, 1) := by decide +kernel
theorem d_Mo_findBest_78 : decode b_Mo_findBest 78 = .ok (.goto 5, 3) := by decide +kernel
theorem d_Mo_findBest_81 : decode b_Mo_findBest 81 = .ok (.ldc 92, 2) := by decide +kernel
theorem d_Mo_findBest_83 : decode b_Mo_findBest 83 = .ok (.iastore, 1) := by decide +kernel
theorem d_Mo_findBest_84 : decode b_Mo_findBest 84 = .ok (.iconst 0, 1) := by decide +kernel
theorem d_Mo_findBest_85 : decode b_Mo_findBest 85 = .ok (.istore 4, 2) := by decide +kernel
theorem d_Mo_findBest_87 : decode b_Mo_findBest 87 = .ok (.iload 4, 2) := by decide +kernel
theorem d_Mo_findBest_89 : decode b_Mo_findBest 89 = .ok (.aload_n 0, 1) := by decide +kernel
theorem d_Mo_findBest_90 : decode b_Mo_findBest 90 = .ok (.getfield 53, 3) := by decide +kernel
theorem d_Mo_findBest_93 : decode b_Mo_findBest 93 = .ok (.if_icmp .ge 116, 3) := by decide +kernel
theorem d_Mo_findBest_96 : decode b_Mo_findBest 96 = .ok (.iload_n 3, 1) := by decide +kernel
theorem d_Mo_findBest_97 : decode b_Mo_findBest 97 = .ok (.aload_n 0, 1) := by decide +kernel
theorem d_Mo_findBest_98 : decode b_Mo_findBest 98 = .ok (.getfield 85, 3) := by decide +kernel
theorem d_Mo_findBest_101 : decode b_Mo_findBest 101 = .ok (.if_icmp .ge 108, 3) := by decide +kernel
theorem d_Mo_findBest_104 : decode b_Mo_findBest 104 = .ok (.iconst 1, 1) := by decide +kernel
theorem d_Mo_findBest_105 : decode b_Mo_findBest 105 = .ok (.iload 4, 2) := by decide +kernel
theorem d_Mo_findBest_107 : decode b_Mo_findBest 107 = .ok (.ishl, 1) := by decide +kernel
theorem d_Mo_findBest_108 : decode b_Mo_findBest 108 = .ok (.istore 5, 2) := by decide +kernel
theorem d_Mo_findBest_110 : decode b_Mo_findBest 110 = .ok (.aload_n 0, 1) := by decide +kernel
theorem d_Mo_findBest_111 : decode b_Mo_findBest 111 = .ok (.getfield 26, 3) := by decide +kernel
theorem d_Mo_findBest_114 : decode b_Mo_findBest 114 = .ok (.iload_n 3, 1) := by decide +kernel
theorem d_Mo_findBest_115 : decode b_Mo_findBest 115 = .ok (.iaload, 1) := by decide +kernel
theorem d_Mo_findBest_116 : decode b_Mo_findBest 116 = .ok (.istore 6, 2) := by decide +kernel
theorem d_Mo_findBest_118 : decode b_Mo_findBest 118 = .ok (.iload_n 2, 1) := by decide +kernel
theorem d_Mo_findBest_119 : decode b_Mo_findBest 119 = .ok (.iload 5, 2) := by decide +kernel
theorem d_Mo_findBest_121 : decode b_Mo_findBest 121 = .ok (.iand, 1) := by decide +kernel
theorem d_Mo_findBest_122 : decode b_Mo_findBest 122 = .ok (.ifCond .ne 81, 3) := by decide +kernel
theorem d_Mo_findBest_125 : decode b_Mo_findBest 125 = .ok (.aload_n 0, 1) := by decide +kernel
theorem d_Mo_findBest_126 : decode b_Mo_findBest 126 = .ok (.getfield 13, 3) := by decide +kernel
theorem d_Mo_findBest_129 : decode b_Mo_findBest 129 = .ok (.bipush 14, 2) := by decide +kernel
theorem d_Mo_findBest_131 : decode b_Mo_findBest 131 = .ok (.iload 6, 2) := by decide +kernel
theorem d_Mo_findBest_133 : decode b_Mo_findBest 133 = .ok (.imul, 1) := by decide +kernel
theorem d_Mo_findBest_134 : decode b_Mo_findBest 134 = .ok (.iload 4, 2) := by decide +kernel
theorem d_Mo_findBest_136 : decode b_Mo_findBest 136 = .ok (.iadd, 1) := by decide +kernel
theorem d_Mo_findBest_137 : decode b_Mo_findBest 137 = .ok (.baload, 1) := by decide +kernel
theorem d_Mo_findBest_138 : decode b_Mo_findBest 138 = .ok (.ifCond .ne 65, 3) := by decide +kernel
theorem d_Mo_findBest_141 : decode b_Mo_findBest 141 = .ok (.aload_n 0, 1) := by decide +kernel
theorem d_Mo_findBest_142 : decode b_Mo_findBest 142 = .ok (.getfield 23, 3) := by decide +kernel
theorem d_Mo_findBest_145 : decode b_Mo_findBest 145 = .ok (.iload_n 2, 1) := by decide +kernel
theorem d_Mo_findBest_146 : decode b_Mo_findBest 146 = .ok (.iload 5, 2) := by decide +kernel
theorem d_Mo_findBest_148 : decode b_Mo_findBest 148 = .ok (.iadd, 1) := by decide +kernel
theorem d_Mo_findBest_149 : decode b_Mo_findBest 149 = .ok (.iaload, 1) := by decide +kernel
theorem d_Mo_findBest_150 : decode b_Mo_findBest 150 = .ok (.ldc 92, 2) := by decide +kernel
theorem d_Mo_findBest_152 : decode b_Mo_findBest 152 = .ok (.if_icmp .le 51, 3) := by decide +kernel
theorem d_Mo_findBest_155 : decode b_Mo_findBest 155 = .ok (.aload_n 0, 1) := by decide +kernel
theorem d_Mo_findBest_156 : decode b_Mo_findBest 156 = .ok (.iload 6, 2) := by decide +kernel
theorem d_Mo_findBest_158 : decode b_Mo_findBest 158 = .ok (.iload 4, 2) := by decide +kernel
theorem d_Mo_findBest_160 : decode b_Mo_findBest 160 = .ok (.invokevirtual 93, 3) := by decide +kernel
theorem d_Mo_findBest_163 : decode b_Mo_findBest 163 = .ok (.aload_n 0, 1) := by decide +kernel
theorem d_Mo_findBest_164 : decode b_Mo_findBest 164 = .ok (.getfield 23, 3) := by decide +kernel
theorem d_Mo_findBest_167 : decode b_Mo_findBest 167 = .ok (.iload_n 2, 1) := by decide +kernel
theorem d_Mo_findBest_168 : decode b_Mo_findBest 168 = .ok (.iload 5, 2) := by decide +kernel
theorem d_Mo_findBest_170 : decode b_Mo_findBest 170 = .ok (.iadd, 1) := by decide +kernel
theorem d_Mo_findBest_171 : decode b_Mo_findBest 171 = .ok (.iaload, 1) := by decide +kernel
theorem d_Mo_findBest_172 : decode b_Mo_findBest 172 = .ok (.iadd, 1) := by decide +kernel
theorem d_Mo_findBest_173 : decode b_Mo_findBest 173 = .ok (.istore 7, 2) := by decide +kernel
theorem d_Mo_findBest_175 : decode b_Mo_findBest 175 = .ok (.aload_n 0, 1) := by decide +kernel
theorem d_Mo_findBest_176 : decode b_Mo_findBest 176 = .ok (.getfield 23, 3) := by decide +kernel
theorem d_Mo_findBest_179 : decode b_Mo_findBest 179 = .ok (.iload_n 2, 1) := by decide +kernel
theorem d_Mo_findBest_180 : decode b_Mo_findBest 180 = .ok (.iload 7, 2) := by decide +kernel
theorem d_Mo_findBest_182 : decode b_Mo_findBest 182 = .ok (.aload_n 0, 1) := by decide +kernel
theorem d_Mo_findBest_183 : decode b_Mo_findBest 183 = .ok (.getfield 23, 3) := by decide +kernel
theorem d_Mo_findBest_186 : decode b_Mo_findBest 186 = .ok (.iload_n 2, 1) := by decide +kernel
theorem d_Mo_findBest_187 : decode b_Mo_findBest 187 = .ok (.iaload, 1) := by decide +kernel
theorem d_Mo_findBest_188 : decode b_Mo_findBest 188 = .ok (.if_icmp .le 8, 3) := by decide +kernel
theorem d_Mo_findBest_191 : decode b_Mo_findBest 191 = .ok (.iload 7, 2) := by decide +kernel
theorem d_Mo_findBest_193 : decode b_Mo_findBest 193 = .ok (.goto 9, 3) := by decide +kernel
theorem d_Mo_findBest_196 : decode b_Mo_findBest 196 = .ok (.aload_n 0, 1) := by decide +kernel
theorem d_Mo_findBest_197 : decode b_Mo_findBest 197 = .ok (.getfield 23, 3) := by decide +kernel
theorem d_Mo_findBest_200 : decode b_Mo_findBest 200 = .ok (.iload_n 2, 1) := by decide +kernel
theorem d_Mo_findBest_201 : decode b_Mo_findBest 201 = .ok (.iaload, 1) := by decide +kernel
theorem d_Mo_findBest_202 : decode b_Mo_findBest 202 = .ok (.iastore, 1) := by decide +kernel
theorem d_Mo_findBest_203 : decode b_Mo_findBest 203 = .ok (.iinc 4 1, 3) := by decide +kernel
theorem d_Mo_findBest_206 : decode b_Mo_findBest 206 = .ok (.goto (-119), 3) := by decide +kernel
theorem d_Mo_findBest_209 : decode b_Mo_findBest 209 = .ok (.iinc 2 (-1), 3) := by decide +kernel
theorem d_Mo_findBest_212 : decode b_Mo_findBest 212 = .ok (.goto (-157), 3) := by decide +kernel
theorem d_Mo_findBest_215 : decode b_Mo_findBest 215 = .ok (.aload_n 0, 1) := by decide +kernel
theorem d_Mo_findBest_216 : decode b_Mo_findBest 216 = .ok (.getfield 23, 3) := by decide +kernel
theorem d_Mo_findBest_219 : decode b_Mo_findBest 219 = .ok (.iconst 0, 1) := by decide +kernel
theorem d_Mo_findBest_220 : decode b_Mo_findBest 220 = .ok (.iaload, 1) := by decide +kernel
theorem d_Mo_findBest_221 : decode b_Mo_findBest 221 = .ok (.ireturn, 1) := by decide +kernel
theorem d_Mo_worthIn_0 : decode b_Mo_worthIn 0 = .ok (.iload_n 0, 1) := by decide +kernel
theorem d_Mo_worthIn_1 : decode b_Mo_worthIn 1 = .ok (.bipush 15, 2) := by decide +kernel
theorem d_Mo_worthIn_3 : decode b_Mo_worthIn 3 = .ok (.iadd, 1) := by decide +kernel
theorem d_Mo_worthIn_4 : decode b_Mo_worthIn 4 = .ok (.bipush 16, 2) := by decide +kernel
theorem d_Mo_worthIn_6 : decode b_Mo_worthIn 6 = .ok (.idiv, 1) := by decide +kernel
theorem d_Mo_worthIn_7 : decode b_Mo_worthIn 7 = .ok (.ireturn, 1) := by decide +kernel
theorem d_Mo_seat_0 : decode b_Mo_seat 0 = .ok (.aload_n 0, 1) := by decide +kernel
theorem d_Mo_seat_1 : decode b_Mo_seat 1 = .ok (.iconst 0, 1) := by decide +kernel
theorem d_Mo_seat_2 : decode b_Mo_seat 2 = .ok (.putfield 57, 3) := by decide +kernel
theorem d_Mo_seat_5 : decode b_Mo_seat 5 = .ok (.aload_n 0, 1) := by decide +kernel
theorem d_Mo_seat_6 : decode b_Mo_seat 6 = .ok (.iconst (-1), 1) := by decide +kernel
theorem d_Mo_seat_7 : decode b_Mo_seat 7 = .ok (.invokevirtual 97, 3) := by decide +kernel
theorem d_Mo_seat_10 : decode b_Mo_seat 10 = .ok (.istore_n 1, 1) := by decide +kernel
theorem d_Mo_seat_11 : decode b_Mo_seat 11 = .ok (.aload_n 0, 1) := by decide +kernel
theorem d_Mo_seat_12 : decode b_Mo_seat 12 = .ok (.iload_n 1, 1) := by decide +kernel
theorem d_Mo_seat_13 : decode b_Mo_seat 13 = .ok (.ldc 92, 2) := by decide +kernel
theorem d_Mo_seat_15 : decode b_Mo_seat 15 = .ok (.if_icmp .le 7, 3) := by decide +kernel
theorem d_Mo_seat_18 : decode b_Mo_seat 18 = .ok (.iconst 1, 1) := by decide +kernel
theorem d_Mo_seat_19 : decode b_Mo_seat 19 = .ok (.goto 4, 3) := by decide +kernel
theorem d_Mo_seat_22 : decode b_Mo_seat 22 = .ok (.iconst 0, 1) := by decide +kernel
theorem d_Mo_seat_23 : decode b_Mo_seat 23 = .ok (.putfield 70, 3) := by decide +kernel
theorem d_Mo_seat_26 : decode b_Mo_seat 26 = .ok (.aload_n 0, 1) := by decide +kernel
theorem d_Mo_seat_27 : decode b_Mo_seat 27 = .ok (.getfield 70, 3) := by decide +kernel
theorem d_Mo_seat_30 : decode b_Mo_seat 30 = .ok (.ifCond .ne 5, 3) := by decide +kernel
theorem d_Mo_seat_33 : decode b_Mo_seat 33 = .ok (.iconst (-1), 1) := by decide +kernel
theorem d_Mo_seat_34 : decode b_Mo_seat 34 = .ok (.ireturn, 1) := by decide +kernel
theorem d_Mo_seat_35 : decode b_Mo_seat 35 = .ok (.aload_n 0, 1) := by decide +kernel
theorem d_Mo_seat_36 : decode b_Mo_seat 36 = .ok (.iload_n 1, 1) := by decide +kernel
theorem d_Mo_seat_37 : decode b_Mo_seat 37 = .ok (.invokestatic 100, 3) := by decide +kernel
theorem d_Mo_seat_40 : decode b_Mo_seat 40 = .ok (.putfield 103, 3) := by decide +kernel
theorem d_Mo_seat_43 : decode b_Mo_seat 43 = .ok (.iconst 0, 1) := by decide +kernel
theorem d_Mo_seat_44 : decode b_Mo_seat 44 = .ok (.istore_n 2, 1) := by decide +kernel
theorem d_Mo_seat_45 : decode b_Mo_seat 45 = .ok (.iconst 0, 1) := by decide +kernel
theorem d_Mo_seat_46 : decode b_Mo_seat 46 = .ok (.istore_n 3, 1) := by decide +kernel
theorem d_Mo_seat_47 : decode b_Mo_seat 47 = .ok (.iload_n 3, 1) := by decide +kernel
theorem d_Mo_seat_48 : decode b_Mo_seat 48 = .ok (.aload_n 0, 1) := by decide +kernel
theorem d_Mo_seat_49 : decode b_Mo_seat 49 = .ok (.getfield 60, 3) := by decide +kernel
theorem d_Mo_seat_52 : decode b_Mo_seat 52 = .ok (.if_icmp .ge 102, 3) := by decide +kernel
theorem d_Mo_seat_55 : decode b_Mo_seat 55 = .ok (.iconst 0, 1) := by decide +kernel
theorem d_Mo_seat_56 : decode b_Mo_seat 56 = .ok (.istore 4, 2) := by decide +kernel
theorem d_Mo_seat_58 : decode b_Mo_seat 58 = .ok (.iload_n 2, 1) := by decide +kernel
theorem d_Mo_seat_59 : decode b_Mo_seat 59 = .ok (.iload 4, 2) := by decide +kernel
theorem d_Mo_seat_61 : decode b_Mo_seat 61 = .ok (.ishr, 1) := by decide +kernel
theorem d_Mo_seat_62 : decode b_Mo_seat 62 = .ok (.iconst 1, 1) := by decide +kernel
theorem d_Mo_seat_63 : decode b_Mo_seat 63 = .ok (.iand, 1) := by decide +kernel
theorem d_Mo_seat_64 : decode b_Mo_seat 64 = .ok (.iconst 1, 1) := by decide +kernel
theorem d_Mo_seat_65 : decode b_Mo_seat 65 = .ok (.if_icmp .eq 62, 3) := by decide +kernel
theorem d_Mo_seat_68 : decode b_Mo_seat 68 = .ok (.aload_n 0, 1) := by decide +kernel
theorem d_Mo_seat_69 : decode b_Mo_seat 69 = .ok (.getfield 13, 3) := by decide +kernel
theorem d_Mo_seat_72 : decode b_Mo_seat 72 = .ok (.bipush 14, 2) := by decide +kernel
theorem d_Mo_seat_74 : decode b_Mo_seat 74 = .ok (.iload_n 3, 1) := by decide +kernel
theorem d_Mo_seat_75 : decode b_Mo_seat 75 = .ok (.imul, 1) := by decide +kernel
theorem d_Mo_seat_76 : decode b_Mo_seat 76 = .ok (.iload 4, 2) := by decide +kernel
theorem d_Mo_seat_78 : decode b_Mo_seat 78 = .ok (.iadd, 1) := by decide +kernel
theorem d_Mo_seat_79 : decode b_Mo_seat 79 = .ok (.baload, 1) := by decide +kernel
theorem d_Mo_seat_80 : decode b_Mo_seat 80 = .ok (.ifCond .ne 47, 3) := by decide +kernel
theorem d_Mo_seat_83 : decode b_Mo_seat 83 = .ok (.aload_n 0, 1) := by decide +kernel
theorem d_Mo_seat_84 : decode b_Mo_seat 84 = .ok (.getfield 23, 3) := by decide +kernel
theorem d_Mo_seat_87 : decode b_Mo_seat 87 = .ok (.iload_n 2, 1) := by decide +kernel
theorem d_Mo_seat_88 : decode b_Mo_seat 88 = .ok (.iconst 1, 1) := by decide +kernel
theorem d_Mo_seat_89 : decode b_Mo_seat 89 = .ok (.iload 4, 2) := by decide +kernel
theorem d_Mo_seat_91 : decode b_Mo_seat 91 = .ok (.ishl, 1) := by decide +kernel
theorem d_Mo_seat_92 : decode b_Mo_seat 92 = .ok (.iadd, 1) := by decide +kernel
theorem d_Mo_seat_93 : decode b_Mo_seat 93 = .ok (.iaload, 1) := by decide +kernel
theorem d_Mo_seat_94 : decode b_Mo_seat 94 = .ok (.ldc 92, 2) := by decide +kernel
theorem d_Mo_seat_96 : decode b_Mo_seat 96 = .ok (.if_icmp .eq 31, 3) := by decide +kernel
theorem d_Mo_seat_99 : decode b_Mo_seat 99 = .ok (.aload_n 0, 1) := by decide +kernel
theorem d_Mo_seat_100 : decode b_Mo_seat 100 = .ok (.iload_n 3, 1) := by decide +kernel
theorem d_Mo_seat_101 : decode b_Mo_seat 101 = .ok (.iload 4, 2) := by decide +kernel
theorem d_Mo_seat_103 : decode b_Mo_seat 103 = .ok (.invokevirtual 93, 3) := by decide +kernel
theorem d_Mo_seat_106 : decode b_Mo_seat 106 = .ok (.aload_n 0, 1) := by decide +kernel
theorem d_Mo_seat_107 : decode b_Mo_seat 107 = .ok (.getfield 23, 3) := by decide +kernel
theorem d_Mo_seat_110 : decode b_Mo_seat 110 = .ok (.iload_n 2, 1) := by decide +kernel
theorem d_Mo_seat_111 : decode b_Mo_seat 111 = .ok (.iconst 1, 1) := by decide +kernel
theorem d_Mo_seat_112 : decode b_Mo_seat 112 = .ok (.iload 4, 2) := by decide +kernel
theorem d_Mo_seat_114 : decode b_Mo_seat 114 = .ok (.ishl, 1) := by decide +kernel
theorem d_Mo_seat_115 : decode b_Mo_seat 115 = .ok (.iadd, 1) := by decide +kernel
theorem d_Mo_seat_116 : decode b_Mo_seat 116 = .ok (.iaload, 1) := by decide +kernel
theorem d_Mo_seat_117 : decode b_Mo_seat 117 = .ok (.iadd, 1) := by decide +kernel
theorem d_Mo_seat_118 : decode b_Mo_seat 118 = .ok (.aload_n 0, 1) := by decide +kernel
theorem d_Mo_seat_119 : decode b_Mo_seat 119 = .ok (.getfield 23, 3) := by decide +kernel
theorem d_Mo_seat_122 : decode b_Mo_seat 122 = .ok (.iload_n 2, 1) := by decide +kernel
theorem d_Mo_seat_123 : decode b_Mo_seat 123 = .ok (.iaload, 1) := by decide +kernel
theorem d_Mo_seat_124 : decode b_Mo_seat 124 = .ok (.if_icmp .eq 9, 3) := by decide +kernel
theorem d_Mo_seat_127 : decode b_Mo_seat 127 = .ok (.iinc 4 1, 3) := by decide +kernel
theorem d_Mo_seat_130 : decode b_Mo_seat 130 = .ok (.goto (-72), 3) := by decide +kernel
theorem d_Mo_seat_133 : decode b_Mo_seat 133 = .ok (.aload_n 0, 1) := by decide +kernel
theorem d_Mo_seat_134 : decode b_Mo_seat 134 = .ok (.getfield 20, 3) := by decide +kernel
theorem d_Mo_seat_137 : decode b_Mo_seat 137 = .ok (.iload_n 3, 1) := by decide +kernel
theorem d_Mo_seat_138 : decode b_Mo_seat 138 = .ok (.iload 4, 2) := by decide +kernel
theorem d_Mo_seat_140 : decode b_Mo_seat 140 = .ok (.iastore, 1) := by decide +kernel
theorem d_Mo_seat_141 : decode b_Mo_seat 141 = .ok (.iload_n 2, 1) := by decide +kernel
theorem d_Mo_seat_142 : decode b_Mo_seat 142 = .ok (.iconst 1, 1) := by decide +kernel
theorem d_Mo_seat_143 : decode b_Mo_seat 143 = .ok (.iload 4, 2) := by decide +kernel
theorem d_Mo_seat_145 : decode b_Mo_seat 145 = .ok (.ishl, 1) := by decide +kernel
theorem d_Mo_seat_146 : decode b_Mo_seat 146 = .ok (.iadd, 1) := by decide +kernel
theorem d_Mo_seat_147 : decode b_Mo_seat 147 = .ok (.istore_n 2, 1) := by decide +kernel
theorem d_Mo_seat_148 : decode b_Mo_seat 148 = .ok (.iinc 3 1, 3) := by decide +kernel
theorem d_Mo_seat_151 : decode b_Mo_seat 151 = .ok (.goto (-104), 3) := by decide +kernel
theorem d_Mo_seat_154 : decode b_Mo_seat 154 = .ok (.aload_n 0, 1) := by decide +kernel
theorem d_Mo_seat_155 : decode b_Mo_seat 155 = .ok (.invokevirtual 106, 3) := by decide +kernel
theorem d_Mo_seat_158 : decode b_Mo_seat 158 = .ok (.aload_n 0, 1) := by decide +kernel
theorem d_Mo_seat_159 : decode b_Mo_seat 159 = .ok (.getfield 103, 3) := by decide +kernel
theorem d_Mo_seat_162 : decode b_Mo_seat 162 = .ok (.ireturn, 1) := by decide +kernel
theorem d_Mo_deskOf_0 : decode b_Mo_deskOf 0 = .ok (.aload_n 0, 1) := by decide +kernel
theorem d_Mo_deskOf_1 : decode b_Mo_deskOf 1 = .ok (.aload_n 0, 1) := by decide +kernel
theorem d_Mo_deskOf_2 : decode b_Mo_deskOf 2 = .ok (.iload_n 1, 1) := by decide +kernel
theorem d_Mo_deskOf_3 : decode b_Mo_deskOf 3 = .ok (.invokevirtual 74, 3) := by decide +kernel
theorem d_Mo_deskOf_6 : decode b_Mo_deskOf 6 = .ok (.ifCond .eq 7, 3) := by decide +kernel
theorem d_Mo_deskOf_9 : decode b_Mo_deskOf 9 = .ok (.iconst 0, 1) := by decide +kernel
theorem d_Mo_deskOf_10 : decode b_Mo_deskOf 10 = .ok (.goto 4, 3) := by decide +kernel
theorem d_Mo_deskOf_13 : decode b_Mo_deskOf 13 = .ok (.iconst 1, 1) := by decide +kernel
theorem d_Mo_deskOf_14 : decode b_Mo_deskOf 14 = .ok (.putfield 57, 3) := by decide +kernel
theorem d_Mo_deskOf_17 : decode b_Mo_deskOf 17 = .ok (.aload_n 0, 1) := by decide +kernel
theorem d_Mo_deskOf_18 : decode b_Mo_deskOf 18 = .ok (.getfield 57, 3) := by decide +kernel
theorem d_Mo_deskOf_21 : decode b_Mo_deskOf 21 = .ok (.ifCond .le 7, 3) := by decide +kernel
theorem d_Mo_deskOf_24 : decode b_Mo_deskOf 24 = .ok (.iconst 0, 1) := by decide +kernel
theorem d_Mo_deskOf_25 : decode b_Mo_deskOf 25 = .ok (.goto 20, 3) := by decide +kernel
theorem d_Mo_deskOf_28 : decode b_Mo_deskOf 28 = .ok (.aload_n 0, 1) := by decide +kernel
theorem d_Mo_deskOf_29 : decode b_Mo_deskOf 29 = .ok (.getfield 70, 3) := by decide +kernel
theorem d_Mo_deskOf_32 : decode b_Mo_deskOf 32 = .ok (.ifCond .eq 12, 3) := by decide +kernel
theorem d_Mo_deskOf_35 : decode b_Mo_deskOf 35 = .ok (.aload_n 0, 1) := by decide +kernel
theorem d_Mo_deskOf_36 : decode b_Mo_deskOf 36 = .ok (.getfield 20, 3) := by decide +kernel
theorem d_Mo_deskOf_39 : decode b_Mo_deskOf 39 = .ok (.iload_n 1, 1) := by decide +kernel
theorem d_Mo_deskOf_40 : decode b_Mo_deskOf 40 = .ok (.iaload, 1) := by decide +kernel
theorem d_Mo_deskOf_41 : decode b_Mo_deskOf 41 = .ok (.goto 4, 3) := by decide +kernel
theorem d_Mo_deskOf_44 : decode b_Mo_deskOf 44 = .ok (.iconst (-1), 1) := by decide +kernel
theorem d_Mo_deskOf_45 : decode b_Mo_deskOf 45 = .ok (.ireturn, 1) := by decide +kernel
theorem d_Mo_moved_0 : decode b_Mo_moved 0 = .ok (.aload_n 0, 1) := by decide +kernel
theorem d_Mo_moved_1 : decode b_Mo_moved 1 = .ok (.iconst 0, 1) := by decide +kernel
theorem d_Mo_moved_2 : decode b_Mo_moved 2 = .ok (.putfield 57, 3) := by decide +kernel
theorem d_Mo_moved_5 : decode b_Mo_moved 5 = .ok (.aload_n 0, 1) := by decide +kernel
theorem d_Mo_moved_6 : decode b_Mo_moved 6 = .ok (.getfield 70, 3) := by decide +kernel
theorem d_Mo_moved_9 : decode b_Mo_moved 9 = .ok (.ifCond .ne 5, 3) := by decide +kernel
theorem d_Mo_moved_12 : decode b_Mo_moved 12 = .ok (.iconst (-1), 1) := by decide +kernel
theorem d_Mo_moved_13 : decode b_Mo_moved 13 = .ok (.ireturn, 1) := by decide +kernel
theorem d_Mo_moved_14 : decode b_Mo_moved 14 = .ok (.iconst 0, 1) := by decide +kernel
theorem d_Mo_moved_15 : decode b_Mo_moved 15 = .ok (.istore_n 1, 1) := by decide +kernel
theorem d_Mo_moved_16 : decode b_Mo_moved 16 = .ok (.iconst 0, 1) := by decide +kernel
theorem d_Mo_moved_17 : decode b_Mo_moved 17 = .ok (.istore_n 2, 1) := by decide +kernel
theorem d_Mo_moved_18 : decode b_Mo_moved 18 = .ok (.iload_n 2, 1) := by decide +kernel
theorem d_Mo_moved_19 : decode b_Mo_moved 19 = .ok (.aload_n 0, 1) := by decide +kernel
theorem d_Mo_moved_20 : decode b_Mo_moved 20 = .ok (.getfield 60, 3) := by decide +kernel
theorem d_Mo_moved_23 : decode b_Mo_moved 23 = .ok (.if_icmp .ge 31, 3) := by decide +kernel
theorem d_Mo_moved_26 : decode b_Mo_moved 26 = .ok (.aload_n 0, 1) := by decide +kernel
theorem d_Mo_moved_27 : decode b_Mo_moved 27 = .ok (.iload_n 2, 1) := by decide +kernel
theorem d_Mo_moved_28 : decode b_Mo_moved 28 = .ok (.aload_n 0, 1) := by decide +kernel
theorem d_Mo_moved_29 : decode b_Mo_moved 29 = .ok (.getfield 20, 3) := by decide +kernel
theorem d_Mo_moved_32 : decode b_Mo_moved 32 = .ok (.iload_n 2, 1) := by decide +kernel
theorem d_Mo_moved_33 : decode b_Mo_moved 33 = .ok (.iaload, 1) := by decide +kernel
theorem d_Mo_moved_34 : decode b_Mo_moved 34 = .ok (.invokevirtual 81, 3) := by decide +kernel
theorem d_Mo_moved_37 : decode b_Mo_moved 37 = .ok (.ifCond .eq 9, 3) := by decide +kernel
theorem d_Mo_moved_40 : decode b_Mo_moved 40 = .ok (.iload_n 1, 1) := by decide +kernel
theorem d_Mo_moved_41 : decode b_Mo_moved 41 = .ok (.iconst 1, 1) := by decide +kernel
theorem d_Mo_moved_42 : decode b_Mo_moved 42 = .ok (.iadd, 1) := by decide +kernel
theorem d_Mo_moved_43 : decode b_Mo_moved 43 = .ok (.goto 4, 3) := by decide +kernel
theorem d_Mo_moved_46 : decode b_Mo_moved 46 = .ok (.iload_n 1, 1) := by decide +kernel
theorem d_Mo_moved_47 : decode b_Mo_moved 47 = .ok (.istore_n 1, 1) := by decide +kernel
theorem d_Mo_moved_48 : decode b_Mo_moved 48 = .ok (.iinc 2 1, 3) := by decide +kernel
theorem d_Mo_moved_51 : decode b_Mo_moved 51 = .ok (.goto (-33), 3) := by decide +kernel
theorem d_Mo_moved_54 : decode b_Mo_moved 54 = .ok (.iload_n 1, 1) := by decide +kernel
theorem d_Mo_moved_55 : decode b_Mo_moved 55 = .ok (.ireturn, 1) := by decide +kernel
theorem d_Mo_worthOf_0 : decode b_Mo_worthOf 0 = .ok (.aload_n 0, 1) := by decide +kernel
theorem d_Mo_worthOf_1 : decode b_Mo_worthOf 1 = .ok (.aload_n 0, 1) := by decide +kernel
theorem d_Mo_worthOf_2 : decode b_Mo_worthOf 2 = .ok (.iload_n 1, 1) := by decide +kernel
theorem d_Mo_worthOf_3 : decode b_Mo_worthOf 3 = .ok (.invokevirtual 74, 3) := by decide +kernel
theorem d_Mo_worthOf_6 : decode b_Mo_worthOf 6 = .ok (.ifCond .ne 7, 3) := by decide +kernel
theorem d_Mo_worthOf_9 : decode b_Mo_worthOf 9 = .ok (.iconst 1, 1) := by decide +kernel
theorem d_Mo_worthOf_10 : decode b_Mo_worthOf 10 = .ok (.goto 15, 3) := by decide +kernel
theorem d_Mo_worthOf_13 : decode b_Mo_worthOf 13 = .ok (.aload_n 0, 1) := by decide +kernel
theorem d_Mo_worthOf_14 : decode b_Mo_worthOf 14 = .ok (.getfield 70, 3) := by decide +kernel
theorem d_Mo_worthOf_17 : decode b_Mo_worthOf 17 = .ok (.ifCond .ne 7, 3) := by decide +kernel
theorem d_Mo_worthOf_20 : decode b_Mo_worthOf 20 = .ok (.iconst 2, 1) := by decide +kernel
theorem d_Mo_worthOf_21 : decode b_Mo_worthOf 21 = .ok (.goto 4, 3) := by decide +kernel
theorem d_Mo_worthOf_24 : decode b_Mo_worthOf 24 = .ok (.iconst 0, 1) := by decide +kernel
theorem d_Mo_worthOf_25 : decode b_Mo_worthOf 25 = .ok (.putfield 57, 3) := by decide +kernel
theorem d_Mo_worthOf_28 : decode b_Mo_worthOf 28 = .ok (.aload_n 0, 1) := by decide +kernel
theorem d_Mo_worthOf_29 : decode b_Mo_worthOf 29 = .ok (.getfield 57, 3) := by decide +kernel
theorem d_Mo_worthOf_32 : decode b_Mo_worthOf 32 = .ok (.ifCond .le 7, 3) := by decide +kernel
theorem d_Mo_worthOf_35 : decode b_Mo_worthOf 35 = .ok (.iconst 0, 1) := by decide +kernel
theorem d_Mo_worthOf_36 : decode b_Mo_worthOf 36 = .ok (.goto 16, 3) := by decide +kernel
theorem d_Mo_worthOf_39 : decode b_Mo_worthOf 39 = .ok (.aload_n 0, 1) := by decide +kernel
theorem d_Mo_worthOf_40 : decode b_Mo_worthOf 40 = .ok (.getfield 103, 3) := by decide +kernel
theorem d_Mo_worthOf_43 : decode b_Mo_worthOf 43 = .ok (.aload_n 0, 1) := by decide +kernel
theorem d_Mo_worthOf_44 : decode b_Mo_worthOf 44 = .ok (.iload_n 1, 1) := by decide +kernel
theorem d_Mo_worthOf_45 : decode b_Mo_worthOf 45 = .ok (.invokevirtual 97, 3) := by decide +kernel
theorem d_Mo_worthOf_48 : decode b_Mo_worthOf 48 = .ok (.invokestatic 100, 3) := by decide +kernel
theorem d_Mo_worthOf_51 : decode b_Mo_worthOf 51 = .ok (.isub, 1) := by decide +kernel
theorem d_Mo_worthOf_52 : decode b_Mo_worthOf 52 = .ok (.ireturn, 1) := by decide +kernel
theorem d_Mo_settle_0 : decode b_Mo_settle 0 = .ok (.aload_n 0, 1) := by decide +kernel
theorem d_Mo_settle_1 : decode b_Mo_settle 1 = .ok (.aload_n 0, 1) := by decide +kernel
theorem d_Mo_settle_2 : decode b_Mo_settle 2 = .ok (.getfield 70, 3) := by decide +kernel
theorem d_Mo_settle_5 : decode b_Mo_settle 5 = .ok (.ifCond .eq 7, 3) := by decide +kernel
theorem d_Mo_settle_8 : decode b_Mo_settle 8 = .ok (.iconst 0, 1) := by decide +kernel
theorem d_Mo_settle_9 : decode b_Mo_settle 9 = .ok (.goto 4, 3) := by decide +kernel
theorem d_Mo_settle_12 : decode b_Mo_settle 12 = .ok (.iconst 1, 1) := by decide +kernel
theorem d_Mo_settle_13 : decode b_Mo_settle 13 = .ok (.putfield 57, 3) := by decide +kernel
theorem d_Mo_settle_16 : decode b_Mo_settle 16 = .ok (.aload_n 0, 1) := by decide +kernel
theorem d_Mo_settle_17 : decode b_Mo_settle 17 = .ok (.getfield 57, 3) := by decide +kernel
theorem d_Mo_settle_20 : decode b_Mo_settle 20 = .ok (.ifCond .le 5, 3) := by decide +kernel
theorem d_Mo_settle_23 : decode b_Mo_settle 23 = .ok (.iconst 0, 1) := by decide +kernel
theorem d_Mo_settle_24 : decode b_Mo_settle 24 = .ok (.ireturn, 1) := by decide +kernel
theorem d_Mo_settle_25 : decode b_Mo_settle 25 = .ok (.iconst 0, 1) := by decide +kernel
theorem d_Mo_settle_26 : decode b_Mo_settle 26 = .ok (.istore_n 1, 1) := by decide +kernel
theorem d_Mo_settle_27 : decode b_Mo_settle 27 = .ok (.iconst 0, 1) := by decide +kernel
theorem d_Mo_settle_28 : decode b_Mo_settle 28 = .ok (.istore_n 2, 1) := by decide +kernel
theorem d_Mo_settle_29 : decode b_Mo_settle 29 = .ok (.iload_n 2, 1) := by decide +kernel
theorem d_Mo_settle_30 : decode b_Mo_settle 30 = .ok (.aload_n 0, 1) := by decide +kernel
theorem d_Mo_settle_31 : decode b_Mo_settle 31 = .ok (.getfield 60, 3) := by decide +kernel
theorem d_Mo_settle_34 : decode b_Mo_settle 34 = .ok (.if_icmp .ge 44, 3) := by decide +kernel
theorem d_Mo_settle_37 : decode b_Mo_settle 37 = .ok (.aload_n 0, 1) := by decide +kernel
theorem d_Mo_settle_38 : decode b_Mo_settle 38 = .ok (.getfield 17, 3) := by decide +kernel
theorem d_Mo_settle_41 : decode b_Mo_settle 41 = .ok (.iload_n 2, 1) := by decide +kernel
theorem d_Mo_settle_42 : decode b_Mo_settle 42 = .ok (.iaload, 1) := by decide +kernel
theorem d_Mo_settle_43 : decode b_Mo_settle 43 = .ok (.aload_n 0, 1) := by decide +kernel
theorem d_Mo_settle_44 : decode b_Mo_settle 44 = .ok (.getfield 20, 3) := by decide +kernel
theorem d_Mo_settle_47 : decode b_Mo_settle 47 = .ok (.iload_n 2, 1) := by decide +kernel
theorem d_Mo_settle_48 : decode b_Mo_settle 48 = .ok (.iaload, 1) := by decide +kernel
theorem d_Mo_settle_49 : decode b_Mo_settle 49 = .ok (.if_icmp .eq 9, 3) := by decide +kernel
theorem d_Mo_settle_52 : decode b_Mo_settle 52 = .ok (.iload_n 1, 1) := by decide +kernel
theorem d_Mo_settle_53 : decode b_Mo_settle 53 = .ok (.iconst 1, 1) := by decide +kernel
theorem d_Mo_settle_54 : decode b_Mo_settle 54 = .ok (.iadd, 1) := by decide +kernel
theorem d_Mo_settle_55 : decode b_Mo_settle 55 = .ok (.goto 4, 3) := by decide +kernel
theorem d_Mo_settle_58 : decode b_Mo_settle 58 = .ok (.iload_n 1, 1) := by decide +kernel
theorem d_Mo_settle_59 : decode b_Mo_settle 59 = .ok (.istore_n 1, 1) := by decide +kernel
theorem d_Mo_settle_60 : decode b_Mo_settle 60 = .ok (.aload_n 0, 1) := by decide +kernel
theorem d_Mo_settle_61 : decode b_Mo_settle 61 = .ok (.getfield 17, 3) := by decide +kernel
theorem d_Mo_settle_64 : decode b_Mo_settle 64 = .ok (.iload_n 2, 1) := by decide +kernel
theorem d_Mo_settle_65 : decode b_Mo_settle 65 = .ok (.aload_n 0, 1) := by decide +kernel
theorem d_Mo_settle_66 : decode b_Mo_settle 66 = .ok (.getfield 20, 3) := by decide +kernel
theorem d_Mo_settle_69 : decode b_Mo_settle 69 = .ok (.iload_n 2, 1) := by decide +kernel
theorem d_Mo_settle_70 : decode b_Mo_settle 70 = .ok (.iaload, 1) := by decide +kernel
theorem d_Mo_settle_71 : decode b_Mo_settle 71 = .ok (.iastore, 1) := by decide +kernel
theorem d_Mo_settle_72 : decode b_Mo_settle 72 = .ok (.iinc 2 1, 3) := by decide +kernel
theorem d_Mo_settle_75 : decode b_Mo_settle 75 = .ok (.goto (-46), 3) := by decide +kernel
theorem d_Mo_settle_78 : decode b_Mo_settle 78 = .ok (.aload_n 0, 1) := by decide +kernel
theorem d_Mo_settle_79 : decode b_Mo_settle 79 = .ok (.iconst 0, 1) := by decide +kernel
theorem d_Mo_settle_80 : decode b_Mo_settle 80 = .ok (.putfield 70, 3) := by decide +kernel
theorem d_Mo_settle_83 : decode b_Mo_settle 83 = .ok (.iload_n 1, 1) := by decide +kernel
theorem d_Mo_settle_84 : decode b_Mo_settle 84 = .ok (.ireturn, 1) := by decide +kernel
theorem d_Mo_isFree_0 : decode b_Mo_isFree 0 = .ok (.iconst 1, 1) := by decide +kernel
theorem d_Mo_isFree_1 : decode b_Mo_isFree 1 = .ok (.istore_n 2, 1) := by decide +kernel
theorem d_Mo_isFree_2 : decode b_Mo_isFree 2 = .ok (.iconst 0, 1) := by decide +kernel
theorem d_Mo_isFree_3 : decode b_Mo_isFree 3 = .ok (.istore_n 3, 1) := by decide +kernel
theorem d_Mo_isFree_4 : decode b_Mo_isFree 4 = .ok (.iload_n 3, 1) := by decide +kernel
theorem d_Mo_isFree_5 : decode b_Mo_isFree 5 = .ok (.aload_n 0, 1) := by decide +kernel
theorem d_Mo_isFree_6 : decode b_Mo_isFree 6 = .ok (.getfield 60, 3) := by decide +kernel
theorem d_Mo_isFree_9 : decode b_Mo_isFree 9 = .ok (.if_icmp .ge 29, 3) := by decide +kernel
theorem d_Mo_isFree_12 : decode b_Mo_isFree 12 = .ok (.iload_n 2, 1) := by decide +kernel
theorem d_Mo_isFree_13 : decode b_Mo_isFree 13 = .ok (.ifCond .eq 17, 3) := by decide +kernel
theorem d_Mo_isFree_16 : decode b_Mo_isFree 16 = .ok (.aload_n 0, 1) := by decide +kernel
theorem d_Mo_isFree_17 : decode b_Mo_isFree 17 = .ok (.getfield 32, 3) := by decide +kernel
theorem d_Mo_isFree_20 : decode b_Mo_isFree 20 = .ok (.iload_n 3, 1) := by decide +kernel
theorem d_Mo_isFree_21 : decode b_Mo_isFree 21 = .ok (.iaload, 1) := by decide +kernel
theorem d_Mo_isFree_22 : decode b_Mo_isFree 22 = .ok (.iload_n 1, 1) := by decide +kernel
theorem d_Mo_isFree_23 : decode b_Mo_isFree 23 = .ok (.if_icmp .eq 7, 3) := by decide +kernel
theorem d_Mo_isFree_26 : decode b_Mo_isFree 26 = .ok (.iconst 1, 1) := by decide +kernel
theorem d_Mo_isFree_27 : decode b_Mo_isFree 27 = .ok (.goto 4, 3) := by decide +kernel
theorem d_Mo_isFree_30 : decode b_Mo_isFree 30 = .ok (.iconst 0, 1) := by decide +kernel
theorem d_Mo_isFree_31 : decode b_Mo_isFree 31 = .ok (.istore_n 2, 1) := by decide +kernel
theorem d_Mo_isFree_32 : decode b_Mo_isFree 32 = .ok (.iinc 3 1, 3) := by decide +kernel
theorem d_Mo_isFree_35 : decode b_Mo_isFree 35 = .ok (.goto (-31), 3) := by decide +kernel
theorem d_Mo_isFree_38 : decode b_Mo_isFree 38 = .ok (.iload_n 2, 1) := by decide +kernel
theorem d_Mo_isFree_39 : decode b_Mo_isFree 39 = .ok (.ireturn, 1) := by decide +kernel
theorem d_Mo_go_0 : decode b_Mo_go 0 = .ok (.aload_n 0, 1) := by decide +kernel
theorem d_Mo_go_1 : decode b_Mo_go 1 = .ok (.getfield 29, 3) := by decide +kernel
theorem d_Mo_go_4 : decode b_Mo_go 4 = .ok (.iconst 3, 1) := by decide +kernel
theorem d_Mo_go_5 : decode b_Mo_go 5 = .ok (.aload_n 0, 1) := by decide +kernel
theorem d_Mo_go_6 : decode b_Mo_go 6 = .ok (.getfield 109, 3) := by decide +kernel
theorem d_Mo_go_9 : decode b_Mo_go 9 = .ok (.imul, 1) := by decide +kernel
theorem d_Mo_go_10 : decode b_Mo_go 10 = .ok (.iload_n 1, 1) := by decide +kernel
theorem d_Mo_go_11 : decode b_Mo_go 11 = .ok (.iastore, 1) := by decide +kernel
theorem d_Mo_go_12 : decode b_Mo_go 12 = .ok (.aload_n 0, 1) := by decide +kernel
theorem d_Mo_go_13 : decode b_Mo_go 13 = .ok (.getfield 29, 3) := by decide +kernel
theorem d_Mo_go_16 : decode b_Mo_go 16 = .ok (.iconst 3, 1) := by decide +kernel
theorem d_Mo_go_17 : decode b_Mo_go 17 = .ok (.aload_n 0, 1) := by decide +kernel
theorem d_Mo_go_18 : decode b_Mo_go 18 = .ok (.getfield 109, 3) := by decide +kernel
theorem d_Mo_go_21 : decode b_Mo_go 21 = .ok (.imul, 1) := by decide +kernel
theorem d_Mo_go_22 : decode b_Mo_go 22 = .ok (.iconst 1, 1) := by decide +kernel
theorem d_Mo_go_23 : decode b_Mo_go 23 = .ok (.iadd, 1) := by decide +kernel
theorem d_Mo_go_24 : decode b_Mo_go 24 = .ok (.aload_n 0, 1) := by decide +kernel
theorem d_Mo_go_25 : decode b_Mo_go 25 = .ok (.getfield 32, 3) := by decide +kernel
theorem d_Mo_go_28 : decode b_Mo_go 28 = .ok (.iload_n 1, 1) := by decide +kernel
theorem d_Mo_go_29 : decode b_Mo_go 29 = .ok (.iaload, 1) := by decide +kernel
theorem d_Mo_go_30 : decode b_Mo_go 30 = .ok (.iastore, 1) := by decide +kernel
theorem d_Mo_go_31 : decode b_Mo_go 31 = .ok (.aload_n 0, 1) := by decide +kernel
theorem d_Mo_go_32 : decode b_Mo_go 32 = .ok (.getfield 29, 3) := by decide +kernel
theorem d_Mo_go_35 : decode b_Mo_go 35 = .ok (.iconst 3, 1) := by decide +kernel
theorem d_Mo_go_36 : decode b_Mo_go 36 = .ok (.aload_n 0, 1) := by decide +kernel
theorem d_Mo_go_37 : decode b_Mo_go 37 = .ok (.getfield 109, 3) := by decide +kernel
theorem d_Mo_go_40 : decode b_Mo_go 40 = .ok (.imul, 1) := by decide +kernel
theorem d_Mo_go_41 : decode b_Mo_go 41 = .ok (.iconst 2, 1) := by decide +kernel
theorem d_Mo_go_42 : decode b_Mo_go 42 = .ok (.iadd, 1) := by decide +kernel
theorem d_Mo_go_43 : decode b_Mo_go 43 = .ok (.iload_n 2, 1) := by decide +kernel
theorem d_Mo_go_44 : decode b_Mo_go 44 = .ok (.iastore, 1) := by decide +kernel
theorem d_Mo_go_45 : decode b_Mo_go 45 = .ok (.aload_n 0, 1) := by decide +kernel
theorem d_Mo_go_46 : decode b_Mo_go 46 = .ok (.dup, 1) := by decide +kernel
theorem d_Mo_go_47 : decode b_Mo_go 47 = .ok (.getfield 109, 3) := by decide +kernel
theorem d_Mo_go_50 : decode b_Mo_go 50 = .ok (.iconst 1, 1) := by decide +kernel
theorem d_Mo_go_51 : decode b_Mo_go 51 = .ok (.iadd, 1) := by decide +kernel
theorem d_Mo_go_52 : decode b_Mo_go 52 = .ok (.putfield 109, 3) := by decide +kernel
theorem d_Mo_go_55 : decode b_Mo_go 55 = .ok (.aload_n 0, 1) := by decide +kernel
theorem d_Mo_go_56 : decode b_Mo_go 56 = .ok (.getfield 32, 3) := by decide +kernel
theorem d_Mo_go_59 : decode b_Mo_go 59 = .ok (.iload_n 1, 1) := by decide +kernel
theorem d_Mo_go_60 : decode b_Mo_go 60 = .ok (.iload_n 2, 1) := by decide +kernel
theorem d_Mo_go_61 : decode b_Mo_go 61 = .ok (.iastore, 1) := by decide +kernel
theorem d_Mo_go_62 : decode b_Mo_go 62 = .ok (.return_, 1) := by decide +kernel
theorem d_Mo_goes_0 : decode b_Mo_goes 0 = .ok (.iconst (-1), 1) := by decide +kernel
theorem d_Mo_goes_1 : decode b_Mo_goes 1 = .ok (.istore_n 1, 1) := by decide +kernel
theorem d_Mo_goes_2 : decode b_Mo_goes 2 = .ok (.iconst 0, 1) := by decide +kernel
theorem d_Mo_goes_3 : decode b_Mo_goes 3 = .ok (.istore_n 2, 1) := by decide +kernel
theorem d_Mo_goes_4 : decode b_Mo_goes 4 = .ok (.iload_n 2, 1) := by decide +kernel
theorem d_Mo_goes_5 : decode b_Mo_goes 5 = .ok (.aload_n 0, 1) := by decide +kernel
theorem d_Mo_goes_6 : decode b_Mo_goes 6 = .ok (.getfield 60, 3) := by decide +kernel
theorem d_Mo_goes_9 : decode b_Mo_goes 9 = .ok (.if_icmp .ge 76, 3) := by decide +kernel
theorem d_Mo_goes_12 : decode b_Mo_goes 12 = .ok (.aload_n 0, 1) := by decide +kernel
theorem d_Mo_goes_13 : decode b_Mo_goes 13 = .ok (.getfield 32, 3) := by decide +kernel
theorem d_Mo_goes_16 : decode b_Mo_goes 16 = .ok (.iload_n 2, 1) := by decide +kernel
theorem d_Mo_goes_17 : decode b_Mo_goes 17 = .ok (.iaload, 1) := by decide +kernel
theorem d_Mo_goes_18 : decode b_Mo_goes 18 = .ok (.aload_n 0, 1) := by decide +kernel
theorem d_Mo_goes_19 : decode b_Mo_goes 19 = .ok (.getfield 20, 3) := by decide +kernel
theorem d_Mo_goes_22 : decode b_Mo_goes 22 = .ok (.iload_n 2, 1) := by decide +kernel
theorem d_Mo_goes_23 : decode b_Mo_goes 23 = .ok (.iaload, 1) := by decide +kernel
theorem d_Mo_goes_24 : decode b_Mo_goes 24 = .ok (.if_icmp .eq 29, 3) := by decide +kernel
theorem d_Mo_goes_27 : decode b_Mo_goes 27 = .ok (.aload_n 0, 1) := by decide +kernel
theorem d_Mo_goes_28 : decode b_Mo_goes 28 = .ok (.aload_n 0, 1) := by decide +kernel
theorem d_Mo_goes_29 : decode b_Mo_goes 29 = .ok (.getfield 20, 3) := by decide +kernel
theorem d_Mo_goes_32 : decode b_Mo_goes 32 = .ok (.iload_n 2, 1) := by decide +kernel
theorem d_Mo_goes_33 : decode b_Mo_goes 33 = .ok (.iaload, 1) := by decide +kernel
theorem d_Mo_goes_34 : decode b_Mo_goes 34 = .ok (.invokevirtual 112, 3) := by decide +kernel
theorem d_Mo_goes_37 : decode b_Mo_goes 37 = .ok (.ifCond .eq 16, 3) := by decide +kernel
theorem d_Mo_goes_40 : decode b_Mo_goes 40 = .ok (.aload_n 0, 1) := by decide +kernel
theorem d_Mo_goes_41 : decode b_Mo_goes 41 = .ok (.iload_n 2, 1) := by decide +kernel
theorem d_Mo_goes_42 : decode b_Mo_goes 42 = .ok (.aload_n 0, 1) := by decide +kernel
theorem d_Mo_goes_43 : decode b_Mo_goes 43 = .ok (.getfield 20, 3) := by decide +kernel
theorem d_Mo_goes_46 : decode b_Mo_goes 46 = .ok (.iload_n 2, 1) := by decide +kernel
theorem d_Mo_goes_47 : decode b_Mo_goes 47 = .ok (.iaload, 1) := by decide +kernel
theorem d_Mo_goes_48 : decode b_Mo_goes 48 = .ok (.invokevirtual 115, 3) := by decide +kernel
theorem d_Mo_goes_51 : decode b_Mo_goes 51 = .ok (.iconst 1, 1) := by decide +kernel
theorem d_Mo_goes_52 : decode b_Mo_goes 52 = .ok (.ireturn, 1) := by decide +kernel
theorem d_Mo_goes_53 : decode b_Mo_goes 53 = .ok (.iload_n 1, 1) := by decide +kernel
theorem d_Mo_goes_54 : decode b_Mo_goes 54 = .ok (.iconst (-1), 1) := by decide +kernel
theorem d_Mo_goes_55 : decode b_Mo_goes 55 = .ok (.if_icmp .ne 22, 3) := by decide +kernel
theorem d_Mo_goes_58 : decode b_Mo_goes 58 = .ok (.aload_n 0, 1) := by decide +kernel
theorem d_Mo_goes_59 : decode b_Mo_goes 59 = .ok (.getfield 32, 3) := by decide +kernel
theorem d_Mo_goes_62 : decode b_Mo_goes 62 = .ok (.iload_n 2, 1) := by decide +kernel
theorem d_Mo_goes_63 : decode b_Mo_goes 63 = .ok (.iaload, 1) := by decide +kernel
theorem d_Mo_goes_64 : decode b_Mo_goes 64 = .ok (.aload_n 0, 1) := by decide +kernel
theorem d_Mo_goes_65 : decode b_Mo_goes 65 = .ok (.getfield 20, 3) := by decide +kernel
theorem d_Mo_goes_68 : decode b_Mo_goes 68 = .ok (.iload_n 2, 1) := by decide +kernel
theorem d_Mo_goes_69 : decode b_Mo_goes 69 = .ok (.iaload, 1) := by decide +kernel
theorem d_Mo_goes_70 : decode b_Mo_goes 70 = .ok (.if_icmp .eq 7, 3) := by decide +kernel
theorem d_Mo_goes_73 : decode b_Mo_goes 73 = .ok (.iload_n 2, 1) := by decide +kernel
theorem d_Mo_goes_74 : decode b_Mo_goes 74 = .ok (.goto 4, 3) := by decide +kernel
theorem d_Mo_goes_77 : decode b_Mo_goes 77 = .ok (.iload_n 1, 1) := by decide +kernel
theorem d_Mo_goes_78 : decode b_Mo_goes 78 = .ok (.istore_n 1, 1) := by decide +kernel
theorem d_Mo_goes_79 : decode b_Mo_goes 79 = .ok (.iinc 2 1, 3) := by decide +kernel
theorem d_Mo_goes_82 : decode b_Mo_goes 82 = .ok (.goto (-78), 3) := by decide +kernel
theorem d_Mo_goes_85 : decode b_Mo_goes 85 = .ok (.iload_n 1, 1) := by decide +kernel
theorem d_Mo_goes_86 : decode b_Mo_goes 86 = .ok (.iconst (-1), 1) := by decide +kernel
theorem d_Mo_goes_87 : decode b_Mo_goes 87 = .ok (.if_icmp .ne 5, 3) := by decide +kernel
theorem d_Mo_goes_90 : decode b_Mo_goes 90 = .ok (.iconst 0, 1) := by decide +kernel
theorem d_Mo_goes_91 : decode b_Mo_goes 91 = .ok (.ireturn, 1) := by decide +kernel
theorem d_Mo_goes_92 : decode b_Mo_goes 92 = .ok (.iconst 0, 1) := by decide +kernel
theorem d_Mo_goes_93 : decode b_Mo_goes 93 = .ok (.istore_n 2, 1) := by decide +kernel
theorem d_Mo_goes_94 : decode b_Mo_goes 94 = .ok (.iload_n 2, 1) := by decide +kernel
theorem d_Mo_goes_95 : decode b_Mo_goes 95 = .ok (.aload_n 0, 1) := by decide +kernel
theorem d_Mo_goes_96 : decode b_Mo_goes 96 = .ok (.getfield 53, 3) := by decide +kernel
theorem d_Mo_goes_99 : decode b_Mo_goes 99 = .ok (.if_icmp .ge 25, 3) := by decide +kernel
theorem d_Mo_goes_102 : decode b_Mo_goes 102 = .ok (.aload_n 0, 1) := by decide +kernel
theorem d_Mo_goes_103 : decode b_Mo_goes 103 = .ok (.iload_n 2, 1) := by decide +kernel
theorem d_Mo_goes_104 : decode b_Mo_goes 104 = .ok (.invokevirtual 112, 3) := by decide +kernel
theorem d_Mo_goes_107 : decode b_Mo_goes 107 = .ok (.ifCond .eq 11, 3) := by decide +kernel
theorem d_Mo_goes_110 : decode b_Mo_goes 110 = .ok (.aload_n 0, 1) := by decide +kernel
theorem d_Mo_goes_111 : decode b_Mo_goes 111 = .ok (.iload_n 1, 1) := by decide +kernel
theorem d_Mo_goes_112 : decode b_Mo_goes 112 = .ok (.iload_n 2, 1) := by decide +kernel
theorem d_Mo_goes_113 : decode b_Mo_goes 113 = .ok (.invokevirtual 115, 3) := by decide +kernel
theorem d_Mo_goes_116 : decode b_Mo_goes 116 = .ok (.iconst 1, 1) := by decide +kernel
theorem d_Mo_goes_117 : decode b_Mo_goes 117 = .ok (.ireturn, 1) := by decide +kernel
theorem d_Mo_goes_118 : decode b_Mo_goes 118 = .ok (.iinc 2 1, 3) := by decide +kernel
theorem d_Mo_goes_121 : decode b_Mo_goes 121 = .ok (.goto (-27), 3) := by decide +kernel
theorem d_Mo_goes_124 : decode b_Mo_goes 124 = .ok (.aload_n 0, 1) := by decide +kernel
theorem d_Mo_goes_125 : decode b_Mo_goes 125 = .ok (.iconst 1, 1) := by decide +kernel
theorem d_Mo_goes_126 : decode b_Mo_goes 126 = .ok (.putfield 119, 3) := by decide +kernel
theorem d_Mo_goes_129 : decode b_Mo_goes 129 = .ok (.iconst 0, 1) := by decide +kernel
theorem d_Mo_goes_130 : decode b_Mo_goes 130 = .ok (.ireturn, 1) := by decide +kernel
theorem d_Mo_walk_0 : decode b_Mo_walk 0 = .ok (.aload_n 0, 1) := by decide +kernel
theorem d_Mo_walk_1 : decode b_Mo_walk 1 = .ok (.iconst 0, 1) := by decide +kernel
theorem d_Mo_walk_2 : decode b_Mo_walk 2 = .ok (.putfield 109, 3) := by decide +kernel
theorem d_Mo_walk_5 : decode b_Mo_walk 5 = .ok (.aload_n 0, 1) := by decide +kernel
theorem d_Mo_walk_6 : decode b_Mo_walk 6 = .ok (.iconst 0, 1) := by decide +kernel
theorem d_Mo_walk_7 : decode b_Mo_walk 7 = .ok (.putfield 119, 3) := by decide +kernel
theorem d_Mo_walk_10 : decode b_Mo_walk 10 = .ok (.iconst 0, 1) := by decide +kernel
theorem d_Mo_walk_11 : decode b_Mo_walk 11 = .ok (.istore_n 1, 1) := by decide +kernel
theorem d_Mo_walk_12 : decode b_Mo_walk 12 = .ok (.iload_n 1, 1) := by decide +kernel
theorem d_Mo_walk_13 : decode b_Mo_walk 13 = .ok (.aload_n 0, 1) := by decide +kernel
theorem d_Mo_walk_14 : decode b_Mo_walk 14 = .ok (.getfield 60, 3) := by decide +kernel
theorem d_Mo_walk_17 : decode b_Mo_walk 17 = .ok (.if_icmp .ge 21, 3) := by decide +kernel
theorem d_Mo_walk_20 : decode b_Mo_walk 20 = .ok (.aload_n 0, 1) := by decide +kernel
theorem d_Mo_walk_21 : decode b_Mo_walk 21 = .ok (.getfield 32, 3) := by decide +kernel
theorem d_Mo_walk_24 : decode b_Mo_walk 24 = .ok (.iload_n 1, 1) := by decide +kernel
theorem d_Mo_walk_25 : decode b_Mo_walk 25 = .ok (.aload_n 0, 1) := by decide +kernel
theorem d_Mo_walk_26 : decode b_Mo_walk 26 = .ok (.getfield 17, 3) := by decide +kernel
theorem d_Mo_walk_29 : decode b_Mo_walk 29 = .ok (.iload_n 1, 1) := by decide +kernel
theorem d_Mo_walk_30 : decode b_Mo_walk 30 = .ok (.iaload, 1) := by decide +kernel
theorem d_Mo_walk_31 : decode b_Mo_walk 31 = .ok (.iastore, 1) := by decide +kernel
theorem d_Mo_walk_32 : decode b_Mo_walk 32 = .ok (.iinc 1 1, 3) := by decide +kernel
theorem d_Mo_walk_35 : decode b_Mo_walk 35 = .ok (.goto (-23), 3) := by decide +kernel
theorem d_Mo_walk_38 : decode b_Mo_walk 38 = .ok (.iconst 1, 1) := by decide +kernel
theorem d_Mo_walk_39 : decode b_Mo_walk 39 = .ok (.istore_n 1, 1) := by decide +kernel
theorem d_Mo_walk_40 : decode b_Mo_walk 40 = .ok (.iload_n 1, 1) := by decide +kernel
theorem d_Mo_walk_41 : decode b_Mo_walk 41 = .ok (.ifCond .eq 11, 3) := by decide +kernel
theorem d_Mo_walk_44 : decode b_Mo_walk 44 = .ok (.aload_n 0, 1) := by decide +kernel
theorem d_Mo_walk_45 : decode b_Mo_walk 45 = .ok (.invokevirtual 122, 3) := by decide +kernel
theorem d_Mo_walk_48 : decode b_Mo_walk 48 = .ok (.istore_n 1, 1) := by decide +kernel
theorem d_Mo_walk_49 : decode b_Mo_walk 49 = .ok (.goto (-9), 3) := by decide +kernel
theorem d_Mo_walk_52 : decode b_Mo_walk 52 = .ok (.return_, 1) := by decide +kernel
theorem d_Mo_steps_0 : decode b_Mo_steps 0 = .ok (.aload_n 0, 1) := by decide +kernel
theorem d_Mo_steps_1 : decode b_Mo_steps 1 = .ok (.aload_n 0, 1) := by decide +kernel
theorem d_Mo_steps_2 : decode b_Mo_steps 2 = .ok (.getfield 70, 3) := by decide +kernel
theorem d_Mo_steps_5 : decode b_Mo_steps 5 = .ok (.ifCond .eq 7, 3) := by decide +kernel
theorem d_Mo_steps_8 : decode b_Mo_steps 8 = .ok (.iconst 0, 1) := by decide +kernel
theorem d_Mo_steps_9 : decode b_Mo_steps 9 = .ok (.goto 4, 3) := by decide +kernel
theorem d_Mo_steps_12 : decode b_Mo_steps 12 = .ok (.iconst 1, 1) := by decide +kernel
theorem d_Mo_steps_13 : decode b_Mo_steps 13 = .ok (.putfield 57, 3) := by decide +kernel
theorem d_Mo_steps_16 : decode b_Mo_steps 16 = .ok (.aload_n 0, 1) := by decide +kernel
theorem d_Mo_steps_17 : decode b_Mo_steps 17 = .ok (.getfield 57, 3) := by decide +kernel
theorem d_Mo_steps_20 : decode b_Mo_steps 20 = .ok (.ifCond .le 7, 3) := by decide +kernel
theorem d_Mo_steps_23 : decode b_Mo_steps 23 = .ok (.iconst 0, 1) := by decide +kernel
theorem d_Mo_steps_24 : decode b_Mo_steps 24 = .ok (.goto 19, 3) := by decide +kernel
theorem d_Mo_steps_27 : decode b_Mo_steps 27 = .ok (.aload_n 0, 1) := by decide +kernel
theorem d_Mo_steps_28 : decode b_Mo_steps 28 = .ok (.getfield 119, 3) := by decide +kernel
theorem d_Mo_steps_31 : decode b_Mo_steps 31 = .ok (.ifCond .eq 8, 3) := by decide +kernel
theorem d_Mo_steps_34 : decode b_Mo_steps 34 = .ok (.bipush (-2), 2) := by decide +kernel
theorem d_Mo_steps_36 : decode b_Mo_steps 36 = .ok (.goto 7, 3) := by decide +kernel
theorem d_Mo_steps_39 : decode b_Mo_steps 39 = .ok (.aload_n 0, 1) := by decide +kernel
theorem d_Mo_steps_40 : decode b_Mo_steps 40 = .ok (.getfield 109, 3) := by decide +kernel
theorem d_Mo_steps_43 : decode b_Mo_steps 43 = .ok (.ireturn, 1) := by decide +kernel
theorem d_Mo_step_0 : decode b_Mo_step 0 = .ok (.aload_n 0, 1) := by decide +kernel
theorem d_Mo_step_1 : decode b_Mo_step 1 = .ok (.iload_n 1, 1) := by decide +kernel
theorem d_Mo_step_2 : decode b_Mo_step 2 = .ok (.ifCond .lt 12, 3) := by decide +kernel
theorem d_Mo_step_5 : decode b_Mo_step 5 = .ok (.iload_n 2, 1) := by decide +kernel
theorem d_Mo_step_6 : decode b_Mo_step 6 = .ok (.iconst 0, 1) := by decide +kernel
theorem d_Mo_step_7 : decode b_Mo_step 7 = .ok (.iconst 2, 1) := by decide +kernel
theorem d_Mo_step_8 : decode b_Mo_step 8 = .ok (.invokestatic 63, 3) := by decide +kernel
theorem d_Mo_step_11 : decode b_Mo_step 11 = .ok (.ifCond .ne 7, 3) := by decide +kernel
theorem d_Mo_step_14 : decode b_Mo_step 14 = .ok (.iconst 1, 1) := by decide +kernel
theorem d_Mo_step_15 : decode b_Mo_step 15 = .ok (.goto 27, 3) := by decide +kernel
theorem d_Mo_step_18 : decode b_Mo_step 18 = .ok (.aload_n 0, 1) := by decide +kernel
theorem d_Mo_step_19 : decode b_Mo_step 19 = .ok (.getfield 70, 3) := by decide +kernel
theorem d_Mo_step_22 : decode b_Mo_step 22 = .ok (.ifCond .ne 7, 3) := by decide +kernel
theorem d_Mo_step_25 : decode b_Mo_step 25 = .ok (.iconst 2, 1) := by decide +kernel
theorem d_Mo_step_26 : decode b_Mo_step 26 = .ok (.goto 16, 3) := by decide +kernel
theorem d_Mo_step_29 : decode b_Mo_step 29 = .ok (.iload_n 1, 1) := by decide +kernel
theorem d_Mo_step_30 : decode b_Mo_step 30 = .ok (.aload_n 0, 1) := by decide +kernel
theorem d_Mo_step_31 : decode b_Mo_step 31 = .ok (.getfield 109, 3) := by decide +kernel
theorem d_Mo_step_34 : decode b_Mo_step 34 = .ok (.if_icmp .lt 7, 3) := by decide +kernel
theorem d_Mo_step_37 : decode b_Mo_step 37 = .ok (.iconst 1, 1) := by decide +kernel
theorem d_Mo_step_38 : decode b_Mo_step 38 = .ok (.goto 4, 3) := by decide +kernel
theorem d_Mo_step_41 : decode b_Mo_step 41 = .ok (.iconst 0, 1) := by decide +kernel
theorem d_Mo_step_42 : decode b_Mo_step 42 = .ok (.putfield 57, 3) := by decide +kernel
theorem d_Mo_step_45 : decode b_Mo_step 45 = .ok (.aload_n 0, 1) := by decide +kernel
theorem d_Mo_step_46 : decode b_Mo_step 46 = .ok (.getfield 57, 3) := by decide +kernel
theorem d_Mo_step_49 : decode b_Mo_step 49 = .ok (.ifCond .le 7, 3) := by decide +kernel
theorem d_Mo_step_52 : decode b_Mo_step 52 = .ok (.iconst 0, 1) := by decide +kernel
theorem d_Mo_step_53 : decode b_Mo_step 53 = .ok (.goto 13, 3) := by decide +kernel
theorem d_Mo_step_56 : decode b_Mo_step 56 = .ok (.aload_n 0, 1) := by decide +kernel
theorem d_Mo_step_57 : decode b_Mo_step 57 = .ok (.getfield 29, 3) := by decide +kernel
theorem d_Mo_step_60 : decode b_Mo_step 60 = .ok (.iconst 3, 1) := by decide +kernel
theorem d_Mo_step_61 : decode b_Mo_step 61 = .ok (.iload_n 1, 1) := by decide +kernel
theorem d_Mo_step_62 : decode b_Mo_step 62 = .ok (.imul, 1) := by decide +kernel
theorem d_Mo_step_63 : decode b_Mo_step 63 = .ok (.iload_n 2, 1) := by decide +kernel
theorem d_Mo_step_64 : decode b_Mo_step 64 = .ok (.iadd, 1) := by decide +kernel
theorem d_Mo_step_65 : decode b_Mo_step 65 = .ok (.iaload, 1) := by decide +kernel
theorem d_Mo_step_66 : decode b_Mo_step 66 = .ok (.ireturn, 1) := by decide +kernel
theorem d_Mo_room_0 : decode b_Mo_room 0 = .ok (.aload_n 0, 1) := by decide +kernel
theorem d_Mo_room_1 : decode b_Mo_room 1 = .ok (.iload_n 1, 1) := by decide +kernel
theorem d_Mo_room_2 : decode b_Mo_room 2 = .ok (.iconst 1, 1) := by decide +kernel
theorem d_Mo_room_3 : decode b_Mo_room 3 = .ok (.sipush 200, 3) := by decide +kernel
theorem d_Mo_room_6 : decode b_Mo_room 6 = .ok (.invokestatic 63, 3) := by decide +kernel
theorem d_Mo_room_9 : decode b_Mo_room 9 = .ok (.ifCond .ne 7, 3) := by decide +kernel
theorem d_Mo_room_12 : decode b_Mo_room 12 = .ok (.iconst 1, 1) := by decide +kernel
theorem d_Mo_room_13 : decode b_Mo_room 13 = .ok (.goto 17, 3) := by decide +kernel
theorem d_Mo_room_16 : decode b_Mo_room 16 = .ok (.aload_n 0, 1) := by decide +kernel
theorem d_Mo_room_17 : decode b_Mo_room 17 = .ok (.getfield 67, 3) := by decide +kernel
theorem d_Mo_room_20 : decode b_Mo_room 20 = .ok (.bipush 8, 2) := by decide +kernel
theorem d_Mo_room_22 : decode b_Mo_room 22 = .ok (.if_icmp .ne 7, 3) := by decide +kernel
theorem d_Mo_room_25 : decode b_Mo_room 25 = .ok (.iconst 2, 1) := by decide +kernel
theorem d_Mo_room_26 : decode b_Mo_room 26 = .ok (.goto 4, 3) := by decide +kernel
theorem d_Mo_room_29 : decode b_Mo_room 29 = .ok (.iconst 0, 1) := by decide +kernel
theorem d_Mo_room_30 : decode b_Mo_room 30 = .ok (.putfield 57, 3) := by decide +kernel
theorem d_Mo_room_33 : decode b_Mo_room 33 = .ok (.aload_n 0, 1) := by decide +kernel
theorem d_Mo_room_34 : decode b_Mo_room 34 = .ok (.getfield 57, 3) := by decide +kernel
theorem d_Mo_room_37 : decode b_Mo_room 37 = .ok (.ifCond .le 5, 3) := by decide +kernel
theorem d_Mo_room_40 : decode b_Mo_room 40 = .ok (.iconst 0, 1) := by decide +kernel
theorem d_Mo_room_41 : decode b_Mo_room 41 = .ok (.ireturn, 1) := by decide +kernel
theorem d_Mo_room_42 : decode b_Mo_room 42 = .ok (.aload_n 0, 1) := by decide +kernel
theorem d_Mo_room_43 : decode b_Mo_room 43 = .ok (.getfield 35, 3) := by decide +kernel
theorem d_Mo_room_46 : decode b_Mo_room 46 = .ok (.aload_n 0, 1) := by decide +kernel
theorem d_Mo_room_47 : decode b_Mo_room 47 = .ok (.getfield 67, 3) := by decide +kernel
theorem d_Mo_room_50 : decode b_Mo_room 50 = .ok (.iload_n 1, 1) := by decide +kernel
theorem d_Mo_room_51 : decode b_Mo_room 51 = .ok (.iastore, 1) := by decide +kernel
theorem d_Mo_room_52 : decode b_Mo_room 52 = .ok (.aload_n 0, 1) := by decide +kernel
theorem d_Mo_room_53 : decode b_Mo_room 53 = .ok (.dup, 1) := by decide +kernel
theorem d_Mo_room_54 : decode b_Mo_room 54 = .ok (.getfield 67, 3) := by decide +kernel
theorem d_Mo_room_57 : decode b_Mo_room 57 = .ok (.iconst 1, 1) := by decide +kernel
theorem d_Mo_room_58 : decode b_Mo_room 58 = .ok (.iadd, 1) := by decide +kernel
theorem d_Mo_room_59 : decode b_Mo_room 59 = .ok (.putfield 67, 3) := by decide +kernel
theorem d_Mo_room_62 : decode b_Mo_room 62 = .ok (.aload_n 0, 1) := by decide +kernel
theorem d_Mo_room_63 : decode b_Mo_room 63 = .ok (.getfield 67, 3) := by decide +kernel
theorem d_Mo_room_66 : decode b_Mo_room 66 = .ok (.iconst 1, 1) := by decide +kernel
theorem d_Mo_room_67 : decode b_Mo_room 67 = .ok (.isub, 1) := by decide +kernel
theorem d_Mo_room_68 : decode b_Mo_room 68 = .ok (.ireturn, 1) := by decide +kernel
theorem d_Mo_meeting_0 : decode b_Mo_meeting 0 = .ok (.iconst (-1), 1) := by decide +kernel
theorem d_Mo_meeting_1 : decode b_Mo_meeting 1 = .ok (.istore 4, 2) := by decide +kernel
theorem d_Mo_meeting_3 : decode b_Mo_meeting 3 = .ok (.iconst 0, 1) := by decide +kernel
theorem d_Mo_meeting_4 : decode b_Mo_meeting 4 = .ok (.istore 5, 2) := by decide +kernel
theorem d_Mo_meeting_6 : decode b_Mo_meeting 6 = .ok (.iload 5, 2) := by decide +kernel
theorem d_Mo_meeting_8 : decode b_Mo_meeting 8 = .ok (.aload_n 0, 1) := by decide +kernel
theorem d_Mo_meeting_9 : decode b_Mo_meeting 9 = .ok (.getfield 126, 3) := by decide +kernel
theorem d_Mo_meeting_12 : decode b_Mo_meeting 12 = .ok (.if_icmp .ge 61, 3) := by decide +kernel
theorem d_Mo_meeting_15 : decode b_Mo_meeting 15 = .ok (.aload_n 0, 1) := by decide +kernel
theorem d_Mo_meeting_16 : decode b_Mo_meeting 16 = .ok (.getfield 50, 3) := by decide +kernel
theorem d_Mo_meeting_19 : decode b_Mo_meeting 19 = .ok (.iload 5, 2) := by decide +kernel
theorem d_Mo_meeting_21 : decode b_Mo_meeting 21 = .ok (.baload, 1) := by decide +kernel
theorem d_Mo_meeting_22 : decode b_Mo_meeting 22 = .ok (.ifCond .eq 41, 3) := by decide +kernel
theorem d_Mo_meeting_25 : decode b_Mo_meeting 25 = .ok (.aload_n 0, 1) := by decide +kernel
theorem d_Mo_meeting_26 : decode b_Mo_meeting 26 = .ok (.getfield 38, 3) := by decide +kernel
theorem d_Mo_meeting_29 : decode b_Mo_meeting 29 = .ok (.iload 5, 2) := by decide +kernel
theorem d_Mo_meeting_31 : decode b_Mo_meeting 31 = .ok (.iaload, 1) := by decide +kernel
theorem d_Mo_meeting_32 : decode b_Mo_meeting 32 = .ok (.iload_n 1, 1) := by decide +kernel
theorem d_Mo_meeting_33 : decode b_Mo_meeting 33 = .ok (.if_icmp .ne 30, 3) := by decide +kernel
theorem d_Mo_meeting_36 : decode b_Mo_meeting 36 = .ok (.aload_n 0, 1) := by decide +kernel
theorem d_Mo_meeting_37 : decode b_Mo_meeting 37 = .ok (.getfield 41, 3) := by decide +kernel
theorem d_Mo_meeting_40 : decode b_Mo_meeting 40 = .ok (.iload 5, 2) := by decide +kernel
theorem d_Mo_meeting_42 : decode b_Mo_meeting 42 = .ok (.iaload, 1) := by decide +kernel
theorem d_Mo_meeting_43 : decode b_Mo_meeting 43 = .ok (.iload_n 3, 1) := by decide +kernel
theorem d_Mo_meeting_44 : decode b_Mo_meeting 44 = .ok (.if_icmp .ge 19, 3) := by decide +kernel
theorem d_Mo_meeting_47 : decode b_Mo_meeting 47 = .ok (.iload_n 2, 1) := by decide +kernel
theorem d_Mo_meeting_48 : decode b_Mo_meeting 48 = .ok (.aload_n 0, 1) := by decide +kernel
theorem d_Mo_meeting_49 : decode b_Mo_meeting 49 = .ok (.getfield 44, 3) := by decide +kernel
theorem d_Mo_meeting_52 : decode b_Mo_meeting 52 = .ok (.iload 5, 2) := by decide +kernel
theorem d_Mo_meeting_54 : decode b_Mo_meeting 54 = .ok (.iaload, 1) := by decide +kernel
theorem d_Mo_meeting_55 : decode b_Mo_meeting 55 = .ok (.if_icmp .ge 8, 3) := by decide +kernel
theorem d_Mo_meeting_58 : decode b_Mo_meeting 58 = .ok (.iload 5, 2) := by decide +kernel
theorem d_Mo_meeting_60 : decode b_Mo_meeting 60 = .ok (.goto 5, 3) := by decide +kernel
theorem d_Mo_meeting_63 : decode b_Mo_meeting 63 = .ok (.iload 4, 2) := by decide +kernel
theorem d_Mo_meeting_65 : decode b_Mo_meeting 65 = .ok (.istore 4, 2) := by decide +kernel
theorem d_Mo_meeting_67 : decode b_Mo_meeting 67 = .ok (.iinc 5 1, 3) := by decide +kernel
theorem d_Mo_meeting_70 : decode b_Mo_meeting 70 = .ok (.goto (-64), 3) := by decide +kernel
theorem d_Mo_meeting_73 : decode b_Mo_meeting 73 = .ok (.iload 4, 2) := by decide +kernel
theorem d_Mo_meeting_75 : decode b_Mo_meeting 75 = .ok (.ireturn, 1) := by decide +kernel
theorem d_Mo_book_0 : decode b_Mo_book 0 = .ok (.aload_n 0, 1) := by decide +kernel
theorem d_Mo_book_1 : decode b_Mo_book 1 = .ok (.iload_n 3, 1) := by decide +kernel
theorem d_Mo_book_2 : decode b_Mo_book 2 = .ok (.iconst 1, 1) := by decide +kernel
theorem d_Mo_book_3 : decode b_Mo_book 3 = .ok (.sipush 200, 3) := by decide +kernel
theorem d_Mo_book_6 : decode b_Mo_book 6 = .ok (.invokestatic 63, 3) := by decide +kernel
theorem d_Mo_book_9 : decode b_Mo_book 9 = .ok (.ifCond .eq 30, 3) := by decide +kernel
theorem d_Mo_book_12 : decode b_Mo_book 12 = .ok (.iload_n 1, 1) := by decide +kernel
theorem d_Mo_book_13 : decode b_Mo_book 13 = .ok (.iconst 0, 1) := by decide +kernel
theorem d_Mo_book_14 : decode b_Mo_book 14 = .ok (.sipush 10080, 3) := by decide +kernel
theorem d_Mo_book_17 : decode b_Mo_book 17 = .ok (.invokestatic 63, 3) := by decide +kernel
theorem d_Mo_book_20 : decode b_Mo_book 20 = .ok (.ifCond .eq 19, 3) := by decide +kernel
theorem d_Mo_book_23 : decode b_Mo_book 23 = .ok (.iload_n 2, 1) := by decide +kernel
theorem d_Mo_book_24 : decode b_Mo_book 24 = .ok (.iconst 0, 1) := by decide +kernel
theorem d_Mo_book_25 : decode b_Mo_book 25 = .ok (.sipush 10080, 3) := by decide +kernel
theorem d_Mo_book_28 : decode b_Mo_book 28 = .ok (.invokestatic 63, 3) := by decide +kernel
theorem d_Mo_book_31 : decode b_Mo_book 31 = .ok (.ifCond .eq 8, 3) := by decide +kernel
theorem d_Mo_book_34 : decode b_Mo_book 34 = .ok (.iload_n 1, 1) := by decide +kernel
theorem d_Mo_book_35 : decode b_Mo_book 35 = .ok (.iload_n 2, 1) := by decide +kernel
theorem d_Mo_book_36 : decode b_Mo_book 36 = .ok (.if_icmp .lt 7, 3) := by decide +kernel
theorem d_Mo_book_39 : decode b_Mo_book 39 = .ok (.iconst 1, 1) := by decide +kernel
theorem d_Mo_book_40 : decode b_Mo_book 40 = .ok (.goto 18, 3) := by decide +kernel
theorem d_Mo_book_43 : decode b_Mo_book 43 = .ok (.aload_n 0, 1) := by decide +kernel
theorem d_Mo_book_44 : decode b_Mo_book 44 = .ok (.getfield 126, 3) := by decide +kernel
theorem d_Mo_book_47 : decode b_Mo_book 47 = .ok (.sipush 300, 3) := by decide +kernel
theorem d_Mo_book_50 : decode b_Mo_book 50 = .ok (.if_icmp .ne 7, 3) := by decide +kernel
theorem d_Mo_book_53 : decode b_Mo_book 53 = .ok (.iconst 2, 1) := by decide +kernel
theorem d_Mo_book_54 : decode b_Mo_book 54 = .ok (.goto 4, 3) := by decide +kernel
theorem d_Mo_book_57 : decode b_Mo_book 57 = .ok (.iconst 0, 1) := by decide +kernel
theorem d_Mo_book_58 : decode b_Mo_book 58 = .ok (.putfield 57, 3) := by decide +kernel
theorem d_Mo_book_61 : decode b_Mo_book 61 = .ok (.aload_n 0, 1) := by decide +kernel
theorem d_Mo_book_62 : decode b_Mo_book 62 = .ok (.getfield 57, 3) := by decide +kernel
theorem d_Mo_book_65 : decode b_Mo_book 65 = .ok (.ifCond .le 5, 3) := by decide +kernel
theorem d_Mo_book_68 : decode b_Mo_book 68 = .ok (.iconst 0, 1) := by decide +kernel
theorem d_Mo_book_69 : decode b_Mo_book 69 = .ok (.ireturn, 1) := by decide +kernel
theorem d_Mo_book_70 : decode b_Mo_book 70 = .ok (.iconst (-1), 1) := by decide +kernel
theorem d_Mo_book_71 : decode b_Mo_book 71 = .ok (.istore 4, 2) := by decide +kernel
theorem d_Mo_book_73 : decode b_Mo_book 73 = .ok (.iconst 0, 1) := by decide +kernel
theorem d_Mo_book_74 : decode b_Mo_book 74 = .ok (.istore 5, 2) := by decide +kernel
theorem d_Mo_book_76 : decode b_Mo_book 76 = .ok (.iload 5, 2) := by decide +kernel
theorem d_Mo_book_78 : decode b_Mo_book 78 = .ok (.aload_n 0, 1) := by decide +kernel
theorem d_Mo_book_79 : decode b_Mo_book 79 = .ok (.getfield 67, 3) := by decide +kernel
theorem d_Mo_book_82 : decode b_Mo_book 82 = .ok (.if_icmp .ge 59, 3) := by decide +kernel
theorem d_Mo_book_85 : decode b_Mo_book 85 = .ok (.aload_n 0, 1) := by decide +kernel
theorem d_Mo_book_86 : decode b_Mo_book 86 = .ok (.getfield 35, 3) := by decide +kernel
theorem d_Mo_book_89 : decode b_Mo_book 89 = .ok (.iload 5, 2) := by decide +kernel
theorem d_Mo_book_91 : decode b_Mo_book 91 = .ok (.iaload, 1) := by decide +kernel
theorem d_Mo_book_92 : decode b_Mo_book 92 = .ok (.iload_n 3, 1) := by decide +kernel
theorem d_Mo_book_93 : decode b_Mo_book 93 = .ok (.if_icmp .lt 42, 3) := by decide +kernel
theorem d_Mo_book_96 : decode b_Mo_book 96 = .ok (.iload 4, 2) := by decide +kernel
theorem d_Mo_book_98 : decode b_Mo_book 98 = .ok (.iconst (-1), 1) := by decide +kernel
theorem d_Mo_book_99 : decode b_Mo_book 99 = .ok (.if_icmp .eq 20, 3) := by decide +kernel
theorem d_Mo_book_102 : decode b_Mo_book 102 = .ok (.aload_n 0, 1) := by decide +kernel
theorem d_Mo_book_103 : decode b_Mo_book 103 = .ok (.getfield 35, 3) := by decide +kernel
theorem d_Mo_book_106 : decode b_Mo_book 106 = .ok (.iload 5, 2) := by decide +kernel
theorem d_Mo_book_108 : decode b_Mo_book 108 = .ok (.iaload, 1) := by decide +kernel
theorem d_Mo_book_109 : decode b_Mo_book 109 = .ok (.aload_n 0, 1) := by decide +kernel
theorem d_Mo_book_110 : decode b_Mo_book 110 = .ok (.getfield 35, 3) := by decide +kernel
theorem d_Mo_book_113 : decode b_Mo_book 113 = .ok (.iload 4, 2) := by decide +kernel
theorem d_Mo_book_115 : decode b_Mo_book 115 = .ok (.iaload, 1) := by decide +kernel
theorem d_Mo_book_116 : decode b_Mo_book 116 = .ok (.if_icmp .ge 19, 3) := by decide +kernel
theorem d_Mo_book_119 : decode b_Mo_book 119 = .ok (.aload_n 0, 1) := by decide +kernel
theorem d_Mo_book_120 : decode b_Mo_book 120 = .ok (.iload 5, 2) := by decide +kernel
theorem d_Mo_book_122 : decode b_Mo_book 122 = .ok (.iload_n 1, 1) := by decide +kernel
theorem d_Mo_book_123 : decode b_Mo_book 123 = .ok (.iload_n 2, 1) := by decide +kernel
theorem d_Mo_book_124 : decode b_Mo_book 124 = .ok (.invokevirtual 129, 3) := by decide +kernel
theorem d_Mo_book_127 : decode b_Mo_book 127 = .ok (.iconst (-1), 1) := by decide +kernel
theorem d_Mo_book_128 : decode b_Mo_book 128 = .ok (.if_icmp .ne 7, 3) := by decide +kernel
theorem d_Mo_book_131 : decode b_Mo_book 131 = .ok (.iload 5, 2) := by decide +kernel
theorem d_Mo_book_133 : decode b_Mo_book 133 = .ok (.istore 4, 2) := by decide +kernel
theorem d_Mo_book_135 : decode b_Mo_book 135 = .ok (.iinc 5 1, 3) := by decide +kernel
theorem d_Mo_book_138 : decode b_Mo_book 138 = .ok (.goto (-62), 3) := by decide +kernel
theorem d_Mo_book_141 : decode b_Mo_book 141 = .ok (.iload 4, 2) := by decide +kernel
theorem d_Mo_book_143 : decode b_Mo_book 143 = .ok (.iconst (-1), 1) := by decide +kernel
theorem d_Mo_book_144 : decode b_Mo_book 144 = .ok (.if_icmp .ne 5, 3) := by decide +kernel
theorem d_Mo_book_147 : decode b_Mo_book 147 = .ok (.iconst (-1), 1) := by decide +kernel
theorem d_Mo_book_148 : decode b_Mo_book 148 = .ok (.ireturn, 1) := by decide +kernel
theorem d_Mo_book_149 : decode b_Mo_book 149 = .ok (.aload_n 0, 1) := by decide +kernel
theorem d_Mo_book_150 : decode b_Mo_book 150 = .ok (.getfield 38, 3) := by decide +kernel
theorem d_Mo_book_153 : decode b_Mo_book 153 = .ok (.aload_n 0, 1) := by decide +kernel
theorem d_Mo_book_154 : decode b_Mo_book 154 = .ok (.getfield 126, 3) := by decide +kernel
theorem d_Mo_book_157 : decode b_Mo_book 157 = .ok (.iload 4, 2) := by decide +kernel
theorem d_Mo_book_159 : decode b_Mo_book 159 = .ok (.iastore, 1) := by decide +kernel
theorem d_Mo_book_160 : decode b_Mo_book 160 = .ok (.aload_n 0, 1) := by decide +kernel
theorem d_Mo_book_161 : decode b_Mo_book 161 = .ok (.getfield 41, 3) := by decide +kernel
theorem d_Mo_book_164 : decode b_Mo_book 164 = .ok (.aload_n 0, 1) := by decide +kernel
theorem d_Mo_book_165 : decode b_Mo_book 165 = .ok (.getfield 126, 3) := by decide +kernel
theorem d_Mo_book_168 : decode b_Mo_book 168 = .ok (.iload_n 1, 1) := by decide +kernel
theorem d_Mo_book_169 : decode b_Mo_book 169 = .ok (.iastore, 1) := by decide +kernel
theorem d_Mo_book_170 : decode b_Mo_book 170 = .ok (.aload_n 0, 1) := by decide +kernel
theorem d_Mo_book_171 : decode b_Mo_book 171 = .ok (.getfield 44, 3) := by decide +kernel
theorem d_Mo_book_174 : decode b_Mo_book 174 = .ok (.aload_n 0, 1) := by decide +kernel
theorem d_Mo_book_175 : decode b_Mo_book 175 = .ok (.getfield 126, 3) := by decide +kernel
theorem d_Mo_book_178 : decode b_Mo_book 178 = .ok (.iload_n 2, 1) := by decide +kernel
theorem d_Mo_book_179 : decode b_Mo_book 179 = .ok (.iastore, 1) := by decide +kernel
theorem d_Mo_book_180 : decode b_Mo_book 180 = .ok (.aload_n 0, 1) := by decide +kernel
theorem d_Mo_book_181 : decode b_Mo_book 181 = .ok (.getfield 47, 3) := by decide +kernel
theorem d_Mo_book_184 : decode b_Mo_book 184 = .ok (.aload_n 0, 1) := by decide +kernel
theorem d_Mo_book_185 : decode b_Mo_book 185 = .ok (.getfield 126, 3) := by decide +kernel
theorem d_Mo_book_188 : decode b_Mo_book 188 = .ok (.aload_n 0, 1) := by decide +kernel
theorem d_Mo_book_189 : decode b_Mo_book 189 = .ok (.getfield 35, 3) := by decide +kernel
theorem d_Mo_book_192 : decode b_Mo_book 192 = .ok (.iload 4, 2) := by decide +kernel
theorem d_Mo_book_194 : decode b_Mo_book 194 = .ok (.iaload, 1) := by decide +kernel
theorem d_Mo_book_195 : decode b_Mo_book 195 = .ok (.iload_n 3, 1) := by decide +kernel
theorem d_Mo_book_196 : decode b_Mo_book 196 = .ok (.isub, 1) := by decide +kernel
theorem d_Mo_book_197 : decode b_Mo_book 197 = .ok (.iastore, 1) := by decide +kernel
theorem d_Mo_book_198 : decode b_Mo_book 198 = .ok (.aload_n 0, 1) := by decide +kernel
theorem d_Mo_book_199 : decode b_Mo_book 199 = .ok (.getfield 50, 3) := by decide +kernel
theorem d_Mo_book_202 : decode b_Mo_book 202 = .ok (.aload_n 0, 1) := by decide +kernel
theorem d_Mo_book_203 : decode b_Mo_book 203 = .ok (.getfield 126, 3) := by decide +kernel
theorem d_Mo_book_206 : decode b_Mo_book 206 = .ok (.iconst 1, 1) := by decide +kernel
theorem d_Mo_book_207 : decode b_Mo_book 207 = .ok (.bastore, 1) := by decide +kernel
theorem d_Mo_book_208 : decode b_Mo_book 208 = .ok (.aload_n 0, 1) := by decide +kernel
theorem d_Mo_book_209 : decode b_Mo_book 209 = .ok (.dup, 1) := by decide +kernel
theorem d_Mo_book_210 : decode b_Mo_book 210 = .ok (.getfield 126, 3) := by decide +kernel
theorem d_Mo_book_213 : decode b_Mo_book 213 = .ok (.iconst 1, 1) := by decide +kernel
theorem d_Mo_book_214 : decode b_Mo_book 214 = .ok (.iadd, 1) := by decide +kernel
theorem d_Mo_book_215 : decode b_Mo_book 215 = .ok (.putfield 126, 3) := by decide +kernel
theorem d_Mo_book_218 : decode b_Mo_book 218 = .ok (.aload_n 0, 1) := by decide +kernel
theorem d_Mo_book_219 : decode b_Mo_book 219 = .ok (.getfield 126, 3) := by decide +kernel
theorem d_Mo_book_222 : decode b_Mo_book 222 = .ok (.iconst 1, 1) := by decide +kernel
theorem d_Mo_book_223 : decode b_Mo_book 223 = .ok (.isub, 1) := by decide +kernel
theorem d_Mo_book_224 : decode b_Mo_book 224 = .ok (.ireturn, 1) := by decide +kernel
theorem d_Mo_cancel_0 : decode b_Mo_cancel 0 = .ok (.aload_n 0, 1) := by decide +kernel
theorem d_Mo_cancel_1 : decode b_Mo_cancel 1 = .ok (.iload_n 1, 1) := by decide +kernel
theorem d_Mo_cancel_2 : decode b_Mo_cancel 2 = .ok (.iconst 0, 1) := by decide +kernel
theorem d_Mo_cancel_3 : decode b_Mo_cancel 3 = .ok (.aload_n 0, 1) := by decide +kernel
theorem d_Mo_cancel_4 : decode b_Mo_cancel 4 = .ok (.getfield 126, 3) := by decide +kernel
theorem d_Mo_cancel_7 : decode b_Mo_cancel 7 = .ok (.iconst 1, 1) := by decide +kernel
theorem d_Mo_cancel_8 : decode b_Mo_cancel 8 = .ok (.isub, 1) := by decide +kernel
theorem d_Mo_cancel_9 : decode b_Mo_cancel 9 = .ok (.invokestatic 63, 3) := by decide +kernel
theorem d_Mo_cancel_12 : decode b_Mo_cancel 12 = .ok (.ifCond .eq 7, 3) := by decide +kernel
theorem d_Mo_cancel_15 : decode b_Mo_cancel 15 = .ok (.iconst 0, 1) := by decide +kernel
theorem d_Mo_cancel_16 : decode b_Mo_cancel 16 = .ok (.goto 4, 3) := by decide +kernel
theorem d_Mo_cancel_19 : decode b_Mo_cancel 19 = .ok (.iconst 1, 1) := by decide +kernel
theorem d_Mo_cancel_20 : decode b_Mo_cancel 20 = .ok (.putfield 57, 3) := by decide +kernel
theorem d_Mo_cancel_23 : decode b_Mo_cancel 23 = .ok (.aload_n 0, 1) := by decide +kernel
theorem d_Mo_cancel_24 : decode b_Mo_cancel 24 = .ok (.getfield 57, 3) := by decide +kernel
theorem d_Mo_cancel_27 : decode b_Mo_cancel 27 = .ok (.ifCond .le 5, 3) := by decide +kernel
theorem d_Mo_cancel_30 : decode b_Mo_cancel 30 = .ok (.iconst 0, 1) := by decide +kernel
theorem d_Mo_cancel_31 : decode b_Mo_cancel 31 = .ok (.ireturn, 1) := by decide +kernel
theorem d_Mo_cancel_32 : decode b_Mo_cancel 32 = .ok (.aload_n 0, 1) := by decide +kernel
theorem d_Mo_cancel_33 : decode b_Mo_cancel 33 = .ok (.getfield 50, 3) := by decide +kernel
theorem d_Mo_cancel_36 : decode b_Mo_cancel 36 = .ok (.iload_n 1, 1) := by decide +kernel
theorem d_Mo_cancel_37 : decode b_Mo_cancel 37 = .ok (.baload, 1) := by decide +kernel
theorem d_Mo_cancel_38 : decode b_Mo_cancel 38 = .ok (.istore_n 2, 1) := by decide +kernel
theorem d_Mo_cancel_39 : decode b_Mo_cancel 39 = .ok (.aload_n 0, 1) := by decide +kernel
theorem d_Mo_cancel_40 : decode b_Mo_cancel 40 = .ok (.getfield 50, 3) := by decide +kernel
theorem d_Mo_cancel_43 : decode b_Mo_cancel 43 = .ok (.iload_n 1, 1) := by decide +kernel
theorem d_Mo_cancel_44 : decode b_Mo_cancel 44 = .ok (.iconst 0, 1) := by decide +kernel
theorem d_Mo_cancel_45 : decode b_Mo_cancel 45 = .ok (.bastore, 1) := by decide +kernel
theorem d_Mo_cancel_46 : decode b_Mo_cancel 46 = .ok (.iload_n 2, 1) := by decide +kernel
theorem d_Mo_cancel_47 : decode b_Mo_cancel 47 = .ok (.ireturn, 1) := by decide +kernel
theorem d_Mo_roomOf_0 : decode b_Mo_roomOf 0 = .ok (.aload_n 0, 1) := by decide +kernel
theorem d_Mo_roomOf_1 : decode b_Mo_roomOf 1 = .ok (.iload_n 1, 1) := by decide +kernel
theorem d_Mo_roomOf_2 : decode b_Mo_roomOf 2 = .ok (.iconst 0, 1) := by decide +kernel
theorem d_Mo_roomOf_3 : decode b_Mo_roomOf 3 = .ok (.aload_n 0, 1) := by decide +kernel
theorem d_Mo_roomOf_4 : decode b_Mo_roomOf 4 = .ok (.getfield 126, 3) := by decide +kernel
theorem d_Mo_roomOf_7 : decode b_Mo_roomOf 7 = .ok (.iconst 1, 1) := by decide +kernel
theorem d_Mo_roomOf_8 : decode b_Mo_roomOf 8 = .ok (.isub, 1) := by decide +kernel
theorem d_Mo_roomOf_9 : decode b_Mo_roomOf 9 = .ok (.invokestatic 63, 3) := by decide +kernel
theorem d_Mo_roomOf_12 : decode b_Mo_roomOf 12 = .ok (.ifCond .eq 7, 3) := by decide +kernel
theorem d_Mo_roomOf_15 : decode b_Mo_roomOf 15 = .ok (.iconst 0, 1) := by decide +kernel
theorem d_Mo_roomOf_16 : decode b_Mo_roomOf 16 = .ok (.goto 4, 3) := by decide +kernel
theorem d_Mo_roomOf_19 : decode b_Mo_roomOf 19 = .ok (.iconst 1, 1) := by decide +kernel
theorem d_Mo_roomOf_20 : decode b_Mo_roomOf 20 = .ok (.putfield 57, 3) := by decide +kernel
theorem d_Mo_roomOf_23 : decode b_Mo_roomOf 23 = .ok (.aload_n 0, 1) := by decide +kernel
theorem d_Mo_roomOf_24 : decode b_Mo_roomOf 24 = .ok (.getfield 57, 3) := by decide +kernel
theorem d_Mo_roomOf_27 : decode b_Mo_roomOf 27 = .ok (.ifCond .le 7, 3) := by decide +kernel
theorem d_Mo_roomOf_30 : decode b_Mo_roomOf 30 = .ok (.iconst 0, 1) := by decide +kernel
theorem d_Mo_roomOf_31 : decode b_Mo_roomOf 31 = .ok (.goto 9, 3) := by decide +kernel
theorem d_Mo_roomOf_34 : decode b_Mo_roomOf 34 = .ok (.aload_n 0, 1) := by decide +kernel
theorem d_Mo_roomOf_35 : decode b_Mo_roomOf 35 = .ok (.getfield 38, 3) := by decide +kernel
theorem d_Mo_roomOf_38 : decode b_Mo_roomOf 38 = .ok (.iload_n 1, 1) := by decide +kernel
theorem d_Mo_roomOf_39 : decode b_Mo_roomOf 39 = .ok (.iaload, 1) := by decide +kernel
theorem d_Mo_roomOf_40 : decode b_Mo_roomOf 40 = .ok (.ireturn, 1) := by decide +kernel
theorem d_Mo_inside_0 : decode b_Mo_inside 0 = .ok (.aload_n 0, 1) := by decide +kernel
theorem d_Mo_inside_1 : decode b_Mo_inside 1 = .ok (.aload_n 0, 1) := by decide +kernel
theorem d_Mo_inside_2 : decode b_Mo_inside 2 = .ok (.iload_n 1, 1) := by decide +kernel
theorem d_Mo_inside_3 : decode b_Mo_inside 3 = .ok (.invokevirtual 133, 3) := by decide +kernel
theorem d_Mo_inside_6 : decode b_Mo_inside 6 = .ok (.ifCond .eq 18, 3) := by decide +kernel
theorem d_Mo_inside_9 : decode b_Mo_inside 9 = .ok (.iload_n 2, 1) := by decide +kernel
theorem d_Mo_inside_10 : decode b_Mo_inside 10 = .ok (.iconst 0, 1) := by decide +kernel
theorem d_Mo_inside_11 : decode b_Mo_inside 11 = .ok (.sipush 10079, 3) := by decide +kernel
theorem d_Mo_inside_14 : decode b_Mo_inside 14 = .ok (.invokestatic 63, 3) := by decide +kernel
theorem d_Mo_inside_17 : decode b_Mo_inside 17 = .ok (.ifCond .eq 7, 3) := by decide +kernel
theorem d_Mo_inside_20 : decode b_Mo_inside 20 = .ok (.iconst 0, 1) := by decide +kernel
theorem d_Mo_inside_21 : decode b_Mo_inside 21 = .ok (.goto 4, 3) := by decide +kernel
theorem d_Mo_inside_24 : decode b_Mo_inside 24 = .ok (.iconst 1, 1) := by decide +kernel
theorem d_Mo_inside_25 : decode b_Mo_inside 25 = .ok (.putfield 57, 3) := by decide +kernel
theorem d_Mo_inside_28 : decode b_Mo_inside 28 = .ok (.aload_n 0, 1) := by decide +kernel
theorem d_Mo_inside_29 : decode b_Mo_inside 29 = .ok (.getfield 57, 3) := by decide +kernel
theorem d_Mo_inside_32 : decode b_Mo_inside 32 = .ok (.ifCond .le 7, 3) := by decide +kernel
theorem d_Mo_inside_35 : decode b_Mo_inside 35 = .ok (.iconst 0, 1) := by decide +kernel
theorem d_Mo_inside_36 : decode b_Mo_inside 36 = .ok (.goto 12, 3) := by decide +kernel
theorem d_Mo_inside_39 : decode b_Mo_inside 39 = .ok (.aload_n 0, 1) := by decide +kernel
theorem d_Mo_inside_40 : decode b_Mo_inside 40 = .ok (.iload_n 1, 1) := by decide +kernel
theorem d_Mo_inside_41 : decode b_Mo_inside 41 = .ok (.iload_n 2, 1) := by decide +kernel
theorem d_Mo_inside_42 : decode b_Mo_inside 42 = .ok (.iload_n 2, 1) := by decide +kernel
theorem d_Mo_inside_43 : decode b_Mo_inside 43 = .ok (.iconst 1, 1) := by decide +kernel
theorem d_Mo_inside_44 : decode b_Mo_inside 44 = .ok (.iadd, 1) := by decide +kernel
theorem d_Mo_inside_45 : decode b_Mo_inside 45 = .ok (.invokevirtual 129, 3) := by decide +kernel
theorem d_Mo_inside_48 : decode b_Mo_inside 48 = .ok (.ireturn, 1) := by decide +kernel
theorem d_Mo_gap_0 : decode b_Mo_gap 0 = .ok (.aload_n 0, 1) := by decide +kernel
theorem d_Mo_gap_1 : decode b_Mo_gap 1 = .ok (.aload_n 0, 1) := by decide +kernel
theorem d_Mo_gap_2 : decode b_Mo_gap 2 = .ok (.iload_n 1, 1) := by decide +kernel
theorem d_Mo_gap_3 : decode b_Mo_gap 3 = .ok (.invokevirtual 133, 3) := by decide +kernel
theorem d_Mo_gap_6 : decode b_Mo_gap 6 = .ok (.ifCond .eq 29, 3) := by decide +kernel
theorem d_Mo_gap_9 : decode b_Mo_gap 9 = .ok (.iload_n 2, 1) := by decide +kernel
theorem d_Mo_gap_10 : decode b_Mo_gap 10 = .ok (.iconst 0, 1) := by decide +kernel
theorem d_Mo_gap_11 : decode b_Mo_gap 11 = .ok (.sipush 10079, 3) := by decide +kernel
theorem d_Mo_gap_14 : decode b_Mo_gap 14 = .ok (.invokestatic 63, 3) := by decide +kernel
theorem d_Mo_gap_17 : decode b_Mo_gap 17 = .ok (.ifCond .eq 18, 3) := by decide +kernel
theorem d_Mo_gap_20 : decode b_Mo_gap 20 = .ok (.iload_n 3, 1) := by decide +kernel
theorem d_Mo_gap_21 : decode b_Mo_gap 21 = .ok (.iconst 1, 1) := by decide +kernel
theorem d_Mo_gap_22 : decode b_Mo_gap 22 = .ok (.sipush 10080, 3) := by decide +kernel
theorem d_Mo_gap_25 : decode b_Mo_gap 25 = .ok (.invokestatic 63, 3) := by decide +kernel
theorem d_Mo_gap_28 : decode b_Mo_gap 28 = .ok (.ifCond .eq 7, 3) := by decide +kernel
theorem d_Mo_gap_31 : decode b_Mo_gap 31 = .ok (.iconst 0, 1) := by decide +kernel
theorem d_Mo_gap_32 : decode b_Mo_gap 32 = .ok (.goto 4, 3) := by decide +kernel
theorem d_Mo_gap_35 : decode b_Mo_gap 35 = .ok (.iconst 1, 1) := by decide +kernel
theorem d_Mo_gap_36 : decode b_Mo_gap 36 = .ok (.putfield 57, 3) := by decide +kernel
theorem d_Mo_gap_39 : decode b_Mo_gap 39 = .ok (.aload_n 0, 1) := by decide +kernel
theorem d_Mo_gap_40 : decode b_Mo_gap 40 = .ok (.getfield 57, 3) := by decide +kernel
theorem d_Mo_gap_43 : decode b_Mo_gap 43 = .ok (.ifCond .le 5, 3) := by decide +kernel
theorem d_Mo_gap_46 : decode b_Mo_gap 46 = .ok (.iconst 0, 1) := by decide +kernel
theorem d_Mo_gap_47 : decode b_Mo_gap 47 = .ok (.ireturn, 1) := by decide +kernel
theorem d_Mo_gap_48 : decode b_Mo_gap 48 = .ok (.iload_n 2, 1) := by decide +kernel
theorem d_Mo_gap_49 : decode b_Mo_gap 49 = .ok (.istore 4, 2) := by decide +kernel
theorem d_Mo_gap_51 : decode b_Mo_gap 51 = .ok (.iload 4, 2) := by decide +kernel
theorem d_Mo_gap_53 : decode b_Mo_gap 53 = .ok (.iload_n 3, 1) := by decide +kernel
theorem d_Mo_gap_54 : decode b_Mo_gap 54 = .ok (.iadd, 1) := by decide +kernel
theorem d_Mo_gap_55 : decode b_Mo_gap 55 = .ok (.sipush 10080, 3) := by decide +kernel
theorem d_Mo_gap_58 : decode b_Mo_gap 58 = .ok (.if_icmp .gt 37, 3) := by decide +kernel
theorem d_Mo_gap_61 : decode b_Mo_gap 61 = .ok (.aload_n 0, 1) := by decide +kernel
theorem d_Mo_gap_62 : decode b_Mo_gap 62 = .ok (.iload_n 1, 1) := by decide +kernel
theorem d_Mo_gap_63 : decode b_Mo_gap 63 = .ok (.iload 4, 2) := by decide +kernel
theorem d_Mo_gap_65 : decode b_Mo_gap 65 = .ok (.iload 4, 2) := by decide +kernel
theorem d_Mo_gap_67 : decode b_Mo_gap 67 = .ok (.iload_n 3, 1) := by decide +kernel
theorem d_Mo_gap_68 : decode b_Mo_gap 68 = .ok (.iadd, 1) := by decide +kernel
theorem d_Mo_gap_69 : decode b_Mo_gap 69 = .ok (.invokevirtual 129, 3) := by decide +kernel
theorem d_Mo_gap_72 : decode b_Mo_gap 72 = .ok (.istore 5, 2) := by decide +kernel
theorem d_Mo_gap_74 : decode b_Mo_gap 74 = .ok (.iload 5, 2) := by decide +kernel
theorem d_Mo_gap_76 : decode b_Mo_gap 76 = .ok (.iconst (-1), 1) := by decide +kernel
theorem d_Mo_gap_77 : decode b_Mo_gap 77 = .ok (.if_icmp .ne 6, 3) := by decide +kernel
theorem d_Mo_gap_80 : decode b_Mo_gap 80 = .ok (.iload 4, 2) := by decide +kernel
theorem d_Mo_gap_82 : decode b_Mo_gap 82 = .ok (.ireturn, 1) := by decide +kernel
theorem d_Mo_gap_83 : decode b_Mo_gap 83 = .ok (.aload_n 0, 1) := by decide +kernel
theorem d_Mo_gap_84 : decode b_Mo_gap 84 = .ok (.getfield 44, 3) := by decide +kernel
theorem d_Mo_gap_87 : decode b_Mo_gap 87 = .ok (.iload 5, 2) := by decide +kernel
theorem d_Mo_gap_89 : decode b_Mo_gap 89 = .ok (.iaload, 1) := by decide +kernel
theorem d_Mo_gap_90 : decode b_Mo_gap 90 = .ok (.istore 4, 2) := by decide +kernel
theorem d_Mo_gap_92 : decode b_Mo_gap 92 = .ok (.goto (-41), 3) := by decide +kernel
theorem d_Mo_gap_95 : decode b_Mo_gap 95 = .ok (.iconst (-1), 1) := by decide +kernel
theorem d_Mo_gap_96 : decode b_Mo_gap 96 = .ok (.ireturn, 1) := by decide +kernel
theorem d_Mo_waste_0 : decode b_Mo_waste 0 = .ok (.aload_n 0, 1) := by decide +kernel
theorem d_Mo_waste_1 : decode b_Mo_waste 1 = .ok (.iconst 0, 1) := by decide +kernel
theorem d_Mo_waste_2 : decode b_Mo_waste 2 = .ok (.putfield 57, 3) := by decide +kernel
theorem d_Mo_waste_5 : decode b_Mo_waste 5 = .ok (.iconst 0, 1) := by decide +kernel
theorem d_Mo_waste_6 : decode b_Mo_waste 6 = .ok (.istore_n 1, 1) := by decide +kernel
theorem d_Mo_waste_7 : decode b_Mo_waste 7 = .ok (.iconst 0, 1) := by decide +kernel
theorem d_Mo_waste_8 : decode b_Mo_waste 8 = .ok (.istore_n 2, 1) := by decide +kernel
theorem d_Mo_waste_9 : decode b_Mo_waste 9 = .ok (.iload_n 2, 1) := by decide +kernel
theorem d_Mo_waste_10 : decode b_Mo_waste 10 = .ok (.aload_n 0, 1) := by decide +kernel
theorem d_Mo_waste_11 : decode b_Mo_waste 11 = .ok (.getfield 126, 3) := by decide +kernel
theorem d_Mo_waste_14 : decode b_Mo_waste 14 = .ok (.if_icmp .ge 31, 3) := by decide +kernel
theorem d_Mo_waste_17 : decode b_Mo_waste 17 = .ok (.aload_n 0, 1) := by decide +kernel
theorem d_Mo_waste_18 : decode b_Mo_waste 18 = .ok (.getfield 50, 3) := by decide +kernel
theorem d_Mo_waste_21 : decode b_Mo_waste 21 = .ok (.iload_n 2, 1) := by decide +kernel
theorem d_Mo_waste_22 : decode b_Mo_waste 22 = .ok (.baload, 1) := by decide +kernel
theorem d_Mo_waste_23 : decode b_Mo_waste 23 = .ok (.ifCond .eq 14, 3) := by decide +kernel
theorem d_Mo_waste_26 : decode b_Mo_waste 26 = .ok (.iload_n 1, 1) := by decide +kernel
theorem d_Mo_waste_27 : decode b_Mo_waste 27 = .ok (.aload_n 0, 1) := by decide +kernel
theorem d_Mo_waste_28 : decode b_Mo_waste 28 = .ok (.getfield 47, 3) := by decide +kernel
theorem d_Mo_waste_31 : decode b_Mo_waste 31 = .ok (.iload_n 2, 1) := by decide +kernel
theorem d_Mo_waste_32 : decode b_Mo_waste 32 = .ok (.iaload, 1) := by decide +kernel
theorem d_Mo_waste_33 : decode b_Mo_waste 33 = .ok (.iadd, 1) := by decide +kernel
theorem d_Mo_waste_34 : decode b_Mo_waste 34 = .ok (.goto 4, 3) := by decide +kernel
theorem d_Mo_waste_37 : decode b_Mo_waste 37 = .ok (.iload_n 1, 1) := by decide +kernel
theorem d_Mo_waste_38 : decode b_Mo_waste 38 = .ok (.istore_n 1, 1) := by decide +kernel
theorem d_Mo_waste_39 : decode b_Mo_waste 39 = .ok (.iinc 2 1, 3) := by decide +kernel
theorem d_Mo_waste_42 : decode b_Mo_waste 42 = .ok (.goto (-33), 3) := by decide +kernel
theorem d_Mo_waste_45 : decode b_Mo_waste 45 = .ok (.iload_n 1, 1) := by decide +kernel
theorem d_Mo_waste_46 : decode b_Mo_waste 46 = .ok (.ireturn, 1) := by decide +kernel
