theorem d_De_init_0 : decode b_De_init 0 = .ok (.aload_n 0, 1) := by decide +kernel
theorem d_De_init_1 : decode b_De_init 1 = .ok (.invokespecial 3, 3) := by decide +kernel
theorem d_De_init_4 : decode b_De_init 4 = .ok (.aload_n 0, 1) := by decide +kernel
theorem d_De_init_5 : decode b_De_init 5 = .ok (.bipush 10, 2) := by decide +kernel
theorem d_De_init_7 : decode b_De_init 7 = .ok (.anewarray 9, 3) := by decide +kernel
theorem d_De_init_10 : decode b_De_init 10 = .ok (.putfield 11, 3) := by decide +kernel
theorem d_De_init_13 : decode b_De_init 13 = .ok (.aload_n 0, 1) := by decide +kernel
theorem d_De_init_14 : decode b_De_init 14 = .ok (.new 15, 3) := by decide +kernel
theorem d_De_init_17 : decode b_De_init 17 = .ok (.dup, 1) := by decide +kernel
theorem d_De_init_18 : decode b_De_init 18 = .ok (.invokespecial 17, 3) := by decide +kernel
theorem d_De_init_21 : decode b_De_init 21 = .ok (.putfield 18, 3) := by decide +kernel
theorem d_De_init_24 : decode b_De_init 24 = .ok (.aload_n 0, 1) := by decide +kernel
theorem d_De_init_25 : decode b_De_init 25 = .ok (.new 22, 3) := by decide +kernel
theorem d_De_init_28 : decode b_De_init 28 = .ok (.dup, 1) := by decide +kernel
theorem d_De_init_29 : decode b_De_init 29 = .ok (.invokespecial 24, 3) := by decide +kernel
theorem d_De_init_32 : decode b_De_init 32 = .ok (.putfield 25, 3) := by decide +kernel
theorem d_De_init_35 : decode b_De_init 35 = .ok (.aload_n 0, 1) := by decide +kernel
theorem d_De_init_36 : decode b_De_init 36 = .ok (.bipush 8, 2) := by decide +kernel
theorem d_De_init_38 : decode b_De_init 38 = .ok (.anewarray 29, 3) := by decide +kernel
theorem d_De_init_41 : decode b_De_init 41 = .ok (.putfield 31, 3) := by decide +kernel
theorem d_De_init_44 : decode b_De_init 44 = .ok (.aload_n 0, 1) := by decide +kernel
theorem d_De_init_45 : decode b_De_init 45 = .ok (.sipush 300, 3) := by decide +kernel
theorem d_De_init_48 : decode b_De_init 48 = .ok (.anewarray 35, 3) := by decide +kernel
theorem d_De_init_51 : decode b_De_init 51 = .ok (.putfield 37, 3) := by decide +kernel
theorem d_De_init_54 : decode b_De_init 54 = .ok (.iconst 0, 1) := by decide +kernel
theorem d_De_init_55 : decode b_De_init 55 = .ok (.istore_n 1, 1) := by decide +kernel
theorem d_De_init_56 : decode b_De_init 56 = .ok (.iload_n 1, 1) := by decide +kernel
theorem d_De_init_57 : decode b_De_init 57 = .ok (.bipush 10, 2) := by decide +kernel
theorem d_De_init_59 : decode b_De_init 59 = .ok (.if_icmp .ge 23, 3) := by decide +kernel
theorem d_De_init_62 : decode b_De_init 62 = .ok (.aload_n 0, 1) := by decide +kernel
theorem d_De_init_63 : decode b_De_init 63 = .ok (.getfield 11, 3) := by decide +kernel
theorem d_De_init_66 : decode b_De_init 66 = .ok (.iload_n 1, 1) := by decide +kernel
theorem d_De_init_67 : decode b_De_init 67 = .ok (.new 9, 3) := by decide +kernel
theorem d_De_init_70 : decode b_De_init 70 = .ok (.dup, 1) := by decide +kernel
theorem d_De_init_71 : decode b_De_init 71 = .ok (.iload_n 1, 1) := by decide +kernel
theorem d_De_init_72 : decode b_De_init 72 = .ok (.invokespecial 41, 3) := by decide +kernel
theorem d_De_init_75 : decode b_De_init 75 = .ok (.aastore, 1) := by decide +kernel
theorem d_De_init_76 : decode b_De_init 76 = .ok (.iinc 1 1, 3) := by decide +kernel
theorem d_De_init_79 : decode b_De_init 79 = .ok (.goto (-23), 3) := by decide +kernel
theorem d_De_init_82 : decode b_De_init 82 = .ok (.iconst 0, 1) := by decide +kernel
theorem d_De_init_83 : decode b_De_init 83 = .ok (.istore_n 1, 1) := by decide +kernel
theorem d_De_init_84 : decode b_De_init 84 = .ok (.iload_n 1, 1) := by decide +kernel
theorem d_De_init_85 : decode b_De_init 85 = .ok (.bipush 8, 2) := by decide +kernel
theorem d_De_init_87 : decode b_De_init 87 = .ok (.if_icmp .ge 23, 3) := by decide +kernel
theorem d_De_init_90 : decode b_De_init 90 = .ok (.aload_n 0, 1) := by decide +kernel
theorem d_De_init_91 : decode b_De_init 91 = .ok (.getfield 31, 3) := by decide +kernel
theorem d_De_init_94 : decode b_De_init 94 = .ok (.iload_n 1, 1) := by decide +kernel
theorem d_De_init_95 : decode b_De_init 95 = .ok (.new 29, 3) := by decide +kernel
theorem d_De_init_98 : decode b_De_init 98 = .ok (.dup, 1) := by decide +kernel
theorem d_De_init_99 : decode b_De_init 99 = .ok (.iload_n 1, 1) := by decide +kernel
theorem d_De_init_100 : decode b_De_init 100 = .ok (.invokespecial 44, 3) := by decide +kernel
theorem d_De_init_103 : decode b_De_init 103 = .ok (.aastore, 1) := by decide +kernel
theorem d_De_init_104 : decode b_De_init 104 = .ok (.iinc 1 1, 3) := by decide +kernel
theorem d_De_init_107 : decode b_De_init 107 = .ok (.goto (-23), 3) := by decide +kernel
theorem d_De_init_110 : decode b_De_init 110 = .ok (.return_, 1) := by decide +kernel
theorem d_De_desk_0 : decode b_De_desk 0 = .ok (.aload_n 0, 1) := by decide +kernel
theorem d_De_desk_1 : decode b_De_desk 1 = .ok (.getfield 45, 3) := by decide +kernel
theorem d_De_desk_4 : decode b_De_desk 4 = .ok (.bipush 14, 2) := by decide +kernel
theorem d_De_desk_6 : decode b_De_desk 6 = .ok (.if_icmp .lt 13, 3) := by decide +kernel
theorem d_De_desk_9 : decode b_De_desk 9 = .ok (.new 49, 3) := by decide +kernel
theorem d_De_desk_12 : decode b_De_desk 12 = .ok (.dup, 1) := by decide +kernel
theorem d_De_desk_13 : decode b_De_desk 13 = .ok (.ldc 51, 2) := by decide +kernel
theorem d_De_desk_15 : decode b_De_desk 15 = .ok (.invokespecial 53, 3) := by decide +kernel
theorem d_De_desk_18 : decode b_De_desk 18 = .ok (.athrow, 1) := by decide +kernel
theorem d_De_desk_19 : decode b_De_desk 19 = .ok (.aload_n 0, 1) := by decide +kernel
theorem d_De_desk_20 : decode b_De_desk 20 = .ok (.iconst 0, 1) := by decide +kernel
theorem d_De_desk_21 : decode b_De_desk 21 = .ok (.putfield 56, 3) := by decide +kernel
theorem d_De_desk_24 : decode b_De_desk 24 = .ok (.aload_n 0, 1) := by decide +kernel
theorem d_De_desk_25 : decode b_De_desk 25 = .ok (.dup, 1) := by decide +kernel
theorem d_De_desk_26 : decode b_De_desk 26 = .ok (.getfield 45, 3) := by decide +kernel
theorem d_De_desk_29 : decode b_De_desk 29 = .ok (.iconst 1, 1) := by decide +kernel
theorem d_De_desk_30 : decode b_De_desk 30 = .ok (.iadd, 1) := by decide +kernel
theorem d_De_desk_31 : decode b_De_desk 31 = .ok (.putfield 45, 3) := by decide +kernel
theorem d_De_desk_34 : decode b_De_desk 34 = .ok (.aload_n 0, 1) := by decide +kernel
theorem d_De_desk_35 : decode b_De_desk 35 = .ok (.getfield 45, 3) := by decide +kernel
theorem d_De_desk_38 : decode b_De_desk 38 = .ok (.iconst 1, 1) := by decide +kernel
theorem d_De_desk_39 : decode b_De_desk 39 = .ok (.isub, 1) := by decide +kernel
theorem d_De_desk_40 : decode b_De_desk 40 = .ok (.ireturn, 1) := by decide +kernel
theorem d_De_person_0 : decode b_De_person 0 = .ok (.aload_n 0, 1) := by decide +kernel
theorem d_De_person_1 : decode b_De_person 1 = .ok (.getfield 60, 3) := by decide +kernel
theorem d_De_person_4 : decode b_De_person 4 = .ok (.bipush 10, 2) := by decide +kernel
theorem d_De_person_6 : decode b_De_person 6 = .ok (.if_icmp .lt 13, 3) := by decide +kernel
theorem d_De_person_9 : decode b_De_person 9 = .ok (.new 49, 3) := by decide +kernel
theorem d_De_person_12 : decode b_De_person 12 = .ok (.dup, 1) := by decide +kernel
theorem d_De_person_13 : decode b_De_person 13 = .ok (.ldc 63, 2) := by decide +kernel
theorem d_De_person_15 : decode b_De_person 15 = .ok (.invokespecial 53, 3) := by decide +kernel
theorem d_De_person_18 : decode b_De_person 18 = .ok (.athrow, 1) := by decide +kernel
theorem d_De_person_19 : decode b_De_person 19 = .ok (.aload_n 0, 1) := by decide +kernel
theorem d_De_person_20 : decode b_De_person 20 = .ok (.iconst 0, 1) := by decide +kernel
theorem d_De_person_21 : decode b_De_person 21 = .ok (.putfield 56, 3) := by decide +kernel
theorem d_De_person_24 : decode b_De_person 24 = .ok (.aload_n 0, 1) := by decide +kernel
theorem d_De_person_25 : decode b_De_person 25 = .ok (.dup, 1) := by decide +kernel
theorem d_De_person_26 : decode b_De_person 26 = .ok (.getfield 60, 3) := by decide +kernel
theorem d_De_person_29 : decode b_De_person 29 = .ok (.iconst 1, 1) := by decide +kernel
theorem d_De_person_30 : decode b_De_person 30 = .ok (.iadd, 1) := by decide +kernel
theorem d_De_person_31 : decode b_De_person 31 = .ok (.putfield 60, 3) := by decide +kernel
theorem d_De_person_34 : decode b_De_person 34 = .ok (.aload_n 0, 1) := by decide +kernel
theorem d_De_person_35 : decode b_De_person 35 = .ok (.getfield 60, 3) := by decide +kernel
theorem d_De_person_38 : decode b_De_person 38 = .ok (.iconst 1, 1) := by decide +kernel
theorem d_De_person_39 : decode b_De_person 39 = .ok (.isub, 1) := by decide +kernel
theorem d_De_person_40 : decode b_De_person 40 = .ok (.ireturn, 1) := by decide +kernel
theorem d_De_wish_0 : decode b_De_wish 0 = .ok (.aload_n 0, 1) := by decide +kernel
theorem d_De_wish_1 : decode b_De_wish 1 = .ok (.iload_n 1, 1) := by decide +kernel
theorem d_De_wish_2 : decode b_De_wish 2 = .ok (.invokevirtual 65, 3) := by decide +kernel
theorem d_De_wish_5 : decode b_De_wish 5 = .ok (.aload_n 0, 1) := by decide +kernel
theorem d_De_wish_6 : decode b_De_wish 6 = .ok (.iload_n 2, 1) := by decide +kernel
theorem d_De_wish_7 : decode b_De_wish 7 = .ok (.invokevirtual 68, 3) := by decide +kernel
theorem d_De_wish_10 : decode b_De_wish 10 = .ok (.iload_n 3, 1) := by decide +kernel
theorem d_De_wish_11 : decode b_De_wish 11 = .ok (.ifCond .lt 10, 3) := by decide +kernel
theorem d_De_wish_14 : decode b_De_wish 14 = .ok (.iload_n 3, 1) := by decide +kernel
theorem d_De_wish_15 : decode b_De_wish 15 = .ok (.sipush 1000, 3) := by decide +kernel
theorem d_De_wish_18 : decode b_De_wish 18 = .ok (.if_icmp .le 13, 3) := by decide +kernel
theorem d_De_wish_21 : decode b_De_wish 21 = .ok (.new 71, 3) := by decide +kernel
theorem d_De_wish_24 : decode b_De_wish 24 = .ok (.dup, 1) := by decide +kernel
theorem d_De_wish_25 : decode b_De_wish 25 = .ok (.ldc 73, 2) := by decide +kernel
theorem d_De_wish_27 : decode b_De_wish 27 = .ok (.invokespecial 75, 3) := by decide +kernel
theorem d_De_wish_30 : decode b_De_wish 30 = .ok (.athrow, 1) := by decide +kernel
theorem d_De_wish_31 : decode b_De_wish 31 = .ok (.aload_n 0, 1) := by decide +kernel
theorem d_De_wish_32 : decode b_De_wish 32 = .ok (.getfield 11, 3) := by decide +kernel
theorem d_De_wish_35 : decode b_De_wish 35 = .ok (.iload_n 1, 1) := by decide +kernel
theorem d_De_wish_36 : decode b_De_wish 36 = .ok (.aaload, 1) := by decide +kernel
theorem d_De_wish_37 : decode b_De_wish 37 = .ok (.getfield 76, 3) := by decide +kernel
theorem d_De_wish_40 : decode b_De_wish 40 = .ok (.iload_n 2, 1) := by decide +kernel
theorem d_De_wish_41 : decode b_De_wish 41 = .ok (.iaload, 1) := by decide +kernel
theorem d_De_wish_42 : decode b_De_wish 42 = .ok (.istore 4, 2) := by decide +kernel
theorem d_De_wish_44 : decode b_De_wish 44 = .ok (.aload_n 0, 1) := by decide +kernel
theorem d_De_wish_45 : decode b_De_wish 45 = .ok (.getfield 11, 3) := by decide +kernel
theorem d_De_wish_48 : decode b_De_wish 48 = .ok (.iload_n 1, 1) := by decide +kernel
theorem d_De_wish_49 : decode b_De_wish 49 = .ok (.aaload, 1) := by decide +kernel
theorem d_De_wish_50 : decode b_De_wish 50 = .ok (.getfield 76, 3) := by decide +kernel
theorem d_De_wish_53 : decode b_De_wish 53 = .ok (.iload_n 2, 1) := by decide +kernel
theorem d_De_wish_54 : decode b_De_wish 54 = .ok (.iload_n 3, 1) := by decide +kernel
theorem d_De_wish_55 : decode b_De_wish 55 = .ok (.iastore, 1) := by decide +kernel
theorem d_De_wish_56 : decode b_De_wish 56 = .ok (.aload_n 0, 1) := by decide +kernel
theorem d_De_wish_57 : decode b_De_wish 57 = .ok (.iconst 0, 1) := by decide +kernel
theorem d_De_wish_58 : decode b_De_wish 58 = .ok (.putfield 56, 3) := by decide +kernel
theorem d_De_wish_61 : decode b_De_wish 61 = .ok (.iload 4, 2) := by decide +kernel
theorem d_De_wish_63 : decode b_De_wish 63 = .ok (.ireturn, 1) := by decide +kernel
theorem d_De_bar_0 : decode b_De_bar 0 = .ok (.aload_n 0, 1) := by decide +kernel
theorem d_De_bar_1 : decode b_De_bar 1 = .ok (.iload_n 1, 1) := by decide +kernel
theorem d_De_bar_2 : decode b_De_bar 2 = .ok (.invokevirtual 65, 3) := by decide +kernel
theorem d_De_bar_5 : decode b_De_bar 5 = .ok (.aload_n 0, 1) := by decide +kernel
theorem d_De_bar_6 : decode b_De_bar 6 = .ok (.iload_n 2, 1) := by decide +kernel
theorem d_De_bar_7 : decode b_De_bar 7 = .ok (.invokevirtual 68, 3) := by decide +kernel
theorem d_De_bar_10 : decode b_De_bar 10 = .ok (.aload_n 0, 1) := by decide +kernel
theorem d_De_bar_11 : decode b_De_bar 11 = .ok (.getfield 11, 3) := by decide +kernel
theorem d_De_bar_14 : decode b_De_bar 14 = .ok (.iload_n 1, 1) := by decide +kernel
theorem d_De_bar_15 : decode b_De_bar 15 = .ok (.aaload, 1) := by decide +kernel
theorem d_De_bar_16 : decode b_De_bar 16 = .ok (.getfield 80, 3) := by decide +kernel
theorem d_De_bar_19 : decode b_De_bar 19 = .ok (.iload_n 2, 1) := by decide +kernel
theorem d_De_bar_20 : decode b_De_bar 20 = .ok (.baload, 1) := by decide +kernel
theorem d_De_bar_21 : decode b_De_bar 21 = .ok (.istore 4, 2) := by decide +kernel
theorem d_De_bar_23 : decode b_De_bar 23 = .ok (.aload_n 0, 1) := by decide +kernel
theorem d_De_bar_24 : decode b_De_bar 24 = .ok (.getfield 11, 3) := by decide +kernel
theorem d_De_bar_27 : decode b_De_bar 27 = .ok (.iload_n 1, 1) := by decide +kernel
theorem d_De_bar_28 : decode b_De_bar 28 = .ok (.aaload, 1) := by decide +kernel
theorem d_De_bar_29 : decode b_De_bar 29 = .ok (.getfield 80, 3) := by decide +kernel
theorem d_De_bar_32 : decode b_De_bar 32 = .ok (.iload_n 2, 1) := by decide +kernel
theorem d_De_bar_33 : decode b_De_bar 33 = .ok (.iload_n 3, 1) := by decide +kernel
theorem d_De_bar_34 : decode b_De_bar 34 = .ok (.bastore, 1) := by decide +kernel
theorem d_De_bar_35 : decode b_De_bar 35 = .ok (.aload_n 0, 1) := by decide +kernel
theorem d_De_bar_36 : decode b_De_bar 36 = .ok (.iconst 0, 1) := by decide +kernel
theorem d_De_bar_37 : decode b_De_bar 37 = .ok (.putfield 56, 3) := by decide +kernel
theorem d_De_bar_40 : decode b_De_bar 40 = .ok (.iload 4, 2) := by decide +kernel
theorem d_De_bar_42 : decode b_De_bar 42 = .ok (.ireturn, 1) := by decide +kernel
theorem d_De_sits_0 : decode b_De_sits 0 = .ok (.aload_n 0, 1) := by decide +kernel
theorem d_De_sits_1 : decode b_De_sits 1 = .ok (.iload_n 1, 1) := by decide +kernel
theorem d_De_sits_2 : decode b_De_sits 2 = .ok (.invokevirtual 65, 3) := by decide +kernel
theorem d_De_sits_5 : decode b_De_sits 5 = .ok (.iload_n 2, 1) := by decide +kernel
theorem d_De_sits_6 : decode b_De_sits 6 = .ok (.iconst (-1), 1) := by decide +kernel
theorem d_De_sits_7 : decode b_De_sits 7 = .ok (.if_icmp .eq 14, 3) := by decide +kernel
theorem d_De_sits_10 : decode b_De_sits 10 = .ok (.aload_n 0, 1) := by decide +kernel
theorem d_De_sits_11 : decode b_De_sits 11 = .ok (.iload_n 2, 1) := by decide +kernel
theorem d_De_sits_12 : decode b_De_sits 12 = .ok (.invokevirtual 68, 3) := by decide +kernel
theorem d_De_sits_15 : decode b_De_sits 15 = .ok (.aload_n 0, 1) := by decide +kernel
theorem d_De_sits_16 : decode b_De_sits 16 = .ok (.iload_n 1, 1) := by decide +kernel
theorem d_De_sits_17 : decode b_De_sits 17 = .ok (.iload_n 2, 1) := by decide +kernel
theorem d_De_sits_18 : decode b_De_sits 18 = .ok (.invokevirtual 84, 3) := by decide +kernel
theorem d_De_sits_21 : decode b_De_sits 21 = .ok (.aload_n 0, 1) := by decide +kernel
theorem d_De_sits_22 : decode b_De_sits 22 = .ok (.getfield 11, 3) := by decide +kernel
theorem d_De_sits_25 : decode b_De_sits 25 = .ok (.iload_n 1, 1) := by decide +kernel
theorem d_De_sits_26 : decode b_De_sits 26 = .ok (.aaload, 1) := by decide +kernel
theorem d_De_sits_27 : decode b_De_sits 27 = .ok (.getfield 88, 3) := by decide +kernel
theorem d_De_sits_30 : decode b_De_sits 30 = .ok (.istore_n 3, 1) := by decide +kernel
theorem d_De_sits_31 : decode b_De_sits 31 = .ok (.aload_n 0, 1) := by decide +kernel
theorem d_De_sits_32 : decode b_De_sits 32 = .ok (.getfield 11, 3) := by decide +kernel
theorem d_De_sits_35 : decode b_De_sits 35 = .ok (.iload_n 1, 1) := by decide +kernel
theorem d_De_sits_36 : decode b_De_sits 36 = .ok (.aaload, 1) := by decide +kernel
theorem d_De_sits_37 : decode b_De_sits 37 = .ok (.iload_n 2, 1) := by decide +kernel
theorem d_De_sits_38 : decode b_De_sits 38 = .ok (.putfield 88, 3) := by decide +kernel
theorem d_De_sits_41 : decode b_De_sits 41 = .ok (.aload_n 0, 1) := by decide +kernel
theorem d_De_sits_42 : decode b_De_sits 42 = .ok (.iconst 0, 1) := by decide +kernel
theorem d_De_sits_43 : decode b_De_sits 43 = .ok (.putfield 56, 3) := by decide +kernel
theorem d_De_sits_46 : decode b_De_sits 46 = .ok (.iload_n 3, 1) := by decide +kernel
theorem d_De_sits_47 : decode b_De_sits 47 = .ok (.ireturn, 1) := by decide +kernel
theorem d_De_seat_0 : decode b_De_seat 0 = .ok (.aload_n 0, 1) := by decide +kernel
theorem d_De_seat_1 : decode b_De_seat 1 = .ok (.getfield 18, 3) := by decide +kernel
theorem d_De_seat_4 : decode b_De_seat 4 = .ok (.aload_n 0, 1) := by decide +kernel
theorem d_De_seat_5 : decode b_De_seat 5 = .ok (.getfield 11, 3) := by decide +kernel
theorem d_De_seat_8 : decode b_De_seat 8 = .ok (.aload_n 0, 1) := by decide +kernel
theorem d_De_seat_9 : decode b_De_seat 9 = .ok (.getfield 60, 3) := by decide +kernel
theorem d_De_seat_12 : decode b_De_seat 12 = .ok (.iconst (-1), 1) := by decide +kernel
theorem d_De_seat_13 : decode b_De_seat 13 = .ok (.aload_n 0, 1) := by decide +kernel
theorem d_De_seat_14 : decode b_De_seat 14 = .ok (.getfield 45, 3) := by decide +kernel
theorem d_De_seat_17 : decode b_De_seat 17 = .ok (.invokevirtual 91, 3) := by decide +kernel
theorem d_De_seat_20 : decode b_De_seat 20 = .ok (.istore_n 1, 1) := by decide +kernel
theorem d_De_seat_21 : decode b_De_seat 21 = .ok (.iload_n 1, 1) := by decide +kernel
theorem d_De_seat_22 : decode b_De_seat 22 = .ok (.iconst (-1), 1) := by decide +kernel
theorem d_De_seat_23 : decode b_De_seat 23 = .ok (.if_icmp .ne 10, 3) := by decide +kernel
theorem d_De_seat_26 : decode b_De_seat 26 = .ok (.aload_n 0, 1) := by decide +kernel
theorem d_De_seat_27 : decode b_De_seat 27 = .ok (.iconst 0, 1) := by decide +kernel
theorem d_De_seat_28 : decode b_De_seat 28 = .ok (.putfield 56, 3) := by decide +kernel
theorem d_De_seat_31 : decode b_De_seat 31 = .ok (.iconst (-1), 1) := by decide +kernel
theorem d_De_seat_32 : decode b_De_seat 32 = .ok (.ireturn, 1) := by decide +kernel
theorem d_De_seat_33 : decode b_De_seat 33 = .ok (.aload_n 0, 1) := by decide +kernel
theorem d_De_seat_34 : decode b_De_seat 34 = .ok (.getfield 18, 3) := by decide +kernel
theorem d_De_seat_37 : decode b_De_seat 37 = .ok (.invokevirtual 95, 3) := by decide +kernel
theorem d_De_seat_40 : decode b_De_seat 40 = .ok (.aload_n 0, 1) := by decide +kernel
theorem d_De_seat_41 : decode b_De_seat 41 = .ok (.getfield 25, 3) := by decide +kernel
theorem d_De_seat_44 : decode b_De_seat 44 = .ok (.aload_n 0, 1) := by decide +kernel
theorem d_De_seat_45 : decode b_De_seat 45 = .ok (.getfield 11, 3) := by decide +kernel
theorem d_De_seat_48 : decode b_De_seat 48 = .ok (.aload_n 0, 1) := by decide +kernel
theorem d_De_seat_49 : decode b_De_seat 49 = .ok (.getfield 60, 3) := by decide +kernel
theorem d_De_seat_52 : decode b_De_seat 52 = .ok (.aload_n 0, 1) := by decide +kernel
theorem d_De_seat_53 : decode b_De_seat 53 = .ok (.getfield 45, 3) := by decide +kernel
theorem d_De_seat_56 : decode b_De_seat 56 = .ok (.invokevirtual 98, 3) := by decide +kernel
theorem d_De_seat_59 : decode b_De_seat 59 = .ok (.aload_n 0, 1) := by decide +kernel
theorem d_De_seat_60 : decode b_De_seat 60 = .ok (.iconst 1, 1) := by decide +kernel
theorem d_De_seat_61 : decode b_De_seat 61 = .ok (.putfield 56, 3) := by decide +kernel
theorem d_De_seat_64 : decode b_De_seat 64 = .ok (.aload_n 0, 1) := by decide +kernel
theorem d_De_seat_65 : decode b_De_seat 65 = .ok (.iload_n 1, 1) := by decide +kernel
theorem d_De_seat_66 : decode b_De_seat 66 = .ok (.putfield 102, 3) := by decide +kernel
theorem d_De_seat_69 : decode b_De_seat 69 = .ok (.iload_n 1, 1) := by decide +kernel
theorem d_De_seat_70 : decode b_De_seat 70 = .ok (.ireturn, 1) := by decide +kernel
theorem d_De_deskOf_0 : decode b_De_deskOf 0 = .ok (.aload_n 0, 1) := by decide +kernel
theorem d_De_deskOf_1 : decode b_De_deskOf 1 = .ok (.iload_n 1, 1) := by decide +kernel
theorem d_De_deskOf_2 : decode b_De_deskOf 2 = .ok (.invokevirtual 65, 3) := by decide +kernel
theorem d_De_deskOf_5 : decode b_De_deskOf 5 = .ok (.aload_n 0, 1) := by decide +kernel
theorem d_De_deskOf_6 : decode b_De_deskOf 6 = .ok (.getfield 56, 3) := by decide +kernel
theorem d_De_deskOf_9 : decode b_De_deskOf 9 = .ok (.ifCond .eq 15, 3) := by decide +kernel
theorem d_De_deskOf_12 : decode b_De_deskOf 12 = .ok (.aload_n 0, 1) := by decide +kernel
theorem d_De_deskOf_13 : decode b_De_deskOf 13 = .ok (.getfield 11, 3) := by decide +kernel
theorem d_De_deskOf_16 : decode b_De_deskOf 16 = .ok (.iload_n 1, 1) := by decide +kernel
theorem d_De_deskOf_17 : decode b_De_deskOf 17 = .ok (.aaload, 1) := by decide +kernel
theorem d_De_deskOf_18 : decode b_De_deskOf 18 = .ok (.getfield 105, 3) := by decide +kernel
theorem d_De_deskOf_21 : decode b_De_deskOf 21 = .ok (.goto 4, 3) := by decide +kernel
theorem d_De_deskOf_24 : decode b_De_deskOf 24 = .ok (.iconst (-1), 1) := by decide +kernel
theorem d_De_deskOf_25 : decode b_De_deskOf 25 = .ok (.ireturn, 1) := by decide +kernel
theorem d_De_moved_0 : decode b_De_moved 0 = .ok (.aload_n 0, 1) := by decide +kernel
theorem d_De_moved_1 : decode b_De_moved 1 = .ok (.getfield 56, 3) := by decide +kernel
theorem d_De_moved_4 : decode b_De_moved 4 = .ok (.ifCond .ne 5, 3) := by decide +kernel
theorem d_De_moved_7 : decode b_De_moved 7 = .ok (.iconst (-1), 1) := by decide +kernel
theorem d_De_moved_8 : decode b_De_moved 8 = .ok (.ireturn, 1) := by decide +kernel
theorem d_De_moved_9 : decode b_De_moved 9 = .ok (.iconst 0, 1) := by decide +kernel
theorem d_De_moved_10 : decode b_De_moved 10 = .ok (.istore_n 1, 1) := by decide +kernel
theorem d_De_moved_11 : decode b_De_moved 11 = .ok (.iconst 0, 1) := by decide +kernel
theorem d_De_moved_12 : decode b_De_moved 12 = .ok (.istore_n 2, 1) := by decide +kernel
theorem d_De_moved_13 : decode b_De_moved 13 = .ok (.iload_n 2, 1) := by decide +kernel
theorem d_De_moved_14 : decode b_De_moved 14 = .ok (.aload_n 0, 1) := by decide +kernel
theorem d_De_moved_15 : decode b_De_moved 15 = .ok (.getfield 60, 3) := by decide +kernel
theorem d_De_moved_18 : decode b_De_moved 18 = .ok (.if_icmp .ge 33, 3) := by decide +kernel
theorem d_De_moved_21 : decode b_De_moved 21 = .ok (.aload_n 0, 1) := by decide +kernel
theorem d_De_moved_22 : decode b_De_moved 22 = .ok (.getfield 11, 3) := by decide +kernel
theorem d_De_moved_25 : decode b_De_moved 25 = .ok (.iload_n 2, 1) := by decide +kernel
theorem d_De_moved_26 : decode b_De_moved 26 = .ok (.aaload, 1) := by decide +kernel
theorem d_De_moved_27 : decode b_De_moved 27 = .ok (.aload_n 0, 1) := by decide +kernel
theorem d_De_moved_28 : decode b_De_moved 28 = .ok (.getfield 11, 3) := by decide +kernel
theorem d_De_moved_31 : decode b_De_moved 31 = .ok (.iload_n 2, 1) := by decide +kernel
theorem d_De_moved_32 : decode b_De_moved 32 = .ok (.aaload, 1) := by decide +kernel
theorem d_De_moved_33 : decode b_De_moved 33 = .ok (.getfield 105, 3) := by decide +kernel
theorem d_De_moved_36 : decode b_De_moved 36 = .ok (.invokevirtual 108, 3) := by decide +kernel
theorem d_De_moved_39 : decode b_De_moved 39 = .ok (.ifCond .eq 6, 3) := by decide +kernel
theorem d_De_moved_42 : decode b_De_moved 42 = .ok (.iinc 1 1, 3) := by decide +kernel
theorem d_De_moved_45 : decode b_De_moved 45 = .ok (.iinc 2 1, 3) := by decide +kernel
theorem d_De_moved_48 : decode b_De_moved 48 = .ok (.goto (-35), 3) := by decide +kernel
theorem d_De_moved_51 : decode b_De_moved 51 = .ok (.iload_n 1, 1) := by decide +kernel
theorem d_De_moved_52 : decode b_De_moved 52 = .ok (.ireturn, 1) := by decide +kernel
theorem d_De_steps_0 : decode b_De_steps 0 = .ok (.aload_n 0, 1) := by decide +kernel
theorem d_De_steps_1 : decode b_De_steps 1 = .ok (.invokevirtual 112, 3) := by decide +kernel
theorem d_De_steps_4 : decode b_De_steps 4 = .ok (.aload_n 0, 1) := by decide +kernel
theorem d_De_steps_5 : decode b_De_steps 5 = .ok (.getfield 25, 3) := by decide +kernel
theorem d_De_steps_8 : decode b_De_steps 8 = .ok (.getfield 115, 3) := by decide +kernel
theorem d_De_steps_11 : decode b_De_steps 11 = .ok (.ifCond .eq 8, 3) := by decide +kernel
theorem d_De_steps_14 : decode b_De_steps 14 = .ok (.bipush (-2), 2) := by decide +kernel
theorem d_De_steps_16 : decode b_De_steps 16 = .ok (.goto 10, 3) := by decide +kernel
theorem d_De_steps_19 : decode b_De_steps 19 = .ok (.aload_n 0, 1) := by decide +kernel
theorem d_De_steps_20 : decode b_De_steps 20 = .ok (.getfield 25, 3) := by decide +kernel
theorem d_De_steps_23 : decode b_De_steps 23 = .ok (.getfield 118, 3) := by decide +kernel
theorem d_De_steps_26 : decode b_De_steps 26 = .ok (.ireturn, 1) := by decide +kernel
theorem d_De_step_0 : decode b_De_step 0 = .ok (.iload_n 2, 1) := by decide +kernel
theorem d_De_step_1 : decode b_De_step 1 = .ok (.ifCond .lt 12, 3) := by decide +kernel
theorem d_De_step_4 : decode b_De_step 4 = .ok (.iload_n 2, 1) := by decide +kernel
theorem d_De_step_5 : decode b_De_step 5 = .ok (.iconst 2, 1) := by decide +kernel
theorem d_De_step_6 : decode b_De_step 6 = .ok (.if_icmp .gt 7, 3) := by decide +kernel
theorem d_De_step_9 : decode b_De_step 9 = .ok (.iload_n 1, 1) := by decide +kernel
theorem d_De_step_10 : decode b_De_step 10 = .ok (.ifCond .ge 13, 3) := by decide +kernel
theorem d_De_step_13 : decode b_De_step 13 = .ok (.new 71, 3) := by decide +kernel
theorem d_De_step_16 : decode b_De_step 16 = .ok (.dup, 1) := by decide +kernel
theorem d_De_step_17 : decode b_De_step 17 = .ok (.ldc 121, 2) := by decide +kernel
theorem d_De_step_19 : decode b_De_step 19 = .ok (.invokespecial 75, 3) := by decide +kernel
theorem d_De_step_22 : decode b_De_step 22 = .ok (.athrow, 1) := by decide +kernel
theorem d_De_step_23 : decode b_De_step 23 = .ok (.aload_n 0, 1) := by decide +kernel
theorem d_De_step_24 : decode b_De_step 24 = .ok (.invokevirtual 112, 3) := by decide +kernel
theorem d_De_step_27 : decode b_De_step 27 = .ok (.iload_n 1, 1) := by decide +kernel
theorem d_De_step_28 : decode b_De_step 28 = .ok (.aload_n 0, 1) := by decide +kernel
theorem d_De_step_29 : decode b_De_step 29 = .ok (.getfield 25, 3) := by decide +kernel
theorem d_De_step_32 : decode b_De_step 32 = .ok (.getfield 118, 3) := by decide +kernel
theorem d_De_step_35 : decode b_De_step 35 = .ok (.if_icmp .lt 13, 3) := by decide +kernel
theorem d_De_step_38 : decode b_De_step 38 = .ok (.new 71, 3) := by decide +kernel
theorem d_De_step_41 : decode b_De_step 41 = .ok (.dup, 1) := by decide +kernel
theorem d_De_step_42 : decode b_De_step 42 = .ok (.ldc 123, 2) := by decide +kernel
theorem d_De_step_44 : decode b_De_step 44 = .ok (.invokespecial 75, 3) := by decide +kernel
theorem d_De_step_47 : decode b_De_step 47 = .ok (.athrow, 1) := by decide +kernel
theorem d_De_step_48 : decode b_De_step 48 = .ok (.iload_n 2, 1) := by decide +kernel
theorem d_De_step_49 : decode b_De_step 49 = .ok (.ifCond .ne 13, 3) := by decide +kernel
theorem d_De_step_52 : decode b_De_step 52 = .ok (.aload_n 0, 1) := by decide +kernel
theorem d_De_step_53 : decode b_De_step 53 = .ok (.getfield 25, 3) := by decide +kernel
theorem d_De_step_56 : decode b_De_step 56 = .ok (.getfield 125, 3) := by decide +kernel
theorem d_De_step_59 : decode b_De_step 59 = .ok (.iload_n 1, 1) := by decide +kernel
theorem d_De_step_60 : decode b_De_step 60 = .ok (.iaload, 1) := by decide +kernel
theorem d_De_step_61 : decode b_De_step 61 = .ok (.ireturn, 1) := by decide +kernel
theorem d_De_step_62 : decode b_De_step 62 = .ok (.iload_n 2, 1) := by decide +kernel
theorem d_De_step_63 : decode b_De_step 63 = .ok (.iconst 1, 1) := by decide +kernel
theorem d_De_step_64 : decode b_De_step 64 = .ok (.if_icmp .ne 15, 3) := by decide +kernel
theorem d_De_step_67 : decode b_De_step 67 = .ok (.aload_n 0, 1) := by decide +kernel
theorem d_De_step_68 : decode b_De_step 68 = .ok (.getfield 25, 3) := by decide +kernel
theorem d_De_step_71 : decode b_De_step 71 = .ok (.getfield 128, 3) := by decide +kernel
theorem d_De_step_74 : decode b_De_step 74 = .ok (.iload_n 1, 1) := by decide +kernel
theorem d_De_step_75 : decode b_De_step 75 = .ok (.iaload, 1) := by decide +kernel
theorem d_De_step_76 : decode b_De_step 76 = .ok (.goto 12, 3) := by decide +kernel
theorem d_De_step_79 : decode b_De_step 79 = .ok (.aload_n 0, 1) := by decide +kernel
theorem d_De_step_80 : decode b_De_step 80 = .ok (.getfield 25, 3) := by decide +kernel
theorem d_De_step_83 : decode b_De_step 83 = .ok (.getfield 131, 3) := by decide +kernel
theorem d_De_step_86 : decode b_De_step 86 = .ok (.iload_n 1, 1) := by decide +kernel
theorem d_De_step_87 : decode b_De_step 87 = .ok (.iaload, 1) := by decide +kernel
theorem d_De_step_88 : decode b_De_step 88 = .ok (.ireturn, 1) := by decide +kernel
theorem d_De_settle_0 : decode b_De_settle 0 = .ok (.aload_n 0, 1) := by decide +kernel
theorem d_De_settle_1 : decode b_De_settle 1 = .ok (.invokevirtual 112, 3) := by decide +kernel
theorem d_De_settle_4 : decode b_De_settle 4 = .ok (.iconst 0, 1) := by decide +kernel
theorem d_De_settle_5 : decode b_De_settle 5 = .ok (.istore_n 1, 1) := by decide +kernel
theorem d_De_settle_6 : decode b_De_settle 6 = .ok (.iconst 0, 1) := by decide +kernel
theorem d_De_settle_7 : decode b_De_settle 7 = .ok (.istore_n 2, 1) := by decide +kernel
theorem d_De_settle_8 : decode b_De_settle 8 = .ok (.iload_n 2, 1) := by decide +kernel
theorem d_De_settle_9 : decode b_De_settle 9 = .ok (.aload_n 0, 1) := by decide +kernel
theorem d_De_settle_10 : decode b_De_settle 10 = .ok (.getfield 60, 3) := by decide +kernel
theorem d_De_settle_13 : decode b_De_settle 13 = .ok (.if_icmp .ge 38, 3) := by decide +kernel
theorem d_De_settle_16 : decode b_De_settle 16 = .ok (.aload_n 0, 1) := by decide +kernel
theorem d_De_settle_17 : decode b_De_settle 17 = .ok (.getfield 11, 3) := by decide +kernel
theorem d_De_settle_20 : decode b_De_settle 20 = .ok (.iload_n 2, 1) := by decide +kernel
theorem d_De_settle_21 : decode b_De_settle 21 = .ok (.aaload, 1) := by decide +kernel
theorem d_De_settle_22 : decode b_De_settle 22 = .ok (.astore_n 3, 1) := by decide +kernel
theorem d_De_settle_23 : decode b_De_settle 23 = .ok (.aload_n 3, 1) := by decide +kernel
theorem d_De_settle_24 : decode b_De_settle 24 = .ok (.getfield 88, 3) := by decide +kernel
theorem d_De_settle_27 : decode b_De_settle 27 = .ok (.aload_n 3, 1) := by decide +kernel
theorem d_De_settle_28 : decode b_De_settle 28 = .ok (.getfield 105, 3) := by decide +kernel
theorem d_De_settle_31 : decode b_De_settle 31 = .ok (.if_icmp .eq 6, 3) := by decide +kernel
theorem d_De_settle_34 : decode b_De_settle 34 = .ok (.iinc 1 1, 3) := by decide +kernel
theorem d_De_settle_37 : decode b_De_settle 37 = .ok (.aload_n 3, 1) := by decide +kernel
theorem d_De_settle_38 : decode b_De_settle 38 = .ok (.aload_n 3, 1) := by decide +kernel
theorem d_De_settle_39 : decode b_De_settle 39 = .ok (.getfield 105, 3) := by decide +kernel
theorem d_De_settle_42 : decode b_De_settle 42 = .ok (.putfield 88, 3) := by decide +kernel
theorem d_De_settle_45 : decode b_De_settle 45 = .ok (.iinc 2 1, 3) := by decide +kernel
theorem d_De_settle_48 : decode b_De_settle 48 = .ok (.goto (-40), 3) := by decide +kernel
theorem d_De_settle_51 : decode b_De_settle 51 = .ok (.aload_n 0, 1) := by decide +kernel
theorem d_De_settle_52 : decode b_De_settle 52 = .ok (.iconst 0, 1) := by decide +kernel
theorem d_De_settle_53 : decode b_De_settle 53 = .ok (.putfield 56, 3) := by decide +kernel
theorem d_De_settle_56 : decode b_De_settle 56 = .ok (.iload_n 1, 1) := by decide +kernel
theorem d_De_settle_57 : decode b_De_settle 57 = .ok (.ireturn, 1) := by decide +kernel
theorem d_De_worthOf_0 : decode b_De_worthOf 0 = .ok (.aload_n 0, 1) := by decide +kernel
theorem d_De_worthOf_1 : decode b_De_worthOf 1 = .ok (.iload_n 1, 1) := by decide +kernel
theorem d_De_worthOf_2 : decode b_De_worthOf 2 = .ok (.invokevirtual 65, 3) := by decide +kernel
theorem d_De_worthOf_5 : decode b_De_worthOf 5 = .ok (.aload_n 0, 1) := by decide +kernel
theorem d_De_worthOf_6 : decode b_De_worthOf 6 = .ok (.invokevirtual 112, 3) := by decide +kernel
theorem d_De_worthOf_9 : decode b_De_worthOf 9 = .ok (.aload_n 0, 1) := by decide +kernel
theorem d_De_worthOf_10 : decode b_De_worthOf 10 = .ok (.getfield 102, 3) := by decide +kernel
theorem d_De_worthOf_13 : decode b_De_worthOf 13 = .ok (.aload_n 0, 1) := by decide +kernel
theorem d_De_worthOf_14 : decode b_De_worthOf 14 = .ok (.getfield 18, 3) := by decide +kernel
theorem d_De_worthOf_17 : decode b_De_worthOf 17 = .ok (.aload_n 0, 1) := by decide +kernel
theorem d_De_worthOf_18 : decode b_De_worthOf 18 = .ok (.getfield 11, 3) := by decide +kernel
theorem d_De_worthOf_21 : decode b_De_worthOf 21 = .ok (.aload_n 0, 1) := by decide +kernel
theorem d_De_worthOf_22 : decode b_De_worthOf 22 = .ok (.getfield 60, 3) := by decide +kernel
theorem d_De_worthOf_25 : decode b_De_worthOf 25 = .ok (.iload_n 1, 1) := by decide +kernel
theorem d_De_worthOf_26 : decode b_De_worthOf 26 = .ok (.aload_n 0, 1) := by decide +kernel
theorem d_De_worthOf_27 : decode b_De_worthOf 27 = .ok (.getfield 45, 3) := by decide +kernel
theorem d_De_worthOf_30 : decode b_De_worthOf 30 = .ok (.invokevirtual 91, 3) := by decide +kernel
theorem d_De_worthOf_33 : decode b_De_worthOf 33 = .ok (.isub, 1) := by decide +kernel
theorem d_De_worthOf_34 : decode b_De_worthOf 34 = .ok (.ireturn, 1) := by decide +kernel
theorem d_De_room_0 : decode b_De_room 0 = .ok (.iload_n 1, 1) := by decide +kernel
theorem d_De_room_1 : decode b_De_room 1 = .ok (.iconst 1, 1) := by decide +kernel
theorem d_De_room_2 : decode b_De_room 2 = .ok (.if_icmp .lt 10, 3) := by decide +kernel
theorem d_De_room_5 : decode b_De_room 5 = .ok (.iload_n 1, 1) := by decide +kernel
theorem d_De_room_6 : decode b_De_room 6 = .ok (.sipush 200, 3) := by decide +kernel
theorem d_De_room_9 : decode b_De_room 9 = .ok (.if_icmp .le 13, 3) := by decide +kernel
theorem d_De_room_12 : decode b_De_room 12 = .ok (.new 71, 3) := by decide +kernel
theorem d_De_room_15 : decode b_De_room 15 = .ok (.dup, 1) := by decide +kernel
theorem d_De_room_16 : decode b_De_room 16 = .ok (.ldc 134, 2) := by decide +kernel
theorem d_De_room_18 : decode b_De_room 18 = .ok (.invokespecial 75, 3) := by decide +kernel
theorem d_De_room_21 : decode b_De_room 21 = .ok (.athrow, 1) := by decide +kernel
theorem d_De_room_22 : decode b_De_room 22 = .ok (.aload_n 0, 1) := by decide +kernel
theorem d_De_room_23 : decode b_De_room 23 = .ok (.getfield 136, 3) := by decide +kernel
theorem d_De_room_26 : decode b_De_room 26 = .ok (.bipush 8, 2) := by decide +kernel
theorem d_De_room_28 : decode b_De_room 28 = .ok (.if_icmp .lt 13, 3) := by decide +kernel
theorem d_De_room_31 : decode b_De_room 31 = .ok (.new 49, 3) := by decide +kernel
theorem d_De_room_34 : decode b_De_room 34 = .ok (.dup, 1) := by decide +kernel
theorem d_De_room_35 : decode b_De_room 35 = .ok (.ldc 139, 2) := by decide +kernel
theorem d_De_room_37 : decode b_De_room 37 = .ok (.invokespecial 53, 3) := by decide +kernel
theorem d_De_room_40 : decode b_De_room 40 = .ok (.athrow, 1) := by decide +kernel
theorem d_De_room_41 : decode b_De_room 41 = .ok (.aload_n 0, 1) := by decide +kernel
theorem d_De_room_42 : decode b_De_room 42 = .ok (.getfield 31, 3) := by decide +kernel
theorem d_De_room_45 : decode b_De_room 45 = .ok (.aload_n 0, 1) := by decide +kernel
theorem d_De_room_46 : decode b_De_room 46 = .ok (.getfield 136, 3) := by decide +kernel
theorem d_De_room_49 : decode b_De_room 49 = .ok (.aaload, 1) := by decide +kernel
theorem d_De_room_50 : decode b_De_room 50 = .ok (.iload_n 1, 1) := by decide +kernel
theorem d_De_room_51 : decode b_De_room 51 = .ok (.putfield 141, 3) := by decide +kernel
theorem d_De_room_54 : decode b_De_room 54 = .ok (.aload_n 0, 1) := by decide +kernel
theorem d_De_room_55 : decode b_De_room 55 = .ok (.dup, 1) := by decide +kernel
theorem d_De_room_56 : decode b_De_room 56 = .ok (.getfield 136, 3) := by decide +kernel
theorem d_De_room_59 : decode b_De_room 59 = .ok (.iconst 1, 1) := by decide +kernel
theorem d_De_room_60 : decode b_De_room 60 = .ok (.iadd, 1) := by decide +kernel
theorem d_De_room_61 : decode b_De_room 61 = .ok (.putfield 136, 3) := by decide +kernel
theorem d_De_room_64 : decode b_De_room 64 = .ok (.aload_n 0, 1) := by decide +kernel
theorem d_De_room_65 : decode b_De_room 65 = .ok (.getfield 136, 3) := by decide +kernel
theorem d_De_room_68 : decode b_De_room 68 = .ok (.iconst 1, 1) := by decide +kernel
theorem d_De_room_69 : decode b_De_room 69 = .ok (.isub, 1) := by decide +kernel
theorem d_De_room_70 : decode b_De_room 70 = .ok (.ireturn, 1) := by decide +kernel
theorem d_De_book_0 : decode b_De_book 0 = .ok (.iload_n 3, 1) := by decide +kernel
theorem d_De_book_1 : decode b_De_book 1 = .ok (.iconst 1, 1) := by decide +kernel
theorem d_De_book_2 : decode b_De_book 2 = .ok (.if_icmp .lt 10, 3) := by decide +kernel
theorem d_De_book_5 : decode b_De_book 5 = .ok (.iload_n 3, 1) := by decide +kernel
theorem d_De_book_6 : decode b_De_book 6 = .ok (.sipush 200, 3) := by decide +kernel
theorem d_De_book_9 : decode b_De_book 9 = .ok (.if_icmp .le 13, 3) := by decide +kernel
theorem d_De_book_12 : decode b_De_book 12 = .ok (.new 71, 3) := by decide +kernel
theorem d_De_book_15 : decode b_De_book 15 = .ok (.dup, 1) := by decide +kernel
theorem d_De_book_16 : decode b_De_book 16 = .ok (.ldc 144, 2) := by decide +kernel
theorem d_De_book_18 : decode b_De_book 18 = .ok (.invokespecial 75, 3) := by decide +kernel
theorem d_De_book_21 : decode b_De_book 21 = .ok (.athrow, 1) := by decide +kernel
theorem d_De_book_22 : decode b_De_book 22 = .ok (.iload_n 1, 1) := by decide +kernel
theorem d_De_book_23 : decode b_De_book 23 = .ok (.ifCond .lt 15, 3) := by decide +kernel
theorem d_De_book_26 : decode b_De_book 26 = .ok (.iload_n 2, 1) := by decide +kernel
theorem d_De_book_27 : decode b_De_book 27 = .ok (.sipush 10080, 3) := by decide +kernel
theorem d_De_book_30 : decode b_De_book 30 = .ok (.if_icmp .gt 8, 3) := by decide +kernel
theorem d_De_book_33 : decode b_De_book 33 = .ok (.iload_n 1, 1) := by decide +kernel
theorem d_De_book_34 : decode b_De_book 34 = .ok (.iload_n 2, 1) := by decide +kernel
theorem d_De_book_35 : decode b_De_book 35 = .ok (.if_icmp .lt 13, 3) := by decide +kernel
theorem d_De_book_38 : decode b_De_book 38 = .ok (.new 71, 3) := by decide +kernel
theorem d_De_book_41 : decode b_De_book 41 = .ok (.dup, 1) := by decide +kernel
theorem d_De_book_42 : decode b_De_book 42 = .ok (.ldc 146, 2) := by decide +kernel
theorem d_De_book_44 : decode b_De_book 44 = .ok (.invokespecial 75, 3) := by decide +kernel
theorem d_De_book_47 : decode b_De_book 47 = .ok (.athrow, 1) := by decide +kernel
theorem d_De_book_48 : decode b_De_book 48 = .ok (.aload_n 0, 1) := by decide +kernel
theorem d_De_book_49 : decode b_De_book 49 = .ok (.getfield 148, 3) := by decide +kernel
theorem d_De_book_52 : decode b_De_book 52 = .ok (.sipush 300, 3) := by decide +kernel
theorem d_De_book_55 : decode b_De_book 55 = .ok (.if_icmp .lt 13, 3) := by decide +kernel
theorem d_De_book_58 : decode b_De_book 58 = .ok (.new 49, 3) := by decide +kernel
theorem d_De_book_61 : decode b_De_book 61 = .ok (.dup, 1) := by decide +kernel
theorem d_De_book_62 : decode b_De_book 62 = .ok (.ldc 151, 2) := by decide +kernel
theorem d_De_book_64 : decode b_De_book 64 = .ok (.invokespecial 53, 3) := by decide +kernel
theorem d_De_book_67 : decode b_De_book 67 = .ok (.athrow, 1) := by decide +kernel
theorem d_De_book_68 : decode b_De_book 68 = .ok (.aload_n 0, 1) := by decide +kernel
theorem d_De_book_69 : decode b_De_book 69 = .ok (.iload_n 1, 1) := by decide +kernel
theorem d_De_book_70 : decode b_De_book 70 = .ok (.iload_n 2, 1) := by decide +kernel
theorem d_De_book_71 : decode b_De_book 71 = .ok (.iload_n 3, 1) := by decide +kernel
theorem d_De_book_72 : decode b_De_book 72 = .ok (.invokevirtual 153, 3) := by decide +kernel
theorem d_De_book_75 : decode b_De_book 75 = .ok (.astore 4, 2) := by decide +kernel
theorem d_De_book_77 : decode b_De_book 77 = .ok (.aload 4, 2) := by decide +kernel
theorem d_De_book_79 : decode b_De_book 79 = .ok (.ifnonnull 5, 3) := by decide +kernel
theorem d_De_book_82 : decode b_De_book 82 = .ok (.iconst (-1), 1) := by decide +kernel
theorem d_De_book_83 : decode b_De_book 83 = .ok (.ireturn, 1) := by decide +kernel
theorem d_De_book_84 : decode b_De_book 84 = .ok (.new 35, 3) := by decide +kernel
theorem d_De_book_87 : decode b_De_book 87 = .ok (.dup, 1) := by decide +kernel
theorem d_De_book_88 : decode b_De_book 88 = .ok (.aload_n 0, 1) := by decide +kernel
theorem d_De_book_89 : decode b_De_book 89 = .ok (.getfield 148, 3) := by decide +kernel
theorem d_De_book_92 : decode b_De_book 92 = .ok (.aload 4, 2) := by decide +kernel
theorem d_De_book_94 : decode b_De_book 94 = .ok (.iload_n 1, 1) := by decide +kernel
theorem d_De_book_95 : decode b_De_book 95 = .ok (.iload_n 2, 1) := by decide +kernel
theorem d_De_book_96 : decode b_De_book 96 = .ok (.iload_n 3, 1) := by decide +kernel
theorem d_De_book_97 : decode b_De_book 97 = .ok (.invokespecial 157, 3) := by decide +kernel
theorem d_De_book_100 : decode b_De_book 100 = .ok (.astore 5, 2) := by decide +kernel
theorem d_De_book_102 : decode b_De_book 102 = .ok (.aload 4, 2) := by decide +kernel
theorem d_De_book_104 : decode b_De_book 104 = .ok (.aload 5, 2) := by decide +kernel
theorem d_De_book_106 : decode b_De_book 106 = .ok (.invokevirtual 160, 3) := by decide +kernel
theorem d_De_book_109 : decode b_De_book 109 = .ok (.aload_n 0, 1) := by decide +kernel
theorem d_De_book_110 : decode b_De_book 110 = .ok (.getfield 37, 3) := by decide +kernel
theorem d_De_book_113 : decode b_De_book 113 = .ok (.aload_n 0, 1) := by decide +kernel
theorem d_De_book_114 : decode b_De_book 114 = .ok (.getfield 148, 3) := by decide +kernel
theorem d_De_book_117 : decode b_De_book 117 = .ok (.aload 5, 2) := by decide +kernel
theorem d_De_book_119 : decode b_De_book 119 = .ok (.aastore, 1) := by decide +kernel
theorem d_De_book_120 : decode b_De_book 120 = .ok (.aload_n 0, 1) := by decide +kernel
theorem d_De_book_121 : decode b_De_book 121 = .ok (.dup, 1) := by decide +kernel
theorem d_De_book_122 : decode b_De_book 122 = .ok (.getfield 148, 3) := by decide +kernel
theorem d_De_book_125 : decode b_De_book 125 = .ok (.iconst 1, 1) := by decide +kernel
theorem d_De_book_126 : decode b_De_book 126 = .ok (.iadd, 1) := by decide +kernel
theorem d_De_book_127 : decode b_De_book 127 = .ok (.putfield 148, 3) := by decide +kernel
theorem d_De_book_130 : decode b_De_book 130 = .ok (.aload 5, 2) := by decide +kernel
theorem d_De_book_132 : decode b_De_book 132 = .ok (.getfield 164, 3) := by decide +kernel
theorem d_De_book_135 : decode b_De_book 135 = .ok (.ireturn, 1) := by decide +kernel
theorem d_De_cancel_0 : decode b_De_cancel 0 = .ok (.aload_n 0, 1) := by decide +kernel
theorem d_De_cancel_1 : decode b_De_cancel 1 = .ok (.iload_n 1, 1) := by decide +kernel
theorem d_De_cancel_2 : decode b_De_cancel 2 = .ok (.invokevirtual 167, 3) := by decide +kernel
theorem d_De_cancel_5 : decode b_De_cancel 5 = .ok (.astore_n 2, 1) := by decide +kernel
theorem d_De_cancel_6 : decode b_De_cancel 6 = .ok (.aload_n 2, 1) := by decide +kernel
theorem d_De_cancel_7 : decode b_De_cancel 7 = .ok (.getfield 171, 3) := by decide +kernel
theorem d_De_cancel_10 : decode b_De_cancel 10 = .ok (.aload_n 2, 1) := by decide +kernel
theorem d_De_cancel_11 : decode b_De_cancel 11 = .ok (.invokevirtual 175, 3) := by decide +kernel
theorem d_De_cancel_14 : decode b_De_cancel 14 = .ok (.ireturn, 1) := by decide +kernel
theorem d_De_roomOf_0 : decode b_De_roomOf 0 = .ok (.aload_n 0, 1) := by decide +kernel
theorem d_De_roomOf_1 : decode b_De_roomOf 1 = .ok (.iload_n 1, 1) := by decide +kernel
theorem d_De_roomOf_2 : decode b_De_roomOf 2 = .ok (.invokevirtual 167, 3) := by decide +kernel
theorem d_De_roomOf_5 : decode b_De_roomOf 5 = .ok (.getfield 171, 3) := by decide +kernel
theorem d_De_roomOf_8 : decode b_De_roomOf 8 = .ok (.getfield 179, 3) := by decide +kernel
theorem d_De_roomOf_11 : decode b_De_roomOf 11 = .ok (.ireturn, 1) := by decide +kernel
theorem d_De_inside_0 : decode b_De_inside 0 = .ok (.aload_n 0, 1) := by decide +kernel
theorem d_De_inside_1 : decode b_De_inside 1 = .ok (.iload_n 1, 1) := by decide +kernel
theorem d_De_inside_2 : decode b_De_inside 2 = .ok (.invokevirtual 180, 3) := by decide +kernel
theorem d_De_inside_5 : decode b_De_inside 5 = .ok (.aload_n 0, 1) := by decide +kernel
theorem d_De_inside_6 : decode b_De_inside 6 = .ok (.iload_n 2, 1) := by decide +kernel
theorem d_De_inside_7 : decode b_De_inside 7 = .ok (.invokevirtual 183, 3) := by decide +kernel
theorem d_De_inside_10 : decode b_De_inside 10 = .ok (.aload_n 0, 1) := by decide +kernel
theorem d_De_inside_11 : decode b_De_inside 11 = .ok (.getfield 31, 3) := by decide +kernel
theorem d_De_inside_14 : decode b_De_inside 14 = .ok (.iload_n 1, 1) := by decide +kernel
theorem d_De_inside_15 : decode b_De_inside 15 = .ok (.aaload, 1) := by decide +kernel
theorem d_De_inside_16 : decode b_De_inside 16 = .ok (.iload_n 2, 1) := by decide +kernel
theorem d_De_inside_17 : decode b_De_inside 17 = .ok (.iload_n 2, 1) := by decide +kernel
theorem d_De_inside_18 : decode b_De_inside 18 = .ok (.iconst 1, 1) := by decide +kernel
theorem d_De_inside_19 : decode b_De_inside 19 = .ok (.iadd, 1) := by decide +kernel
theorem d_De_inside_20 : decode b_De_inside 20 = .ok (.invokevirtual 186, 3) := by decide +kernel
theorem d_De_inside_23 : decode b_De_inside 23 = .ok (.astore_n 3, 1) := by decide +kernel
theorem d_De_inside_24 : decode b_De_inside 24 = .ok (.aload_n 3, 1) := by decide +kernel
theorem d_De_inside_25 : decode b_De_inside 25 = .ok (.ifnonnull 7, 3) := by decide +kernel
theorem d_De_inside_28 : decode b_De_inside 28 = .ok (.iconst (-1), 1) := by decide +kernel
theorem d_De_inside_29 : decode b_De_inside 29 = .ok (.goto 7, 3) := by decide +kernel
theorem d_De_inside_32 : decode b_De_inside 32 = .ok (.aload_n 3, 1) := by decide +kernel
theorem d_De_inside_33 : decode b_De_inside 33 = .ok (.getfield 164, 3) := by decide +kernel
theorem d_De_inside_36 : decode b_De_inside 36 = .ok (.ireturn, 1) := by decide +kernel
theorem d_De_gap_0 : decode b_De_gap 0 = .ok (.aload_n 0, 1) := by decide +kernel
theorem d_De_gap_1 : decode b_De_gap 1 = .ok (.iload_n 1, 1) := by decide +kernel
theorem d_De_gap_2 : decode b_De_gap 2 = .ok (.invokevirtual 180, 3) := by decide +kernel
theorem d_De_gap_5 : decode b_De_gap 5 = .ok (.aload_n 0, 1) := by decide +kernel
theorem d_De_gap_6 : decode b_De_gap 6 = .ok (.iload_n 2, 1) := by decide +kernel
theorem d_De_gap_7 : decode b_De_gap 7 = .ok (.invokevirtual 183, 3) := by decide +kernel
theorem d_De_gap_10 : decode b_De_gap 10 = .ok (.iload_n 3, 1) := by decide +kernel
theorem d_De_gap_11 : decode b_De_gap 11 = .ok (.iconst 1, 1) := by decide +kernel
theorem d_De_gap_12 : decode b_De_gap 12 = .ok (.if_icmp .lt 10, 3) := by decide +kernel
theorem d_De_gap_15 : decode b_De_gap 15 = .ok (.iload_n 3, 1) := by decide +kernel
theorem d_De_gap_16 : decode b_De_gap 16 = .ok (.sipush 10080, 3) := by decide +kernel
theorem d_De_gap_19 : decode b_De_gap 19 = .ok (.if_icmp .le 13, 3) := by decide +kernel
theorem d_De_gap_22 : decode b_De_gap 22 = .ok (.new 71, 3) := by decide +kernel
theorem d_De_gap_25 : decode b_De_gap 25 = .ok (.dup, 1) := by decide +kernel
theorem d_De_gap_26 : decode b_De_gap 26 = .ok (.ldc 190, 2) := by decide +kernel
theorem d_De_gap_28 : decode b_De_gap 28 = .ok (.invokespecial 75, 3) := by decide +kernel
theorem d_De_gap_31 : decode b_De_gap 31 = .ok (.athrow, 1) := by decide +kernel
theorem d_De_gap_32 : decode b_De_gap 32 = .ok (.aload_n 0, 1) := by decide +kernel
theorem d_De_gap_33 : decode b_De_gap 33 = .ok (.getfield 31, 3) := by decide +kernel
theorem d_De_gap_36 : decode b_De_gap 36 = .ok (.iload_n 1, 1) := by decide +kernel
theorem d_De_gap_37 : decode b_De_gap 37 = .ok (.aaload, 1) := by decide +kernel
theorem d_De_gap_38 : decode b_De_gap 38 = .ok (.iload_n 2, 1) := by decide +kernel
theorem d_De_gap_39 : decode b_De_gap 39 = .ok (.iload_n 3, 1) := by decide +kernel
theorem d_De_gap_40 : decode b_De_gap 40 = .ok (.invokevirtual 192, 3) := by decide +kernel
theorem d_De_gap_43 : decode b_De_gap 43 = .ok (.istore 4, 2) := by decide +kernel
theorem d_De_gap_45 : decode b_De_gap 45 = .ok (.iload 4, 2) := by decide +kernel
theorem d_De_gap_47 : decode b_De_gap 47 = .ok (.iload_n 3, 1) := by decide +kernel
theorem d_De_gap_48 : decode b_De_gap 48 = .ok (.iadd, 1) := by decide +kernel
theorem d_De_gap_49 : decode b_De_gap 49 = .ok (.sipush 10080, 3) := by decide +kernel
theorem d_De_gap_52 : decode b_De_gap 52 = .ok (.if_icmp .gt 8, 3) := by decide +kernel
theorem d_De_gap_55 : decode b_De_gap 55 = .ok (.iload 4, 2) := by decide +kernel
theorem d_De_gap_57 : decode b_De_gap 57 = .ok (.goto 4, 3) := by decide +kernel
theorem d_De_gap_60 : decode b_De_gap 60 = .ok (.iconst (-1), 1) := by decide +kernel
theorem d_De_gap_61 : decode b_De_gap 61 = .ok (.ireturn, 1) := by decide +kernel
theorem d_De_waste_0 : decode b_De_waste 0 = .ok (.iconst 0, 1) := by decide +kernel
theorem d_De_waste_1 : decode b_De_waste 1 = .ok (.istore_n 1, 1) := by decide +kernel
theorem d_De_waste_2 : decode b_De_waste 2 = .ok (.iconst 0, 1) := by decide +kernel
theorem d_De_waste_3 : decode b_De_waste 3 = .ok (.istore_n 2, 1) := by decide +kernel
theorem d_De_waste_4 : decode b_De_waste 4 = .ok (.iload_n 2, 1) := by decide +kernel
theorem d_De_waste_5 : decode b_De_waste 5 = .ok (.aload_n 0, 1) := by decide +kernel
theorem d_De_waste_6 : decode b_De_waste 6 = .ok (.getfield 136, 3) := by decide +kernel
theorem d_De_waste_9 : decode b_De_waste 9 = .ok (.if_icmp .ge 21, 3) := by decide +kernel
theorem d_De_waste_12 : decode b_De_waste 12 = .ok (.iload_n 1, 1) := by decide +kernel
theorem d_De_waste_13 : decode b_De_waste 13 = .ok (.aload_n 0, 1) := by decide +kernel
theorem d_De_waste_14 : decode b_De_waste 14 = .ok (.getfield 31, 3) := by decide +kernel
theorem d_De_waste_17 : decode b_De_waste 17 = .ok (.iload_n 2, 1) := by decide +kernel
theorem d_De_waste_18 : decode b_De_waste 18 = .ok (.aaload, 1) := by decide +kernel
theorem d_De_waste_19 : decode b_De_waste 19 = .ok (.invokevirtual 196, 3) := by decide +kernel
theorem d_De_waste_22 : decode b_De_waste 22 = .ok (.iadd, 1) := by decide +kernel
theorem d_De_waste_23 : decode b_De_waste 23 = .ok (.istore_n 1, 1) := by decide +kernel
theorem d_De_waste_24 : decode b_De_waste 24 = .ok (.iinc 2 1, 3) := by decide +kernel
theorem d_De_waste_27 : decode b_De_waste 27 = .ok (.goto (-23), 3) := by decide +kernel
theorem d_De_waste_30 : decode b_De_waste 30 = .ok (.iload_n 1, 1) := by decide +kernel
theorem d_De_waste_31 : decode b_De_waste 31 = .ok (.ireturn, 1) := by decide +kernel
theorem d_De_checkPerson_0 : decode b_De_checkPerson 0 = .ok (.iload_n 1, 1) := by decide +kernel
theorem d_De_checkPerson_1 : decode b_De_checkPerson 1 = .ok (.ifCond .lt 11, 3) := by decide +kernel
theorem d_De_checkPerson_4 : decode b_De_checkPerson 4 = .ok (.iload_n 1, 1) := by decide +kernel
theorem d_De_checkPerson_5 : decode b_De_checkPerson 5 = .ok (.aload_n 0, 1) := by decide +kernel
theorem d_De_checkPerson_6 : decode b_De_checkPerson 6 = .ok (.getfield 60, 3) := by decide +kernel
theorem d_De_checkPerson_9 : decode b_De_checkPerson 9 = .ok (.if_icmp .lt 13, 3) := by decide +kernel
theorem d_De_checkPerson_12 : decode b_De_checkPerson 12 = .ok (.new 71, 3) := by decide +kernel
theorem d_De_checkPerson_15 : decode b_De_checkPerson 15 = .ok (.dup, 1) := by decide +kernel
theorem d_De_checkPerson_16 : decode b_De_checkPerson 16 = .ok (.ldc 200, 2) := by decide +kernel
theorem d_De_checkPerson_18 : decode b_De_checkPerson 18 = .ok (.invokespecial 75, 3) := by decide +kernel
theorem d_De_checkPerson_21 : decode b_De_checkPerson 21 = .ok (.athrow, 1) := by decide +kernel
theorem d_De_checkPerson_22 : decode b_De_checkPerson 22 = .ok (.return_, 1) := by decide +kernel
theorem d_De_checkDesk_0 : decode b_De_checkDesk 0 = .ok (.iload_n 1, 1) := by decide +kernel
theorem d_De_checkDesk_1 : decode b_De_checkDesk 1 = .ok (.ifCond .lt 11, 3) := by decide +kernel
theorem d_De_checkDesk_4 : decode b_De_checkDesk 4 = .ok (.iload_n 1, 1) := by decide +kernel
theorem d_De_checkDesk_5 : decode b_De_checkDesk 5 = .ok (.aload_n 0, 1) := by decide +kernel
theorem d_De_checkDesk_6 : decode b_De_checkDesk 6 = .ok (.getfield 45, 3) := by decide +kernel
theorem d_De_checkDesk_9 : decode b_De_checkDesk 9 = .ok (.if_icmp .lt 13, 3) := by decide +kernel
theorem d_De_checkDesk_12 : decode b_De_checkDesk 12 = .ok (.new 71, 3) := by decide +kernel
theorem d_De_checkDesk_15 : decode b_De_checkDesk 15 = .ok (.dup, 1) := by decide +kernel
theorem d_De_checkDesk_16 : decode b_De_checkDesk 16 = .ok (.ldc 202, 2) := by decide +kernel
theorem d_De_checkDesk_18 : decode b_De_checkDesk 18 = .ok (.invokespecial 75, 3) := by decide +kernel
theorem d_De_checkDesk_21 : decode b_De_checkDesk 21 = .ok (.athrow, 1) := by decide +kernel
theorem d_De_checkDesk_22 : decode b_De_checkDesk 22 = .ok (.return_, 1) := by decide +kernel
theorem d_De_checkRoom_0 : decode b_De_checkRoom 0 = .ok (.iload_n 1, 1) := by decide +kernel
theorem d_De_checkRoom_1 : decode b_De_checkRoom 1 = .ok (.ifCond .lt 11, 3) := by decide +kernel
theorem d_De_checkRoom_4 : decode b_De_checkRoom 4 = .ok (.iload_n 1, 1) := by decide +kernel
theorem d_De_checkRoom_5 : decode b_De_checkRoom 5 = .ok (.aload_n 0, 1) := by decide +kernel
theorem d_De_checkRoom_6 : decode b_De_checkRoom 6 = .ok (.getfield 136, 3) := by decide +kernel
theorem d_De_checkRoom_9 : decode b_De_checkRoom 9 = .ok (.if_icmp .lt 13, 3) := by decide +kernel
theorem d_De_checkRoom_12 : decode b_De_checkRoom 12 = .ok (.new 71, 3) := by decide +kernel
theorem d_De_checkRoom_15 : decode b_De_checkRoom 15 = .ok (.dup, 1) := by decide +kernel
theorem d_De_checkRoom_16 : decode b_De_checkRoom 16 = .ok (.ldc 204, 2) := by decide +kernel
theorem d_De_checkRoom_18 : decode b_De_checkRoom 18 = .ok (.invokespecial 75, 3) := by decide +kernel
theorem d_De_checkRoom_21 : decode b_De_checkRoom 21 = .ok (.athrow, 1) := by decide +kernel
theorem d_De_checkRoom_22 : decode b_De_checkRoom 22 = .ok (.return_, 1) := by decide +kernel
theorem d_De_checkMinute_0 : decode b_De_checkMinute 0 = .ok (.iload_n 1, 1) := by decide +kernel
theorem d_De_checkMinute_1 : decode b_De_checkMinute 1 = .ok (.ifCond .lt 10, 3) := by decide +kernel
theorem d_De_checkMinute_4 : decode b_De_checkMinute 4 = .ok (.iload_n 1, 1) := by decide +kernel
theorem d_De_checkMinute_5 : decode b_De_checkMinute 5 = .ok (.sipush 10080, 3) := by decide +kernel
theorem d_De_checkMinute_8 : decode b_De_checkMinute 8 = .ok (.if_icmp .lt 13, 3) := by decide +kernel
theorem d_De_checkMinute_11 : decode b_De_checkMinute 11 = .ok (.new 71, 3) := by decide +kernel
theorem d_De_checkMinute_14 : decode b_De_checkMinute 14 = .ok (.dup, 1) := by decide +kernel
theorem d_De_checkMinute_15 : decode b_De_checkMinute 15 = .ok (.ldc 206, 2) := by decide +kernel
theorem d_De_checkMinute_17 : decode b_De_checkMinute 17 = .ok (.invokespecial 75, 3) := by decide +kernel
theorem d_De_checkMinute_20 : decode b_De_checkMinute 20 = .ok (.athrow, 1) := by decide +kernel
theorem d_De_checkMinute_21 : decode b_De_checkMinute 21 = .ok (.return_, 1) := by decide +kernel
theorem d_De_checkSeatingMade_0 : decode b_De_checkSeatingMade 0 = .ok (.aload_n 0, 1) := by decide +kernel
theorem d_De_checkSeatingMade_1 : decode b_De_checkSeatingMade 1 = .ok (.getfield 56, 3) := by decide +kernel
theorem d_De_checkSeatingMade_4 : decode b_De_checkSeatingMade 4 = .ok (.ifCond .ne 13, 3) := by decide +kernel
theorem d_De_checkSeatingMade_7 : decode b_De_checkSeatingMade 7 = .ok (.new 49, 3) := by decide +kernel
theorem d_De_checkSeatingMade_10 : decode b_De_checkSeatingMade 10 = .ok (.dup, 1) := by decide +kernel
theorem d_De_checkSeatingMade_11 : decode b_De_checkSeatingMade 11 = .ok (.ldc 208, 2) := by decide +kernel
theorem d_De_checkSeatingMade_13 : decode b_De_checkSeatingMade 13 = .ok (.invokespecial 53, 3) := by decide +kernel
theorem d_De_checkSeatingMade_16 : decode b_De_checkSeatingMade 16 = .ok (.athrow, 1) := by decide +kernel
theorem d_De_checkSeatingMade_17 : decode b_De_checkSeatingMade 17 = .ok (.return_, 1) := by decide +kernel
theorem d_De_checkNobodyElseHas_0 : decode b_De_checkNobodyElseHas 0 = .ok (.iconst 0, 1) := by decide +kernel
theorem d_De_checkNobodyElseHas_1 : decode b_De_checkNobodyElseHas 1 = .ok (.istore_n 3, 1) := by decide +kernel
theorem d_De_checkNobodyElseHas_2 : decode b_De_checkNobodyElseHas 2 = .ok (.iload_n 3, 1) := by decide +kernel
theorem d_De_checkNobodyElseHas_3 : decode b_De_checkNobodyElseHas 3 = .ok (.aload_n 0, 1) := by decide +kernel
theorem d_De_checkNobodyElseHas_4 : decode b_De_checkNobodyElseHas 4 = .ok (.getfield 60, 3) := by decide +kernel
theorem d_De_checkNobodyElseHas_7 : decode b_De_checkNobodyElseHas 7 = .ok (.if_icmp .ge 37, 3) := by decide +kernel
theorem d_De_checkNobodyElseHas_10 : decode b_De_checkNobodyElseHas 10 = .ok (.iload_n 3, 1) := by decide +kernel
theorem d_De_checkNobodyElseHas_11 : decode b_De_checkNobodyElseHas 11 = .ok (.iload_n 1, 1) := by decide +kernel
theorem d_De_checkNobodyElseHas_12 : decode b_De_checkNobodyElseHas 12 = .ok (.if_icmp .eq 26, 3) := by decide +kernel
theorem d_De_checkNobodyElseHas_15 : decode b_De_checkNobodyElseHas 15 = .ok (.aload_n 0, 1) := by decide +kernel
theorem d_De_checkNobodyElseHas_16 : decode b_De_checkNobodyElseHas 16 = .ok (.getfield 11, 3) := by decide +kernel
theorem d_De_checkNobodyElseHas_19 : decode b_De_checkNobodyElseHas 19 = .ok (.iload_n 3, 1) := by decide +kernel
theorem d_De_checkNobodyElseHas_20 : decode b_De_checkNobodyElseHas 20 = .ok (.aaload, 1) := by decide +kernel
theorem d_De_checkNobodyElseHas_21 : decode b_De_checkNobodyElseHas 21 = .ok (.getfield 88, 3) := by decide +kernel
theorem d_De_checkNobodyElseHas_24 : decode b_De_checkNobodyElseHas 24 = .ok (.iload_n 2, 1) := by decide +kernel
theorem d_De_checkNobodyElseHas_25 : decode b_De_checkNobodyElseHas 25 = .ok (.if_icmp .ne 13, 3) := by decide +kernel
theorem d_De_checkNobodyElseHas_28 : decode b_De_checkNobodyElseHas 28 = .ok (.new 49, 3) := by decide +kernel
theorem d_De_checkNobodyElseHas_31 : decode b_De_checkNobodyElseHas 31 = .ok (.dup, 1) := by decide +kernel
theorem d_De_checkNobodyElseHas_32 : decode b_De_checkNobodyElseHas 32 = .ok (.ldc 210, 2) := by decide +kernel
theorem d_De_checkNobodyElseHas_34 : decode b_De_checkNobodyElseHas 34 = .ok (.invokespecial 53, 3) := by decide +kernel
theorem d_De_checkNobodyElseHas_37 : decode b_De_checkNobodyElseHas 37 = .ok (.athrow, 1) := by decide +kernel
theorem d_De_checkNobodyElseHas_38 : decode b_De_checkNobodyElseHas 38 = .ok (.iinc 3 1, 3) := by decide +kernel
theorem d_De_checkNobodyElseHas_41 : decode b_De_checkNobodyElseHas 41 = .ok (.goto (-39), 3) := by decide +kernel
theorem d_De_checkNobodyElseHas_44 : decode b_De_checkNobodyElseHas 44 = .ok (.return_, 1) := by decide +kernel
theorem d_De_bookingNumbered_0 : decode b_De_bookingNumbered 0 = .ok (.iload_n 1, 1) := by decide +kernel
theorem d_De_bookingNumbered_1 : decode b_De_bookingNumbered 1 = .ok (.ifCond .lt 10, 3) := by decide +kernel
theorem d_De_bookingNumbered_4 : decode b_De_bookingNumbered 4 = .ok (.iload_n 1, 1) := by decide +kernel
theorem d_De_bookingNumbered_5 : decode b_De_bookingNumbered 5 = .ok (.sipush 300, 3) := by decide +kernel
theorem d_De_bookingNumbered_8 : decode b_De_bookingNumbered 8 = .ok (.if_icmp .lt 7, 3) := by decide +kernel
theorem d_De_bookingNumbered_11 : decode b_De_bookingNumbered 11 = .ok (.aconst_null, 1) := by decide +kernel
theorem d_De_bookingNumbered_12 : decode b_De_bookingNumbered 12 = .ok (.goto 9, 3) := by decide +kernel
theorem d_De_bookingNumbered_15 : decode b_De_bookingNumbered 15 = .ok (.aload_n 0, 1) := by decide +kernel
theorem d_De_bookingNumbered_16 : decode b_De_bookingNumbered 16 = .ok (.getfield 37, 3) := by decide +kernel
theorem d_De_bookingNumbered_19 : decode b_De_bookingNumbered 19 = .ok (.iload_n 1, 1) := by decide +kernel
theorem d_De_bookingNumbered_20 : decode b_De_bookingNumbered 20 = .ok (.aaload, 1) := by decide +kernel
theorem d_De_bookingNumbered_21 : decode b_De_bookingNumbered 21 = .ok (.astore_n 2, 1) := by decide +kernel
theorem d_De_bookingNumbered_22 : decode b_De_bookingNumbered 22 = .ok (.aload_n 2, 1) := by decide +kernel
theorem d_De_bookingNumbered_23 : decode b_De_bookingNumbered 23 = .ok (.ifnonnull 13, 3) := by decide +kernel
theorem d_De_bookingNumbered_26 : decode b_De_bookingNumbered 26 = .ok (.new 71, 3) := by decide +kernel
theorem d_De_bookingNumbered_29 : decode b_De_bookingNumbered 29 = .ok (.dup, 1) := by decide +kernel
theorem d_De_bookingNumbered_30 : decode b_De_bookingNumbered 30 = .ok (.ldc 212, 2) := by decide +kernel
theorem d_De_bookingNumbered_32 : decode b_De_bookingNumbered 32 = .ok (.invokespecial 75, 3) := by decide +kernel
theorem d_De_bookingNumbered_35 : decode b_De_bookingNumbered 35 = .ok (.athrow, 1) := by decide +kernel
theorem d_De_bookingNumbered_36 : decode b_De_bookingNumbered 36 = .ok (.aload_n 2, 1) := by decide +kernel
theorem d_De_bookingNumbered_37 : decode b_De_bookingNumbered 37 = .ok (.areturn, 1) := by decide +kernel
theorem d_De_bestRoom_0 : decode b_De_bestRoom 0 = .ok (.aconst_null, 1) := by decide +kernel
theorem d_De_bestRoom_1 : decode b_De_bestRoom 1 = .ok (.astore 4, 2) := by decide +kernel
theorem d_De_bestRoom_3 : decode b_De_bestRoom 3 = .ok (.iconst 0, 1) := by decide +kernel
theorem d_De_bestRoom_4 : decode b_De_bestRoom 4 = .ok (.istore 5, 2) := by decide +kernel
theorem d_De_bestRoom_6 : decode b_De_bestRoom 6 = .ok (.iload 5, 2) := by decide +kernel
theorem d_De_bestRoom_8 : decode b_De_bestRoom 8 = .ok (.aload_n 0, 1) := by decide +kernel
theorem d_De_bestRoom_9 : decode b_De_bestRoom 9 = .ok (.getfield 136, 3) := by decide +kernel
theorem d_De_bestRoom_12 : decode b_De_bestRoom 12 = .ok (.if_icmp .ge 71, 3) := by decide +kernel
theorem d_De_bestRoom_15 : decode b_De_bestRoom 15 = .ok (.aload_n 0, 1) := by decide +kernel
theorem d_De_bestRoom_16 : decode b_De_bestRoom 16 = .ok (.getfield 31, 3) := by decide +kernel
theorem d_De_bestRoom_19 : decode b_De_bestRoom 19 = .ok (.iload 5, 2) := by decide +kernel
theorem d_De_bestRoom_21 : decode b_De_bestRoom 21 = .ok (.aaload, 1) := by decide +kernel
theorem d_De_bestRoom_22 : decode b_De_bestRoom 22 = .ok (.astore 6, 2) := by decide +kernel
theorem d_De_bestRoom_24 : decode b_De_bestRoom 24 = .ok (.aload 6, 2) := by decide +kernel
theorem d_De_bestRoom_26 : decode b_De_bestRoom 26 = .ok (.getfield 141, 3) := by decide +kernel
theorem d_De_bestRoom_29 : decode b_De_bestRoom 29 = .ok (.iload_n 3, 1) := by decide +kernel
theorem d_De_bestRoom_30 : decode b_De_bestRoom 30 = .ok (.if_icmp .lt 17, 3) := by decide +kernel
theorem d_De_bestRoom_33 : decode b_De_bestRoom 33 = .ok (.aload 6, 2) := by decide +kernel
theorem d_De_bestRoom_35 : decode b_De_bestRoom 35 = .ok (.iload_n 1, 1) := by decide +kernel
theorem d_De_bestRoom_36 : decode b_De_bestRoom 36 = .ok (.iload_n 2, 1) := by decide +kernel
theorem d_De_bestRoom_37 : decode b_De_bestRoom 37 = .ok (.invokevirtual 186, 3) := by decide +kernel
theorem d_De_bestRoom_40 : decode b_De_bestRoom 40 = .ok (.ifnonnull 7, 3) := by decide +kernel
theorem d_De_bestRoom_43 : decode b_De_bestRoom 43 = .ok (.iconst 1, 1) := by decide +kernel
theorem d_De_bestRoom_44 : decode b_De_bestRoom 44 = .ok (.goto 4, 3) := by decide +kernel
theorem d_De_bestRoom_47 : decode b_De_bestRoom 47 = .ok (.iconst 0, 1) := by decide +kernel
theorem d_De_bestRoom_48 : decode b_De_bestRoom 48 = .ok (.istore 7, 2) := by decide +kernel
theorem d_De_bestRoom_50 : decode b_De_bestRoom 50 = .ok (.iload 7, 2) := by decide +kernel
theorem d_De_bestRoom_52 : decode b_De_bestRoom 52 = .ok (.ifCond .eq 25, 3) := by decide +kernel
theorem d_De_bestRoom_55 : decode b_De_bestRoom 55 = .ok (.aload 4, 2) := by decide +kernel
theorem d_De_bestRoom_57 : decode b_De_bestRoom 57 = .ok (.ifnull 16, 3) := by decide +kernel
theorem d_De_bestRoom_60 : decode b_De_bestRoom 60 = .ok (.aload 6, 2) := by decide +kernel
theorem d_De_bestRoom_62 : decode b_De_bestRoom 62 = .ok (.getfield 141, 3) := by decide +kernel
theorem d_De_bestRoom_65 : decode b_De_bestRoom 65 = .ok (.aload 4, 2) := by decide +kernel
theorem d_De_bestRoom_67 : decode b_De_bestRoom 67 = .ok (.getfield 141, 3) := by decide +kernel
theorem d_De_bestRoom_70 : decode b_De_bestRoom 70 = .ok (.if_icmp .ge 7, 3) := by decide +kernel
theorem d_De_bestRoom_73 : decode b_De_bestRoom 73 = .ok (.aload 6, 2) := by decide +kernel
theorem d_De_bestRoom_75 : decode b_De_bestRoom 75 = .ok (.astore 4, 2) := by decide +kernel
theorem d_De_bestRoom_77 : decode b_De_bestRoom 77 = .ok (.iinc 5 1, 3) := by decide +kernel
theorem d_De_bestRoom_80 : decode b_De_bestRoom 80 = .ok (.goto (-74), 3) := by decide +kernel
theorem d_De_bestRoom_83 : decode b_De_bestRoom 83 = .ok (.aload 4, 2) := by decide +kernel
theorem d_De_bestRoom_85 : decode b_De_bestRoom 85 = .ok (.areturn, 1) := by decide +kernel
