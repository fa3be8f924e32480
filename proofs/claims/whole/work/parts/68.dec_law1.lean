theorem d_La_desk_0 : decode b_La_desk 0 = .ok (.aload_n 1, 1) := by decide +kernel
theorem d_La_desk_1 : decode b_La_desk 1 = .ok (.iconst 0, 1) := by decide +kernel
theorem d_La_desk_2 : decode b_La_desk 2 = .ok (.aload_n 0, 1) := by decide +kernel
theorem d_La_desk_3 : decode b_La_desk 3 = .ok (.invokevirtual 7, 3) := by decide +kernel
theorem d_La_desk_6 : decode b_La_desk 6 = .ok (.i2l, 1) := by decide +kernel
theorem d_La_desk_7 : decode b_La_desk 7 = .ok (.lastore, 1) := by decide +kernel
theorem d_La_desk_8 : decode b_La_desk 8 = .ok (.goto 6, 3) := by decide +kernel
theorem d_La_desk_11 : decode b_La_desk 11 = .ok (.astore_n 2, 1) := by decide +kernel
theorem d_La_desk_12 : decode b_La_desk 12 = .ok (.iconst 1, 1) := by decide +kernel
theorem d_La_desk_13 : decode b_La_desk 13 = .ok (.ireturn, 1) := by decide +kernel
theorem d_La_desk_14 : decode b_La_desk 14 = .ok (.iconst 0, 1) := by decide +kernel
theorem d_La_desk_15 : decode b_La_desk 15 = .ok (.ireturn, 1) := by decide +kernel
theorem d_La_person_0 : decode b_La_person 0 = .ok (.aload_n 1, 1) := by decide +kernel
theorem d_La_person_1 : decode b_La_person 1 = .ok (.iconst 0, 1) := by decide +kernel
theorem d_La_person_2 : decode b_La_person 2 = .ok (.aload_n 0, 1) := by decide +kernel
theorem d_La_person_3 : decode b_La_person 3 = .ok (.invokevirtual 15, 3) := by decide +kernel
theorem d_La_person_6 : decode b_La_person 6 = .ok (.i2l, 1) := by decide +kernel
theorem d_La_person_7 : decode b_La_person 7 = .ok (.lastore, 1) := by decide +kernel
theorem d_La_person_8 : decode b_La_person 8 = .ok (.goto 6, 3) := by decide +kernel
theorem d_La_person_11 : decode b_La_person 11 = .ok (.astore_n 2, 1) := by decide +kernel
theorem d_La_person_12 : decode b_La_person 12 = .ok (.iconst 1, 1) := by decide +kernel
theorem d_La_person_13 : decode b_La_person 13 = .ok (.ireturn, 1) := by decide +kernel
theorem d_La_person_14 : decode b_La_person 14 = .ok (.iconst 0, 1) := by decide +kernel
theorem d_La_person_15 : decode b_La_person 15 = .ok (.ireturn, 1) := by decide +kernel
theorem d_La_wish_0 : decode b_La_wish 0 = .ok (.aload 4, 2) := by decide +kernel
theorem d_La_wish_2 : decode b_La_wish 2 = .ok (.iconst 0, 1) := by decide +kernel
theorem d_La_wish_3 : decode b_La_wish 3 = .ok (.aload_n 0, 1) := by decide +kernel
theorem d_La_wish_4 : decode b_La_wish 4 = .ok (.iload_n 1, 1) := by decide +kernel
theorem d_La_wish_5 : decode b_La_wish 5 = .ok (.iload_n 2, 1) := by decide +kernel
theorem d_La_wish_6 : decode b_La_wish 6 = .ok (.iload_n 3, 1) := by decide +kernel
theorem d_La_wish_7 : decode b_La_wish 7 = .ok (.invokevirtual 18, 3) := by decide +kernel
theorem d_La_wish_10 : decode b_La_wish 10 = .ok (.i2l, 1) := by decide +kernel
theorem d_La_wish_11 : decode b_La_wish 11 = .ok (.lastore, 1) := by decide +kernel
theorem d_La_wish_12 : decode b_La_wish 12 = .ok (.goto 7, 3) := by decide +kernel
theorem d_La_wish_15 : decode b_La_wish 15 = .ok (.astore 5, 2) := by decide +kernel
theorem d_La_wish_17 : decode b_La_wish 17 = .ok (.iconst 1, 1) := by decide +kernel
theorem d_La_wish_18 : decode b_La_wish 18 = .ok (.ireturn, 1) := by decide +kernel
theorem d_La_wish_19 : decode b_La_wish 19 = .ok (.iconst 0, 1) := by decide +kernel
theorem d_La_wish_20 : decode b_La_wish 20 = .ok (.ireturn, 1) := by decide +kernel
theorem d_La_bar_0 : decode b_La_bar 0 = .ok (.aload 4, 2) := by decide +kernel
theorem d_La_bar_2 : decode b_La_bar 2 = .ok (.iconst 0, 1) := by decide +kernel
theorem d_La_bar_3 : decode b_La_bar 3 = .ok (.aload_n 0, 1) := by decide +kernel
theorem d_La_bar_4 : decode b_La_bar 4 = .ok (.iload_n 1, 1) := by decide +kernel
theorem d_La_bar_5 : decode b_La_bar 5 = .ok (.iload_n 2, 1) := by decide +kernel
theorem d_La_bar_6 : decode b_La_bar 6 = .ok (.iload_n 3, 1) := by decide +kernel
theorem d_La_bar_7 : decode b_La_bar 7 = .ok (.invokevirtual 24, 3) := by decide +kernel
theorem d_La_bar_10 : decode b_La_bar 10 = .ok (.ifCond .eq 7, 3) := by decide +kernel
theorem d_La_bar_13 : decode b_La_bar 13 = .ok (.lconst 1, 1) := by decide +kernel
theorem d_La_bar_14 : decode b_La_bar 14 = .ok (.goto 4, 3) := by decide +kernel
theorem d_La_bar_17 : decode b_La_bar 17 = .ok (.lconst 0, 1) := by decide +kernel
theorem d_La_bar_18 : decode b_La_bar 18 = .ok (.lastore, 1) := by decide +kernel
theorem d_La_bar_19 : decode b_La_bar 19 = .ok (.goto 7, 3) := by decide +kernel
theorem d_La_bar_22 : decode b_La_bar 22 = .ok (.astore 5, 2) := by decide +kernel
theorem d_La_bar_24 : decode b_La_bar 24 = .ok (.iconst 1, 1) := by decide +kernel
theorem d_La_bar_25 : decode b_La_bar 25 = .ok (.ireturn, 1) := by decide +kernel
theorem d_La_bar_26 : decode b_La_bar 26 = .ok (.iconst 0, 1) := by decide +kernel
theorem d_La_bar_27 : decode b_La_bar 27 = .ok (.ireturn, 1) := by decide +kernel
theorem d_La_sits_0 : decode b_La_sits 0 = .ok (.aload_n 3, 1) := by decide +kernel
theorem d_La_sits_1 : decode b_La_sits 1 = .ok (.iconst 0, 1) := by decide +kernel
theorem d_La_sits_2 : decode b_La_sits 2 = .ok (.aload_n 0, 1) := by decide +kernel
theorem d_La_sits_3 : decode b_La_sits 3 = .ok (.iload_n 1, 1) := by decide +kernel
theorem d_La_sits_4 : decode b_La_sits 4 = .ok (.iload_n 2, 1) := by decide +kernel
theorem d_La_sits_5 : decode b_La_sits 5 = .ok (.invokevirtual 28, 3) := by decide +kernel
theorem d_La_sits_8 : decode b_La_sits 8 = .ok (.i2l, 1) := by decide +kernel
theorem d_La_sits_9 : decode b_La_sits 9 = .ok (.lastore, 1) := by decide +kernel
theorem d_La_sits_10 : decode b_La_sits 10 = .ok (.goto 11, 3) := by decide +kernel
theorem d_La_sits_13 : decode b_La_sits 13 = .ok (.astore 4, 2) := by decide +kernel
theorem d_La_sits_15 : decode b_La_sits 15 = .ok (.iconst 1, 1) := by decide +kernel
theorem d_La_sits_16 : decode b_La_sits 16 = .ok (.ireturn, 1) := by decide +kernel
theorem d_La_sits_17 : decode b_La_sits 17 = .ok (.astore 4, 2) := by decide +kernel
theorem d_La_sits_19 : decode b_La_sits 19 = .ok (.iconst 2, 1) := by decide +kernel
theorem d_La_sits_20 : decode b_La_sits 20 = .ok (.ireturn, 1) := by decide +kernel
theorem d_La_sits_21 : decode b_La_sits 21 = .ok (.iconst 0, 1) := by decide +kernel
theorem d_La_sits_22 : decode b_La_sits 22 = .ok (.ireturn, 1) := by decide +kernel
theorem d_La_deskOf_0 : decode b_La_deskOf 0 = .ok (.aload_n 2, 1) := by decide +kernel
theorem d_La_deskOf_1 : decode b_La_deskOf 1 = .ok (.iconst 0, 1) := by decide +kernel
theorem d_La_deskOf_2 : decode b_La_deskOf 2 = .ok (.aload_n 0, 1) := by decide +kernel
theorem d_La_deskOf_3 : decode b_La_deskOf 3 = .ok (.iload_n 1, 1) := by decide +kernel
theorem d_La_deskOf_4 : decode b_La_deskOf 4 = .ok (.invokevirtual 32, 3) := by decide +kernel
theorem d_La_deskOf_7 : decode b_La_deskOf 7 = .ok (.i2l, 1) := by decide +kernel
theorem d_La_deskOf_8 : decode b_La_deskOf 8 = .ok (.lastore, 1) := by decide +kernel
theorem d_La_deskOf_9 : decode b_La_deskOf 9 = .ok (.goto 6, 3) := by decide +kernel
theorem d_La_deskOf_12 : decode b_La_deskOf 12 = .ok (.astore_n 3, 1) := by decide +kernel
theorem d_La_deskOf_13 : decode b_La_deskOf 13 = .ok (.iconst 1, 1) := by decide +kernel
theorem d_La_deskOf_14 : decode b_La_deskOf 14 = .ok (.ireturn, 1) := by decide +kernel
theorem d_La_deskOf_15 : decode b_La_deskOf 15 = .ok (.iconst 0, 1) := by decide +kernel
theorem d_La_deskOf_16 : decode b_La_deskOf 16 = .ok (.ireturn, 1) := by decide +kernel
theorem d_La_steps_0 : decode b_La_steps 0 = .ok (.aload_n 1, 1) := by decide +kernel
theorem d_La_steps_1 : decode b_La_steps 1 = .ok (.iconst 0, 1) := by decide +kernel
theorem d_La_steps_2 : decode b_La_steps 2 = .ok (.aload_n 0, 1) := by decide +kernel
theorem d_La_steps_3 : decode b_La_steps 3 = .ok (.invokevirtual 36, 3) := by decide +kernel
theorem d_La_steps_6 : decode b_La_steps 6 = .ok (.i2l, 1) := by decide +kernel
theorem d_La_steps_7 : decode b_La_steps 7 = .ok (.lastore, 1) := by decide +kernel
theorem d_La_steps_8 : decode b_La_steps 8 = .ok (.goto 6, 3) := by decide +kernel
theorem d_La_steps_11 : decode b_La_steps 11 = .ok (.astore_n 2, 1) := by decide +kernel
theorem d_La_steps_12 : decode b_La_steps 12 = .ok (.iconst 1, 1) := by decide +kernel
theorem d_La_steps_13 : decode b_La_steps 13 = .ok (.ireturn, 1) := by decide +kernel
theorem d_La_steps_14 : decode b_La_steps 14 = .ok (.iconst 0, 1) := by decide +kernel
theorem d_La_steps_15 : decode b_La_steps 15 = .ok (.ireturn, 1) := by decide +kernel
theorem d_La_step_0 : decode b_La_step 0 = .ok (.aload_n 3, 1) := by decide +kernel
theorem d_La_step_1 : decode b_La_step 1 = .ok (.iconst 0, 1) := by decide +kernel
theorem d_La_step_2 : decode b_La_step 2 = .ok (.aload_n 0, 1) := by decide +kernel
theorem d_La_step_3 : decode b_La_step 3 = .ok (.iload_n 1, 1) := by decide +kernel
theorem d_La_step_4 : decode b_La_step 4 = .ok (.iload_n 2, 1) := by decide +kernel
theorem d_La_step_5 : decode b_La_step 5 = .ok (.invokevirtual 39, 3) := by decide +kernel
theorem d_La_step_8 : decode b_La_step 8 = .ok (.i2l, 1) := by decide +kernel
theorem d_La_step_9 : decode b_La_step 9 = .ok (.lastore, 1) := by decide +kernel
theorem d_La_step_10 : decode b_La_step 10 = .ok (.goto 11, 3) := by decide +kernel
theorem d_La_step_13 : decode b_La_step 13 = .ok (.astore 4, 2) := by decide +kernel
theorem d_La_step_15 : decode b_La_step 15 = .ok (.iconst 1, 1) := by decide +kernel
theorem d_La_step_16 : decode b_La_step 16 = .ok (.ireturn, 1) := by decide +kernel
theorem d_La_step_17 : decode b_La_step 17 = .ok (.astore 4, 2) := by decide +kernel
theorem d_La_step_19 : decode b_La_step 19 = .ok (.iconst 2, 1) := by decide +kernel
theorem d_La_step_20 : decode b_La_step 20 = .ok (.ireturn, 1) := by decide +kernel
theorem d_La_step_21 : decode b_La_step 21 = .ok (.iconst 0, 1) := by decide +kernel
theorem d_La_step_22 : decode b_La_step 22 = .ok (.ireturn, 1) := by decide +kernel
theorem d_La_settle_0 : decode b_La_settle 0 = .ok (.aload_n 1, 1) := by decide +kernel
theorem d_La_settle_1 : decode b_La_settle 1 = .ok (.iconst 0, 1) := by decide +kernel
theorem d_La_settle_2 : decode b_La_settle 2 = .ok (.aload_n 0, 1) := by decide +kernel
theorem d_La_settle_3 : decode b_La_settle 3 = .ok (.invokevirtual 42, 3) := by decide +kernel
theorem d_La_settle_6 : decode b_La_settle 6 = .ok (.i2l, 1) := by decide +kernel
theorem d_La_settle_7 : decode b_La_settle 7 = .ok (.lastore, 1) := by decide +kernel
theorem d_La_settle_8 : decode b_La_settle 8 = .ok (.goto 6, 3) := by decide +kernel
theorem d_La_settle_11 : decode b_La_settle 11 = .ok (.astore_n 2, 1) := by decide +kernel
theorem d_La_settle_12 : decode b_La_settle 12 = .ok (.iconst 1, 1) := by decide +kernel
theorem d_La_settle_13 : decode b_La_settle 13 = .ok (.ireturn, 1) := by decide +kernel
theorem d_La_settle_14 : decode b_La_settle 14 = .ok (.iconst 0, 1) := by decide +kernel
theorem d_La_settle_15 : decode b_La_settle 15 = .ok (.ireturn, 1) := by decide +kernel
theorem d_La_worthOf_0 : decode b_La_worthOf 0 = .ok (.aload_n 2, 1) := by decide +kernel
theorem d_La_worthOf_1 : decode b_La_worthOf 1 = .ok (.iconst 0, 1) := by decide +kernel
theorem d_La_worthOf_2 : decode b_La_worthOf 2 = .ok (.aload_n 0, 1) := by decide +kernel
theorem d_La_worthOf_3 : decode b_La_worthOf 3 = .ok (.iload_n 1, 1) := by decide +kernel
theorem d_La_worthOf_4 : decode b_La_worthOf 4 = .ok (.invokevirtual 45, 3) := by decide +kernel
theorem d_La_worthOf_7 : decode b_La_worthOf 7 = .ok (.i2l, 1) := by decide +kernel
theorem d_La_worthOf_8 : decode b_La_worthOf 8 = .ok (.lastore, 1) := by decide +kernel
theorem d_La_worthOf_9 : decode b_La_worthOf 9 = .ok (.goto 9, 3) := by decide +kernel
theorem d_La_worthOf_12 : decode b_La_worthOf 12 = .ok (.astore_n 3, 1) := by decide +kernel
theorem d_La_worthOf_13 : decode b_La_worthOf 13 = .ok (.iconst 1, 1) := by decide +kernel
theorem d_La_worthOf_14 : decode b_La_worthOf 14 = .ok (.ireturn, 1) := by decide +kernel
theorem d_La_worthOf_15 : decode b_La_worthOf 15 = .ok (.astore_n 3, 1) := by decide +kernel
theorem d_La_worthOf_16 : decode b_La_worthOf 16 = .ok (.iconst 2, 1) := by decide +kernel
theorem d_La_worthOf_17 : decode b_La_worthOf 17 = .ok (.ireturn, 1) := by decide +kernel
theorem d_La_worthOf_18 : decode b_La_worthOf 18 = .ok (.iconst 0, 1) := by decide +kernel
theorem d_La_worthOf_19 : decode b_La_worthOf 19 = .ok (.ireturn, 1) := by decide +kernel
theorem d_La_room_0 : decode b_La_room 0 = .ok (.aload_n 2, 1) := by decide +kernel
theorem d_La_room_1 : decode b_La_room 1 = .ok (.iconst 0, 1) := by decide +kernel
theorem d_La_room_2 : decode b_La_room 2 = .ok (.aload_n 0, 1) := by decide +kernel
theorem d_La_room_3 : decode b_La_room 3 = .ok (.iload_n 1, 1) := by decide +kernel
theorem d_La_room_4 : decode b_La_room 4 = .ok (.invokevirtual 48, 3) := by decide +kernel
theorem d_La_room_7 : decode b_La_room 7 = .ok (.i2l, 1) := by decide +kernel
theorem d_La_room_8 : decode b_La_room 8 = .ok (.lastore, 1) := by decide +kernel
theorem d_La_room_9 : decode b_La_room 9 = .ok (.goto 9, 3) := by decide +kernel
theorem d_La_room_12 : decode b_La_room 12 = .ok (.astore_n 3, 1) := by decide +kernel
theorem d_La_room_13 : decode b_La_room 13 = .ok (.iconst 1, 1) := by decide +kernel
theorem d_La_room_14 : decode b_La_room 14 = .ok (.ireturn, 1) := by decide +kernel
theorem d_La_room_15 : decode b_La_room 15 = .ok (.astore_n 3, 1) := by decide +kernel
theorem d_La_room_16 : decode b_La_room 16 = .ok (.iconst 2, 1) := by decide +kernel
theorem d_La_room_17 : decode b_La_room 17 = .ok (.ireturn, 1) := by decide +kernel
theorem d_La_room_18 : decode b_La_room 18 = .ok (.iconst 0, 1) := by decide +kernel
theorem d_La_room_19 : decode b_La_room 19 = .ok (.ireturn, 1) := by decide +kernel
theorem d_La_book_0 : decode b_La_book 0 = .ok (.aload 4, 2) := by decide +kernel
theorem d_La_book_2 : decode b_La_book 2 = .ok (.iconst 0, 1) := by decide +kernel
theorem d_La_book_3 : decode b_La_book 3 = .ok (.aload_n 0, 1) := by decide +kernel
theorem d_La_book_4 : decode b_La_book 4 = .ok (.iload_n 1, 1) := by decide +kernel
theorem d_La_book_5 : decode b_La_book 5 = .ok (.iload_n 2, 1) := by decide +kernel
theorem d_La_book_6 : decode b_La_book 6 = .ok (.iload_n 3, 1) := by decide +kernel
theorem d_La_book_7 : decode b_La_book 7 = .ok (.invokevirtual 51, 3) := by decide +kernel
theorem d_La_book_10 : decode b_La_book 10 = .ok (.i2l, 1) := by decide +kernel
theorem d_La_book_11 : decode b_La_book 11 = .ok (.lastore, 1) := by decide +kernel
theorem d_La_book_12 : decode b_La_book 12 = .ok (.goto 11, 3) := by decide +kernel
theorem d_La_book_15 : decode b_La_book 15 = .ok (.astore 5, 2) := by decide +kernel
theorem d_La_book_17 : decode b_La_book 17 = .ok (.iconst 1, 1) := by decide +kernel
theorem d_La_book_18 : decode b_La_book 18 = .ok (.ireturn, 1) := by decide +kernel
theorem d_La_book_19 : decode b_La_book 19 = .ok (.astore 5, 2) := by decide +kernel
theorem d_La_book_21 : decode b_La_book 21 = .ok (.iconst 2, 1) := by decide +kernel
theorem d_La_book_22 : decode b_La_book 22 = .ok (.ireturn, 1) := by decide +kernel
theorem d_La_book_23 : decode b_La_book 23 = .ok (.iconst 0, 1) := by decide +kernel
theorem d_La_book_24 : decode b_La_book 24 = .ok (.ireturn, 1) := by decide +kernel
theorem d_La_cancel_0 : decode b_La_cancel 0 = .ok (.aload_n 2, 1) := by decide +kernel
theorem d_La_cancel_1 : decode b_La_cancel 1 = .ok (.iconst 0, 1) := by decide +kernel
theorem d_La_cancel_2 : decode b_La_cancel 2 = .ok (.aload_n 0, 1) := by decide +kernel
theorem d_La_cancel_3 : decode b_La_cancel 3 = .ok (.iload_n 1, 1) := by decide +kernel
theorem d_La_cancel_4 : decode b_La_cancel 4 = .ok (.invokevirtual 54, 3) := by decide +kernel
theorem d_La_cancel_7 : decode b_La_cancel 7 = .ok (.ifCond .eq 7, 3) := by decide +kernel
theorem d_La_cancel_10 : decode b_La_cancel 10 = .ok (.lconst 1, 1) := by decide +kernel
theorem d_La_cancel_11 : decode b_La_cancel 11 = .ok (.goto 4, 3) := by decide +kernel
theorem d_La_cancel_14 : decode b_La_cancel 14 = .ok (.lconst 0, 1) := by decide +kernel
theorem d_La_cancel_15 : decode b_La_cancel 15 = .ok (.lastore, 1) := by decide +kernel
theorem d_La_cancel_16 : decode b_La_cancel 16 = .ok (.goto 6, 3) := by decide +kernel
theorem d_La_cancel_19 : decode b_La_cancel 19 = .ok (.astore_n 3, 1) := by decide +kernel
theorem d_La_cancel_20 : decode b_La_cancel 20 = .ok (.iconst 1, 1) := by decide +kernel
theorem d_La_cancel_21 : decode b_La_cancel 21 = .ok (.ireturn, 1) := by decide +kernel
theorem d_La_cancel_22 : decode b_La_cancel 22 = .ok (.iconst 0, 1) := by decide +kernel
theorem d_La_cancel_23 : decode b_La_cancel 23 = .ok (.ireturn, 1) := by decide +kernel
theorem d_La_roomOf_0 : decode b_La_roomOf 0 = .ok (.aload_n 2, 1) := by decide +kernel
theorem d_La_roomOf_1 : decode b_La_roomOf 1 = .ok (.iconst 0, 1) := by decide +kernel
theorem d_La_roomOf_2 : decode b_La_roomOf 2 = .ok (.aload_n 0, 1) := by decide +kernel
theorem d_La_roomOf_3 : decode b_La_roomOf 3 = .ok (.iload_n 1, 1) := by decide +kernel
theorem d_La_roomOf_4 : decode b_La_roomOf 4 = .ok (.invokevirtual 58, 3) := by decide +kernel
theorem d_La_roomOf_7 : decode b_La_roomOf 7 = .ok (.i2l, 1) := by decide +kernel
theorem d_La_roomOf_8 : decode b_La_roomOf 8 = .ok (.lastore, 1) := by decide +kernel
theorem d_La_roomOf_9 : decode b_La_roomOf 9 = .ok (.goto 6, 3) := by decide +kernel
theorem d_La_roomOf_12 : decode b_La_roomOf 12 = .ok (.astore_n 3, 1) := by decide +kernel
theorem d_La_roomOf_13 : decode b_La_roomOf 13 = .ok (.iconst 1, 1) := by decide +kernel
theorem d_La_roomOf_14 : decode b_La_roomOf 14 = .ok (.ireturn, 1) := by decide +kernel
theorem d_La_roomOf_15 : decode b_La_roomOf 15 = .ok (.iconst 0, 1) := by decide +kernel
theorem d_La_roomOf_16 : decode b_La_roomOf 16 = .ok (.ireturn, 1) := by decide +kernel
theorem d_La_inside_0 : decode b_La_inside 0 = .ok (.aload_n 3, 1) := by decide +kernel
theorem d_La_inside_1 : decode b_La_inside 1 = .ok (.iconst 0, 1) := by decide +kernel
theorem d_La_inside_2 : decode b_La_inside 2 = .ok (.aload_n 0, 1) := by decide +kernel
theorem d_La_inside_3 : decode b_La_inside 3 = .ok (.iload_n 1, 1) := by decide +kernel
theorem d_La_inside_4 : decode b_La_inside 4 = .ok (.iload_n 2, 1) := by decide +kernel
theorem d_La_inside_5 : decode b_La_inside 5 = .ok (.invokevirtual 61, 3) := by decide +kernel
theorem d_La_inside_8 : decode b_La_inside 8 = .ok (.i2l, 1) := by decide +kernel
theorem d_La_inside_9 : decode b_La_inside 9 = .ok (.lastore, 1) := by decide +kernel
theorem d_La_inside_10 : decode b_La_inside 10 = .ok (.goto 7, 3) := by decide +kernel
theorem d_La_inside_13 : decode b_La_inside 13 = .ok (.astore 4, 2) := by decide +kernel
theorem d_La_inside_15 : decode b_La_inside 15 = .ok (.iconst 1, 1) := by decide +kernel
theorem d_La_inside_16 : decode b_La_inside 16 = .ok (.ireturn, 1) := by decide +kernel
theorem d_La_inside_17 : decode b_La_inside 17 = .ok (.iconst 0, 1) := by decide +kernel
theorem d_La_inside_18 : decode b_La_inside 18 = .ok (.ireturn, 1) := by decide +kernel
theorem d_La_gap_0 : decode b_La_gap 0 = .ok (.aload 4, 2) := by decide +kernel
theorem d_La_gap_2 : decode b_La_gap 2 = .ok (.iconst 0, 1) := by decide +kernel
theorem d_La_gap_3 : decode b_La_gap 3 = .ok (.aload_n 0, 1) := by decide +kernel
theorem d_La_gap_4 : decode b_La_gap 4 = .ok (.iload_n 1, 1) := by decide +kernel
theorem d_La_gap_5 : decode b_La_gap 5 = .ok (.iload_n 2, 1) := by decide +kernel
theorem d_La_gap_6 : decode b_La_gap 6 = .ok (.iload_n 3, 1) := by decide +kernel
theorem d_La_gap_7 : decode b_La_gap 7 = .ok (.invokevirtual 64, 3) := by decide +kernel
theorem d_La_gap_10 : decode b_La_gap 10 = .ok (.i2l, 1) := by decide +kernel
theorem d_La_gap_11 : decode b_La_gap 11 = .ok (.lastore, 1) := by decide +kernel
theorem d_La_gap_12 : decode b_La_gap 12 = .ok (.goto 7, 3) := by decide +kernel
theorem d_La_gap_15 : decode b_La_gap 15 = .ok (.astore 5, 2) := by decide +kernel
theorem d_La_gap_17 : decode b_La_gap 17 = .ok (.iconst 1, 1) := by decide +kernel
theorem d_La_gap_18 : decode b_La_gap 18 = .ok (.ireturn, 1) := by decide +kernel
theorem d_La_gap_19 : decode b_La_gap 19 = .ok (.iconst 0, 1) := by decide +kernel
theorem d_La_gap_20 : decode b_La_gap 20 = .ok (.ireturn, 1) := by decide +kernel
