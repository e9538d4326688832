theorem dX0_init_0 : decode cX0_init 0 = .ok (.aload_n 0, 1) := by decide +kernel
theorem dX0_init_1 : decode cX0_init 1 = .ok (.invokespecial 3, 3) := by decide +kernel
theorem dX0_init_4 : decode cX0_init 4 = .ok (.aload_n 0, 1) := by decide +kernel
theorem dX0_init_5 : decode cX0_init 5 = .ok (.iload_n 1, 1) := by decide +kernel
theorem dX0_init_6 : decode cX0_init 6 = .ok (.putfield 9, 3) := by decide +kernel
theorem dX0_init_9 : decode cX0_init 9 = .ok (.aload_n 0, 1) := by decide +kernel
theorem dX0_init_10 : decode cX0_init 10 = .ok (.new 15, 3) := by decide +kernel
theorem dX0_init_13 : decode cX0_init 13 = .ok (.dup, 1) := by decide +kernel
theorem dX0_init_14 : decode cX0_init 14 = .ok (.aload_n 2, 1) := by decide +kernel
theorem dX0_init_15 : decode cX0_init 15 = .ok (.invokespecial 17, 3) := by decide +kernel
theorem dX0_init_18 : decode cX0_init 18 = .ok (.putfield 20, 3) := by decide +kernel
theorem dX0_init_21 : decode cX0_init 21 = .ok (.aload_n 0, 1) := by decide +kernel
theorem dX0_init_22 : decode cX0_init 22 = .ok (.aload_n 2, 1) := by decide +kernel
theorem dX0_init_23 : decode cX0_init 23 = .ok (.getfield 24, 3) := by decide +kernel
theorem dX0_init_26 : decode cX0_init 26 = .ok (.invokevirtual 28, 3) := by decide +kernel
theorem dX0_init_29 : decode cX0_init 29 = .ok (.checkcast 29, 3) := by decide +kernel
theorem dX0_init_32 : decode cX0_init 32 = .ok (.putfield 33, 3) := by decide +kernel
theorem dX0_init_35 : decode cX0_init 35 = .ok (.aload_n 0, 1) := by decide +kernel
theorem dX0_init_36 : decode cX0_init 36 = .ok (.iconst (-1), 1) := by decide +kernel
theorem dX0_init_37 : decode cX0_init 37 = .ok (.putfield 34, 3) := by decide +kernel
theorem dX0_init_40 : decode cX0_init 40 = .ok (.aload_n 0, 1) := by decide +kernel
theorem dX0_init_41 : decode cX0_init 41 = .ok (.bipush 8, 2) := by decide +kernel
theorem dX0_init_43 : decode cX0_init 43 = .ok (.newarray .int, 2) := by decide +kernel
theorem dX0_init_45 : decode cX0_init 45 = .ok (.putfield 37, 3) := by decide +kernel
theorem dX0_init_48 : decode cX0_init 48 = .ok (.aload_n 0, 1) := by decide +kernel
theorem dX0_init_49 : decode cX0_init 49 = .ok (.iconst (-1), 1) := by decide +kernel
theorem dX0_init_50 : decode cX0_init 50 = .ok (.putfield 40, 3) := by decide +kernel
theorem dX0_init_53 : decode cX0_init 53 = .ok (.aload_n 0, 1) := by decide +kernel
theorem dX0_init_54 : decode cX0_init 54 = .ok (.iconst (-1), 1) := by decide +kernel
theorem dX0_init_55 : decode cX0_init 55 = .ok (.putfield 43, 3) := by decide +kernel
theorem dX0_init_58 : decode cX0_init 58 = .ok (.return_, 1) := by decide +kernel
theorem dX0_weightNow_0 : decode cX0_weightNow 0 = .ok (.aload_n 0, 1) := by decide +kernel
theorem dX0_weightNow_1 : decode cX0_weightNow 1 = .ok (.getfield 20, 3) := by decide +kernel
theorem dX0_weightNow_4 : decode cX0_weightNow 4 = .ok (.aload_n 0, 1) := by decide +kernel
theorem dX0_weightNow_5 : decode cX0_weightNow 5 = .ok (.getfield 33, 3) := by decide +kernel
theorem dX0_weightNow_8 : decode cX0_weightNow 8 = .ok (.invokevirtual 46, 3) := by decide +kernel
theorem dX0_weightNow_11 : decode cX0_weightNow 11 = .ok (.ireturn, 1) := by decide +kernel
theorem dX0_partNow_0 : decode cX0_partNow 0 = .ok (.aload_n 0, 1) := by decide +kernel
theorem dX0_partNow_1 : decode cX0_partNow 1 = .ok (.getfield 20, 3) := by decide +kernel
theorem dX0_partNow_4 : decode cX0_partNow 4 = .ok (.iload_n 1, 1) := by decide +kernel
theorem dX0_partNow_5 : decode cX0_partNow 5 = .ok (.aload_n 0, 1) := by decide +kernel
theorem dX0_partNow_6 : decode cX0_partNow 6 = .ok (.getfield 33, 3) := by decide +kernel
theorem dX0_partNow_9 : decode cX0_partNow 9 = .ok (.invokevirtual 50, 3) := by decide +kernel
theorem dX0_partNow_12 : decode cX0_partNow 12 = .ok (.ireturn, 1) := by decide +kernel
theorem dX0_canBeTuned_0 : decode cX0_canBeTuned 0 = .ok (.aload_n 0, 1) := by decide +kernel
theorem dX0_canBeTuned_1 : decode cX0_canBeTuned 1 = .ok (.getfield 54, 3) := by decide +kernel
theorem dX0_canBeTuned_4 : decode cX0_canBeTuned 4 = .ok (.ifCond .ne 14, 3) := by decide +kernel
theorem dX0_canBeTuned_7 : decode cX0_canBeTuned 7 = .ok (.aload_n 0, 1) := by decide +kernel
theorem dX0_canBeTuned_8 : decode cX0_canBeTuned 8 = .ok (.getfield 58, 3) := by decide +kernel
theorem dX0_canBeTuned_11 : decode cX0_canBeTuned 11 = .ok (.ifCond .ne 7, 3) := by decide +kernel
theorem dX0_canBeTuned_14 : decode cX0_canBeTuned 14 = .ok (.iconst 1, 1) := by decide +kernel
theorem dX0_canBeTuned_15 : decode cX0_canBeTuned 15 = .ok (.goto 4, 3) := by decide +kernel
theorem dX0_canBeTuned_18 : decode cX0_canBeTuned 18 = .ok (.iconst 0, 1) := by decide +kernel
theorem dX0_canBeTuned_19 : decode cX0_canBeTuned 19 = .ok (.ireturn, 1) := by decide +kernel
theorem dX0_roomAt_0 : decode cX0_roomAt 0 = .ok (.aload_n 0, 1) := by decide +kernel
theorem dX0_roomAt_1 : decode cX0_roomAt 1 = .ok (.getfield 33, 3) := by decide +kernel
theorem dX0_roomAt_4 : decode cX0_roomAt 4 = .ok (.iload_n 1, 1) := by decide +kernel
theorem dX0_roomAt_5 : decode cX0_roomAt 5 = .ok (.iaload, 1) := by decide +kernel
theorem dX0_roomAt_6 : decode cX0_roomAt 6 = .ok (.aload_n 0, 1) := by decide +kernel
theorem dX0_roomAt_7 : decode cX0_roomAt 7 = .ok (.getfield 20, 3) := by decide +kernel
theorem dX0_roomAt_10 : decode cX0_roomAt 10 = .ok (.getfield 61, 3) := by decide +kernel
theorem dX0_roomAt_13 : decode cX0_roomAt 13 = .ok (.iload_n 1, 1) := by decide +kernel
theorem dX0_roomAt_14 : decode cX0_roomAt 14 = .ok (.iaload, 1) := by decide +kernel
theorem dX0_roomAt_15 : decode cX0_roomAt 15 = .ok (.isub, 1) := by decide +kernel
theorem dX0_roomAt_16 : decode cX0_roomAt 16 = .ok (.ireturn, 1) := by decide +kernel
theorem dX0_tableAt_0 : decode cX0_tableAt 0 = .ok (.aload_n 0, 1) := by decide +kernel
theorem dX0_tableAt_1 : decode cX0_tableAt 1 = .ok (.getfield 20, 3) := by decide +kernel
theorem dX0_tableAt_4 : decode cX0_tableAt 4 = .ok (.getfield 64, 3) := by decide +kernel
theorem dX0_tableAt_7 : decode cX0_tableAt 7 = .ok (.iload_n 1, 1) := by decide +kernel
theorem dX0_tableAt_8 : decode cX0_tableAt 8 = .ok (.bipush 8, 2) := by decide +kernel
theorem dX0_tableAt_10 : decode cX0_tableAt 10 = .ok (.imul, 1) := by decide +kernel
theorem dX0_tableAt_11 : decode cX0_tableAt 11 = .ok (.iload_n 2, 1) := by decide +kernel
theorem dX0_tableAt_12 : decode cX0_tableAt 12 = .ok (.iadd, 1) := by decide +kernel
theorem dX0_tableAt_13 : decode cX0_tableAt 13 = .ok (.iaload, 1) := by decide +kernel
theorem dX0_tableAt_14 : decode cX0_tableAt 14 = .ok (.ireturn, 1) := by decide +kernel
theorem dX0_takeOff_0 : decode cX0_takeOff 0 = .ok (.aload_n 0, 1) := by decide +kernel
theorem dX0_takeOff_1 : decode cX0_takeOff 1 = .ok (.getfield 33, 3) := by decide +kernel
theorem dX0_takeOff_4 : decode cX0_takeOff 4 = .ok (.iload_n 1, 1) := by decide +kernel
theorem dX0_takeOff_5 : decode cX0_takeOff 5 = .ok (.dup2, 1) := by decide +kernel
theorem dX0_takeOff_6 : decode cX0_takeOff 6 = .ok (.iaload, 1) := by decide +kernel
theorem dX0_takeOff_7 : decode cX0_takeOff 7 = .ok (.iload_n 2, 1) := by decide +kernel
theorem dX0_takeOff_8 : decode cX0_takeOff 8 = .ok (.isub, 1) := by decide +kernel
theorem dX0_takeOff_9 : decode cX0_takeOff 9 = .ok (.iastore, 1) := by decide +kernel
theorem dX0_takeOff_10 : decode cX0_takeOff 10 = .ok (.aload_n 0, 1) := by decide +kernel
theorem dX0_takeOff_11 : decode cX0_takeOff 11 = .ok (.iconst (-1), 1) := by decide +kernel
theorem dX0_takeOff_12 : decode cX0_takeOff 12 = .ok (.putfield 43, 3) := by decide +kernel
theorem dX0_takeOff_15 : decode cX0_takeOff 15 = .ok (.aload_n 0, 1) := by decide +kernel
theorem dX0_takeOff_16 : decode cX0_takeOff 16 = .ok (.getfield 20, 3) := by decide +kernel
theorem dX0_takeOff_19 : decode cX0_takeOff 19 = .ok (.getfield 67, 3) := by decide +kernel
theorem dX0_takeOff_22 : decode cX0_takeOff 22 = .ok (.iload_n 1, 1) := by decide +kernel
theorem dX0_takeOff_23 : decode cX0_takeOff 23 = .ok (.iaload, 1) := by decide +kernel
theorem dX0_takeOff_24 : decode cX0_takeOff 24 = .ok (.iload_n 2, 1) := by decide +kernel
theorem dX0_takeOff_25 : decode cX0_takeOff 25 = .ok (.imul, 1) := by decide +kernel
theorem dX0_takeOff_26 : decode cX0_takeOff 26 = .ok (.ireturn, 1) := by decide +kernel
theorem dX1_init_0 : decode cX1_init 0 = .ok (.aload_n 0, 1) := by decide +kernel
theorem dX1_init_1 : decode cX1_init 1 = .ok (.invokespecial 5, 3) := by decide +kernel
theorem dX1_init_4 : decode cX1_init 4 = .ok (.aload_n 0, 1) := by decide +kernel
theorem dX1_init_5 : decode cX1_init 5 = .ok (.bipush 8, 2) := by decide +kernel
theorem dX1_init_7 : decode cX1_init 7 = .ok (.newarray .int, 2) := by decide +kernel
theorem dX1_init_9 : decode cX1_init 9 = .ok (.putfield 11, 3) := by decide +kernel
theorem dX1_init_12 : decode cX1_init 12 = .ok (.aload_n 0, 1) := by decide +kernel
theorem dX1_init_13 : decode cX1_init 13 = .ok (.ldc2_w 15, 3) := by decide +kernel
theorem dX1_init_16 : decode cX1_init 16 = .ok (.putfield 17, 3) := by decide +kernel
theorem dX1_init_19 : decode cX1_init 19 = .ok (.aload_n 0, 1) := by decide +kernel
theorem dX1_init_20 : decode cX1_init 20 = .ok (.bipush 24, 2) := by decide +kernel
theorem dX1_init_22 : decode cX1_init 22 = .ok (.newarray .int, 2) := by decide +kernel
theorem dX1_init_24 : decode cX1_init 24 = .ok (.putfield 21, 3) := by decide +kernel
theorem dX1_init_27 : decode cX1_init 27 = .ok (.aload_n 0, 1) := by decide +kernel
theorem dX1_init_28 : decode cX1_init 28 = .ok (.bipush 24, 2) := by decide +kernel
theorem dX1_init_30 : decode cX1_init 30 = .ok (.newarray .int, 2) := by decide +kernel
theorem dX1_init_32 : decode cX1_init 32 = .ok (.putfield 24, 3) := by decide +kernel
theorem dX1_init_35 : decode cX1_init 35 = .ok (.aload_n 0, 1) := by decide +kernel
theorem dX1_init_36 : decode cX1_init 36 = .ok (.bipush 24, 2) := by decide +kernel
theorem dX1_init_38 : decode cX1_init 38 = .ok (.newarray .int, 2) := by decide +kernel
theorem dX1_init_40 : decode cX1_init 40 = .ok (.putfield 27, 3) := by decide +kernel
theorem dX1_init_43 : decode cX1_init 43 = .ok (.aload_n 0, 1) := by decide +kernel
theorem dX1_init_44 : decode cX1_init 44 = .ok (.bipush 24, 2) := by decide +kernel
theorem dX1_init_46 : decode cX1_init 46 = .ok (.newarray .int, 2) := by decide +kernel
theorem dX1_init_48 : decode cX1_init 48 = .ok (.putfield 30, 3) := by decide +kernel
theorem dX1_init_51 : decode cX1_init 51 = .ok (.aload_n 0, 1) := by decide +kernel
theorem dX1_init_52 : decode cX1_init 52 = .ok (.bipush 24, 2) := by decide +kernel
theorem dX1_init_54 : decode cX1_init 54 = .ok (.newarray .long, 2) := by decide +kernel
theorem dX1_init_56 : decode cX1_init 56 = .ok (.putfield 33, 3) := by decide +kernel
theorem dX1_init_59 : decode cX1_init 59 = .ok (.aload_n 0, 1) := by decide +kernel
theorem dX1_init_60 : decode cX1_init 60 = .ok (.bipush 24, 2) := by decide +kernel
theorem dX1_init_62 : decode cX1_init 62 = .ok (.newarray .int, 2) := by decide +kernel
theorem dX1_init_64 : decode cX1_init 64 = .ok (.putfield 37, 3) := by decide +kernel
theorem dX1_init_67 : decode cX1_init 67 = .ok (.return_, 1) := by decide +kernel
theorem dX1_forget_0 : decode cX1_forget 0 = .ok (.aload_n 0, 1) := by decide +kernel
theorem dX1_forget_1 : decode cX1_forget 1 = .ok (.iconst 0, 1) := by decide +kernel
theorem dX1_forget_2 : decode cX1_forget 2 = .ok (.putfield 40, 3) := by decide +kernel
theorem dX1_forget_5 : decode cX1_forget 5 = .ok (.return_, 1) := by decide +kernel
theorem dX1_addNote_0 : decode cX1_addNote 0 = .ok (.aload_n 0, 1) := by decide +kernel
theorem dX1_addNote_1 : decode cX1_addNote 1 = .ok (.getfield 11, 3) := by decide +kernel
theorem dX1_addNote_4 : decode cX1_addNote 4 = .ok (.aload_n 0, 1) := by decide +kernel
theorem dX1_addNote_5 : decode cX1_addNote 5 = .ok (.getfield 44, 3) := by decide +kernel
theorem dX1_addNote_8 : decode cX1_addNote 8 = .ok (.iload_n 1, 1) := by decide +kernel
theorem dX1_addNote_9 : decode cX1_addNote 9 = .ok (.iastore, 1) := by decide +kernel
theorem dX1_addNote_10 : decode cX1_addNote 10 = .ok (.aload_n 0, 1) := by decide +kernel
theorem dX1_addNote_11 : decode cX1_addNote 11 = .ok (.dup, 1) := by decide +kernel
theorem dX1_addNote_12 : decode cX1_addNote 12 = .ok (.getfield 44, 3) := by decide +kernel
theorem dX1_addNote_15 : decode cX1_addNote 15 = .ok (.iconst 1, 1) := by decide +kernel
theorem dX1_addNote_16 : decode cX1_addNote 16 = .ok (.iadd, 1) := by decide +kernel
theorem dX1_addNote_17 : decode cX1_addNote 17 = .ok (.putfield 44, 3) := by decide +kernel
theorem dX1_addNote_20 : decode cX1_addNote 20 = .ok (.aload_n 0, 1) := by decide +kernel
theorem dX1_addNote_21 : decode cX1_addNote 21 = .ok (.iconst 0, 1) := by decide +kernel
theorem dX1_addNote_22 : decode cX1_addNote 22 = .ok (.putfield 40, 3) := by decide +kernel
theorem dX1_addNote_25 : decode cX1_addNote 25 = .ok (.return_, 1) := by decide +kernel
theorem dX1_startAnew_0 : decode cX1_startAnew 0 = .ok (.aload_n 0, 1) := by decide +kernel
theorem dX1_startAnew_1 : decode cX1_startAnew 1 = .ok (.iconst 0, 1) := by decide +kernel
theorem dX1_startAnew_2 : decode cX1_startAnew 2 = .ok (.putfield 44, 3) := by decide +kernel
theorem dX1_startAnew_5 : decode cX1_startAnew 5 = .ok (.aload_n 0, 1) := by decide +kernel
theorem dX1_startAnew_6 : decode cX1_startAnew 6 = .ok (.iload_n 1, 1) := by decide +kernel
theorem dX1_startAnew_7 : decode cX1_startAnew 7 = .ok (.putfield 48, 3) := by decide +kernel
theorem dX1_startAnew_10 : decode cX1_startAnew 10 = .ok (.aload_n 0, 1) := by decide +kernel
theorem dX1_startAnew_11 : decode cX1_startAnew 11 = .ok (.iconst 0, 1) := by decide +kernel
theorem dX1_startAnew_12 : decode cX1_startAnew 12 = .ok (.putfield 40, 3) := by decide +kernel
theorem dX1_startAnew_15 : decode cX1_startAnew 15 = .ok (.return_, 1) := by decide +kernel
theorem dX1_chosenWeight_0 : decode cX1_chosenWeight 0 = .ok (.aload_n 0, 1) := by decide +kernel
theorem dX1_chosenWeight_1 : decode cX1_chosenWeight 1 = .ok (.getfield 17, 3) := by decide +kernel
theorem dX1_chosenWeight_4 : decode cX1_chosenWeight 4 = .ok (.ldc2_w 15, 3) := by decide +kernel
theorem dX1_chosenWeight_7 : decode cX1_chosenWeight 7 = .ok (.lcmp, 1) := by decide +kernel
theorem dX1_chosenWeight_8 : decode cX1_chosenWeight 8 = .ok (.ifCond .ne 7, 3) := by decide +kernel
theorem dX1_chosenWeight_11 : decode cX1_chosenWeight 11 = .ok (.iconst (-1), 1) := by decide +kernel
theorem dX1_chosenWeight_12 : decode cX1_chosenWeight 12 = .ok (.goto 11, 3) := by decide +kernel
theorem dX1_chosenWeight_15 : decode cX1_chosenWeight 15 = .ok (.aload_n 0, 1) := by decide +kernel
theorem dX1_chosenWeight_16 : decode cX1_chosenWeight 16 = .ok (.getfield 17, 3) := by decide +kernel
theorem dX1_chosenWeight_19 : decode cX1_chosenWeight 19 = .ok (.bipush 40, 2) := by decide +kernel
theorem dX1_chosenWeight_21 : decode cX1_chosenWeight 21 = .ok (.lshr, 1) := by decide +kernel
theorem dX1_chosenWeight_22 : decode cX1_chosenWeight 22 = .ok (.l2i, 1) := by decide +kernel
theorem dX1_chosenWeight_23 : decode cX1_chosenWeight 23 = .ok (.ireturn, 1) := by decide +kernel
theorem dX1_chosenBell_0 : decode cX1_chosenBell 0 = .ok (.aload_n 0, 1) := by decide +kernel
theorem dX1_chosenBell_1 : decode cX1_chosenBell 1 = .ok (.getfield 17, 3) := by decide +kernel
theorem dX1_chosenBell_4 : decode cX1_chosenBell 4 = .ok (.ldc2_w 15, 3) := by decide +kernel
theorem dX1_chosenBell_7 : decode cX1_chosenBell 7 = .ok (.lcmp, 1) := by decide +kernel
theorem dX1_chosenBell_8 : decode cX1_chosenBell 8 = .ok (.ifCond .ne 5, 3) := by decide +kernel
theorem dX1_chosenBell_11 : decode cX1_chosenBell 11 = .ok (.iconst (-1), 1) := by decide +kernel
theorem dX1_chosenBell_12 : decode cX1_chosenBell 12 = .ok (.ireturn, 1) := by decide +kernel
theorem dX1_chosenBell_13 : decode cX1_chosenBell 13 = .ok (.aload_n 0, 1) := by decide +kernel
theorem dX1_chosenBell_14 : decode cX1_chosenBell 14 = .ok (.getfield 17, 3) := by decide +kernel
theorem dX1_chosenBell_17 : decode cX1_chosenBell 17 = .ok (.iload_n 1, 1) := by decide +kernel
theorem dX1_chosenBell_18 : decode cX1_chosenBell 18 = .ok (.invokestatic 51, 3) := by decide +kernel
theorem dX1_chosenBell_21 : decode cX1_chosenBell 21 = .ok (.lshr, 1) := by decide +kernel
theorem dX1_chosenBell_22 : decode cX1_chosenBell 22 = .ok (.l2i, 1) := by decide +kernel
theorem dX1_chosenBell_23 : decode cX1_chosenBell 23 = .ok (.bipush 31, 2) := by decide +kernel
theorem dX1_chosenBell_25 : decode cX1_chosenBell 25 = .ok (.iand, 1) := by decide +kernel
theorem dX1_chosenBell_26 : decode cX1_chosenBell 26 = .ok (.ireturn, 1) := by decide +kernel
theorem dX1_choose_0 : decode cX1_choose 0 = .ok (.aload_n 0, 1) := by decide +kernel
theorem dX1_choose_1 : decode cX1_choose 1 = .ok (.getfield 40, 3) := by decide +kernel
theorem dX1_choose_4 : decode cX1_choose 4 = .ok (.ifCond .eq 4, 3) := by decide +kernel
theorem dX1_choose_7 : decode cX1_choose 7 = .ok (.return_, 1) := by decide +kernel
theorem dX1_choose_8 : decode cX1_choose 8 = .ok (.aload_n 0, 1) := by decide +kernel
theorem dX1_choose_9 : decode cX1_choose 9 = .ok (.iconst 1, 1) := by decide +kernel
theorem dX1_choose_10 : decode cX1_choose 10 = .ok (.putfield 40, 3) := by decide +kernel
theorem dX1_choose_13 : decode cX1_choose 13 = .ok (.aload_n 0, 1) := by decide +kernel
theorem dX1_choose_14 : decode cX1_choose 14 = .ok (.ldc2_w 15, 3) := by decide +kernel
theorem dX1_choose_17 : decode cX1_choose 17 = .ok (.putfield 17, 3) := by decide +kernel
theorem dX1_choose_20 : decode cX1_choose 20 = .ok (.aload_n 0, 1) := by decide +kernel
theorem dX1_choose_21 : decode cX1_choose 21 = .ok (.getfield 44, 3) := by decide +kernel
theorem dX1_choose_24 : decode cX1_choose 24 = .ok (.ifCond .ne 4, 3) := by decide +kernel
theorem dX1_choose_27 : decode cX1_choose 27 = .ok (.return_, 1) := by decide +kernel
theorem dX1_choose_28 : decode cX1_choose 28 = .ok (.aload_n 0, 1) := by decide +kernel
theorem dX1_choose_29 : decode cX1_choose 29 = .ok (.aload_n 1, 1) := by decide +kernel
theorem dX1_choose_30 : decode cX1_choose 30 = .ok (.iload_n 2, 1) := by decide +kernel
theorem dX1_choose_31 : decode cX1_choose 31 = .ok (.invokevirtual 55, 3) := by decide +kernel
theorem dX1_choose_34 : decode cX1_choose 34 = .ok (.iconst 0, 1) := by decide +kernel
theorem dX1_choose_35 : decode cX1_choose 35 = .ok (.istore_n 3, 1) := by decide +kernel
theorem dX1_choose_36 : decode cX1_choose 36 = .ok (.iload_n 3, 1) := by decide +kernel
theorem dX1_choose_37 : decode cX1_choose 37 = .ok (.aload_n 0, 1) := by decide +kernel
theorem dX1_choose_38 : decode cX1_choose 38 = .ok (.getfield 59, 3) := by decide +kernel
theorem dX1_choose_41 : decode cX1_choose 41 = .ok (.if_icmp .ge 30, 3) := by decide +kernel
theorem dX1_choose_44 : decode cX1_choose 44 = .ok (.aload_n 0, 1) := by decide +kernel
theorem dX1_choose_45 : decode cX1_choose 45 = .ok (.aload_n 0, 1) := by decide +kernel
theorem dX1_choose_46 : decode cX1_choose 46 = .ok (.getfield 17, 3) := by decide +kernel
theorem dX1_choose_49 : decode cX1_choose 49 = .ok (.aload_n 0, 1) := by decide +kernel
theorem dX1_choose_50 : decode cX1_choose 50 = .ok (.aload_n 0, 1) := by decide +kernel
theorem dX1_choose_51 : decode cX1_choose 51 = .ok (.getfield 21, 3) := by decide +kernel
theorem dX1_choose_54 : decode cX1_choose 54 = .ok (.iload_n 3, 1) := by decide +kernel
theorem dX1_choose_55 : decode cX1_choose 55 = .ok (.iaload, 1) := by decide +kernel
theorem dX1_choose_56 : decode cX1_choose 56 = .ok (.invokevirtual 62, 3) := by decide +kernel
theorem dX1_choose_59 : decode cX1_choose 59 = .ok (.invokestatic 66, 3) := by decide +kernel
theorem dX1_choose_62 : decode cX1_choose 62 = .ok (.putfield 17, 3) := by decide +kernel
theorem dX1_choose_65 : decode cX1_choose 65 = .ok (.iinc 3 1, 3) := by decide +kernel
theorem dX1_choose_68 : decode cX1_choose 68 = .ok (.goto (-32), 3) := by decide +kernel
theorem dX1_choose_71 : decode cX1_choose 71 = .ok (.return_, 1) := by decide +kernel
theorem dX1_placeOf_0 : decode cX1_placeOf 0 = .ok (.iconst 5, 1) := by decide +kernel
theorem dX1_placeOf_1 : decode cX1_placeOf 1 = .ok (.bipush 7, 2) := by decide +kernel
theorem dX1_placeOf_3 : decode cX1_placeOf 3 = .ok (.iload_n 0, 1) := by decide +kernel
theorem dX1_placeOf_4 : decode cX1_placeOf 4 = .ok (.isub, 1) := by decide +kernel
theorem dX1_placeOf_5 : decode cX1_placeOf 5 = .ok (.imul, 1) := by decide +kernel
theorem dX1_placeOf_6 : decode cX1_placeOf 6 = .ok (.ireturn, 1) := by decide +kernel
theorem dX1_numberOf_0 : decode cX1_numberOf 0 = .ok (.aload_n 0, 1) := by decide +kernel
theorem dX1_numberOf_1 : decode cX1_numberOf 1 = .ok (.getfield 24, 3) := by decide +kernel
theorem dX1_numberOf_4 : decode cX1_numberOf 4 = .ok (.iload_n 2, 1) := by decide +kernel
theorem dX1_numberOf_5 : decode cX1_numberOf 5 = .ok (.iaload, 1) := by decide +kernel
theorem dX1_numberOf_6 : decode cX1_numberOf 6 = .ok (.i2l, 1) := by decide +kernel
theorem dX1_numberOf_7 : decode cX1_numberOf 7 = .ok (.bipush 40, 2) := by decide +kernel
theorem dX1_numberOf_9 : decode cX1_numberOf 9 = .ok (.lshl, 1) := by decide +kernel
theorem dX1_numberOf_10 : decode cX1_numberOf 10 = .ok (.iload_n 2, 1) := by decide +kernel
theorem dX1_numberOf_11 : decode cX1_numberOf 11 = .ok (.i2l, 1) := by decide +kernel
theorem dX1_numberOf_12 : decode cX1_numberOf 12 = .ok (.iload_n 1, 1) := by decide +kernel
theorem dX1_numberOf_13 : decode cX1_numberOf 13 = .ok (.invokestatic 51, 3) := by decide +kernel
theorem dX1_numberOf_16 : decode cX1_numberOf 16 = .ok (.lshl, 1) := by decide +kernel
theorem dX1_numberOf_17 : decode cX1_numberOf 17 = .ok (.ladd, 1) := by decide +kernel
theorem dX1_numberOf_18 : decode cX1_numberOf 18 = .ok (.lreturn, 1) := by decide +kernel
theorem dX1_weigh_0 : decode cX1_weigh 0 = .ok (.aload_n 0, 1) := by decide +kernel
theorem dX1_weigh_1 : decode cX1_weigh 1 = .ok (.iconst 0, 1) := by decide +kernel
theorem dX1_weigh_2 : decode cX1_weigh 2 = .ok (.putfield 59, 3) := by decide +kernel
theorem dX1_weigh_5 : decode cX1_weigh 5 = .ok (.iconst 0, 1) := by decide +kernel
theorem dX1_weigh_6 : decode cX1_weigh 6 = .ok (.istore_n 3, 1) := by decide +kernel
theorem dX1_weigh_7 : decode cX1_weigh 7 = .ok (.iload_n 3, 1) := by decide +kernel
theorem dX1_weigh_8 : decode cX1_weigh 8 = .ok (.iload_n 2, 1) := by decide +kernel
theorem dX1_weigh_9 : decode cX1_weigh 9 = .ok (.if_icmp .ge 70, 3) := by decide +kernel
theorem dX1_weigh_12 : decode cX1_weigh 12 = .ok (.aload_n 1, 1) := by decide +kernel
theorem dX1_weigh_13 : decode cX1_weigh 13 = .ok (.iload_n 3, 1) := by decide +kernel
theorem dX1_weigh_14 : decode cX1_weigh 14 = .ok (.aaload, 1) := by decide +kernel
theorem dX1_weigh_15 : decode cX1_weigh 15 = .ok (.astore 4, 2) := by decide +kernel
theorem dX1_weigh_17 : decode cX1_weigh 17 = .ok (.aload 4, 2) := by decide +kernel
theorem dX1_weigh_19 : decode cX1_weigh 19 = .ok (.ifnull 54, 3) := by decide +kernel
theorem dX1_weigh_22 : decode cX1_weigh 22 = .ok (.aload 4, 2) := by decide +kernel
theorem dX1_weigh_24 : decode cX1_weigh 24 = .ok (.getfield 72, 3) := by decide +kernel
theorem dX1_weigh_27 : decode cX1_weigh 27 = .ok (.ifCond .ne 46, 3) := by decide +kernel
theorem dX1_weigh_30 : decode cX1_weigh 30 = .ok (.aload_n 0, 1) := by decide +kernel
theorem dX1_weigh_31 : decode cX1_weigh 31 = .ok (.getfield 24, 3) := by decide +kernel
theorem dX1_weigh_34 : decode cX1_weigh 34 = .ok (.iload_n 3, 1) := by decide +kernel
theorem dX1_weigh_35 : decode cX1_weigh 35 = .ok (.aload 4, 2) := by decide +kernel
theorem dX1_weigh_37 : decode cX1_weigh 37 = .ok (.invokevirtual 77, 3) := by decide +kernel
theorem dX1_weigh_40 : decode cX1_weigh 40 = .ok (.iastore, 1) := by decide +kernel
theorem dX1_weigh_41 : decode cX1_weigh 41 = .ok (.aload_n 0, 1) := by decide +kernel
theorem dX1_weigh_42 : decode cX1_weigh 42 = .ok (.getfield 27, 3) := by decide +kernel
theorem dX1_weigh_45 : decode cX1_weigh 45 = .ok (.iload_n 3, 1) := by decide +kernel
theorem dX1_weigh_46 : decode cX1_weigh 46 = .ok (.aload 4, 2) := by decide +kernel
theorem dX1_weigh_48 : decode cX1_weigh 48 = .ok (.iconst 0, 1) := by decide +kernel
theorem dX1_weigh_49 : decode cX1_weigh 49 = .ok (.invokevirtual 81, 3) := by decide +kernel
theorem dX1_weigh_52 : decode cX1_weigh 52 = .ok (.iastore, 1) := by decide +kernel
theorem dX1_weigh_53 : decode cX1_weigh 53 = .ok (.aload_n 0, 1) := by decide +kernel
theorem dX1_weigh_54 : decode cX1_weigh 54 = .ok (.getfield 21, 3) := by decide +kernel
theorem dX1_weigh_57 : decode cX1_weigh 57 = .ok (.aload_n 0, 1) := by decide +kernel
theorem dX1_weigh_58 : decode cX1_weigh 58 = .ok (.getfield 59, 3) := by decide +kernel
theorem dX1_weigh_61 : decode cX1_weigh 61 = .ok (.iload_n 3, 1) := by decide +kernel
theorem dX1_weigh_62 : decode cX1_weigh 62 = .ok (.iastore, 1) := by decide +kernel
theorem dX1_weigh_63 : decode cX1_weigh 63 = .ok (.aload_n 0, 1) := by decide +kernel
theorem dX1_weigh_64 : decode cX1_weigh 64 = .ok (.dup, 1) := by decide +kernel
theorem dX1_weigh_65 : decode cX1_weigh 65 = .ok (.getfield 59, 3) := by decide +kernel
theorem dX1_weigh_68 : decode cX1_weigh 68 = .ok (.iconst 1, 1) := by decide +kernel
theorem dX1_weigh_69 : decode cX1_weigh 69 = .ok (.iadd, 1) := by decide +kernel
theorem dX1_weigh_70 : decode cX1_weigh 70 = .ok (.putfield 59, 3) := by decide +kernel
theorem dX1_weigh_73 : decode cX1_weigh 73 = .ok (.iinc 3 1, 3) := by decide +kernel
theorem dX1_weigh_76 : decode cX1_weigh 76 = .ok (.goto (-69), 3) := by decide +kernel
theorem dX1_weigh_79 : decode cX1_weigh 79 = .ok (.return_, 1) := by decide +kernel
theorem dX1_leastWithFirst_0 : decode cX1_leastWithFirst 0 = .ok (.aload_n 0, 1) := by decide +kernel
theorem dX1_leastWithFirst_1 : decode cX1_leastWithFirst 1 = .ok (.getfield 30, 3) := by decide +kernel
theorem dX1_leastWithFirst_4 : decode cX1_leastWithFirst 4 = .ok (.iconst (-1), 1) := by decide +kernel
theorem dX1_leastWithFirst_5 : decode cX1_leastWithFirst 5 = .ok (.invokestatic 84, 3) := by decide +kernel
theorem dX1_leastWithFirst_8 : decode cX1_leastWithFirst 8 = .ok (.aload_n 0, 1) := by decide +kernel
theorem dX1_leastWithFirst_9 : decode cX1_leastWithFirst 9 = .ok (.iconst 0, 1) := by decide +kernel
theorem dX1_leastWithFirst_10 : decode cX1_leastWithFirst 10 = .ok (.iload_n 1, 1) := by decide +kernel
theorem dX1_leastWithFirst_11 : decode cX1_leastWithFirst 11 = .ok (.invokevirtual 90, 3) := by decide +kernel
theorem dX1_leastWithFirst_14 : decode cX1_leastWithFirst 14 = .ok (.lstore_n 2, 1) := by decide +kernel
theorem dX1_leastWithFirst_15 : decode cX1_leastWithFirst 15 = .ok (.iconst 1, 1) := by decide +kernel
theorem dX1_leastWithFirst_16 : decode cX1_leastWithFirst 16 = .ok (.istore 4, 2) := by decide +kernel
theorem dX1_leastWithFirst_18 : decode cX1_leastWithFirst 18 = .ok (.iload 4, 2) := by decide +kernel
theorem dX1_leastWithFirst_20 : decode cX1_leastWithFirst 20 = .ok (.aload_n 0, 1) := by decide +kernel
theorem dX1_leastWithFirst_21 : decode cX1_leastWithFirst 21 = .ok (.getfield 44, 3) := by decide +kernel
theorem dX1_leastWithFirst_24 : decode cX1_leastWithFirst 24 = .ok (.if_icmp .ge 47, 3) := by decide +kernel
theorem dX1_leastWithFirst_27 : decode cX1_leastWithFirst 27 = .ok (.lload_n 2, 1) := by decide +kernel
theorem dX1_leastWithFirst_28 : decode cX1_leastWithFirst 28 = .ok (.aload_n 0, 1) := by decide +kernel
theorem dX1_leastWithFirst_29 : decode cX1_leastWithFirst 29 = .ok (.getfield 17, 3) := by decide +kernel
theorem dX1_leastWithFirst_32 : decode cX1_leastWithFirst 32 = .ok (.lcmp, 1) := by decide +kernel
theorem dX1_leastWithFirst_33 : decode cX1_leastWithFirst 33 = .ok (.ifCond .ge 38, 3) := by decide +kernel
theorem dX1_leastWithFirst_36 : decode cX1_leastWithFirst 36 = .ok (.aload_n 0, 1) := by decide +kernel
theorem dX1_leastWithFirst_37 : decode cX1_leastWithFirst 37 = .ok (.iload 4, 2) := by decide +kernel
theorem dX1_leastWithFirst_39 : decode cX1_leastWithFirst 39 = .ok (.iload_n 1, 1) := by decide +kernel
theorem dX1_leastWithFirst_40 : decode cX1_leastWithFirst 40 = .ok (.invokevirtual 94, 3) := by decide +kernel
theorem dX1_leastWithFirst_43 : decode cX1_leastWithFirst 43 = .ok (.lstore 5, 2) := by decide +kernel
theorem dX1_leastWithFirst_45 : decode cX1_leastWithFirst 45 = .ok (.lload 5, 2) := by decide +kernel
theorem dX1_leastWithFirst_47 : decode cX1_leastWithFirst 47 = .ok (.ldc2_w 15, 3) := by decide +kernel
theorem dX1_leastWithFirst_50 : decode cX1_leastWithFirst 50 = .ok (.lcmp, 1) := by decide +kernel
theorem dX1_leastWithFirst_51 : decode cX1_leastWithFirst 51 = .ok (.ifCond .ne 9, 3) := by decide +kernel
theorem dX1_leastWithFirst_54 : decode cX1_leastWithFirst 54 = .ok (.ldc2_w 15, 3) := by decide +kernel
theorem dX1_leastWithFirst_57 : decode cX1_leastWithFirst 57 = .ok (.goto 7, 3) := by decide +kernel
theorem dX1_leastWithFirst_60 : decode cX1_leastWithFirst 60 = .ok (.lload_n 2, 1) := by decide +kernel
theorem dX1_leastWithFirst_61 : decode cX1_leastWithFirst 61 = .ok (.lload 5, 2) := by decide +kernel
theorem dX1_leastWithFirst_63 : decode cX1_leastWithFirst 63 = .ok (.ladd, 1) := by decide +kernel
theorem dX1_leastWithFirst_64 : decode cX1_leastWithFirst 64 = .ok (.lstore_n 2, 1) := by decide +kernel
theorem dX1_leastWithFirst_65 : decode cX1_leastWithFirst 65 = .ok (.iinc 4 1, 3) := by decide +kernel
theorem dX1_leastWithFirst_68 : decode cX1_leastWithFirst 68 = .ok (.goto (-50), 3) := by decide +kernel
theorem dX1_leastWithFirst_71 : decode cX1_leastWithFirst 71 = .ok (.lload_n 2, 1) := by decide +kernel
theorem dX1_leastWithFirst_72 : decode cX1_leastWithFirst 72 = .ok (.lreturn, 1) := by decide +kernel
theorem dX1_seat_0 : decode cX1_seat 0 = .ok (.aload_n 0, 1) := by decide +kernel
theorem dX1_seat_1 : decode cX1_seat 1 = .ok (.getfield 33, 3) := by decide +kernel
theorem dX1_seat_4 : decode cX1_seat 4 = .ok (.ldc2_w 15, 3) := by decide +kernel
theorem dX1_seat_7 : decode cX1_seat 7 = .ok (.invokestatic 97, 3) := by decide +kernel
theorem dX1_seat_10 : decode cX1_seat 10 = .ok (.aload_n 0, 1) := by decide +kernel
theorem dX1_seat_11 : decode cX1_seat 11 = .ok (.iload_n 1, 1) := by decide +kernel
theorem dX1_seat_12 : decode cX1_seat 12 = .ok (.iload_n 2, 1) := by decide +kernel
theorem dX1_seat_13 : decode cX1_seat 13 = .ok (.iconst (-1), 1) := by decide +kernel
theorem dX1_seat_14 : decode cX1_seat 14 = .ok (.lconst 0, 1) := by decide +kernel
theorem dX1_seat_15 : decode cX1_seat 15 = .ok (.invokevirtual 100, 3) := by decide +kernel
theorem dX1_seat_18 : decode cX1_seat 18 = .ok (.istore_n 3, 1) := by decide +kernel
theorem dX1_seat_19 : decode cX1_seat 19 = .ok (.iconst 1, 1) := by decide +kernel
theorem dX1_seat_20 : decode cX1_seat 20 = .ok (.istore 4, 2) := by decide +kernel
theorem dX1_seat_22 : decode cX1_seat 22 = .ok (.iload 4, 2) := by decide +kernel
theorem dX1_seat_24 : decode cX1_seat 24 = .ok (.iload_n 1, 1) := by decide +kernel
theorem dX1_seat_25 : decode cX1_seat 25 = .ok (.if_icmp .ge 19, 3) := by decide +kernel
theorem dX1_seat_28 : decode cX1_seat 28 = .ok (.iload_n 3, 1) := by decide +kernel
theorem dX1_seat_29 : decode cX1_seat 29 = .ok (.ifCond .eq 15, 3) := by decide +kernel
theorem dX1_seat_32 : decode cX1_seat 32 = .ok (.aload_n 0, 1) := by decide +kernel
theorem dX1_seat_33 : decode cX1_seat 33 = .ok (.iload_n 2, 1) := by decide +kernel
theorem dX1_seat_34 : decode cX1_seat 34 = .ok (.invokevirtual 104, 3) := by decide +kernel
theorem dX1_seat_37 : decode cX1_seat 37 = .ok (.istore_n 3, 1) := by decide +kernel
theorem dX1_seat_38 : decode cX1_seat 38 = .ok (.iinc 4 1, 3) := by decide +kernel
theorem dX1_seat_41 : decode cX1_seat 41 = .ok (.goto (-19), 3) := by decide +kernel
theorem dX1_seat_44 : decode cX1_seat 44 = .ok (.aload_n 0, 1) := by decide +kernel
theorem dX1_seat_45 : decode cX1_seat 45 = .ok (.invokevirtual 108, 3) := by decide +kernel
theorem dX1_seat_48 : decode cX1_seat 48 = .ok (.istore 4, 2) := by decide +kernel
theorem dX1_seat_50 : decode cX1_seat 50 = .ok (.iload 4, 2) := by decide +kernel
theorem dX1_seat_52 : decode cX1_seat 52 = .ok (.iconst (-1), 1) := by decide +kernel
theorem dX1_seat_53 : decode cX1_seat 53 = .ok (.if_icmp .ne 7, 3) := by decide +kernel
theorem dX1_seat_56 : decode cX1_seat 56 = .ok (.ldc2_w 15, 3) := by decide +kernel
theorem dX1_seat_59 : decode cX1_seat 59 = .ok (.lreturn, 1) := by decide +kernel
theorem dX1_seat_60 : decode cX1_seat 60 = .ok (.aload_n 0, 1) := by decide +kernel
theorem dX1_seat_61 : decode cX1_seat 61 = .ok (.iload_n 1, 1) := by decide +kernel
theorem dX1_seat_62 : decode cX1_seat 62 = .ok (.iload 4, 2) := by decide +kernel
theorem dX1_seat_64 : decode cX1_seat 64 = .ok (.invokevirtual 111, 3) := by decide +kernel
theorem dX1_seat_67 : decode cX1_seat 67 = .ok (.aload_n 0, 1) := by decide +kernel
theorem dX1_seat_68 : decode cX1_seat 68 = .ok (.getfield 33, 3) := by decide +kernel
theorem dX1_seat_71 : decode cX1_seat 71 = .ok (.iload 4, 2) := by decide +kernel
theorem dX1_seat_73 : decode cX1_seat 73 = .ok (.laload, 1) := by decide +kernel
theorem dX1_seat_74 : decode cX1_seat 74 = .ok (.lreturn, 1) := by decide +kernel
theorem dX1_moveHolders_0 : decode cX1_moveHolders 0 = .ok (.iconst 0, 1) := by decide +kernel
theorem dX1_moveHolders_1 : decode cX1_moveHolders 1 = .ok (.istore_n 2, 1) := by decide +kernel
theorem dX1_moveHolders_2 : decode cX1_moveHolders 2 = .ok (.iconst 0, 1) := by decide +kernel
theorem dX1_moveHolders_3 : decode cX1_moveHolders 3 = .ok (.istore_n 3, 1) := by decide +kernel
theorem dX1_moveHolders_4 : decode cX1_moveHolders 4 = .ok (.iload_n 3, 1) := by decide +kernel
theorem dX1_moveHolders_5 : decode cX1_moveHolders 5 = .ok (.aload_n 0, 1) := by decide +kernel
theorem dX1_moveHolders_6 : decode cX1_moveHolders 6 = .ok (.getfield 59, 3) := by decide +kernel
theorem dX1_moveHolders_9 : decode cX1_moveHolders 9 = .ok (.if_icmp .ge 76, 3) := by decide +kernel
theorem dX1_moveHolders_12 : decode cX1_moveHolders 12 = .ok (.aload_n 0, 1) := by decide +kernel
theorem dX1_moveHolders_13 : decode cX1_moveHolders 13 = .ok (.getfield 21, 3) := by decide +kernel
theorem dX1_moveHolders_16 : decode cX1_moveHolders 16 = .ok (.iload_n 3, 1) := by decide +kernel
theorem dX1_moveHolders_17 : decode cX1_moveHolders 17 = .ok (.iaload, 1) := by decide +kernel
theorem dX1_moveHolders_18 : decode cX1_moveHolders 18 = .ok (.istore 4, 2) := by decide +kernel
theorem dX1_moveHolders_20 : decode cX1_moveHolders 20 = .ok (.aload_n 0, 1) := by decide +kernel
theorem dX1_moveHolders_21 : decode cX1_moveHolders 21 = .ok (.getfield 30, 3) := by decide +kernel
theorem dX1_moveHolders_24 : decode cX1_moveHolders 24 = .ok (.iload 4, 2) := by decide +kernel
theorem dX1_moveHolders_26 : decode cX1_moveHolders 26 = .ok (.iaload, 1) := by decide +kernel
theorem dX1_moveHolders_27 : decode cX1_moveHolders 27 = .ok (.istore 5, 2) := by decide +kernel
theorem dX1_moveHolders_29 : decode cX1_moveHolders 29 = .ok (.iload 5, 2) := by decide +kernel
theorem dX1_moveHolders_31 : decode cX1_moveHolders 31 = .ok (.iconst (-1), 1) := by decide +kernel
theorem dX1_moveHolders_32 : decode cX1_moveHolders 32 = .ok (.if_icmp .eq 47, 3) := by decide +kernel
theorem dX1_moveHolders_35 : decode cX1_moveHolders 35 = .ok (.aload_n 0, 1) := by decide +kernel
theorem dX1_moveHolders_36 : decode cX1_moveHolders 36 = .ok (.getfield 33, 3) := by decide +kernel
theorem dX1_moveHolders_39 : decode cX1_moveHolders 39 = .ok (.iload 4, 2) := by decide +kernel
theorem dX1_moveHolders_41 : decode cX1_moveHolders 41 = .ok (.laload, 1) := by decide +kernel
theorem dX1_moveHolders_42 : decode cX1_moveHolders 42 = .ok (.ldc2_w 15, 3) := by decide +kernel
theorem dX1_moveHolders_45 : decode cX1_moveHolders 45 = .ok (.lcmp, 1) := by decide +kernel
theorem dX1_moveHolders_46 : decode cX1_moveHolders 46 = .ok (.ifCond .eq 33, 3) := by decide +kernel
theorem dX1_moveHolders_49 : decode cX1_moveHolders 49 = .ok (.aload_n 0, 1) := by decide +kernel
theorem dX1_moveHolders_50 : decode cX1_moveHolders 50 = .ok (.iload 5, 2) := by decide +kernel
theorem dX1_moveHolders_52 : decode cX1_moveHolders 52 = .ok (.iload_n 1, 1) := by decide +kernel
theorem dX1_moveHolders_53 : decode cX1_moveHolders 53 = .ok (.iload 4, 2) := by decide +kernel
theorem dX1_moveHolders_55 : decode cX1_moveHolders 55 = .ok (.aload_n 0, 1) := by decide +kernel
theorem dX1_moveHolders_56 : decode cX1_moveHolders 56 = .ok (.getfield 33, 3) := by decide +kernel
theorem dX1_moveHolders_59 : decode cX1_moveHolders 59 = .ok (.iload 4, 2) := by decide +kernel
theorem dX1_moveHolders_61 : decode cX1_moveHolders 61 = .ok (.laload, 1) := by decide +kernel
theorem dX1_moveHolders_62 : decode cX1_moveHolders 62 = .ok (.aload_n 0, 1) := by decide +kernel
theorem dX1_moveHolders_63 : decode cX1_moveHolders 63 = .ok (.iload 5, 2) := by decide +kernel
theorem dX1_moveHolders_65 : decode cX1_moveHolders 65 = .ok (.iload 4, 2) := by decide +kernel
theorem dX1_moveHolders_67 : decode cX1_moveHolders 67 = .ok (.invokevirtual 90, 3) := by decide +kernel
theorem dX1_moveHolders_70 : decode cX1_moveHolders 70 = .ok (.lsub, 1) := by decide +kernel
theorem dX1_moveHolders_71 : decode cX1_moveHolders 71 = .ok (.invokevirtual 100, 3) := by decide +kernel
theorem dX1_moveHolders_74 : decode cX1_moveHolders 74 = .ok (.ifCond .eq 5, 3) := by decide +kernel
theorem dX1_moveHolders_77 : decode cX1_moveHolders 77 = .ok (.iconst 1, 1) := by decide +kernel
theorem dX1_moveHolders_78 : decode cX1_moveHolders 78 = .ok (.istore_n 2, 1) := by decide +kernel
theorem dX1_moveHolders_79 : decode cX1_moveHolders 79 = .ok (.iinc 3 1, 3) := by decide +kernel
theorem dX1_moveHolders_82 : decode cX1_moveHolders 82 = .ok (.goto (-78), 3) := by decide +kernel
theorem dX1_moveHolders_85 : decode cX1_moveHolders 85 = .ok (.iload_n 2, 1) := by decide +kernel
theorem dX1_moveHolders_86 : decode cX1_moveHolders 86 = .ok (.ireturn, 1) := by decide +kernel
theorem dX1_reachFrom_0 : decode cX1_reachFrom 0 = .ok (.iconst 0, 1) := by decide +kernel
theorem dX1_reachFrom_1 : decode cX1_reachFrom 1 = .ok (.istore 6, 2) := by decide +kernel
theorem dX1_reachFrom_3 : decode cX1_reachFrom 3 = .ok (.iconst 0, 1) := by decide +kernel
theorem dX1_reachFrom_4 : decode cX1_reachFrom 4 = .ok (.istore 7, 2) := by decide +kernel
theorem dX1_reachFrom_6 : decode cX1_reachFrom 6 = .ok (.iload 7, 2) := by decide +kernel
theorem dX1_reachFrom_8 : decode cX1_reachFrom 8 = .ok (.aload_n 0, 1) := by decide +kernel
theorem dX1_reachFrom_9 : decode cX1_reachFrom 9 = .ok (.getfield 59, 3) := by decide +kernel
theorem dX1_reachFrom_12 : decode cX1_reachFrom 12 = .ok (.if_icmp .ge 109, 3) := by decide +kernel
theorem dX1_reachFrom_15 : decode cX1_reachFrom 15 = .ok (.aload_n 0, 1) := by decide +kernel
theorem dX1_reachFrom_16 : decode cX1_reachFrom 16 = .ok (.getfield 21, 3) := by decide +kernel
theorem dX1_reachFrom_19 : decode cX1_reachFrom 19 = .ok (.iload 7, 2) := by decide +kernel
theorem dX1_reachFrom_21 : decode cX1_reachFrom 21 = .ok (.iaload, 1) := by decide +kernel
theorem dX1_reachFrom_22 : decode cX1_reachFrom 22 = .ok (.istore 8, 2) := by decide +kernel
theorem dX1_reachFrom_24 : decode cX1_reachFrom 24 = .ok (.aload_n 0, 1) := by decide +kernel
theorem dX1_reachFrom_25 : decode cX1_reachFrom 25 = .ok (.getfield 27, 3) := by decide +kernel
theorem dX1_reachFrom_28 : decode cX1_reachFrom 28 = .ok (.iload 8, 2) := by decide +kernel
theorem dX1_reachFrom_30 : decode cX1_reachFrom 30 = .ok (.iaload, 1) := by decide +kernel
theorem dX1_reachFrom_31 : decode cX1_reachFrom 31 = .ok (.aload_n 0, 1) := by decide +kernel
theorem dX1_reachFrom_32 : decode cX1_reachFrom 32 = .ok (.getfield 27, 3) := by decide +kernel
theorem dX1_reachFrom_35 : decode cX1_reachFrom 35 = .ok (.iload_n 2, 1) := by decide +kernel
theorem dX1_reachFrom_36 : decode cX1_reachFrom 36 = .ok (.iaload, 1) := by decide +kernel
theorem dX1_reachFrom_37 : decode cX1_reachFrom 37 = .ok (.isub, 1) := by decide +kernel
theorem dX1_reachFrom_38 : decode cX1_reachFrom 38 = .ok (.aload_n 0, 1) := by decide +kernel
theorem dX1_reachFrom_39 : decode cX1_reachFrom 39 = .ok (.getfield 11, 3) := by decide +kernel
theorem dX1_reachFrom_42 : decode cX1_reachFrom 42 = .ok (.iload_n 1, 1) := by decide +kernel
theorem dX1_reachFrom_43 : decode cX1_reachFrom 43 = .ok (.iaload, 1) := by decide +kernel
theorem dX1_reachFrom_44 : decode cX1_reachFrom 44 = .ok (.isub, 1) := by decide +kernel
theorem dX1_reachFrom_45 : decode cX1_reachFrom 45 = .ok (.istore 9, 2) := by decide +kernel
theorem dX1_reachFrom_47 : decode cX1_reachFrom 47 = .ok (.lload 4, 2) := by decide +kernel
theorem dX1_reachFrom_49 : decode cX1_reachFrom 49 = .ok (.aload_n 0, 1) := by decide +kernel
theorem dX1_reachFrom_50 : decode cX1_reachFrom 50 = .ok (.iload_n 1, 1) := by decide +kernel
theorem dX1_reachFrom_51 : decode cX1_reachFrom 51 = .ok (.iload 8, 2) := by decide +kernel
theorem dX1_reachFrom_53 : decode cX1_reachFrom 53 = .ok (.invokevirtual 90, 3) := by decide +kernel
theorem dX1_reachFrom_56 : decode cX1_reachFrom 56 = .ok (.ladd, 1) := by decide +kernel
theorem dX1_reachFrom_57 : decode cX1_reachFrom 57 = .ok (.lstore 10, 2) := by decide +kernel
theorem dX1_reachFrom_59 : decode cX1_reachFrom 59 = .ok (.iload 8, 2) := by decide +kernel
theorem dX1_reachFrom_61 : decode cX1_reachFrom 61 = .ok (.iload_n 2, 1) := by decide +kernel
theorem dX1_reachFrom_62 : decode cX1_reachFrom 62 = .ok (.if_icmp .eq 53, 3) := by decide +kernel
theorem dX1_reachFrom_65 : decode cX1_reachFrom 65 = .ok (.iload 9, 2) := by decide +kernel
theorem dX1_reachFrom_67 : decode cX1_reachFrom 67 = .ok (.aload_n 0, 1) := by decide +kernel
theorem dX1_reachFrom_68 : decode cX1_reachFrom 68 = .ok (.getfield 48, 3) := by decide +kernel
theorem dX1_reachFrom_71 : decode cX1_reachFrom 71 = .ok (.ineg, 1) := by decide +kernel
theorem dX1_reachFrom_72 : decode cX1_reachFrom 72 = .ok (.aload_n 0, 1) := by decide +kernel
theorem dX1_reachFrom_73 : decode cX1_reachFrom 73 = .ok (.getfield 48, 3) := by decide +kernel
theorem dX1_reachFrom_76 : decode cX1_reachFrom 76 = .ok (.invokestatic 115, 3) := by decide +kernel
theorem dX1_reachFrom_79 : decode cX1_reachFrom 79 = .ok (.ifCond .eq 36, 3) := by decide +kernel
theorem dX1_reachFrom_82 : decode cX1_reachFrom 82 = .ok (.lload 10, 2) := by decide +kernel
theorem dX1_reachFrom_84 : decode cX1_reachFrom 84 = .ok (.aload_n 0, 1) := by decide +kernel
theorem dX1_reachFrom_85 : decode cX1_reachFrom 85 = .ok (.getfield 33, 3) := by decide +kernel
theorem dX1_reachFrom_88 : decode cX1_reachFrom 88 = .ok (.iload 8, 2) := by decide +kernel
theorem dX1_reachFrom_90 : decode cX1_reachFrom 90 = .ok (.laload, 1) := by decide +kernel
theorem dX1_reachFrom_91 : decode cX1_reachFrom 91 = .ok (.lcmp, 1) := by decide +kernel
theorem dX1_reachFrom_92 : decode cX1_reachFrom 92 = .ok (.ifCond .ge 23, 3) := by decide +kernel
theorem dX1_reachFrom_95 : decode cX1_reachFrom 95 = .ok (.aload_n 0, 1) := by decide +kernel
theorem dX1_reachFrom_96 : decode cX1_reachFrom 96 = .ok (.getfield 33, 3) := by decide +kernel
theorem dX1_reachFrom_99 : decode cX1_reachFrom 99 = .ok (.iload 8, 2) := by decide +kernel
theorem dX1_reachFrom_101 : decode cX1_reachFrom 101 = .ok (.lload 10, 2) := by decide +kernel
theorem dX1_reachFrom_103 : decode cX1_reachFrom 103 = .ok (.lastore, 1) := by decide +kernel
theorem dX1_reachFrom_104 : decode cX1_reachFrom 104 = .ok (.aload_n 0, 1) := by decide +kernel
theorem dX1_reachFrom_105 : decode cX1_reachFrom 105 = .ok (.getfield 37, 3) := by decide +kernel
theorem dX1_reachFrom_108 : decode cX1_reachFrom 108 = .ok (.iload 8, 2) := by decide +kernel
theorem dX1_reachFrom_110 : decode cX1_reachFrom 110 = .ok (.iload_n 3, 1) := by decide +kernel
theorem dX1_reachFrom_111 : decode cX1_reachFrom 111 = .ok (.iastore, 1) := by decide +kernel
theorem dX1_reachFrom_112 : decode cX1_reachFrom 112 = .ok (.iconst 1, 1) := by decide +kernel
theorem dX1_reachFrom_113 : decode cX1_reachFrom 113 = .ok (.istore 6, 2) := by decide +kernel
theorem dX1_reachFrom_115 : decode cX1_reachFrom 115 = .ok (.iinc 7 1, 3) := by decide +kernel
theorem dX1_reachFrom_118 : decode cX1_reachFrom 118 = .ok (.goto (-112), 3) := by decide +kernel
theorem dX1_reachFrom_121 : decode cX1_reachFrom 121 = .ok (.iload 6, 2) := by decide +kernel
theorem dX1_reachFrom_123 : decode cX1_reachFrom 123 = .ok (.ireturn, 1) := by decide +kernel
theorem dX1_nearestFree_0 : decode cX1_nearestFree 0 = .ok (.iconst (-1), 1) := by decide +kernel
theorem dX1_nearestFree_1 : decode cX1_nearestFree 1 = .ok (.istore_n 1, 1) := by decide +kernel
theorem dX1_nearestFree_2 : decode cX1_nearestFree 2 = .ok (.iconst 0, 1) := by decide +kernel
theorem dX1_nearestFree_3 : decode cX1_nearestFree 3 = .ok (.istore_n 2, 1) := by decide +kernel
theorem dX1_nearestFree_4 : decode cX1_nearestFree 4 = .ok (.iload_n 2, 1) := by decide +kernel
theorem dX1_nearestFree_5 : decode cX1_nearestFree 5 = .ok (.aload_n 0, 1) := by decide +kernel
theorem dX1_nearestFree_6 : decode cX1_nearestFree 6 = .ok (.getfield 59, 3) := by decide +kernel
theorem dX1_nearestFree_9 : decode cX1_nearestFree 9 = .ok (.if_icmp .ge 62, 3) := by decide +kernel
theorem dX1_nearestFree_12 : decode cX1_nearestFree 12 = .ok (.aload_n 0, 1) := by decide +kernel
theorem dX1_nearestFree_13 : decode cX1_nearestFree 13 = .ok (.getfield 21, 3) := by decide +kernel
theorem dX1_nearestFree_16 : decode cX1_nearestFree 16 = .ok (.iload_n 2, 1) := by decide +kernel
theorem dX1_nearestFree_17 : decode cX1_nearestFree 17 = .ok (.iaload, 1) := by decide +kernel
theorem dX1_nearestFree_18 : decode cX1_nearestFree 18 = .ok (.istore_n 3, 1) := by decide +kernel
theorem dX1_nearestFree_19 : decode cX1_nearestFree 19 = .ok (.aload_n 0, 1) := by decide +kernel
theorem dX1_nearestFree_20 : decode cX1_nearestFree 20 = .ok (.getfield 30, 3) := by decide +kernel
theorem dX1_nearestFree_23 : decode cX1_nearestFree 23 = .ok (.iload_n 3, 1) := by decide +kernel
theorem dX1_nearestFree_24 : decode cX1_nearestFree 24 = .ok (.iaload, 1) := by decide +kernel
theorem dX1_nearestFree_25 : decode cX1_nearestFree 25 = .ok (.iconst (-1), 1) := by decide +kernel
theorem dX1_nearestFree_26 : decode cX1_nearestFree 26 = .ok (.if_icmp .ne 39, 3) := by decide +kernel
theorem dX1_nearestFree_29 : decode cX1_nearestFree 29 = .ok (.aload_n 0, 1) := by decide +kernel
theorem dX1_nearestFree_30 : decode cX1_nearestFree 30 = .ok (.getfield 33, 3) := by decide +kernel
theorem dX1_nearestFree_33 : decode cX1_nearestFree 33 = .ok (.iload_n 3, 1) := by decide +kernel
theorem dX1_nearestFree_34 : decode cX1_nearestFree 34 = .ok (.laload, 1) := by decide +kernel
theorem dX1_nearestFree_35 : decode cX1_nearestFree 35 = .ok (.ldc2_w 15, 3) := by decide +kernel
theorem dX1_nearestFree_38 : decode cX1_nearestFree 38 = .ok (.lcmp, 1) := by decide +kernel
theorem dX1_nearestFree_39 : decode cX1_nearestFree 39 = .ok (.ifCond .eq 26, 3) := by decide +kernel
theorem dX1_nearestFree_42 : decode cX1_nearestFree 42 = .ok (.iload_n 1, 1) := by decide +kernel
theorem dX1_nearestFree_43 : decode cX1_nearestFree 43 = .ok (.iconst (-1), 1) := by decide +kernel
theorem dX1_nearestFree_44 : decode cX1_nearestFree 44 = .ok (.if_icmp .eq 19, 3) := by decide +kernel
theorem dX1_nearestFree_47 : decode cX1_nearestFree 47 = .ok (.aload_n 0, 1) := by decide +kernel
theorem dX1_nearestFree_48 : decode cX1_nearestFree 48 = .ok (.getfield 33, 3) := by decide +kernel
theorem dX1_nearestFree_51 : decode cX1_nearestFree 51 = .ok (.iload_n 3, 1) := by decide +kernel
theorem dX1_nearestFree_52 : decode cX1_nearestFree 52 = .ok (.laload, 1) := by decide +kernel
theorem dX1_nearestFree_53 : decode cX1_nearestFree 53 = .ok (.aload_n 0, 1) := by decide +kernel
theorem dX1_nearestFree_54 : decode cX1_nearestFree 54 = .ok (.getfield 33, 3) := by decide +kernel
theorem dX1_nearestFree_57 : decode cX1_nearestFree 57 = .ok (.iload_n 1, 1) := by decide +kernel
theorem dX1_nearestFree_58 : decode cX1_nearestFree 58 = .ok (.laload, 1) := by decide +kernel
theorem dX1_nearestFree_59 : decode cX1_nearestFree 59 = .ok (.lcmp, 1) := by decide +kernel
theorem dX1_nearestFree_60 : decode cX1_nearestFree 60 = .ok (.ifCond .ge 5, 3) := by decide +kernel
theorem dX1_nearestFree_63 : decode cX1_nearestFree 63 = .ok (.iload_n 3, 1) := by decide +kernel
theorem dX1_nearestFree_64 : decode cX1_nearestFree 64 = .ok (.istore_n 1, 1) := by decide +kernel
theorem dX1_nearestFree_65 : decode cX1_nearestFree 65 = .ok (.iinc 2 1, 3) := by decide +kernel
theorem dX1_nearestFree_68 : decode cX1_nearestFree 68 = .ok (.goto (-64), 3) := by decide +kernel
theorem dX1_nearestFree_71 : decode cX1_nearestFree 71 = .ok (.iload_n 1, 1) := by decide +kernel
theorem dX1_nearestFree_72 : decode cX1_nearestFree 72 = .ok (.ireturn, 1) := by decide +kernel
theorem dX1_passAlong_0 : decode cX1_passAlong 0 = .ok (.iload_n 2, 1) := by decide +kernel
theorem dX1_passAlong_1 : decode cX1_passAlong 1 = .ok (.istore_n 3, 1) := by decide +kernel
theorem dX1_passAlong_2 : decode cX1_passAlong 2 = .ok (.iconst 0, 1) := by decide +kernel
theorem dX1_passAlong_3 : decode cX1_passAlong 3 = .ok (.istore 4, 2) := by decide +kernel
theorem dX1_passAlong_5 : decode cX1_passAlong 5 = .ok (.iload 4, 2) := by decide +kernel
theorem dX1_passAlong_7 : decode cX1_passAlong 7 = .ok (.iload_n 1, 1) := by decide +kernel
theorem dX1_passAlong_8 : decode cX1_passAlong 8 = .ok (.if_icmp .ge 48, 3) := by decide +kernel
theorem dX1_passAlong_11 : decode cX1_passAlong 11 = .ok (.iload_n 3, 1) := by decide +kernel
theorem dX1_passAlong_12 : decode cX1_passAlong 12 = .ok (.iconst (-1), 1) := by decide +kernel
theorem dX1_passAlong_13 : decode cX1_passAlong 13 = .ok (.if_icmp .eq 43, 3) := by decide +kernel
theorem dX1_passAlong_16 : decode cX1_passAlong 16 = .ok (.aload_n 0, 1) := by decide +kernel
theorem dX1_passAlong_17 : decode cX1_passAlong 17 = .ok (.getfield 37, 3) := by decide +kernel
theorem dX1_passAlong_20 : decode cX1_passAlong 20 = .ok (.iload_n 3, 1) := by decide +kernel
theorem dX1_passAlong_21 : decode cX1_passAlong 21 = .ok (.iaload, 1) := by decide +kernel
theorem dX1_passAlong_22 : decode cX1_passAlong 22 = .ok (.istore 5, 2) := by decide +kernel
theorem dX1_passAlong_24 : decode cX1_passAlong 24 = .ok (.aload_n 0, 1) := by decide +kernel
theorem dX1_passAlong_25 : decode cX1_passAlong 25 = .ok (.getfield 30, 3) := by decide +kernel
theorem dX1_passAlong_28 : decode cX1_passAlong 28 = .ok (.iload_n 3, 1) := by decide +kernel
theorem dX1_passAlong_29 : decode cX1_passAlong 29 = .ok (.iload 5, 2) := by decide +kernel
theorem dX1_passAlong_31 : decode cX1_passAlong 31 = .ok (.iconst (-1), 1) := by decide +kernel
theorem dX1_passAlong_32 : decode cX1_passAlong 32 = .ok (.if_icmp .ne 7, 3) := by decide +kernel
theorem dX1_passAlong_35 : decode cX1_passAlong 35 = .ok (.iload_n 1, 1) := by decide +kernel
theorem dX1_passAlong_36 : decode cX1_passAlong 36 = .ok (.goto 10, 3) := by decide +kernel
theorem dX1_passAlong_39 : decode cX1_passAlong 39 = .ok (.aload_n 0, 1) := by decide +kernel
theorem dX1_passAlong_40 : decode cX1_passAlong 40 = .ok (.getfield 30, 3) := by decide +kernel
theorem dX1_passAlong_43 : decode cX1_passAlong 43 = .ok (.iload 5, 2) := by decide +kernel
theorem dX1_passAlong_45 : decode cX1_passAlong 45 = .ok (.iaload, 1) := by decide +kernel
theorem dX1_passAlong_46 : decode cX1_passAlong 46 = .ok (.iastore, 1) := by decide +kernel
theorem dX1_passAlong_47 : decode cX1_passAlong 47 = .ok (.iload 5, 2) := by decide +kernel
theorem dX1_passAlong_49 : decode cX1_passAlong 49 = .ok (.istore_n 3, 1) := by decide +kernel
theorem dX1_passAlong_50 : decode cX1_passAlong 50 = .ok (.iinc 4 1, 3) := by decide +kernel
theorem dX1_passAlong_53 : decode cX1_passAlong 53 = .ok (.goto (-48), 3) := by decide +kernel
theorem dX1_passAlong_56 : decode cX1_passAlong 56 = .ok (.return_, 1) := by decide +kernel
theorem dX2_init_0 : decode cX2_init 0 = .ok (.aload_n 0, 1) := by decide +kernel
theorem dX2_init_1 : decode cX2_init 1 = .ok (.invokespecial 3, 3) := by decide +kernel
theorem dX2_init_4 : decode cX2_init 4 = .ok (.aload_n 0, 1) := by decide +kernel
theorem dX2_init_5 : decode cX2_init 5 = .ok (.iload_n 1, 1) := by decide +kernel
theorem dX2_init_6 : decode cX2_init 6 = .ok (.putfield 9, 3) := by decide +kernel
theorem dX2_init_9 : decode cX2_init 9 = .ok (.aload_n 0, 1) := by decide +kernel
theorem dX2_init_10 : decode cX2_init 10 = .ok (.iconst 5, 1) := by decide +kernel
theorem dX2_init_11 : decode cX2_init 11 = .ok (.newarray .int, 2) := by decide +kernel
theorem dX2_init_13 : decode cX2_init 13 = .ok (.putfield 15, 3) := by decide +kernel
theorem dX2_init_16 : decode cX2_init 16 = .ok (.aload_n 0, 1) := by decide +kernel
theorem dX2_init_17 : decode cX2_init 17 = .ok (.bipush 40, 2) := by decide +kernel
theorem dX2_init_19 : decode cX2_init 19 = .ok (.newarray .int, 2) := by decide +kernel
theorem dX2_init_21 : decode cX2_init 21 = .ok (.putfield 19, 3) := by decide +kernel
theorem dX2_init_24 : decode cX2_init 24 = .ok (.aload_n 0, 1) := by decide +kernel
theorem dX2_init_25 : decode cX2_init 25 = .ok (.bipush 8, 2) := by decide +kernel
theorem dX2_init_27 : decode cX2_init 27 = .ok (.newarray .int, 2) := by decide +kernel
theorem dX2_init_29 : decode cX2_init 29 = .ok (.putfield 22, 3) := by decide +kernel
theorem dX2_init_32 : decode cX2_init 32 = .ok (.aload_n 0, 1) := by decide +kernel
theorem dX2_init_33 : decode cX2_init 33 = .ok (.bipush 8, 2) := by decide +kernel
theorem dX2_init_35 : decode cX2_init 35 = .ok (.newarray .int, 2) := by decide +kernel
theorem dX2_init_37 : decode cX2_init 37 = .ok (.putfield 25, 3) := by decide +kernel
theorem dX2_init_40 : decode cX2_init 40 = .ok (.aload_n 0, 1) := by decide +kernel
theorem dX2_init_41 : decode cX2_init 41 = .ok (.bipush 8, 2) := by decide +kernel
theorem dX2_init_43 : decode cX2_init 43 = .ok (.newarray .int, 2) := by decide +kernel
theorem dX2_init_45 : decode cX2_init 45 = .ok (.putfield 28, 3) := by decide +kernel
theorem dX2_init_48 : decode cX2_init 48 = .ok (.aload_n 0, 1) := by decide +kernel
theorem dX2_init_49 : decode cX2_init 49 = .ok (.getfield 22, 3) := by decide +kernel
theorem dX2_init_52 : decode cX2_init 52 = .ok (.iconst 1, 1) := by decide +kernel
theorem dX2_init_53 : decode cX2_init 53 = .ok (.invokestatic 31, 3) := by decide +kernel
theorem dX2_init_56 : decode cX2_init 56 = .ok (.return_, 1) := by decide +kernel
theorem dX2_init__0 : decode cX2_init_ 0 = .ok (.aload_n 0, 1) := by decide +kernel
theorem dX2_init__1 : decode cX2_init_ 1 = .ok (.invokespecial 3, 3) := by decide +kernel
theorem dX2_init__4 : decode cX2_init_ 4 = .ok (.aload_n 0, 1) := by decide +kernel
theorem dX2_init__5 : decode cX2_init_ 5 = .ok (.aload_n 1, 1) := by decide +kernel
theorem dX2_init__6 : decode cX2_init_ 6 = .ok (.getfield 9, 3) := by decide +kernel
theorem dX2_init__9 : decode cX2_init_ 9 = .ok (.putfield 9, 3) := by decide +kernel
theorem dX2_init__12 : decode cX2_init_ 12 = .ok (.aload_n 0, 1) := by decide +kernel
theorem dX2_init__13 : decode cX2_init_ 13 = .ok (.aload_n 1, 1) := by decide +kernel
theorem dX2_init__14 : decode cX2_init_ 14 = .ok (.getfield 15, 3) := by decide +kernel
theorem dX2_init__17 : decode cX2_init_ 17 = .ok (.invokevirtual 37, 3) := by decide +kernel
theorem dX2_init__20 : decode cX2_init_ 20 = .ok (.checkcast 38, 3) := by decide +kernel
theorem dX2_init__23 : decode cX2_init_ 23 = .ok (.putfield 15, 3) := by decide +kernel
theorem dX2_init__26 : decode cX2_init_ 26 = .ok (.aload_n 0, 1) := by decide +kernel
theorem dX2_init__27 : decode cX2_init_ 27 = .ok (.aload_n 1, 1) := by decide +kernel
theorem dX2_init__28 : decode cX2_init_ 28 = .ok (.getfield 19, 3) := by decide +kernel
theorem dX2_init__31 : decode cX2_init_ 31 = .ok (.invokevirtual 37, 3) := by decide +kernel
theorem dX2_init__34 : decode cX2_init_ 34 = .ok (.checkcast 38, 3) := by decide +kernel
theorem dX2_init__37 : decode cX2_init_ 37 = .ok (.putfield 19, 3) := by decide +kernel
theorem dX2_init__40 : decode cX2_init_ 40 = .ok (.aload_n 0, 1) := by decide +kernel
theorem dX2_init__41 : decode cX2_init_ 41 = .ok (.aload_n 1, 1) := by decide +kernel
theorem dX2_init__42 : decode cX2_init_ 42 = .ok (.getfield 22, 3) := by decide +kernel
theorem dX2_init__45 : decode cX2_init_ 45 = .ok (.invokevirtual 37, 3) := by decide +kernel
theorem dX2_init__48 : decode cX2_init_ 48 = .ok (.checkcast 38, 3) := by decide +kernel
theorem dX2_init__51 : decode cX2_init_ 51 = .ok (.putfield 22, 3) := by decide +kernel
theorem dX2_init__54 : decode cX2_init_ 54 = .ok (.aload_n 0, 1) := by decide +kernel
theorem dX2_init__55 : decode cX2_init_ 55 = .ok (.aload_n 1, 1) := by decide +kernel
theorem dX2_init__56 : decode cX2_init_ 56 = .ok (.getfield 25, 3) := by decide +kernel
theorem dX2_init__59 : decode cX2_init_ 59 = .ok (.invokevirtual 37, 3) := by decide +kernel
theorem dX2_init__62 : decode cX2_init_ 62 = .ok (.checkcast 38, 3) := by decide +kernel
theorem dX2_init__65 : decode cX2_init_ 65 = .ok (.putfield 25, 3) := by decide +kernel
theorem dX2_init__68 : decode cX2_init_ 68 = .ok (.aload_n 0, 1) := by decide +kernel
theorem dX2_init__69 : decode cX2_init_ 69 = .ok (.aload_n 1, 1) := by decide +kernel
theorem dX2_init__70 : decode cX2_init_ 70 = .ok (.getfield 28, 3) := by decide +kernel
theorem dX2_init__73 : decode cX2_init_ 73 = .ok (.invokevirtual 37, 3) := by decide +kernel
theorem dX2_init__76 : decode cX2_init_ 76 = .ok (.checkcast 38, 3) := by decide +kernel
theorem dX2_init__79 : decode cX2_init_ 79 = .ok (.putfield 28, 3) := by decide +kernel
theorem dX2_init__82 : decode cX2_init_ 82 = .ok (.return_, 1) := by decide +kernel
theorem dX2_setTable_0 : decode cX2_setTable 0 = .ok (.iload_n 3, 1) := by decide +kernel
theorem dX2_setTable_1 : decode cX2_setTable 1 = .ok (.bipush (-50), 2) := by decide +kernel
theorem dX2_setTable_3 : decode cX2_setTable 3 = .ok (.bipush 50, 2) := by decide +kernel
theorem dX2_setTable_5 : decode cX2_setTable 5 = .ok (.invokestatic 42, 3) := by decide +kernel
theorem dX2_setTable_8 : decode cX2_setTable 8 = .ok (.ifCond .ne 5, 3) := by decide +kernel
theorem dX2_setTable_11 : decode cX2_setTable 11 = .ok (.iconst 0, 1) := by decide +kernel
theorem dX2_setTable_12 : decode cX2_setTable 12 = .ok (.ireturn, 1) := by decide +kernel
theorem dX2_setTable_13 : decode cX2_setTable 13 = .ok (.aload_n 0, 1) := by decide +kernel
theorem dX2_setTable_14 : decode cX2_setTable 14 = .ok (.getfield 19, 3) := by decide +kernel
theorem dX2_setTable_17 : decode cX2_setTable 17 = .ok (.iload_n 1, 1) := by decide +kernel
theorem dX2_setTable_18 : decode cX2_setTable 18 = .ok (.bipush 8, 2) := by decide +kernel
theorem dX2_setTable_20 : decode cX2_setTable 20 = .ok (.imul, 1) := by decide +kernel
theorem dX2_setTable_21 : decode cX2_setTable 21 = .ok (.iload_n 2, 1) := by decide +kernel
theorem dX2_setTable_22 : decode cX2_setTable 22 = .ok (.iadd, 1) := by decide +kernel
theorem dX2_setTable_23 : decode cX2_setTable 23 = .ok (.iload_n 3, 1) := by decide +kernel
theorem dX2_setTable_24 : decode cX2_setTable 24 = .ok (.iastore, 1) := by decide +kernel
theorem dX2_setTable_25 : decode cX2_setTable 25 = .ok (.iconst 1, 1) := by decide +kernel
theorem dX2_setTable_26 : decode cX2_setTable 26 = .ok (.ireturn, 1) := by decide +kernel
theorem dX2_setMetal_0 : decode cX2_setMetal 0 = .ok (.iload_n 2, 1) := by decide +kernel
theorem dX2_setMetal_1 : decode cX2_setMetal 1 = .ok (.iconst 1, 1) := by decide +kernel
theorem dX2_setMetal_2 : decode cX2_setMetal 2 = .ok (.bipush 50, 2) := by decide +kernel
theorem dX2_setMetal_4 : decode cX2_setMetal 4 = .ok (.invokestatic 42, 3) := by decide +kernel
theorem dX2_setMetal_7 : decode cX2_setMetal 7 = .ok (.ifCond .ne 5, 3) := by decide +kernel
theorem dX2_setMetal_10 : decode cX2_setMetal 10 = .ok (.iconst 0, 1) := by decide +kernel
theorem dX2_setMetal_11 : decode cX2_setMetal 11 = .ok (.ireturn, 1) := by decide +kernel
theorem dX2_setMetal_12 : decode cX2_setMetal 12 = .ok (.aload_n 0, 1) := by decide +kernel
theorem dX2_setMetal_13 : decode cX2_setMetal 13 = .ok (.getfield 22, 3) := by decide +kernel
theorem dX2_setMetal_16 : decode cX2_setMetal 16 = .ok (.iload_n 1, 1) := by decide +kernel
theorem dX2_setMetal_17 : decode cX2_setMetal 17 = .ok (.iload_n 2, 1) := by decide +kernel
theorem dX2_setMetal_18 : decode cX2_setMetal 18 = .ok (.iastore, 1) := by decide +kernel
theorem dX2_setMetal_19 : decode cX2_setMetal 19 = .ok (.iconst 1, 1) := by decide +kernel
theorem dX2_setMetal_20 : decode cX2_setMetal 20 = .ok (.ireturn, 1) := by decide +kernel
theorem dX2_setLeast_0 : decode cX2_setLeast 0 = .ok (.iload_n 2, 1) := by decide +kernel
theorem dX2_setLeast_1 : decode cX2_setLeast 1 = .ok (.iconst 0, 1) := by decide +kernel
theorem dX2_setLeast_2 : decode cX2_setLeast 2 = .ok (.aload_n 0, 1) := by decide +kernel
theorem dX2_setLeast_3 : decode cX2_setLeast 3 = .ok (.getfield 28, 3) := by decide +kernel
theorem dX2_setLeast_6 : decode cX2_setLeast 6 = .ok (.iload_n 1, 1) := by decide +kernel
theorem dX2_setLeast_7 : decode cX2_setLeast 7 = .ok (.iaload, 1) := by decide +kernel
theorem dX2_setLeast_8 : decode cX2_setLeast 8 = .ok (.invokestatic 42, 3) := by decide +kernel
theorem dX2_setLeast_11 : decode cX2_setLeast 11 = .ok (.ifCond .ne 5, 3) := by decide +kernel
theorem dX2_setLeast_14 : decode cX2_setLeast 14 = .ok (.iconst 0, 1) := by decide +kernel
theorem dX2_setLeast_15 : decode cX2_setLeast 15 = .ok (.ireturn, 1) := by decide +kernel
theorem dX2_setLeast_16 : decode cX2_setLeast 16 = .ok (.aload_n 0, 1) := by decide +kernel
theorem dX2_setLeast_17 : decode cX2_setLeast 17 = .ok (.getfield 25, 3) := by decide +kernel
theorem dX2_setLeast_20 : decode cX2_setLeast 20 = .ok (.iload_n 1, 1) := by decide +kernel
theorem dX2_setLeast_21 : decode cX2_setLeast 21 = .ok (.iload_n 2, 1) := by decide +kernel
theorem dX2_setLeast_22 : decode cX2_setLeast 22 = .ok (.iastore, 1) := by decide +kernel
theorem dX2_setLeast_23 : decode cX2_setLeast 23 = .ok (.iconst 1, 1) := by decide +kernel
theorem dX2_setLeast_24 : decode cX2_setLeast 24 = .ok (.ireturn, 1) := by decide +kernel
theorem dX2_setThickness_0 : decode cX2_setThickness 0 = .ok (.iload_n 2, 1) := by decide +kernel
theorem dX2_setThickness_1 : decode cX2_setThickness 1 = .ok (.aload_n 0, 1) := by decide +kernel
theorem dX2_setThickness_2 : decode cX2_setThickness 2 = .ok (.getfield 25, 3) := by decide +kernel
theorem dX2_setThickness_5 : decode cX2_setThickness 5 = .ok (.iload_n 1, 1) := by decide +kernel
theorem dX2_setThickness_6 : decode cX2_setThickness 6 = .ok (.iaload, 1) := by decide +kernel
theorem dX2_setThickness_7 : decode cX2_setThickness 7 = .ok (.bipush 99, 2) := by decide +kernel
theorem dX2_setThickness_9 : decode cX2_setThickness 9 = .ok (.invokestatic 42, 3) := by decide +kernel
theorem dX2_setThickness_12 : decode cX2_setThickness 12 = .ok (.ifCond .ne 5, 3) := by decide +kernel
theorem dX2_setThickness_15 : decode cX2_setThickness 15 = .ok (.iconst 0, 1) := by decide +kernel
theorem dX2_setThickness_16 : decode cX2_setThickness 16 = .ok (.ireturn, 1) := by decide +kernel
theorem dX2_setThickness_17 : decode cX2_setThickness 17 = .ok (.aload_n 0, 1) := by decide +kernel
theorem dX2_setThickness_18 : decode cX2_setThickness 18 = .ok (.getfield 28, 3) := by decide +kernel
theorem dX2_setThickness_21 : decode cX2_setThickness 21 = .ok (.iload_n 1, 1) := by decide +kernel
theorem dX2_setThickness_22 : decode cX2_setThickness 22 = .ok (.iload_n 2, 1) := by decide +kernel
theorem dX2_setThickness_23 : decode cX2_setThickness 23 = .ok (.iastore, 1) := by decide +kernel
theorem dX2_setThickness_24 : decode cX2_setThickness 24 = .ok (.iconst 1, 1) := by decide +kernel
theorem dX2_setThickness_25 : decode cX2_setThickness 25 = .ok (.ireturn, 1) := by decide +kernel
theorem dX2_castWeight_0 : decode cX2_castWeight 0 = .ok (.aload_n 0, 1) := by decide +kernel
theorem dX2_castWeight_1 : decode cX2_castWeight 1 = .ok (.aload_n 0, 1) := by decide +kernel
theorem dX2_castWeight_2 : decode cX2_castWeight 2 = .ok (.getfield 28, 3) := by decide +kernel
theorem dX2_castWeight_5 : decode cX2_castWeight 5 = .ok (.invokevirtual 46, 3) := by decide +kernel
theorem dX2_castWeight_8 : decode cX2_castWeight 8 = .ok (.ireturn, 1) := by decide +kernel
theorem dX2_weightWith_0 : decode cX2_weightWith 0 = .ok (.aload_n 0, 1) := by decide +kernel
theorem dX2_weightWith_1 : decode cX2_weightWith 1 = .ok (.getfield 9, 3) := by decide +kernel
theorem dX2_weightWith_4 : decode cX2_weightWith 4 = .ok (.istore_n 2, 1) := by decide +kernel
theorem dX2_weightWith_5 : decode cX2_weightWith 5 = .ok (.iconst 0, 1) := by decide +kernel
theorem dX2_weightWith_6 : decode cX2_weightWith 6 = .ok (.istore_n 3, 1) := by decide +kernel
theorem dX2_weightWith_7 : decode cX2_weightWith 7 = .ok (.iload_n 3, 1) := by decide +kernel
theorem dX2_weightWith_8 : decode cX2_weightWith 8 = .ok (.bipush 8, 2) := by decide +kernel
theorem dX2_weightWith_10 : decode cX2_weightWith 10 = .ok (.if_icmp .ge 22, 3) := by decide +kernel
theorem dX2_weightWith_13 : decode cX2_weightWith 13 = .ok (.iload_n 2, 1) := by decide +kernel
theorem dX2_weightWith_14 : decode cX2_weightWith 14 = .ok (.aload_n 0, 1) := by decide +kernel
theorem dX2_weightWith_15 : decode cX2_weightWith 15 = .ok (.getfield 22, 3) := by decide +kernel
theorem dX2_weightWith_18 : decode cX2_weightWith 18 = .ok (.iload_n 3, 1) := by decide +kernel
theorem dX2_weightWith_19 : decode cX2_weightWith 19 = .ok (.iaload, 1) := by decide +kernel
theorem dX2_weightWith_20 : decode cX2_weightWith 20 = .ok (.aload_n 1, 1) := by decide +kernel
theorem dX2_weightWith_21 : decode cX2_weightWith 21 = .ok (.iload_n 3, 1) := by decide +kernel
theorem dX2_weightWith_22 : decode cX2_weightWith 22 = .ok (.iaload, 1) := by decide +kernel
theorem dX2_weightWith_23 : decode cX2_weightWith 23 = .ok (.imul, 1) := by decide +kernel
theorem dX2_weightWith_24 : decode cX2_weightWith 24 = .ok (.iadd, 1) := by decide +kernel
theorem dX2_weightWith_25 : decode cX2_weightWith 25 = .ok (.istore_n 2, 1) := by decide +kernel
theorem dX2_weightWith_26 : decode cX2_weightWith 26 = .ok (.iinc 3 1, 3) := by decide +kernel
theorem dX2_weightWith_29 : decode cX2_weightWith 29 = .ok (.goto (-22), 3) := by decide +kernel
theorem dX2_weightWith_32 : decode cX2_weightWith 32 = .ok (.iload_n 2, 1) := by decide +kernel
theorem dX2_weightWith_33 : decode cX2_weightWith 33 = .ok (.ireturn, 1) := by decide +kernel
theorem dX2_partWith_0 : decode cX2_partWith 0 = .ok (.aload_n 0, 1) := by decide +kernel
theorem dX2_partWith_1 : decode cX2_partWith 1 = .ok (.getfield 15, 3) := by decide +kernel
theorem dX2_partWith_4 : decode cX2_partWith 4 = .ok (.iload_n 1, 1) := by decide +kernel
theorem dX2_partWith_5 : decode cX2_partWith 5 = .ok (.iaload, 1) := by decide +kernel
theorem dX2_partWith_6 : decode cX2_partWith 6 = .ok (.istore_n 3, 1) := by decide +kernel
theorem dX2_partWith_7 : decode cX2_partWith 7 = .ok (.iconst 0, 1) := by decide +kernel
theorem dX2_partWith_8 : decode cX2_partWith 8 = .ok (.istore 4, 2) := by decide +kernel
theorem dX2_partWith_10 : decode cX2_partWith 10 = .ok (.iload 4, 2) := by decide +kernel
theorem dX2_partWith_12 : decode cX2_partWith 12 = .ok (.bipush 8, 2) := by decide +kernel
theorem dX2_partWith_14 : decode cX2_partWith 14 = .ok (.if_icmp .ge 29, 3) := by decide +kernel
theorem dX2_partWith_17 : decode cX2_partWith 17 = .ok (.iload_n 3, 1) := by decide +kernel
theorem dX2_partWith_18 : decode cX2_partWith 18 = .ok (.aload_n 0, 1) := by decide +kernel
theorem dX2_partWith_19 : decode cX2_partWith 19 = .ok (.getfield 19, 3) := by decide +kernel
theorem dX2_partWith_22 : decode cX2_partWith 22 = .ok (.iload_n 1, 1) := by decide +kernel
theorem dX2_partWith_23 : decode cX2_partWith 23 = .ok (.bipush 8, 2) := by decide +kernel
theorem dX2_partWith_25 : decode cX2_partWith 25 = .ok (.imul, 1) := by decide +kernel
theorem dX2_partWith_26 : decode cX2_partWith 26 = .ok (.iload 4, 2) := by decide +kernel
theorem dX2_partWith_28 : decode cX2_partWith 28 = .ok (.iadd, 1) := by decide +kernel
theorem dX2_partWith_29 : decode cX2_partWith 29 = .ok (.iaload, 1) := by decide +kernel
theorem dX2_partWith_30 : decode cX2_partWith 30 = .ok (.aload_n 2, 1) := by decide +kernel
theorem dX2_partWith_31 : decode cX2_partWith 31 = .ok (.iload 4, 2) := by decide +kernel
theorem dX2_partWith_33 : decode cX2_partWith 33 = .ok (.iaload, 1) := by decide +kernel
theorem dX2_partWith_34 : decode cX2_partWith 34 = .ok (.imul, 1) := by decide +kernel
theorem dX2_partWith_35 : decode cX2_partWith 35 = .ok (.iadd, 1) := by decide +kernel
theorem dX2_partWith_36 : decode cX2_partWith 36 = .ok (.istore_n 3, 1) := by decide +kernel
theorem dX2_partWith_37 : decode cX2_partWith 37 = .ok (.iinc 4 1, 3) := by decide +kernel
theorem dX2_partWith_40 : decode cX2_partWith 40 = .ok (.goto (-30), 3) := by decide +kernel
theorem dX2_partWith_43 : decode cX2_partWith 43 = .ok (.iload_n 3, 1) := by decide +kernel
theorem dX2_partWith_44 : decode cX2_partWith 44 = .ok (.ireturn, 1) := by decide +kernel
theorem dX3_init_0 : decode cX3_init 0 = .ok (.aload_n 0, 1) := by decide +kernel
theorem dX3_init_1 : decode cX3_init 1 = .ok (.invokespecial 3, 3) := by decide +kernel
theorem dX3_init_4 : decode cX3_init 4 = .ok (.aload_n 0, 1) := by decide +kernel
theorem dX3_init_5 : decode cX3_init 5 = .ok (.iconst 5, 1) := by decide +kernel
theorem dX3_init_6 : decode cX3_init 6 = .ok (.newarray .int, 2) := by decide +kernel
theorem dX3_init_8 : decode cX3_init 8 = .ok (.putfield 9, 3) := by decide +kernel
theorem dX3_init_11 : decode cX3_init 11 = .ok (.aload_n 0, 1) := by decide +kernel
theorem dX3_init_12 : decode cX3_init 12 = .ok (.iconst 5, 1) := by decide +kernel
theorem dX3_init_13 : decode cX3_init 13 = .ok (.newarray .int, 2) := by decide +kernel
theorem dX3_init_15 : decode cX3_init 15 = .ok (.putfield 15, 3) := by decide +kernel
theorem dX3_init_18 : decode cX3_init 18 = .ok (.aload_n 0, 1) := by decide +kernel
theorem dX3_init_19 : decode cX3_init 19 = .ok (.getfield 9, 3) := by decide +kernel
theorem dX3_init_22 : decode cX3_init 22 = .ok (.sipush (-30000), 3) := by decide +kernel
theorem dX3_init_25 : decode cX3_init 25 = .ok (.invokestatic 18, 3) := by decide +kernel
theorem dX3_init_28 : decode cX3_init 28 = .ok (.aload_n 0, 1) := by decide +kernel
theorem dX3_init_29 : decode cX3_init 29 = .ok (.getfield 15, 3) := by decide +kernel
theorem dX3_init_32 : decode cX3_init 32 = .ok (.sipush 30000, 3) := by decide +kernel
theorem dX3_init_35 : decode cX3_init 35 = .ok (.invokestatic 18, 3) := by decide +kernel
theorem dX3_init_38 : decode cX3_init 38 = .ok (.aload_n 0, 1) := by decide +kernel
theorem dX3_init_39 : decode cX3_init 39 = .ok (.iconst 5, 1) := by decide +kernel
theorem dX3_init_40 : decode cX3_init 40 = .ok (.newarray .int, 2) := by decide +kernel
theorem dX3_init_42 : decode cX3_init 42 = .ok (.putfield 24, 3) := by decide +kernel
theorem dX3_init_45 : decode cX3_init 45 = .ok (.aload_n 0, 1) := by decide +kernel
theorem dX3_init_46 : decode cX3_init 46 = .ok (.bipush 9, 2) := by decide +kernel
theorem dX3_init_48 : decode cX3_init 48 = .ok (.newarray .int, 2) := by decide +kernel
theorem dX3_init_50 : decode cX3_init 50 = .ok (.putfield 27, 3) := by decide +kernel
theorem dX3_init_53 : decode cX3_init 53 = .ok (.aload_n 0, 1) := by decide +kernel
theorem dX3_init_54 : decode cX3_init 54 = .ok (.bipush 45, 2) := by decide +kernel
theorem dX3_init_56 : decode cX3_init 56 = .ok (.newarray .int, 2) := by decide +kernel
theorem dX3_init_58 : decode cX3_init 58 = .ok (.putfield 30, 3) := by decide +kernel
theorem dX3_init_61 : decode cX3_init 61 = .ok (.aload_n 0, 1) := by decide +kernel
theorem dX3_init_62 : decode cX3_init 62 = .ok (.bipush 45, 2) := by decide +kernel
theorem dX3_init_64 : decode cX3_init 64 = .ok (.newarray .int, 2) := by decide +kernel
theorem dX3_init_66 : decode cX3_init 66 = .ok (.putfield 33, 3) := by decide +kernel
theorem dX3_init_69 : decode cX3_init 69 = .ok (.return_, 1) := by decide +kernel
theorem dX3_setSpan_0 : decode cX3_setSpan 0 = .ok (.aload_n 0, 1) := by decide +kernel
theorem dX3_setSpan_1 : decode cX3_setSpan 1 = .ok (.getfield 9, 3) := by decide +kernel
theorem dX3_setSpan_4 : decode cX3_setSpan 4 = .ok (.iload_n 1, 1) := by decide +kernel
theorem dX3_setSpan_5 : decode cX3_setSpan 5 = .ok (.iload_n 2, 1) := by decide +kernel
theorem dX3_setSpan_6 : decode cX3_setSpan 6 = .ok (.iastore, 1) := by decide +kernel
theorem dX3_setSpan_7 : decode cX3_setSpan 7 = .ok (.aload_n 0, 1) := by decide +kernel
theorem dX3_setSpan_8 : decode cX3_setSpan 8 = .ok (.getfield 15, 3) := by decide +kernel
theorem dX3_setSpan_11 : decode cX3_setSpan 11 = .ok (.iload_n 1, 1) := by decide +kernel
theorem dX3_setSpan_12 : decode cX3_setSpan 12 = .ok (.iload_n 3, 1) := by decide +kernel
theorem dX3_setSpan_13 : decode cX3_setSpan 13 = .ok (.iastore, 1) := by decide +kernel
theorem dX3_setSpan_14 : decode cX3_setSpan 14 = .ok (.aload_n 0, 1) := by decide +kernel
theorem dX3_setSpan_15 : decode cX3_setSpan 15 = .ok (.dup, 1) := by decide +kernel
theorem dX3_setSpan_16 : decode cX3_setSpan 16 = .ok (.getfield 36, 3) := by decide +kernel
theorem dX3_setSpan_19 : decode cX3_setSpan 19 = .ok (.iconst 1, 1) := by decide +kernel
theorem dX3_setSpan_20 : decode cX3_setSpan 20 = .ok (.iadd, 1) := by decide +kernel
theorem dX3_setSpan_21 : decode cX3_setSpan 21 = .ok (.putfield 36, 3) := by decide +kernel
theorem dX3_setSpan_24 : decode cX3_setSpan 24 = .ok (.return_, 1) := by decide +kernel
theorem dX3_plan_0 : decode cX3_plan 0 = .ok (.aload_n 1, 1) := by decide +kernel
theorem dX3_plan_1 : decode cX3_plan 1 = .ok (.getfield 40, 3) := by decide +kernel
theorem dX3_plan_4 : decode cX3_plan 4 = .ok (.aload_n 0, 1) := by decide +kernel
theorem dX3_plan_5 : decode cX3_plan 5 = .ok (.getfield 36, 3) := by decide +kernel
theorem dX3_plan_8 : decode cX3_plan 8 = .ok (.if_icmp .ne 4, 3) := by decide +kernel
theorem dX3_plan_11 : decode cX3_plan 11 = .ok (.return_, 1) := by decide +kernel
theorem dX3_plan_12 : decode cX3_plan 12 = .ok (.aload_n 1, 1) := by decide +kernel
theorem dX3_plan_13 : decode cX3_plan 13 = .ok (.aload_n 0, 1) := by decide +kernel
theorem dX3_plan_14 : decode cX3_plan 14 = .ok (.getfield 36, 3) := by decide +kernel
theorem dX3_plan_17 : decode cX3_plan 17 = .ok (.putfield 40, 3) := by decide +kernel
theorem dX3_plan_20 : decode cX3_plan 20 = .ok (.aload_n 1, 1) := by decide +kernel
theorem dX3_plan_21 : decode cX3_plan 21 = .ok (.iconst (-1), 1) := by decide +kernel
theorem dX3_plan_22 : decode cX3_plan 22 = .ok (.putfield 45, 3) := by decide +kernel
theorem dX3_plan_25 : decode cX3_plan 25 = .ok (.aload_n 1, 1) := by decide +kernel
theorem dX3_plan_26 : decode cX3_plan 26 = .ok (.getfield 48, 3) := by decide +kernel
theorem dX3_plan_29 : decode cX3_plan 29 = .ok (.iconst 0, 1) := by decide +kernel
theorem dX3_plan_30 : decode cX3_plan 30 = .ok (.invokestatic 18, 3) := by decide +kernel
theorem dX3_plan_33 : decode cX3_plan 33 = .ok (.aload_n 0, 1) := by decide +kernel
theorem dX3_plan_34 : decode cX3_plan 34 = .ok (.aload_n 1, 1) := by decide +kernel
theorem dX3_plan_35 : decode cX3_plan 35 = .ok (.invokevirtual 51, 3) := by decide +kernel
theorem dX3_plan_38 : decode cX3_plan 38 = .ok (.bipush 12, 2) := by decide +kernel
theorem dX3_plan_40 : decode cX3_plan 40 = .ok (.aload_n 0, 1) := by decide +kernel
theorem dX3_plan_41 : decode cX3_plan 41 = .ok (.getfield 27, 3) := by decide +kernel
theorem dX3_plan_44 : decode cX3_plan 44 = .ok (.iconst 0, 1) := by decide +kernel
theorem dX3_plan_45 : decode cX3_plan 45 = .ok (.iaload, 1) := by decide +kernel
theorem dX3_plan_46 : decode cX3_plan 46 = .ok (.invokestatic 55, 3) := by decide +kernel
theorem dX3_plan_49 : decode cX3_plan 49 = .ok (.istore_n 2, 1) := by decide +kernel
theorem dX3_plan_50 : decode cX3_plan 50 = .ok (.iconst 0, 1) := by decide +kernel
theorem dX3_plan_51 : decode cX3_plan 51 = .ok (.istore_n 3, 1) := by decide +kernel
theorem dX3_plan_52 : decode cX3_plan 52 = .ok (.iload_n 3, 1) := by decide +kernel
theorem dX3_plan_53 : decode cX3_plan 53 = .ok (.iload_n 2, 1) := by decide +kernel
theorem dX3_plan_54 : decode cX3_plan 54 = .ok (.if_icmp .gt 25, 3) := by decide +kernel
theorem dX3_plan_57 : decode cX3_plan 57 = .ok (.aload_n 0, 1) := by decide +kernel
theorem dX3_plan_58 : decode cX3_plan 58 = .ok (.aload_n 1, 1) := by decide +kernel
theorem dX3_plan_59 : decode cX3_plan 59 = .ok (.iconst 0, 1) := by decide +kernel
theorem dX3_plan_60 : decode cX3_plan 60 = .ok (.iload_n 3, 1) := by decide +kernel
theorem dX3_plan_61 : decode cX3_plan 61 = .ok (.invokestatic 61, 3) := by decide +kernel
theorem dX3_plan_64 : decode cX3_plan 64 = .ok (.ifCond .eq 9, 3) := by decide +kernel
theorem dX3_plan_67 : decode cX3_plan 67 = .ok (.aload_n 1, 1) := by decide +kernel
theorem dX3_plan_68 : decode cX3_plan 68 = .ok (.iload_n 3, 1) := by decide +kernel
theorem dX3_plan_69 : decode cX3_plan 69 = .ok (.putfield 45, 3) := by decide +kernel
theorem dX3_plan_72 : decode cX3_plan 72 = .ok (.return_, 1) := by decide +kernel
theorem dX3_plan_73 : decode cX3_plan 73 = .ok (.iinc 3 1, 3) := by decide +kernel
theorem dX3_plan_76 : decode cX3_plan 76 = .ok (.goto (-24), 3) := by decide +kernel
theorem dX3_plan_79 : decode cX3_plan 79 = .ok (.return_, 1) := by decide +kernel
theorem dX3_prepare_0 : decode cX3_prepare 0 = .ok (.iconst 0, 1) := by decide +kernel
theorem dX3_prepare_1 : decode cX3_prepare 1 = .ok (.istore_n 2, 1) := by decide +kernel
theorem dX3_prepare_2 : decode cX3_prepare 2 = .ok (.iload_n 2, 1) := by decide +kernel
theorem dX3_prepare_3 : decode cX3_prepare 3 = .ok (.iconst 5, 1) := by decide +kernel
theorem dX3_prepare_4 : decode cX3_prepare 4 = .ok (.if_icmp .ge 20, 3) := by decide +kernel
theorem dX3_prepare_7 : decode cX3_prepare 7 = .ok (.aload_n 0, 1) := by decide +kernel
theorem dX3_prepare_8 : decode cX3_prepare 8 = .ok (.getfield 24, 3) := by decide +kernel
theorem dX3_prepare_11 : decode cX3_prepare 11 = .ok (.iload_n 2, 1) := by decide +kernel
theorem dX3_prepare_12 : decode cX3_prepare 12 = .ok (.aload_n 1, 1) := by decide +kernel
theorem dX3_prepare_13 : decode cX3_prepare 13 = .ok (.iload_n 2, 1) := by decide +kernel
theorem dX3_prepare_14 : decode cX3_prepare 14 = .ok (.invokevirtual 65, 3) := by decide +kernel
theorem dX3_prepare_17 : decode cX3_prepare 17 = .ok (.iastore, 1) := by decide +kernel
theorem dX3_prepare_18 : decode cX3_prepare 18 = .ok (.iinc 2 1, 3) := by decide +kernel
theorem dX3_prepare_21 : decode cX3_prepare 21 = .ok (.goto (-19), 3) := by decide +kernel
theorem dX3_prepare_24 : decode cX3_prepare 24 = .ok (.bipush 7, 2) := by decide +kernel
theorem dX3_prepare_26 : decode cX3_prepare 26 = .ok (.istore_n 2, 1) := by decide +kernel
theorem dX3_prepare_27 : decode cX3_prepare 27 = .ok (.iload_n 2, 1) := by decide +kernel
theorem dX3_prepare_28 : decode cX3_prepare 28 = .ok (.ifCond .lt 49, 3) := by decide +kernel
theorem dX3_prepare_31 : decode cX3_prepare 31 = .ok (.iconst 0, 1) := by decide +kernel
theorem dX3_prepare_32 : decode cX3_prepare 32 = .ok (.istore_n 3, 1) := by decide +kernel
theorem dX3_prepare_33 : decode cX3_prepare 33 = .ok (.iload_n 3, 1) := by decide +kernel
theorem dX3_prepare_34 : decode cX3_prepare 34 = .ok (.iconst 5, 1) := by decide +kernel
theorem dX3_prepare_35 : decode cX3_prepare 35 = .ok (.if_icmp .ge 16, 3) := by decide +kernel
theorem dX3_prepare_38 : decode cX3_prepare 38 = .ok (.aload_n 0, 1) := by decide +kernel
theorem dX3_prepare_39 : decode cX3_prepare 39 = .ok (.aload_n 1, 1) := by decide +kernel
theorem dX3_prepare_40 : decode cX3_prepare 40 = .ok (.iload_n 3, 1) := by decide +kernel
theorem dX3_prepare_41 : decode cX3_prepare 41 = .ok (.iload_n 2, 1) := by decide +kernel
theorem dX3_prepare_42 : decode cX3_prepare 42 = .ok (.invokevirtual 69, 3) := by decide +kernel
theorem dX3_prepare_45 : decode cX3_prepare 45 = .ok (.iinc 3 1, 3) := by decide +kernel
theorem dX3_prepare_48 : decode cX3_prepare 48 = .ok (.goto (-15), 3) := by decide +kernel
theorem dX3_prepare_51 : decode cX3_prepare 51 = .ok (.aload_n 0, 1) := by decide +kernel
theorem dX3_prepare_52 : decode cX3_prepare 52 = .ok (.getfield 27, 3) := by decide +kernel
theorem dX3_prepare_55 : decode cX3_prepare 55 = .ok (.iload_n 2, 1) := by decide +kernel
theorem dX3_prepare_56 : decode cX3_prepare 56 = .ok (.aload_n 0, 1) := by decide +kernel
theorem dX3_prepare_57 : decode cX3_prepare 57 = .ok (.getfield 27, 3) := by decide +kernel
theorem dX3_prepare_60 : decode cX3_prepare 60 = .ok (.iload_n 2, 1) := by decide +kernel
theorem dX3_prepare_61 : decode cX3_prepare 61 = .ok (.iconst 1, 1) := by decide +kernel
theorem dX3_prepare_62 : decode cX3_prepare 62 = .ok (.iadd, 1) := by decide +kernel
theorem dX3_prepare_63 : decode cX3_prepare 63 = .ok (.iaload, 1) := by decide +kernel
theorem dX3_prepare_64 : decode cX3_prepare 64 = .ok (.aload_n 1, 1) := by decide +kernel
theorem dX3_prepare_65 : decode cX3_prepare 65 = .ok (.iload_n 2, 1) := by decide +kernel
theorem dX3_prepare_66 : decode cX3_prepare 66 = .ok (.invokevirtual 73, 3) := by decide +kernel
theorem dX3_prepare_69 : decode cX3_prepare 69 = .ok (.iadd, 1) := by decide +kernel
theorem dX3_prepare_70 : decode cX3_prepare 70 = .ok (.iastore, 1) := by decide +kernel
theorem dX3_prepare_71 : decode cX3_prepare 71 = .ok (.iinc 2 (-1), 3) := by decide +kernel
theorem dX3_prepare_74 : decode cX3_prepare 74 = .ok (.goto (-47), 3) := by decide +kernel
theorem dX3_prepare_77 : decode cX3_prepare 77 = .ok (.return_, 1) := by decide +kernel
theorem dX3_boundTables_0 : decode cX3_boundTables 0 = .ok (.iload_n 3, 1) := by decide +kernel
theorem dX3_boundTables_1 : decode cX3_boundTables 1 = .ok (.iconst 5, 1) := by decide +kernel
theorem dX3_boundTables_2 : decode cX3_boundTables 2 = .ok (.imul, 1) := by decide +kernel
theorem dX3_boundTables_3 : decode cX3_boundTables 3 = .ok (.iload_n 2, 1) := by decide +kernel
theorem dX3_boundTables_4 : decode cX3_boundTables 4 = .ok (.iadd, 1) := by decide +kernel
theorem dX3_boundTables_5 : decode cX3_boundTables 5 = .ok (.istore 4, 2) := by decide +kernel
theorem dX3_boundTables_7 : decode cX3_boundTables 7 = .ok (.iload 4, 2) := by decide +kernel
theorem dX3_boundTables_9 : decode cX3_boundTables 9 = .ok (.iconst 5, 1) := by decide +kernel
theorem dX3_boundTables_10 : decode cX3_boundTables 10 = .ok (.iadd, 1) := by decide +kernel
theorem dX3_boundTables_11 : decode cX3_boundTables 11 = .ok (.istore 5, 2) := by decide +kernel
theorem dX3_boundTables_13 : decode cX3_boundTables 13 = .ok (.aload_n 1, 1) := by decide +kernel
theorem dX3_boundTables_14 : decode cX3_boundTables 14 = .ok (.iload_n 2, 1) := by decide +kernel
theorem dX3_boundTables_15 : decode cX3_boundTables 15 = .ok (.iload_n 3, 1) := by decide +kernel
theorem dX3_boundTables_16 : decode cX3_boundTables 16 = .ok (.invokevirtual 76, 3) := by decide +kernel
theorem dX3_boundTables_19 : decode cX3_boundTables 19 = .ok (.istore 6, 2) := by decide +kernel
theorem dX3_boundTables_21 : decode cX3_boundTables 21 = .ok (.aload_n 1, 1) := by decide +kernel
theorem dX3_boundTables_22 : decode cX3_boundTables 22 = .ok (.iload_n 3, 1) := by decide +kernel
theorem dX3_boundTables_23 : decode cX3_boundTables 23 = .ok (.invokevirtual 73, 3) := by decide +kernel
theorem dX3_boundTables_26 : decode cX3_boundTables 26 = .ok (.ifCond .le 7, 3) := by decide +kernel
theorem dX3_boundTables_29 : decode cX3_boundTables 29 = .ok (.iconst 1, 1) := by decide +kernel
theorem dX3_boundTables_30 : decode cX3_boundTables 30 = .ok (.goto 4, 3) := by decide +kernel
theorem dX3_boundTables_33 : decode cX3_boundTables 33 = .ok (.iconst 0, 1) := by decide +kernel
theorem dX3_boundTables_34 : decode cX3_boundTables 34 = .ok (.istore 7, 2) := by decide +kernel
theorem dX3_boundTables_36 : decode cX3_boundTables 36 = .ok (.aload_n 0, 1) := by decide +kernel
theorem dX3_boundTables_37 : decode cX3_boundTables 37 = .ok (.getfield 27, 3) := by decide +kernel
theorem dX3_boundTables_40 : decode cX3_boundTables 40 = .ok (.iload_n 3, 1) := by decide +kernel
theorem dX3_boundTables_41 : decode cX3_boundTables 41 = .ok (.iconst 1, 1) := by decide +kernel
theorem dX3_boundTables_42 : decode cX3_boundTables 42 = .ok (.iadd, 1) := by decide +kernel
theorem dX3_boundTables_43 : decode cX3_boundTables 43 = .ok (.iaload, 1) := by decide +kernel
theorem dX3_boundTables_44 : decode cX3_boundTables 44 = .ok (.ifCond .le 7, 3) := by decide +kernel
theorem dX3_boundTables_47 : decode cX3_boundTables 47 = .ok (.iconst 1, 1) := by decide +kernel
theorem dX3_boundTables_48 : decode cX3_boundTables 48 = .ok (.goto 4, 3) := by decide +kernel
theorem dX3_boundTables_51 : decode cX3_boundTables 51 = .ok (.iconst 0, 1) := by decide +kernel
theorem dX3_boundTables_52 : decode cX3_boundTables 52 = .ok (.istore 8, 2) := by decide +kernel
theorem dX3_boundTables_54 : decode cX3_boundTables 54 = .ok (.iload 7, 2) := by decide +kernel
theorem dX3_boundTables_56 : decode cX3_boundTables 56 = .ok (.ifCond .eq 49, 3) := by decide +kernel
theorem dX3_boundTables_59 : decode cX3_boundTables 59 = .ok (.iload 8, 2) := by decide +kernel
theorem dX3_boundTables_61 : decode cX3_boundTables 61 = .ok (.ifCond .eq 44, 3) := by decide +kernel
theorem dX3_boundTables_64 : decode cX3_boundTables 64 = .ok (.aload_n 0, 1) := by decide +kernel
theorem dX3_boundTables_65 : decode cX3_boundTables 65 = .ok (.getfield 30, 3) := by decide +kernel
theorem dX3_boundTables_68 : decode cX3_boundTables 68 = .ok (.iload 4, 2) := by decide +kernel
theorem dX3_boundTables_70 : decode cX3_boundTables 70 = .ok (.aload_n 0, 1) := by decide +kernel
theorem dX3_boundTables_71 : decode cX3_boundTables 71 = .ok (.getfield 30, 3) := by decide +kernel
theorem dX3_boundTables_74 : decode cX3_boundTables 74 = .ok (.iload 5, 2) := by decide +kernel
theorem dX3_boundTables_76 : decode cX3_boundTables 76 = .ok (.iaload, 1) := by decide +kernel
theorem dX3_boundTables_77 : decode cX3_boundTables 77 = .ok (.iload 6, 2) := by decide +kernel
theorem dX3_boundTables_79 : decode cX3_boundTables 79 = .ok (.invokestatic 79, 3) := by decide +kernel
theorem dX3_boundTables_82 : decode cX3_boundTables 82 = .ok (.iastore, 1) := by decide +kernel
theorem dX3_boundTables_83 : decode cX3_boundTables 83 = .ok (.aload_n 0, 1) := by decide +kernel
theorem dX3_boundTables_84 : decode cX3_boundTables 84 = .ok (.getfield 33, 3) := by decide +kernel
theorem dX3_boundTables_87 : decode cX3_boundTables 87 = .ok (.iload 4, 2) := by decide +kernel
theorem dX3_boundTables_89 : decode cX3_boundTables 89 = .ok (.aload_n 0, 1) := by decide +kernel
theorem dX3_boundTables_90 : decode cX3_boundTables 90 = .ok (.getfield 33, 3) := by decide +kernel
theorem dX3_boundTables_93 : decode cX3_boundTables 93 = .ok (.iload 5, 2) := by decide +kernel
theorem dX3_boundTables_95 : decode cX3_boundTables 95 = .ok (.iaload, 1) := by decide +kernel
theorem dX3_boundTables_96 : decode cX3_boundTables 96 = .ok (.iload 6, 2) := by decide +kernel
theorem dX3_boundTables_98 : decode cX3_boundTables 98 = .ok (.invokestatic 55, 3) := by decide +kernel
theorem dX3_boundTables_101 : decode cX3_boundTables 101 = .ok (.iastore, 1) := by decide +kernel
theorem dX3_boundTables_102 : decode cX3_boundTables 102 = .ok (.goto 51, 3) := by decide +kernel
theorem dX3_boundTables_105 : decode cX3_boundTables 105 = .ok (.aload_n 0, 1) := by decide +kernel
theorem dX3_boundTables_106 : decode cX3_boundTables 106 = .ok (.getfield 30, 3) := by decide +kernel
theorem dX3_boundTables_109 : decode cX3_boundTables 109 = .ok (.iload 4, 2) := by decide +kernel
theorem dX3_boundTables_111 : decode cX3_boundTables 111 = .ok (.iload 7, 2) := by decide +kernel
theorem dX3_boundTables_113 : decode cX3_boundTables 113 = .ok (.ifCond .eq 8, 3) := by decide +kernel
theorem dX3_boundTables_116 : decode cX3_boundTables 116 = .ok (.iload 6, 2) := by decide +kernel
theorem dX3_boundTables_118 : decode cX3_boundTables 118 = .ok (.goto 10, 3) := by decide +kernel
theorem dX3_boundTables_121 : decode cX3_boundTables 121 = .ok (.aload_n 0, 1) := by decide +kernel
theorem dX3_boundTables_122 : decode cX3_boundTables 122 = .ok (.getfield 30, 3) := by decide +kernel
theorem dX3_boundTables_125 : decode cX3_boundTables 125 = .ok (.iload 5, 2) := by decide +kernel
theorem dX3_boundTables_127 : decode cX3_boundTables 127 = .ok (.iaload, 1) := by decide +kernel
theorem dX3_boundTables_128 : decode cX3_boundTables 128 = .ok (.iastore, 1) := by decide +kernel
theorem dX3_boundTables_129 : decode cX3_boundTables 129 = .ok (.aload_n 0, 1) := by decide +kernel
theorem dX3_boundTables_130 : decode cX3_boundTables 130 = .ok (.getfield 33, 3) := by decide +kernel
theorem dX3_boundTables_133 : decode cX3_boundTables 133 = .ok (.iload 4, 2) := by decide +kernel
theorem dX3_boundTables_135 : decode cX3_boundTables 135 = .ok (.iload 7, 2) := by decide +kernel
theorem dX3_boundTables_137 : decode cX3_boundTables 137 = .ok (.ifCond .eq 8, 3) := by decide +kernel
theorem dX3_boundTables_140 : decode cX3_boundTables 140 = .ok (.iload 6, 2) := by decide +kernel
theorem dX3_boundTables_142 : decode cX3_boundTables 142 = .ok (.goto 10, 3) := by decide +kernel
theorem dX3_boundTables_145 : decode cX3_boundTables 145 = .ok (.aload_n 0, 1) := by decide +kernel
theorem dX3_boundTables_146 : decode cX3_boundTables 146 = .ok (.getfield 33, 3) := by decide +kernel
theorem dX3_boundTables_149 : decode cX3_boundTables 149 = .ok (.iload 5, 2) := by decide +kernel
theorem dX3_boundTables_151 : decode cX3_boundTables 151 = .ok (.iaload, 1) := by decide +kernel
theorem dX3_boundTables_152 : decode cX3_boundTables 152 = .ok (.iastore, 1) := by decide +kernel
theorem dX3_boundTables_153 : decode cX3_boundTables 153 = .ok (.return_, 1) := by decide +kernel
theorem dX3_search_0 : decode cX3_search 0 = .ok (.aload_n 0, 1) := by decide +kernel
theorem dX3_search_1 : decode cX3_search 1 = .ok (.iload_n 2, 1) := by decide +kernel
theorem dX3_search_2 : decode cX3_search 2 = .ok (.iload_n 3, 1) := by decide +kernel
theorem dX3_search_3 : decode cX3_search 3 = .ok (.invokevirtual 82, 3) := by decide +kernel
theorem dX3_search_6 : decode cX3_search 6 = .ok (.ifCond .ne 5, 3) := by decide +kernel
theorem dX3_search_9 : decode cX3_search 9 = .ok (.iconst 0, 1) := by decide +kernel
theorem dX3_search_10 : decode cX3_search 10 = .ok (.ireturn, 1) := by decide +kernel
theorem dX3_search_11 : decode cX3_search 11 = .ok (.iload_n 3, 1) := by decide +kernel
theorem dX3_search_12 : decode cX3_search 12 = .ok (.ifCond .ne 5, 3) := by decide +kernel
theorem dX3_search_15 : decode cX3_search 15 = .ok (.iconst 1, 1) := by decide +kernel
theorem dX3_search_16 : decode cX3_search 16 = .ok (.ireturn, 1) := by decide +kernel
theorem dX3_search_17 : decode cX3_search 17 = .ok (.iload_n 2, 1) := by decide +kernel
theorem dX3_search_18 : decode cX3_search 18 = .ok (.bipush 8, 2) := by decide +kernel
theorem dX3_search_20 : decode cX3_search 20 = .ok (.if_icmp .lt 5, 3) := by decide +kernel
theorem dX3_search_23 : decode cX3_search 23 = .ok (.iconst 0, 1) := by decide +kernel
theorem dX3_search_24 : decode cX3_search 24 = .ok (.ireturn, 1) := by decide +kernel
theorem dX3_search_25 : decode cX3_search 25 = .ok (.aload_n 1, 1) := by decide +kernel
theorem dX3_search_26 : decode cX3_search 26 = .ok (.iload_n 2, 1) := by decide +kernel
theorem dX3_search_27 : decode cX3_search 27 = .ok (.invokevirtual 73, 3) := by decide +kernel
theorem dX3_search_30 : decode cX3_search 30 = .ok (.iload_n 3, 1) := by decide +kernel
theorem dX3_search_31 : decode cX3_search 31 = .ok (.invokestatic 55, 3) := by decide +kernel
theorem dX3_search_34 : decode cX3_search 34 = .ok (.istore 4, 2) := by decide +kernel
theorem dX3_search_36 : decode cX3_search 36 = .ok (.iconst 0, 1) := by decide +kernel
theorem dX3_search_37 : decode cX3_search 37 = .ok (.iload_n 3, 1) := by decide +kernel
theorem dX3_search_38 : decode cX3_search 38 = .ok (.aload_n 0, 1) := by decide +kernel
theorem dX3_search_39 : decode cX3_search 39 = .ok (.getfield 27, 3) := by decide +kernel
theorem dX3_search_42 : decode cX3_search 42 = .ok (.iload_n 2, 1) := by decide +kernel
theorem dX3_search_43 : decode cX3_search 43 = .ok (.iconst 1, 1) := by decide +kernel
theorem dX3_search_44 : decode cX3_search 44 = .ok (.iadd, 1) := by decide +kernel
theorem dX3_search_45 : decode cX3_search 45 = .ok (.iaload, 1) := by decide +kernel
theorem dX3_search_46 : decode cX3_search 46 = .ok (.isub, 1) := by decide +kernel
theorem dX3_search_47 : decode cX3_search 47 = .ok (.invokestatic 79, 3) := by decide +kernel
theorem dX3_search_50 : decode cX3_search 50 = .ok (.istore 5, 2) := by decide +kernel
theorem dX3_search_52 : decode cX3_search 52 = .ok (.aload_n 0, 1) := by decide +kernel
theorem dX3_search_53 : decode cX3_search 53 = .ok (.aload_n 1, 1) := by decide +kernel
theorem dX3_search_54 : decode cX3_search 54 = .ok (.iload_n 2, 1) := by decide +kernel
theorem dX3_search_55 : decode cX3_search 55 = .ok (.iload 5, 2) := by decide +kernel
theorem dX3_search_57 : decode cX3_search 57 = .ok (.invokevirtual 86, 3) := by decide +kernel
theorem dX3_search_60 : decode cX3_search 60 = .ok (.iload 5, 2) := by decide +kernel
theorem dX3_search_62 : decode cX3_search 62 = .ok (.iload 4, 2) := by decide +kernel
theorem dX3_search_64 : decode cX3_search 64 = .ok (.if_icmp .gt 41, 3) := by decide +kernel
theorem dX3_search_67 : decode cX3_search 67 = .ok (.aload_n 0, 1) := by decide +kernel
theorem dX3_search_68 : decode cX3_search 68 = .ok (.aload_n 1, 1) := by decide +kernel
theorem dX3_search_69 : decode cX3_search 69 = .ok (.iload_n 2, 1) := by decide +kernel
theorem dX3_search_70 : decode cX3_search 70 = .ok (.iconst 1, 1) := by decide +kernel
theorem dX3_search_71 : decode cX3_search 71 = .ok (.iadd, 1) := by decide +kernel
theorem dX3_search_72 : decode cX3_search 72 = .ok (.iload_n 3, 1) := by decide +kernel
theorem dX3_search_73 : decode cX3_search 73 = .ok (.iload 5, 2) := by decide +kernel
theorem dX3_search_75 : decode cX3_search 75 = .ok (.isub, 1) := by decide +kernel
theorem dX3_search_76 : decode cX3_search 76 = .ok (.invokestatic 61, 3) := by decide +kernel
theorem dX3_search_79 : decode cX3_search 79 = .ok (.ifCond .eq 13, 3) := by decide +kernel
theorem dX3_search_82 : decode cX3_search 82 = .ok (.aload_n 1, 1) := by decide +kernel
theorem dX3_search_83 : decode cX3_search 83 = .ok (.getfield 48, 3) := by decide +kernel
theorem dX3_search_86 : decode cX3_search 86 = .ok (.iload_n 2, 1) := by decide +kernel
theorem dX3_search_87 : decode cX3_search 87 = .ok (.iload 5, 2) := by decide +kernel
theorem dX3_search_89 : decode cX3_search 89 = .ok (.iastore, 1) := by decide +kernel
theorem dX3_search_90 : decode cX3_search 90 = .ok (.iconst 1, 1) := by decide +kernel
theorem dX3_search_91 : decode cX3_search 91 = .ok (.ireturn, 1) := by decide +kernel
theorem dX3_search_92 : decode cX3_search 92 = .ok (.iinc 5 1, 3) := by decide +kernel
theorem dX3_search_95 : decode cX3_search 95 = .ok (.aload_n 0, 1) := by decide +kernel
theorem dX3_search_96 : decode cX3_search 96 = .ok (.aload_n 1, 1) := by decide +kernel
theorem dX3_search_97 : decode cX3_search 97 = .ok (.iload_n 2, 1) := by decide +kernel
theorem dX3_search_98 : decode cX3_search 98 = .ok (.iconst 1, 1) := by decide +kernel
theorem dX3_search_99 : decode cX3_search 99 = .ok (.invokevirtual 86, 3) := by decide +kernel
theorem dX3_search_102 : decode cX3_search 102 = .ok (.goto (-42), 3) := by decide +kernel
theorem dX3_search_105 : decode cX3_search 105 = .ok (.aload_n 0, 1) := by decide +kernel
theorem dX3_search_106 : decode cX3_search 106 = .ok (.aload_n 1, 1) := by decide +kernel
theorem dX3_search_107 : decode cX3_search 107 = .ok (.iload_n 2, 1) := by decide +kernel
theorem dX3_search_108 : decode cX3_search 108 = .ok (.iload 5, 2) := by decide +kernel
theorem dX3_search_110 : decode cX3_search 110 = .ok (.ineg, 1) := by decide +kernel
theorem dX3_search_111 : decode cX3_search 111 = .ok (.invokevirtual 86, 3) := by decide +kernel
theorem dX3_search_114 : decode cX3_search 114 = .ok (.iconst 0, 1) := by decide +kernel
theorem dX3_search_115 : decode cX3_search 115 = .ok (.ireturn, 1) := by decide +kernel
theorem dX3_mayReach_0 : decode cX3_mayReach 0 = .ok (.iconst 0, 1) := by decide +kernel
theorem dX3_mayReach_1 : decode cX3_mayReach 1 = .ok (.istore_n 3, 1) := by decide +kernel
theorem dX3_mayReach_2 : decode cX3_mayReach 2 = .ok (.iload_n 3, 1) := by decide +kernel
theorem dX3_mayReach_3 : decode cX3_mayReach 3 = .ok (.iconst 5, 1) := by decide +kernel
theorem dX3_mayReach_4 : decode cX3_mayReach 4 = .ok (.if_icmp .ge 68, 3) := by decide +kernel
theorem dX3_mayReach_7 : decode cX3_mayReach 7 = .ok (.iload_n 1, 1) := by decide +kernel
theorem dX3_mayReach_8 : decode cX3_mayReach 8 = .ok (.iconst 5, 1) := by decide +kernel
theorem dX3_mayReach_9 : decode cX3_mayReach 9 = .ok (.imul, 1) := by decide +kernel
theorem dX3_mayReach_10 : decode cX3_mayReach 10 = .ok (.iload_n 3, 1) := by decide +kernel
theorem dX3_mayReach_11 : decode cX3_mayReach 11 = .ok (.iadd, 1) := by decide +kernel
theorem dX3_mayReach_12 : decode cX3_mayReach 12 = .ok (.istore 4, 2) := by decide +kernel
theorem dX3_mayReach_14 : decode cX3_mayReach 14 = .ok (.aload_n 0, 1) := by decide +kernel
theorem dX3_mayReach_15 : decode cX3_mayReach 15 = .ok (.getfield 24, 3) := by decide +kernel
theorem dX3_mayReach_18 : decode cX3_mayReach 18 = .ok (.iload_n 3, 1) := by decide +kernel
theorem dX3_mayReach_19 : decode cX3_mayReach 19 = .ok (.iaload, 1) := by decide +kernel
theorem dX3_mayReach_20 : decode cX3_mayReach 20 = .ok (.iload_n 2, 1) := by decide +kernel
theorem dX3_mayReach_21 : decode cX3_mayReach 21 = .ok (.aload_n 0, 1) := by decide +kernel
theorem dX3_mayReach_22 : decode cX3_mayReach 22 = .ok (.getfield 33, 3) := by decide +kernel
theorem dX3_mayReach_25 : decode cX3_mayReach 25 = .ok (.iload 4, 2) := by decide +kernel
theorem dX3_mayReach_27 : decode cX3_mayReach 27 = .ok (.iaload, 1) := by decide +kernel
theorem dX3_mayReach_28 : decode cX3_mayReach 28 = .ok (.imul, 1) := by decide +kernel
theorem dX3_mayReach_29 : decode cX3_mayReach 29 = .ok (.isub, 1) := by decide +kernel
theorem dX3_mayReach_30 : decode cX3_mayReach 30 = .ok (.aload_n 0, 1) := by decide +kernel
theorem dX3_mayReach_31 : decode cX3_mayReach 31 = .ok (.getfield 9, 3) := by decide +kernel
theorem dX3_mayReach_34 : decode cX3_mayReach 34 = .ok (.iload_n 3, 1) := by decide +kernel
theorem dX3_mayReach_35 : decode cX3_mayReach 35 = .ok (.iaload, 1) := by decide +kernel
theorem dX3_mayReach_36 : decode cX3_mayReach 36 = .ok (.if_icmp .lt 28, 3) := by decide +kernel
theorem dX3_mayReach_39 : decode cX3_mayReach 39 = .ok (.aload_n 0, 1) := by decide +kernel
theorem dX3_mayReach_40 : decode cX3_mayReach 40 = .ok (.getfield 24, 3) := by decide +kernel
theorem dX3_mayReach_43 : decode cX3_mayReach 43 = .ok (.iload_n 3, 1) := by decide +kernel
theorem dX3_mayReach_44 : decode cX3_mayReach 44 = .ok (.iaload, 1) := by decide +kernel
theorem dX3_mayReach_45 : decode cX3_mayReach 45 = .ok (.iload_n 2, 1) := by decide +kernel
theorem dX3_mayReach_46 : decode cX3_mayReach 46 = .ok (.aload_n 0, 1) := by decide +kernel
theorem dX3_mayReach_47 : decode cX3_mayReach 47 = .ok (.getfield 30, 3) := by decide +kernel
theorem dX3_mayReach_50 : decode cX3_mayReach 50 = .ok (.iload 4, 2) := by decide +kernel
theorem dX3_mayReach_52 : decode cX3_mayReach 52 = .ok (.iaload, 1) := by decide +kernel
theorem dX3_mayReach_53 : decode cX3_mayReach 53 = .ok (.imul, 1) := by decide +kernel
theorem dX3_mayReach_54 : decode cX3_mayReach 54 = .ok (.isub, 1) := by decide +kernel
theorem dX3_mayReach_55 : decode cX3_mayReach 55 = .ok (.aload_n 0, 1) := by decide +kernel
theorem dX3_mayReach_56 : decode cX3_mayReach 56 = .ok (.getfield 15, 3) := by decide +kernel
theorem dX3_mayReach_59 : decode cX3_mayReach 59 = .ok (.iload_n 3, 1) := by decide +kernel
theorem dX3_mayReach_60 : decode cX3_mayReach 60 = .ok (.iaload, 1) := by decide +kernel
theorem dX3_mayReach_61 : decode cX3_mayReach 61 = .ok (.if_icmp .le 5, 3) := by decide +kernel
theorem dX3_mayReach_64 : decode cX3_mayReach 64 = .ok (.iconst 0, 1) := by decide +kernel
theorem dX3_mayReach_65 : decode cX3_mayReach 65 = .ok (.ireturn, 1) := by decide +kernel
theorem dX3_mayReach_66 : decode cX3_mayReach 66 = .ok (.iinc 3 1, 3) := by decide +kernel
theorem dX3_mayReach_69 : decode cX3_mayReach 69 = .ok (.goto (-67), 3) := by decide +kernel
theorem dX3_mayReach_72 : decode cX3_mayReach 72 = .ok (.iconst 1, 1) := by decide +kernel
theorem dX3_mayReach_73 : decode cX3_mayReach 73 = .ok (.ireturn, 1) := by decide +kernel
theorem dX3_lower_0 : decode cX3_lower 0 = .ok (.iconst 0, 1) := by decide +kernel
theorem dX3_lower_1 : decode cX3_lower 1 = .ok (.istore 4, 2) := by decide +kernel
theorem dX3_lower_3 : decode cX3_lower 3 = .ok (.iload 4, 2) := by decide +kernel
theorem dX3_lower_5 : decode cX3_lower 5 = .ok (.iconst 5, 1) := by decide +kernel
theorem dX3_lower_6 : decode cX3_lower 6 = .ok (.if_icmp .ge 28, 3) := by decide +kernel
theorem dX3_lower_9 : decode cX3_lower 9 = .ok (.aload_n 0, 1) := by decide +kernel
theorem dX3_lower_10 : decode cX3_lower 10 = .ok (.getfield 24, 3) := by decide +kernel
theorem dX3_lower_13 : decode cX3_lower 13 = .ok (.iload 4, 2) := by decide +kernel
theorem dX3_lower_15 : decode cX3_lower 15 = .ok (.dup2, 1) := by decide +kernel
theorem dX3_lower_16 : decode cX3_lower 16 = .ok (.iaload, 1) := by decide +kernel
theorem dX3_lower_17 : decode cX3_lower 17 = .ok (.iload_n 3, 1) := by decide +kernel
theorem dX3_lower_18 : decode cX3_lower 18 = .ok (.aload_n 1, 1) := by decide +kernel
theorem dX3_lower_19 : decode cX3_lower 19 = .ok (.iload 4, 2) := by decide +kernel
theorem dX3_lower_21 : decode cX3_lower 21 = .ok (.iload_n 2, 1) := by decide +kernel
theorem dX3_lower_22 : decode cX3_lower 22 = .ok (.invokevirtual 76, 3) := by decide +kernel
theorem dX3_lower_25 : decode cX3_lower 25 = .ok (.imul, 1) := by decide +kernel
theorem dX3_lower_26 : decode cX3_lower 26 = .ok (.isub, 1) := by decide +kernel
theorem dX3_lower_27 : decode cX3_lower 27 = .ok (.iastore, 1) := by decide +kernel
theorem dX3_lower_28 : decode cX3_lower 28 = .ok (.iinc 4 1, 3) := by decide +kernel
theorem dX3_lower_31 : decode cX3_lower 31 = .ok (.goto (-28), 3) := by decide +kernel
theorem dX3_lower_34 : decode cX3_lower 34 = .ok (.return_, 1) := by decide +kernel
theorem dJ7_fill_d0a16_0 : decode cJ7_fill_d0a16 0 = .ok (.iconst 0, 1) := by decide +kernel
theorem dJ7_fill_d0a16_1 : decode cJ7_fill_d0a16 1 = .ok (.istore_n 3, 1) := by decide +kernel
theorem dJ7_fill_d0a16_2 : decode cJ7_fill_d0a16 2 = .ok (.aload_n 0, 1) := by decide +kernel
theorem dJ7_fill_d0a16_3 : decode cJ7_fill_d0a16 3 = .ok (.arraylength, 1) := by decide +kernel
theorem dJ7_fill_d0a16_4 : decode cJ7_fill_d0a16 4 = .ok (.istore 4, 2) := by decide +kernel
theorem dJ7_fill_d0a16_6 : decode cJ7_fill_d0a16 6 = .ok (.iload_n 3, 1) := by decide +kernel
theorem dJ7_fill_d0a16_7 : decode cJ7_fill_d0a16 7 = .ok (.iload 4, 2) := by decide +kernel
theorem dJ7_fill_d0a16_9 : decode cJ7_fill_d0a16 9 = .ok (.if_icmp .ge 13, 3) := by decide +kernel
theorem dJ7_fill_d0a16_12 : decode cJ7_fill_d0a16 12 = .ok (.aload_n 0, 1) := by decide +kernel
theorem dJ7_fill_d0a16_13 : decode cJ7_fill_d0a16 13 = .ok (.iload_n 3, 1) := by decide +kernel
theorem dJ7_fill_d0a16_14 : decode cJ7_fill_d0a16 14 = .ok (.lload_n 1, 1) := by decide +kernel
theorem dJ7_fill_d0a16_15 : decode cJ7_fill_d0a16 15 = .ok (.lastore, 1) := by decide +kernel
theorem dJ7_fill_d0a16_16 : decode cJ7_fill_d0a16 16 = .ok (.iinc 3 1, 3) := by decide +kernel
theorem dJ7_fill_d0a16_19 : decode cJ7_fill_d0a16 19 = .ok (.goto (-13), 3) := by decide +kernel
theorem dJ7_fill_d0a16_22 : decode cJ7_fill_d0a16 22 = .ok (.return_, 1) := by decide +kernel
theorem dJ7_fill_53178_0 : decode cJ7_fill_53178 0 = .ok (.iconst 0, 1) := by decide +kernel
theorem dJ7_fill_53178_1 : decode cJ7_fill_53178 1 = .ok (.istore_n 2, 1) := by decide +kernel
theorem dJ7_fill_53178_2 : decode cJ7_fill_53178 2 = .ok (.aload_n 0, 1) := by decide +kernel
theorem dJ7_fill_53178_3 : decode cJ7_fill_53178 3 = .ok (.arraylength, 1) := by decide +kernel
theorem dJ7_fill_53178_4 : decode cJ7_fill_53178 4 = .ok (.istore_n 3, 1) := by decide +kernel
theorem dJ7_fill_53178_5 : decode cJ7_fill_53178 5 = .ok (.iload_n 2, 1) := by decide +kernel
theorem dJ7_fill_53178_6 : decode cJ7_fill_53178 6 = .ok (.iload_n 3, 1) := by decide +kernel
theorem dJ7_fill_53178_7 : decode cJ7_fill_53178 7 = .ok (.if_icmp .ge 13, 3) := by decide +kernel
theorem dJ7_fill_53178_10 : decode cJ7_fill_53178 10 = .ok (.aload_n 0, 1) := by decide +kernel
theorem dJ7_fill_53178_11 : decode cJ7_fill_53178 11 = .ok (.iload_n 2, 1) := by decide +kernel
theorem dJ7_fill_53178_12 : decode cJ7_fill_53178 12 = .ok (.iload_n 1, 1) := by decide +kernel
theorem dJ7_fill_53178_13 : decode cJ7_fill_53178 13 = .ok (.iastore, 1) := by decide +kernel
theorem dJ7_fill_53178_14 : decode cJ7_fill_53178 14 = .ok (.iinc 2 1, 3) := by decide +kernel
theorem dJ7_fill_53178_17 : decode cJ7_fill_53178 17 = .ok (.goto (-12), 3) := by decide +kernel
theorem dJ7_fill_53178_20 : decode cJ7_fill_53178 20 = .ok (.return_, 1) := by decide +kernel
