theorem dX4_init_0 : decode cX4_init 0 = .ok (.aload_n 0, 1) := by decide +kernel
theorem dX4_init_1 : decode cX4_init 1 = .ok (.invokespecial 1, 3) := by decide +kernel
theorem dX4_init_4 : decode cX4_init 4 = .ok (.aload_n 0, 1) := by decide +kernel
theorem dX4_init_5 : decode cX4_init 5 = .ok (.iconst 4, 1) := by decide +kernel
theorem dX4_init_6 : decode cX4_init 6 = .ok (.anewarray 9, 3) := by decide +kernel
theorem dX4_init_9 : decode cX4_init 9 = .ok (.putfield 11, 3) := by decide +kernel
theorem dX4_init_12 : decode cX4_init 12 = .ok (.aload_n 0, 1) := by decide +kernel
theorem dX4_init_13 : decode cX4_init 13 = .ok (.bipush 24, 2) := by decide +kernel
theorem dX4_init_15 : decode cX4_init 15 = .ok (.anewarray 15, 3) := by decide +kernel
theorem dX4_init_18 : decode cX4_init 18 = .ok (.putfield 17, 3) := by decide +kernel
theorem dX4_init_21 : decode cX4_init 21 = .ok (.aload_n 0, 1) := by decide +kernel
theorem dX4_init_22 : decode cX4_init 22 = .ok (.new 21, 3) := by decide +kernel
theorem dX4_init_25 : decode cX4_init 25 = .ok (.dup, 1) := by decide +kernel
theorem dX4_init_26 : decode cX4_init 26 = .ok (.invokespecial 23, 3) := by decide +kernel
theorem dX4_init_29 : decode cX4_init 29 = .ok (.putfield 24, 3) := by decide +kernel
theorem dX4_init_32 : decode cX4_init 32 = .ok (.aload_n 0, 1) := by decide +kernel
theorem dX4_init_33 : decode cX4_init 33 = .ok (.new 28, 3) := by decide +kernel
theorem dX4_init_36 : decode cX4_init 36 = .ok (.dup, 1) := by decide +kernel
theorem dX4_init_37 : decode cX4_init 37 = .ok (.invokespecial 30, 3) := by decide +kernel
theorem dX4_init_40 : decode cX4_init 40 = .ok (.putfield 31, 3) := by decide +kernel
theorem dX4_init_43 : decode cX4_init 43 = .ok (.aload_n 0, 1) := by decide +kernel
theorem dX4_init_44 : decode cX4_init 44 = .ok (.iconst 5, 1) := by decide +kernel
theorem dX4_init_45 : decode cX4_init 45 = .ok (.newarray .int, 2) := by decide +kernel
theorem dX4_init_47 : decode cX4_init 47 = .ok (.putfield 35, 3) := by decide +kernel
theorem dX4_init_50 : decode cX4_init 50 = .ok (.return_, 1) := by decide +kernel
theorem dX4_profile_0 : decode cX4_profile 0 = .ok (.aload_n 0, 1) := by decide +kernel
theorem dX4_profile_1 : decode cX4_profile 1 = .ok (.getfield 39, 3) := by decide +kernel
theorem dX4_profile_4 : decode cX4_profile 4 = .ok (.iconst 4, 1) := by decide +kernel
theorem dX4_profile_5 : decode cX4_profile 5 = .ok (.if_icmp .ge 14, 3) := by decide +kernel
theorem dX4_profile_8 : decode cX4_profile 8 = .ok (.iload_n 1, 1) := by decide +kernel
theorem dX4_profile_9 : decode cX4_profile 9 = .ok (.iconst 0, 1) := by decide +kernel
theorem dX4_profile_10 : decode cX4_profile 10 = .ok (.sipush 5000, 3) := by decide +kernel
theorem dX4_profile_13 : decode cX4_profile 13 = .ok (.invokestatic 43, 3) := by decide +kernel
theorem dX4_profile_16 : decode cX4_profile 16 = .ok (.ifCond .ne 5, 3) := by decide +kernel
theorem dX4_profile_19 : decode cX4_profile 19 = .ok (.iconst (-1), 1) := by decide +kernel
theorem dX4_profile_20 : decode cX4_profile 20 = .ok (.ireturn, 1) := by decide +kernel
theorem dX4_profile_21 : decode cX4_profile 21 = .ok (.aload_n 0, 1) := by decide +kernel
theorem dX4_profile_22 : decode cX4_profile 22 = .ok (.getfield 11, 3) := by decide +kernel
theorem dX4_profile_25 : decode cX4_profile 25 = .ok (.aload_n 0, 1) := by decide +kernel
theorem dX4_profile_26 : decode cX4_profile 26 = .ok (.getfield 39, 3) := by decide +kernel
theorem dX4_profile_29 : decode cX4_profile 29 = .ok (.new 9, 3) := by decide +kernel
theorem dX4_profile_32 : decode cX4_profile 32 = .ok (.dup, 1) := by decide +kernel
theorem dX4_profile_33 : decode cX4_profile 33 = .ok (.iload_n 1, 1) := by decide +kernel
theorem dX4_profile_34 : decode cX4_profile 34 = .ok (.invokespecial 47, 3) := by decide +kernel
theorem dX4_profile_37 : decode cX4_profile 37 = .ok (.aastore, 1) := by decide +kernel
theorem dX4_profile_38 : decode cX4_profile 38 = .ok (.aload_n 0, 1) := by decide +kernel
theorem dX4_profile_39 : decode cX4_profile 39 = .ok (.dup, 1) := by decide +kernel
theorem dX4_profile_40 : decode cX4_profile 40 = .ok (.getfield 39, 3) := by decide +kernel
theorem dX4_profile_43 : decode cX4_profile 43 = .ok (.iconst 1, 1) := by decide +kernel
theorem dX4_profile_44 : decode cX4_profile 44 = .ok (.iadd, 1) := by decide +kernel
theorem dX4_profile_45 : decode cX4_profile 45 = .ok (.putfield 39, 3) := by decide +kernel
theorem dX4_profile_48 : decode cX4_profile 48 = .ok (.aload_n 0, 1) := by decide +kernel
theorem dX4_profile_49 : decode cX4_profile 49 = .ok (.getfield 39, 3) := by decide +kernel
theorem dX4_profile_52 : decode cX4_profile 52 = .ok (.iconst 1, 1) := by decide +kernel
theorem dX4_profile_53 : decode cX4_profile 53 = .ok (.isub, 1) := by decide +kernel
theorem dX4_profile_54 : decode cX4_profile 54 = .ok (.ireturn, 1) := by decide +kernel
theorem dX4_shape_0 : decode cX4_shape 0 = .ok (.aload_n 0, 1) := by decide +kernel
theorem dX4_shape_1 : decode cX4_shape 1 = .ok (.iload_n 1, 1) := by decide +kernel
theorem dX4_shape_2 : decode cX4_shape 2 = .ok (.invokevirtual 50, 3) := by decide +kernel
theorem dX4_shape_5 : decode cX4_shape 5 = .ok (.astore 5, 2) := by decide +kernel
theorem dX4_shape_7 : decode cX4_shape 7 = .ok (.aload 5, 2) := by decide +kernel
theorem dX4_shape_9 : decode cX4_shape 9 = .ok (.ifnull 10, 3) := by decide +kernel
theorem dX4_shape_12 : decode cX4_shape 12 = .ok (.iload_n 3, 1) := by decide +kernel
theorem dX4_shape_13 : decode cX4_shape 13 = .ok (.invokestatic 54, 3) := by decide +kernel
theorem dX4_shape_16 : decode cX4_shape 16 = .ok (.ifCond .ne 5, 3) := by decide +kernel
theorem dX4_shape_19 : decode cX4_shape 19 = .ok (.iconst 0, 1) := by decide +kernel
theorem dX4_shape_20 : decode cX4_shape 20 = .ok (.ireturn, 1) := by decide +kernel
theorem dX4_shape_21 : decode cX4_shape 21 = .ok (.iload_n 2, 1) := by decide +kernel
theorem dX4_shape_22 : decode cX4_shape 22 = .ok (.invokestatic 58, 3) := by decide +kernel
theorem dX4_shape_25 : decode cX4_shape 25 = .ok (.ifCond .eq 13, 3) := by decide +kernel
theorem dX4_shape_28 : decode cX4_shape 28 = .ok (.aload 5, 2) := by decide +kernel
theorem dX4_shape_30 : decode cX4_shape 30 = .ok (.iload_n 2, 1) := by decide +kernel
theorem dX4_shape_31 : decode cX4_shape 31 = .ok (.iload_n 3, 1) := by decide +kernel
theorem dX4_shape_32 : decode cX4_shape 32 = .ok (.iload 4, 2) := by decide +kernel
theorem dX4_shape_34 : decode cX4_shape 34 = .ok (.invokevirtual 61, 3) := by decide +kernel
theorem dX4_shape_37 : decode cX4_shape 37 = .ok (.ireturn, 1) := by decide +kernel
theorem dX4_shape_38 : decode cX4_shape 38 = .ok (.iload_n 2, 1) := by decide +kernel
theorem dX4_shape_39 : decode cX4_shape 39 = .ok (.tableswitch 52 5 7 #[25, 34, 43], 25) := by decide +kernel
theorem dX4_shape_64 : decode cX4_shape 64 = .ok (.aload 5, 2) := by decide +kernel
theorem dX4_shape_66 : decode cX4_shape 66 = .ok (.iload_n 3, 1) := by decide +kernel
theorem dX4_shape_67 : decode cX4_shape 67 = .ok (.iload 4, 2) := by decide +kernel
theorem dX4_shape_69 : decode cX4_shape 69 = .ok (.invokevirtual 64, 3) := by decide +kernel
theorem dX4_shape_72 : decode cX4_shape 72 = .ok (.ireturn, 1) := by decide +kernel
theorem dX4_shape_73 : decode cX4_shape 73 = .ok (.aload 5, 2) := by decide +kernel
theorem dX4_shape_75 : decode cX4_shape 75 = .ok (.iload_n 3, 1) := by decide +kernel
theorem dX4_shape_76 : decode cX4_shape 76 = .ok (.iload 4, 2) := by decide +kernel
theorem dX4_shape_78 : decode cX4_shape 78 = .ok (.invokevirtual 68, 3) := by decide +kernel
theorem dX4_shape_81 : decode cX4_shape 81 = .ok (.ireturn, 1) := by decide +kernel
theorem dX4_shape_82 : decode cX4_shape 82 = .ok (.aload 5, 2) := by decide +kernel
theorem dX4_shape_84 : decode cX4_shape 84 = .ok (.iload_n 3, 1) := by decide +kernel
theorem dX4_shape_85 : decode cX4_shape 85 = .ok (.iload 4, 2) := by decide +kernel
theorem dX4_shape_87 : decode cX4_shape 87 = .ok (.invokevirtual 71, 3) := by decide +kernel
theorem dX4_shape_90 : decode cX4_shape 90 = .ok (.ireturn, 1) := by decide +kernel
theorem dX4_shape_91 : decode cX4_shape 91 = .ok (.iconst 0, 1) := by decide +kernel
theorem dX4_shape_92 : decode cX4_shape 92 = .ok (.ireturn, 1) := by decide +kernel
theorem dX4_base_0 : decode cX4_base 0 = .ok (.aload_n 0, 1) := by decide +kernel
theorem dX4_base_1 : decode cX4_base 1 = .ok (.iload_n 1, 1) := by decide +kernel
theorem dX4_base_2 : decode cX4_base 2 = .ok (.invokevirtual 50, 3) := by decide +kernel
theorem dX4_base_5 : decode cX4_base 5 = .ok (.astore 4, 2) := by decide +kernel
theorem dX4_base_7 : decode cX4_base 7 = .ok (.aload 4, 2) := by decide +kernel
theorem dX4_base_9 : decode cX4_base 9 = .ok (.ifnull 23, 3) := by decide +kernel
theorem dX4_base_12 : decode cX4_base 12 = .ok (.iload_n 2, 1) := by decide +kernel
theorem dX4_base_13 : decode cX4_base 13 = .ok (.invokestatic 58, 3) := by decide +kernel
theorem dX4_base_16 : decode cX4_base 16 = .ok (.ifCond .eq 16, 3) := by decide +kernel
theorem dX4_base_19 : decode cX4_base 19 = .ok (.iload_n 3, 1) := by decide +kernel
theorem dX4_base_20 : decode cX4_base 20 = .ok (.sipush (-20000), 3) := by decide +kernel
theorem dX4_base_23 : decode cX4_base 23 = .ok (.sipush 20000, 3) := by decide +kernel
theorem dX4_base_26 : decode cX4_base 26 = .ok (.invokestatic 43, 3) := by decide +kernel
theorem dX4_base_29 : decode cX4_base 29 = .ok (.ifCond .ne 5, 3) := by decide +kernel
theorem dX4_base_32 : decode cX4_base 32 = .ok (.iconst 0, 1) := by decide +kernel
theorem dX4_base_33 : decode cX4_base 33 = .ok (.ireturn, 1) := by decide +kernel
theorem dX4_base_34 : decode cX4_base 34 = .ok (.aload 4, 2) := by decide +kernel
theorem dX4_base_36 : decode cX4_base 36 = .ok (.getfield 74, 3) := by decide +kernel
theorem dX4_base_39 : decode cX4_base 39 = .ok (.iload_n 2, 1) := by decide +kernel
theorem dX4_base_40 : decode cX4_base 40 = .ok (.iload_n 3, 1) := by decide +kernel
theorem dX4_base_41 : decode cX4_base 41 = .ok (.iastore, 1) := by decide +kernel
theorem dX4_base_42 : decode cX4_base 42 = .ok (.iconst 1, 1) := by decide +kernel
theorem dX4_base_43 : decode cX4_base 43 = .ok (.ireturn, 1) := by decide +kernel
theorem dX4_buy_0 : decode cX4_buy 0 = .ok (.iload_n 1, 1) := by decide +kernel
theorem dX4_buy_1 : decode cX4_buy 1 = .ok (.iconst 0, 1) := by decide +kernel
theorem dX4_buy_2 : decode cX4_buy 2 = .ok (.ldc 77, 2) := by decide +kernel
theorem dX4_buy_4 : decode cX4_buy 4 = .ok (.invokestatic 43, 3) := by decide +kernel
theorem dX4_buy_7 : decode cX4_buy 7 = .ok (.ifCond .eq 13, 3) := by decide +kernel
theorem dX4_buy_10 : decode cX4_buy 10 = .ok (.iload_n 2, 1) := by decide +kernel
theorem dX4_buy_11 : decode cX4_buy 11 = .ok (.iconst 0, 1) := by decide +kernel
theorem dX4_buy_12 : decode cX4_buy 12 = .ok (.ldc 77, 2) := by decide +kernel
theorem dX4_buy_14 : decode cX4_buy 14 = .ok (.invokestatic 43, 3) := by decide +kernel
theorem dX4_buy_17 : decode cX4_buy 17 = .ok (.ifCond .ne 5, 3) := by decide +kernel
theorem dX4_buy_20 : decode cX4_buy 20 = .ok (.iconst 0, 1) := by decide +kernel
theorem dX4_buy_21 : decode cX4_buy 21 = .ok (.ireturn, 1) := by decide +kernel
theorem dX4_buy_22 : decode cX4_buy 22 = .ok (.aload_n 0, 1) := by decide +kernel
theorem dX4_buy_23 : decode cX4_buy 23 = .ok (.getfield 78, 3) := by decide +kernel
theorem dX4_buy_26 : decode cX4_buy 26 = .ok (.iload_n 1, 1) := by decide +kernel
theorem dX4_buy_27 : decode cX4_buy 27 = .ok (.iadd, 1) := by decide +kernel
theorem dX4_buy_28 : decode cX4_buy 28 = .ok (.ldc 81, 2) := by decide +kernel
theorem dX4_buy_30 : decode cX4_buy 30 = .ok (.if_icmp .gt 14, 3) := by decide +kernel
theorem dX4_buy_33 : decode cX4_buy 33 = .ok (.aload_n 0, 1) := by decide +kernel
theorem dX4_buy_34 : decode cX4_buy 34 = .ok (.getfield 82, 3) := by decide +kernel
theorem dX4_buy_37 : decode cX4_buy 37 = .ok (.iload_n 2, 1) := by decide +kernel
theorem dX4_buy_38 : decode cX4_buy 38 = .ok (.iadd, 1) := by decide +kernel
theorem dX4_buy_39 : decode cX4_buy 39 = .ok (.ldc 81, 2) := by decide +kernel
theorem dX4_buy_41 : decode cX4_buy 41 = .ok (.if_icmp .le 5, 3) := by decide +kernel
theorem dX4_buy_44 : decode cX4_buy 44 = .ok (.iconst 0, 1) := by decide +kernel
theorem dX4_buy_45 : decode cX4_buy 45 = .ok (.ireturn, 1) := by decide +kernel
theorem dX4_buy_46 : decode cX4_buy 46 = .ok (.aload_n 0, 1) := by decide +kernel
theorem dX4_buy_47 : decode cX4_buy 47 = .ok (.dup, 1) := by decide +kernel
theorem dX4_buy_48 : decode cX4_buy 48 = .ok (.getfield 78, 3) := by decide +kernel
theorem dX4_buy_51 : decode cX4_buy 51 = .ok (.iload_n 1, 1) := by decide +kernel
theorem dX4_buy_52 : decode cX4_buy 52 = .ok (.iadd, 1) := by decide +kernel
theorem dX4_buy_53 : decode cX4_buy 53 = .ok (.putfield 78, 3) := by decide +kernel
theorem dX4_buy_56 : decode cX4_buy 56 = .ok (.aload_n 0, 1) := by decide +kernel
theorem dX4_buy_57 : decode cX4_buy 57 = .ok (.dup, 1) := by decide +kernel
theorem dX4_buy_58 : decode cX4_buy 58 = .ok (.getfield 82, 3) := by decide +kernel
theorem dX4_buy_61 : decode cX4_buy 61 = .ok (.iload_n 2, 1) := by decide +kernel
theorem dX4_buy_62 : decode cX4_buy 62 = .ok (.iadd, 1) := by decide +kernel
theorem dX4_buy_63 : decode cX4_buy 63 = .ok (.putfield 82, 3) := by decide +kernel
theorem dX4_buy_66 : decode cX4_buy 66 = .ok (.iconst 1, 1) := by decide +kernel
theorem dX4_buy_67 : decode cX4_buy 67 = .ok (.ireturn, 1) := by decide +kernel
theorem dX4_cast_0 : decode cX4_cast 0 = .ok (.aload_n 0, 1) := by decide +kernel
theorem dX4_cast_1 : decode cX4_cast 1 = .ok (.iload_n 1, 1) := by decide +kernel
theorem dX4_cast_2 : decode cX4_cast 2 = .ok (.invokevirtual 50, 3) := by decide +kernel
theorem dX4_cast_5 : decode cX4_cast 5 = .ok (.astore_n 2, 1) := by decide +kernel
theorem dX4_cast_6 : decode cX4_cast 6 = .ok (.aload_n 2, 1) := by decide +kernel
theorem dX4_cast_7 : decode cX4_cast 7 = .ok (.ifnull 23, 3) := by decide +kernel
theorem dX4_cast_10 : decode cX4_cast 10 = .ok (.aload_n 0, 1) := by decide +kernel
theorem dX4_cast_11 : decode cX4_cast 11 = .ok (.getfield 85, 3) := by decide +kernel
theorem dX4_cast_14 : decode cX4_cast 14 = .ok (.bipush 24, 2) := by decide +kernel
theorem dX4_cast_16 : decode cX4_cast 16 = .ok (.if_icmp .ge 14, 3) := by decide +kernel
theorem dX4_cast_19 : decode cX4_cast 19 = .ok (.aload_n 0, 1) := by decide +kernel
theorem dX4_cast_20 : decode cX4_cast 20 = .ok (.aload_n 2, 1) := by decide +kernel
theorem dX4_cast_21 : decode cX4_cast 21 = .ok (.invokevirtual 88, 3) := by decide +kernel
theorem dX4_cast_24 : decode cX4_cast 24 = .ok (.invokevirtual 92, 3) := by decide +kernel
theorem dX4_cast_27 : decode cX4_cast 27 = .ok (.ifCond .ne 5, 3) := by decide +kernel
theorem dX4_cast_30 : decode cX4_cast 30 = .ok (.iconst (-1), 1) := by decide +kernel
theorem dX4_cast_31 : decode cX4_cast 31 = .ok (.ireturn, 1) := by decide +kernel
theorem dX4_cast_32 : decode cX4_cast 32 = .ok (.aload_n 0, 1) := by decide +kernel
theorem dX4_cast_33 : decode cX4_cast 33 = .ok (.getfield 17, 3) := by decide +kernel
theorem dX4_cast_36 : decode cX4_cast 36 = .ok (.aload_n 0, 1) := by decide +kernel
theorem dX4_cast_37 : decode cX4_cast 37 = .ok (.getfield 85, 3) := by decide +kernel
theorem dX4_cast_40 : decode cX4_cast 40 = .ok (.new 15, 3) := by decide +kernel
theorem dX4_cast_43 : decode cX4_cast 43 = .ok (.dup, 1) := by decide +kernel
theorem dX4_cast_44 : decode cX4_cast 44 = .ok (.iload_n 1, 1) := by decide +kernel
theorem dX4_cast_45 : decode cX4_cast 45 = .ok (.aload_n 2, 1) := by decide +kernel
theorem dX4_cast_46 : decode cX4_cast 46 = .ok (.invokespecial 95, 3) := by decide +kernel
theorem dX4_cast_49 : decode cX4_cast 49 = .ok (.aastore, 1) := by decide +kernel
theorem dX4_cast_50 : decode cX4_cast 50 = .ok (.aload_n 0, 1) := by decide +kernel
theorem dX4_cast_51 : decode cX4_cast 51 = .ok (.dup, 1) := by decide +kernel
theorem dX4_cast_52 : decode cX4_cast 52 = .ok (.getfield 85, 3) := by decide +kernel
theorem dX4_cast_55 : decode cX4_cast 55 = .ok (.iconst 1, 1) := by decide +kernel
theorem dX4_cast_56 : decode cX4_cast 56 = .ok (.iadd, 1) := by decide +kernel
theorem dX4_cast_57 : decode cX4_cast 57 = .ok (.putfield 85, 3) := by decide +kernel
theorem dX4_cast_60 : decode cX4_cast 60 = .ok (.aload_n 0, 1) := by decide +kernel
theorem dX4_cast_61 : decode cX4_cast 61 = .ok (.getfield 31, 3) := by decide +kernel
theorem dX4_cast_64 : decode cX4_cast 64 = .ok (.invokevirtual 98, 3) := by decide +kernel
theorem dX4_cast_67 : decode cX4_cast 67 = .ok (.aload_n 0, 1) := by decide +kernel
theorem dX4_cast_68 : decode cX4_cast 68 = .ok (.getfield 85, 3) := by decide +kernel
theorem dX4_cast_71 : decode cX4_cast 71 = .ok (.iconst 1, 1) := by decide +kernel
theorem dX4_cast_72 : decode cX4_cast 72 = .ok (.isub, 1) := by decide +kernel
theorem dX4_cast_73 : decode cX4_cast 73 = .ok (.ireturn, 1) := by decide +kernel
theorem dX4_cut_0 : decode cX4_cut 0 = .ok (.aload_n 0, 1) := by decide +kernel
theorem dX4_cut_1 : decode cX4_cut 1 = .ok (.iload_n 1, 1) := by decide +kernel
theorem dX4_cut_2 : decode cX4_cut 2 = .ok (.invokevirtual 101, 3) := by decide +kernel
theorem dX4_cut_5 : decode cX4_cut 5 = .ok (.astore_n 3, 1) := by decide +kernel
theorem dX4_cut_6 : decode cX4_cut 6 = .ok (.aload_n 3, 1) := by decide +kernel
theorem dX4_cut_7 : decode cX4_cut 7 = .ok (.ifnull 26, 3) := by decide +kernel
theorem dX4_cut_10 : decode cX4_cut 10 = .ok (.iload_n 2, 1) := by decide +kernel
theorem dX4_cut_11 : decode cX4_cut 11 = .ok (.invokestatic 54, 3) := by decide +kernel
theorem dX4_cut_14 : decode cX4_cut 14 = .ok (.ifCond .eq 19, 3) := by decide +kernel
theorem dX4_cut_17 : decode cX4_cut 17 = .ok (.aload_n 3, 1) := by decide +kernel
theorem dX4_cut_18 : decode cX4_cut 18 = .ok (.invokevirtual 105, 3) := by decide +kernel
theorem dX4_cut_21 : decode cX4_cut 21 = .ok (.ifCond .eq 12, 3) := by decide +kernel
theorem dX4_cut_24 : decode cX4_cut 24 = .ok (.aload_n 3, 1) := by decide +kernel
theorem dX4_cut_25 : decode cX4_cut 25 = .ok (.iload_n 2, 1) := by decide +kernel
theorem dX4_cut_26 : decode cX4_cut 26 = .ok (.invokevirtual 109, 3) := by decide +kernel
theorem dX4_cut_29 : decode cX4_cut 29 = .ok (.iconst 1, 1) := by decide +kernel
theorem dX4_cut_30 : decode cX4_cut 30 = .ok (.if_icmp .ge 5, 3) := by decide +kernel
theorem dX4_cut_33 : decode cX4_cut 33 = .ok (.iconst (-1), 1) := by decide +kernel
theorem dX4_cut_34 : decode cX4_cut 34 = .ok (.ireturn, 1) := by decide +kernel
theorem dX4_cut_35 : decode cX4_cut 35 = .ok (.aload_n 0, 1) := by decide +kernel
theorem dX4_cut_36 : decode cX4_cut 36 = .ok (.aload_n 3, 1) := by decide +kernel
theorem dX4_cut_37 : decode cX4_cut 37 = .ok (.iload_n 2, 1) := by decide +kernel
theorem dX4_cut_38 : decode cX4_cut 38 = .ok (.iconst 1, 1) := by decide +kernel
theorem dX4_cut_39 : decode cX4_cut 39 = .ok (.invokevirtual 113, 3) := by decide +kernel
theorem dX4_cut_42 : decode cX4_cut 42 = .ok (.aload_n 3, 1) := by decide +kernel
theorem dX4_cut_43 : decode cX4_cut 43 = .ok (.getfield 117, 3) := by decide +kernel
theorem dX4_cut_46 : decode cX4_cut 46 = .ok (.iload_n 2, 1) := by decide +kernel
theorem dX4_cut_47 : decode cX4_cut 47 = .ok (.iaload, 1) := by decide +kernel
theorem dX4_cut_48 : decode cX4_cut 48 = .ok (.ireturn, 1) := by decide +kernel
theorem dX4_old_0 : decode cX4_old 0 = .ok (.aload_n 0, 1) := by decide +kernel
theorem dX4_old_1 : decode cX4_old 1 = .ok (.iload_n 1, 1) := by decide +kernel
theorem dX4_old_2 : decode cX4_old 2 = .ok (.invokevirtual 101, 3) := by decide +kernel
theorem dX4_old_5 : decode cX4_old 5 = .ok (.astore_n 2, 1) := by decide +kernel
theorem dX4_old_6 : decode cX4_old 6 = .ok (.aload_n 2, 1) := by decide +kernel
theorem dX4_old_7 : decode cX4_old 7 = .ok (.ifnonnull 5, 3) := by decide +kernel
theorem dX4_old_10 : decode cX4_old 10 = .ok (.iconst 0, 1) := by decide +kernel
theorem dX4_old_11 : decode cX4_old 11 = .ok (.ireturn, 1) := by decide +kernel
theorem dX4_old_12 : decode cX4_old 12 = .ok (.aload_n 2, 1) := by decide +kernel
theorem dX4_old_13 : decode cX4_old 13 = .ok (.iconst 1, 1) := by decide +kernel
theorem dX4_old_14 : decode cX4_old 14 = .ok (.putfield 120, 3) := by decide +kernel
theorem dX4_old_17 : decode cX4_old 17 = .ok (.iconst 1, 1) := by decide +kernel
theorem dX4_old_18 : decode cX4_old 18 = .ok (.ireturn, 1) := by decide +kernel
theorem dX4_crack_0 : decode cX4_crack 0 = .ok (.aload_n 0, 1) := by decide +kernel
theorem dX4_crack_1 : decode cX4_crack 1 = .ok (.iload_n 1, 1) := by decide +kernel
theorem dX4_crack_2 : decode cX4_crack 2 = .ok (.invokevirtual 101, 3) := by decide +kernel
theorem dX4_crack_5 : decode cX4_crack 5 = .ok (.astore_n 2, 1) := by decide +kernel
theorem dX4_crack_6 : decode cX4_crack 6 = .ok (.aload_n 2, 1) := by decide +kernel
theorem dX4_crack_7 : decode cX4_crack 7 = .ok (.ifnull 10, 3) := by decide +kernel
theorem dX4_crack_10 : decode cX4_crack 10 = .ok (.aload_n 2, 1) := by decide +kernel
theorem dX4_crack_11 : decode cX4_crack 11 = .ok (.getfield 124, 3) := by decide +kernel
theorem dX4_crack_14 : decode cX4_crack 14 = .ok (.ifCond .eq 5, 3) := by decide +kernel
theorem dX4_crack_17 : decode cX4_crack 17 = .ok (.iconst 0, 1) := by decide +kernel
theorem dX4_crack_18 : decode cX4_crack 18 = .ok (.ireturn, 1) := by decide +kernel
theorem dX4_crack_19 : decode cX4_crack 19 = .ok (.aload_n 2, 1) := by decide +kernel
theorem dX4_crack_20 : decode cX4_crack 20 = .ok (.iconst 1, 1) := by decide +kernel
theorem dX4_crack_21 : decode cX4_crack 21 = .ok (.putfield 124, 3) := by decide +kernel
theorem dX4_crack_24 : decode cX4_crack 24 = .ok (.aload_n 2, 1) := by decide +kernel
theorem dX4_crack_25 : decode cX4_crack 25 = .ok (.iconst (-1), 1) := by decide +kernel
theorem dX4_crack_26 : decode cX4_crack 26 = .ok (.putfield 127, 3) := by decide +kernel
theorem dX4_crack_29 : decode cX4_crack 29 = .ok (.aload_n 0, 1) := by decide +kernel
theorem dX4_crack_30 : decode cX4_crack 30 = .ok (.dup, 1) := by decide +kernel
theorem dX4_crack_31 : decode cX4_crack 31 = .ok (.getfield 130, 3) := by decide +kernel
theorem dX4_crack_34 : decode cX4_crack 34 = .ok (.aload_n 2, 1) := by decide +kernel
theorem dX4_crack_35 : decode cX4_crack 35 = .ok (.invokevirtual 133, 3) := by decide +kernel
theorem dX4_crack_38 : decode cX4_crack 38 = .ok (.iadd, 1) := by decide +kernel
theorem dX4_crack_39 : decode cX4_crack 39 = .ok (.putfield 130, 3) := by decide +kernel
theorem dX4_crack_42 : decode cX4_crack 42 = .ok (.aload_n 0, 1) := by decide +kernel
theorem dX4_crack_43 : decode cX4_crack 43 = .ok (.getfield 31, 3) := by decide +kernel
theorem dX4_crack_46 : decode cX4_crack 46 = .ok (.invokevirtual 98, 3) := by decide +kernel
theorem dX4_crack_49 : decode cX4_crack 49 = .ok (.iconst 1, 1) := by decide +kernel
theorem dX4_crack_50 : decode cX4_crack 50 = .ok (.ireturn, 1) := by decide +kernel
theorem dX4_bellOf_0 : decode cX4_bellOf 0 = .ok (.aload_n 0, 1) := by decide +kernel
theorem dX4_bellOf_1 : decode cX4_bellOf 1 = .ok (.iload_n 1, 1) := by decide +kernel
theorem dX4_bellOf_2 : decode cX4_bellOf 2 = .ok (.invokevirtual 101, 3) := by decide +kernel
theorem dX4_bellOf_5 : decode cX4_bellOf 5 = .ok (.astore_n 3, 1) := by decide +kernel
theorem dX4_bellOf_6 : decode cX4_bellOf 6 = .ok (.aload_n 3, 1) := by decide +kernel
theorem dX4_bellOf_7 : decode cX4_bellOf 7 = .ok (.ifnonnull 6, 3) := by decide +kernel
theorem dX4_bellOf_10 : decode cX4_bellOf 10 = .ok (.ldc 136, 2) := by decide +kernel
theorem dX4_bellOf_12 : decode cX4_bellOf 12 = .ok (.ireturn, 1) := by decide +kernel
theorem dX4_bellOf_13 : decode cX4_bellOf 13 = .ok (.iload_n 2, 1) := by decide +kernel
theorem dX4_bellOf_14 : decode cX4_bellOf 14 = .ok (.invokestatic 58, 3) := by decide +kernel
theorem dX4_bellOf_17 : decode cX4_bellOf 17 = .ok (.ifCond .eq 9, 3) := by decide +kernel
theorem dX4_bellOf_20 : decode cX4_bellOf 20 = .ok (.aload_n 3, 1) := by decide +kernel
theorem dX4_bellOf_21 : decode cX4_bellOf 21 = .ok (.iload_n 2, 1) := by decide +kernel
theorem dX4_bellOf_22 : decode cX4_bellOf 22 = .ok (.invokevirtual 137, 3) := by decide +kernel
theorem dX4_bellOf_25 : decode cX4_bellOf 25 = .ok (.ireturn, 1) := by decide +kernel
theorem dX4_bellOf_26 : decode cX4_bellOf 26 = .ok (.iload_n 2, 1) := by decide +kernel
theorem dX4_bellOf_27 : decode cX4_bellOf 27 = .ok (.bipush 10, 2) := by decide +kernel
theorem dX4_bellOf_29 : decode cX4_bellOf 29 = .ok (.bipush 17, 2) := by decide +kernel
theorem dX4_bellOf_31 : decode cX4_bellOf 31 = .ok (.invokestatic 43, 3) := by decide +kernel
theorem dX4_bellOf_34 : decode cX4_bellOf 34 = .ok (.ifCond .eq 13, 3) := by decide +kernel
theorem dX4_bellOf_37 : decode cX4_bellOf 37 = .ok (.aload_n 3, 1) := by decide +kernel
theorem dX4_bellOf_38 : decode cX4_bellOf 38 = .ok (.getfield 117, 3) := by decide +kernel
theorem dX4_bellOf_41 : decode cX4_bellOf 41 = .ok (.iload_n 2, 1) := by decide +kernel
theorem dX4_bellOf_42 : decode cX4_bellOf 42 = .ok (.bipush 10, 2) := by decide +kernel
theorem dX4_bellOf_44 : decode cX4_bellOf 44 = .ok (.isub, 1) := by decide +kernel
theorem dX4_bellOf_45 : decode cX4_bellOf 45 = .ok (.iaload, 1) := by decide +kernel
theorem dX4_bellOf_46 : decode cX4_bellOf 46 = .ok (.ireturn, 1) := by decide +kernel
theorem dX4_bellOf_47 : decode cX4_bellOf 47 = .ok (.iload_n 2, 1) := by decide +kernel
theorem dX4_bellOf_48 : decode cX4_bellOf 48 = .ok (.tableswitch 130 5 18 #[72, 77, 90, 103, 108, 130, 130, 130, 130, 130, 130, 130, 130, 125], 72) := by decide +kernel
theorem dX4_bellOf_120 : decode cX4_bellOf 120 = .ok (.aload_n 3, 1) := by decide +kernel
theorem dX4_bellOf_121 : decode cX4_bellOf 121 = .ok (.invokevirtual 133, 3) := by decide +kernel
theorem dX4_bellOf_124 : decode cX4_bellOf 124 = .ok (.ireturn, 1) := by decide +kernel
theorem dX4_bellOf_125 : decode cX4_bellOf 125 = .ok (.aload_n 3, 1) := by decide +kernel
theorem dX4_bellOf_126 : decode cX4_bellOf 126 = .ok (.getfield 120, 3) := by decide +kernel
theorem dX4_bellOf_129 : decode cX4_bellOf 129 = .ok (.ifCond .eq 7, 3) := by decide +kernel
theorem dX4_bellOf_132 : decode cX4_bellOf 132 = .ok (.iconst 1, 1) := by decide +kernel
theorem dX4_bellOf_133 : decode cX4_bellOf 133 = .ok (.goto 4, 3) := by decide +kernel
theorem dX4_bellOf_136 : decode cX4_bellOf 136 = .ok (.iconst 0, 1) := by decide +kernel
theorem dX4_bellOf_137 : decode cX4_bellOf 137 = .ok (.ireturn, 1) := by decide +kernel
theorem dX4_bellOf_138 : decode cX4_bellOf 138 = .ok (.aload_n 3, 1) := by decide +kernel
theorem dX4_bellOf_139 : decode cX4_bellOf 139 = .ok (.getfield 124, 3) := by decide +kernel
theorem dX4_bellOf_142 : decode cX4_bellOf 142 = .ok (.ifCond .eq 7, 3) := by decide +kernel
theorem dX4_bellOf_145 : decode cX4_bellOf 145 = .ok (.iconst 1, 1) := by decide +kernel
theorem dX4_bellOf_146 : decode cX4_bellOf 146 = .ok (.goto 4, 3) := by decide +kernel
theorem dX4_bellOf_149 : decode cX4_bellOf 149 = .ok (.iconst 0, 1) := by decide +kernel
theorem dX4_bellOf_150 : decode cX4_bellOf 150 = .ok (.ireturn, 1) := by decide +kernel
theorem dX4_bellOf_151 : decode cX4_bellOf 151 = .ok (.aload_n 3, 1) := by decide +kernel
theorem dX4_bellOf_152 : decode cX4_bellOf 152 = .ok (.getfield 127, 3) := by decide +kernel
theorem dX4_bellOf_155 : decode cX4_bellOf 155 = .ok (.ireturn, 1) := by decide +kernel
theorem dX4_bellOf_156 : decode cX4_bellOf 156 = .ok (.aload_n 3, 1) := by decide +kernel
theorem dX4_bellOf_157 : decode cX4_bellOf 157 = .ok (.aload_n 3, 1) := by decide +kernel
theorem dX4_bellOf_158 : decode cX4_bellOf 158 = .ok (.getfield 127, 3) := by decide +kernel
theorem dX4_bellOf_161 : decode cX4_bellOf 161 = .ok (.aload_n 0, 1) := by decide +kernel
theorem dX4_bellOf_162 : decode cX4_bellOf 162 = .ok (.aload_n 3, 1) := by decide +kernel
theorem dX4_bellOf_163 : decode cX4_bellOf 163 = .ok (.getfield 127, 3) := by decide +kernel
theorem dX4_bellOf_166 : decode cX4_bellOf 166 = .ok (.invokevirtual 140, 3) := by decide +kernel
theorem dX4_bellOf_169 : decode cX4_bellOf 169 = .ok (.invokestatic 143, 3) := by decide +kernel
theorem dX4_bellOf_172 : decode cX4_bellOf 172 = .ok (.ireturn, 1) := by decide +kernel
theorem dX4_bellOf_173 : decode cX4_bellOf 173 = .ok (.aload_n 3, 1) := by decide +kernel
theorem dX4_bellOf_174 : decode cX4_bellOf 174 = .ok (.getfield 147, 3) := by decide +kernel
theorem dX4_bellOf_177 : decode cX4_bellOf 177 = .ok (.ireturn, 1) := by decide +kernel
theorem dX4_bellOf_178 : decode cX4_bellOf 178 = .ok (.ldc 136, 2) := by decide +kernel
theorem dX4_bellOf_180 : decode cX4_bellOf 180 = .ok (.ireturn, 1) := by decide +kernel
theorem dX4_span_0 : decode cX4_span 0 = .ok (.iload_n 1, 1) := by decide +kernel
theorem dX4_span_1 : decode cX4_span 1 = .ok (.invokestatic 58, 3) := by decide +kernel
theorem dX4_span_4 : decode cX4_span 4 = .ok (.ifCond .eq 22, 3) := by decide +kernel
theorem dX4_span_7 : decode cX4_span 7 = .ok (.iload_n 2, 1) := by decide +kernel
theorem dX4_span_8 : decode cX4_span 8 = .ok (.iload_n 3, 1) := by decide +kernel
theorem dX4_span_9 : decode cX4_span 9 = .ok (.if_icmp .gt 17, 3) := by decide +kernel
theorem dX4_span_12 : decode cX4_span 12 = .ok (.iload_n 2, 1) := by decide +kernel
theorem dX4_span_13 : decode cX4_span 13 = .ok (.sipush (-30000), 3) := by decide +kernel
theorem dX4_span_16 : decode cX4_span 16 = .ok (.if_icmp .lt 10, 3) := by decide +kernel
theorem dX4_span_19 : decode cX4_span 19 = .ok (.iload_n 3, 1) := by decide +kernel
theorem dX4_span_20 : decode cX4_span 20 = .ok (.sipush 30000, 3) := by decide +kernel
theorem dX4_span_23 : decode cX4_span 23 = .ok (.if_icmp .le 5, 3) := by decide +kernel
theorem dX4_span_26 : decode cX4_span 26 = .ok (.iconst 0, 1) := by decide +kernel
theorem dX4_span_27 : decode cX4_span 27 = .ok (.ireturn, 1) := by decide +kernel
theorem dX4_span_28 : decode cX4_span 28 = .ok (.aload_n 0, 1) := by decide +kernel
theorem dX4_span_29 : decode cX4_span 29 = .ok (.getfield 24, 3) := by decide +kernel
theorem dX4_span_32 : decode cX4_span 32 = .ok (.iload_n 1, 1) := by decide +kernel
theorem dX4_span_33 : decode cX4_span 33 = .ok (.iload_n 2, 1) := by decide +kernel
theorem dX4_span_34 : decode cX4_span 34 = .ok (.iload_n 3, 1) := by decide +kernel
theorem dX4_span_35 : decode cX4_span 35 = .ok (.invokevirtual 150, 3) := by decide +kernel
theorem dX4_span_38 : decode cX4_span 38 = .ok (.iconst 1, 1) := by decide +kernel
theorem dX4_span_39 : decode cX4_span 39 = .ok (.ireturn, 1) := by decide +kernel
theorem dX4_tuning_0 : decode cX4_tuning 0 = .ok (.aload_n 0, 1) := by decide +kernel
theorem dX4_tuning_1 : decode cX4_tuning 1 = .ok (.aload_n 0, 1) := by decide +kernel
theorem dX4_tuning_2 : decode cX4_tuning 2 = .ok (.iload_n 1, 1) := by decide +kernel
theorem dX4_tuning_3 : decode cX4_tuning 3 = .ok (.invokevirtual 101, 3) := by decide +kernel
theorem dX4_tuning_6 : decode cX4_tuning 6 = .ok (.invokevirtual 154, 3) := by decide +kernel
theorem dX4_tuning_9 : decode cX4_tuning 9 = .ok (.ireturn, 1) := by decide +kernel
theorem dX4_tune_0 : decode cX4_tune 0 = .ok (.aload_n 0, 1) := by decide +kernel
theorem dX4_tune_1 : decode cX4_tune 1 = .ok (.iload_n 1, 1) := by decide +kernel
theorem dX4_tune_2 : decode cX4_tune 2 = .ok (.invokevirtual 101, 3) := by decide +kernel
theorem dX4_tune_5 : decode cX4_tune 5 = .ok (.astore_n 2, 1) := by decide +kernel
theorem dX4_tune_6 : decode cX4_tune 6 = .ok (.aload_n 0, 1) := by decide +kernel
theorem dX4_tune_7 : decode cX4_tune 7 = .ok (.aload_n 2, 1) := by decide +kernel
theorem dX4_tune_8 : decode cX4_tune 8 = .ok (.invokevirtual 154, 3) := by decide +kernel
theorem dX4_tune_11 : decode cX4_tune 11 = .ok (.istore_n 3, 1) := by decide +kernel
theorem dX4_tune_12 : decode cX4_tune 12 = .ok (.aload_n 2, 1) := by decide +kernel
theorem dX4_tune_13 : decode cX4_tune 13 = .ok (.ifnull 8, 3) := by decide +kernel
theorem dX4_tune_16 : decode cX4_tune 16 = .ok (.iload_n 3, 1) := by decide +kernel
theorem dX4_tune_17 : decode cX4_tune 17 = .ok (.iconst 1, 1) := by decide +kernel
theorem dX4_tune_18 : decode cX4_tune 18 = .ok (.if_icmp .ge 5, 3) := by decide +kernel
theorem dX4_tune_21 : decode cX4_tune 21 = .ok (.iload_n 3, 1) := by decide +kernel
theorem dX4_tune_22 : decode cX4_tune 22 = .ok (.ireturn, 1) := by decide +kernel
theorem dX4_tune_23 : decode cX4_tune 23 = .ok (.iconst 0, 1) := by decide +kernel
theorem dX4_tune_24 : decode cX4_tune 24 = .ok (.istore 4, 2) := by decide +kernel
theorem dX4_tune_26 : decode cX4_tune 26 = .ok (.iload 4, 2) := by decide +kernel
theorem dX4_tune_28 : decode cX4_tune 28 = .ok (.bipush 8, 2) := by decide +kernel
theorem dX4_tune_30 : decode cX4_tune 30 = .ok (.if_icmp .ge 23, 3) := by decide +kernel
theorem dX4_tune_33 : decode cX4_tune 33 = .ok (.aload_n 0, 1) := by decide +kernel
theorem dX4_tune_34 : decode cX4_tune 34 = .ok (.aload_n 2, 1) := by decide +kernel
theorem dX4_tune_35 : decode cX4_tune 35 = .ok (.iload 4, 2) := by decide +kernel
theorem dX4_tune_37 : decode cX4_tune 37 = .ok (.aload_n 2, 1) := by decide +kernel
theorem dX4_tune_38 : decode cX4_tune 38 = .ok (.getfield 158, 3) := by decide +kernel
theorem dX4_tune_41 : decode cX4_tune 41 = .ok (.iload 4, 2) := by decide +kernel
theorem dX4_tune_43 : decode cX4_tune 43 = .ok (.iaload, 1) := by decide +kernel
theorem dX4_tune_44 : decode cX4_tune 44 = .ok (.invokevirtual 113, 3) := by decide +kernel
theorem dX4_tune_47 : decode cX4_tune 47 = .ok (.iinc 4 1, 3) := by decide +kernel
theorem dX4_tune_50 : decode cX4_tune 50 = .ok (.goto (-24), 3) := by decide +kernel
theorem dX4_tune_53 : decode cX4_tune 53 = .ok (.iload_n 3, 1) := by decide +kernel
theorem dX4_tune_54 : decode cX4_tune 54 = .ok (.ireturn, 1) := by decide +kernel
theorem dX4_tuningAt_0 : decode cX4_tuningAt 0 = .ok (.aload_n 0, 1) := by decide +kernel
theorem dX4_tuningAt_1 : decode cX4_tuningAt 1 = .ok (.iload_n 1, 1) := by decide +kernel
theorem dX4_tuningAt_2 : decode cX4_tuningAt 2 = .ok (.invokevirtual 101, 3) := by decide +kernel
theorem dX4_tuningAt_5 : decode cX4_tuningAt 5 = .ok (.astore_n 3, 1) := by decide +kernel
theorem dX4_tuningAt_6 : decode cX4_tuningAt 6 = .ok (.aload_n 3, 1) := by decide +kernel
theorem dX4_tuningAt_7 : decode cX4_tuningAt 7 = .ok (.ifnull 19, 3) := by decide +kernel
theorem dX4_tuningAt_10 : decode cX4_tuningAt 10 = .ok (.iload_n 2, 1) := by decide +kernel
theorem dX4_tuningAt_11 : decode cX4_tuningAt 11 = .ok (.invokestatic 54, 3) := by decide +kernel
theorem dX4_tuningAt_14 : decode cX4_tuningAt 14 = .ok (.ifCond .eq 12, 3) := by decide +kernel
theorem dX4_tuningAt_17 : decode cX4_tuningAt 17 = .ok (.aload_n 0, 1) := by decide +kernel
theorem dX4_tuningAt_18 : decode cX4_tuningAt 18 = .ok (.aload_n 3, 1) := by decide +kernel
theorem dX4_tuningAt_19 : decode cX4_tuningAt 19 = .ok (.invokevirtual 154, 3) := by decide +kernel
theorem dX4_tuningAt_22 : decode cX4_tuningAt 22 = .ok (.iconst (-1), 1) := by decide +kernel
theorem dX4_tuningAt_23 : decode cX4_tuningAt 23 = .ok (.if_icmp .ne 5, 3) := by decide +kernel
theorem dX4_tuningAt_26 : decode cX4_tuningAt 26 = .ok (.iconst (-1), 1) := by decide +kernel
theorem dX4_tuningAt_27 : decode cX4_tuningAt 27 = .ok (.ireturn, 1) := by decide +kernel
theorem dX4_tuningAt_28 : decode cX4_tuningAt 28 = .ok (.aload_n 3, 1) := by decide +kernel
theorem dX4_tuningAt_29 : decode cX4_tuningAt 29 = .ok (.getfield 158, 3) := by decide +kernel
theorem dX4_tuningAt_32 : decode cX4_tuningAt 32 = .ok (.iload_n 2, 1) := by decide +kernel
theorem dX4_tuningAt_33 : decode cX4_tuningAt 33 = .ok (.iaload, 1) := by decide +kernel
theorem dX4_tuningAt_34 : decode cX4_tuningAt 34 = .ok (.ireturn, 1) := by decide +kernel
theorem dX4_note_0 : decode cX4_note 0 = .ok (.aload_n 0, 1) := by decide +kernel
theorem dX4_note_1 : decode cX4_note 1 = .ok (.getfield 31, 3) := by decide +kernel
theorem dX4_note_4 : decode cX4_note 4 = .ok (.getfield 161, 3) := by decide +kernel
theorem dX4_note_7 : decode cX4_note 7 = .ok (.bipush 8, 2) := by decide +kernel
theorem dX4_note_9 : decode cX4_note 9 = .ok (.if_icmp .ge 16, 3) := by decide +kernel
theorem dX4_note_12 : decode cX4_note 12 = .ok (.iload_n 1, 1) := by decide +kernel
theorem dX4_note_13 : decode cX4_note 13 = .ok (.sipush (-5000), 3) := by decide +kernel
theorem dX4_note_16 : decode cX4_note 16 = .ok (.sipush 5000, 3) := by decide +kernel
theorem dX4_note_19 : decode cX4_note 19 = .ok (.invokestatic 43, 3) := by decide +kernel
theorem dX4_note_22 : decode cX4_note 22 = .ok (.ifCond .ne 5, 3) := by decide +kernel
theorem dX4_note_25 : decode cX4_note 25 = .ok (.iconst (-1), 1) := by decide +kernel
theorem dX4_note_26 : decode cX4_note 26 = .ok (.ireturn, 1) := by decide +kernel
theorem dX4_note_27 : decode cX4_note 27 = .ok (.aload_n 0, 1) := by decide +kernel
theorem dX4_note_28 : decode cX4_note 28 = .ok (.getfield 31, 3) := by decide +kernel
theorem dX4_note_31 : decode cX4_note 31 = .ok (.iload_n 1, 1) := by decide +kernel
theorem dX4_note_32 : decode cX4_note 32 = .ok (.invokevirtual 164, 3) := by decide +kernel
theorem dX4_note_35 : decode cX4_note 35 = .ok (.aload_n 0, 1) := by decide +kernel
theorem dX4_note_36 : decode cX4_note 36 = .ok (.getfield 31, 3) := by decide +kernel
theorem dX4_note_39 : decode cX4_note 39 = .ok (.getfield 161, 3) := by decide +kernel
theorem dX4_note_42 : decode cX4_note 42 = .ok (.ireturn, 1) := by decide +kernel
theorem dX4_ring_0 : decode cX4_ring 0 = .ok (.iload_n 1, 1) := by decide +kernel
theorem dX4_ring_1 : decode cX4_ring 1 = .ok (.iconst 0, 1) := by decide +kernel
theorem dX4_ring_2 : decode cX4_ring 2 = .ok (.sipush 200, 3) := by decide +kernel
theorem dX4_ring_5 : decode cX4_ring 5 = .ok (.invokestatic 43, 3) := by decide +kernel
theorem dX4_ring_8 : decode cX4_ring 8 = .ok (.ifCond .ne 5, 3) := by decide +kernel
theorem dX4_ring_11 : decode cX4_ring 11 = .ok (.iconst 0, 1) := by decide +kernel
theorem dX4_ring_12 : decode cX4_ring 12 = .ok (.ireturn, 1) := by decide +kernel
theorem dX4_ring_13 : decode cX4_ring 13 = .ok (.aload_n 0, 1) := by decide +kernel
theorem dX4_ring_14 : decode cX4_ring 14 = .ok (.getfield 31, 3) := by decide +kernel
theorem dX4_ring_17 : decode cX4_ring 17 = .ok (.iload_n 1, 1) := by decide +kernel
theorem dX4_ring_18 : decode cX4_ring 18 = .ok (.invokevirtual 167, 3) := by decide +kernel
theorem dX4_ring_21 : decode cX4_ring 21 = .ok (.iconst 1, 1) := by decide +kernel
theorem dX4_ring_22 : decode cX4_ring 22 = .ok (.ireturn, 1) := by decide +kernel
theorem dX4_ringWeight_0 : decode cX4_ringWeight 0 = .ok (.aload_n 0, 1) := by decide +kernel
theorem dX4_ringWeight_1 : decode cX4_ringWeight 1 = .ok (.getfield 31, 3) := by decide +kernel
theorem dX4_ringWeight_4 : decode cX4_ringWeight 4 = .ok (.aload_n 0, 1) := by decide +kernel
theorem dX4_ringWeight_5 : decode cX4_ringWeight 5 = .ok (.getfield 17, 3) := by decide +kernel
theorem dX4_ringWeight_8 : decode cX4_ringWeight 8 = .ok (.aload_n 0, 1) := by decide +kernel
theorem dX4_ringWeight_9 : decode cX4_ringWeight 9 = .ok (.getfield 85, 3) := by decide +kernel
theorem dX4_ringWeight_12 : decode cX4_ringWeight 12 = .ok (.invokevirtual 170, 3) := by decide +kernel
theorem dX4_ringWeight_15 : decode cX4_ringWeight 15 = .ok (.aload_n 0, 1) := by decide +kernel
theorem dX4_ringWeight_16 : decode cX4_ringWeight 16 = .ok (.getfield 31, 3) := by decide +kernel
theorem dX4_ringWeight_19 : decode cX4_ringWeight 19 = .ok (.invokevirtual 174, 3) := by decide +kernel
theorem dX4_ringWeight_22 : decode cX4_ringWeight 22 = .ok (.ireturn, 1) := by decide +kernel
theorem dX4_ringBell_0 : decode cX4_ringBell 0 = .ok (.iload_n 1, 1) := by decide +kernel
theorem dX4_ringBell_1 : decode cX4_ringBell 1 = .ok (.iconst 0, 1) := by decide +kernel
theorem dX4_ringBell_2 : decode cX4_ringBell 2 = .ok (.aload_n 0, 1) := by decide +kernel
theorem dX4_ringBell_3 : decode cX4_ringBell 3 = .ok (.getfield 31, 3) := by decide +kernel
theorem dX4_ringBell_6 : decode cX4_ringBell 6 = .ok (.getfield 161, 3) := by decide +kernel
theorem dX4_ringBell_9 : decode cX4_ringBell 9 = .ok (.iconst 1, 1) := by decide +kernel
theorem dX4_ringBell_10 : decode cX4_ringBell 10 = .ok (.isub, 1) := by decide +kernel
theorem dX4_ringBell_11 : decode cX4_ringBell 11 = .ok (.invokestatic 43, 3) := by decide +kernel
theorem dX4_ringBell_14 : decode cX4_ringBell 14 = .ok (.ifCond .ne 5, 3) := by decide +kernel
theorem dX4_ringBell_17 : decode cX4_ringBell 17 = .ok (.iconst (-1), 1) := by decide +kernel
theorem dX4_ringBell_18 : decode cX4_ringBell 18 = .ok (.ireturn, 1) := by decide +kernel
theorem dX4_ringBell_19 : decode cX4_ringBell 19 = .ok (.aload_n 0, 1) := by decide +kernel
theorem dX4_ringBell_20 : decode cX4_ringBell 20 = .ok (.getfield 31, 3) := by decide +kernel
theorem dX4_ringBell_23 : decode cX4_ringBell 23 = .ok (.aload_n 0, 1) := by decide +kernel
theorem dX4_ringBell_24 : decode cX4_ringBell 24 = .ok (.getfield 17, 3) := by decide +kernel
theorem dX4_ringBell_27 : decode cX4_ringBell 27 = .ok (.aload_n 0, 1) := by decide +kernel
theorem dX4_ringBell_28 : decode cX4_ringBell 28 = .ok (.getfield 85, 3) := by decide +kernel
theorem dX4_ringBell_31 : decode cX4_ringBell 31 = .ok (.invokevirtual 170, 3) := by decide +kernel
theorem dX4_ringBell_34 : decode cX4_ringBell 34 = .ok (.aload_n 0, 1) := by decide +kernel
theorem dX4_ringBell_35 : decode cX4_ringBell 35 = .ok (.getfield 31, 3) := by decide +kernel
theorem dX4_ringBell_38 : decode cX4_ringBell 38 = .ok (.iload_n 1, 1) := by decide +kernel
theorem dX4_ringBell_39 : decode cX4_ringBell 39 = .ok (.invokevirtual 177, 3) := by decide +kernel
theorem dX4_ringBell_42 : decode cX4_ringBell 42 = .ok (.ireturn, 1) := by decide +kernel
theorem dX4_tower_0 : decode cX4_tower 0 = .ok (.iload_n 3, 1) := by decide +kernel
theorem dX4_tower_1 : decode cX4_tower 1 = .ok (.iconst 0, 1) := by decide +kernel
theorem dX4_tower_2 : decode cX4_tower 2 = .ok (.ldc 77, 2) := by decide +kernel
theorem dX4_tower_4 : decode cX4_tower 4 = .ok (.invokestatic 43, 3) := by decide +kernel
theorem dX4_tower_7 : decode cX4_tower 7 = .ok (.ifCond .eq 15, 3) := by decide +kernel
theorem dX4_tower_10 : decode cX4_tower 10 = .ok (.iload_n 1, 1) := by decide +kernel
theorem dX4_tower_11 : decode cX4_tower 11 = .ok (.iconst (-1), 1) := by decide +kernel
theorem dX4_tower_12 : decode cX4_tower 12 = .ok (.if_icmp .eq 12, 3) := by decide +kernel
theorem dX4_tower_15 : decode cX4_tower 15 = .ok (.iload_n 1, 1) := by decide +kernel
theorem dX4_tower_16 : decode cX4_tower 16 = .ok (.invokestatic 180, 3) := by decide +kernel
theorem dX4_tower_19 : decode cX4_tower 19 = .ok (.ifCond .ne 5, 3) := by decide +kernel
theorem dX4_tower_22 : decode cX4_tower 22 = .ok (.iconst 0, 1) := by decide +kernel
theorem dX4_tower_23 : decode cX4_tower 23 = .ok (.ireturn, 1) := by decide +kernel
theorem dX4_tower_24 : decode cX4_tower 24 = .ok (.iload_n 1, 1) := by decide +kernel
theorem dX4_tower_25 : decode cX4_tower 25 = .ok (.iconst (-1), 1) := by decide +kernel
theorem dX4_tower_26 : decode cX4_tower 26 = .ok (.if_icmp .eq 16, 3) := by decide +kernel
theorem dX4_tower_29 : decode cX4_tower 29 = .ok (.iload_n 2, 1) := by decide +kernel
theorem dX4_tower_30 : decode cX4_tower 30 = .ok (.iconst 0, 1) := by decide +kernel
theorem dX4_tower_31 : decode cX4_tower 31 = .ok (.sipush 300, 3) := by decide +kernel
theorem dX4_tower_34 : decode cX4_tower 34 = .ok (.invokestatic 43, 3) := by decide +kernel
theorem dX4_tower_37 : decode cX4_tower 37 = .ok (.ifCond .ne 5, 3) := by decide +kernel
theorem dX4_tower_40 : decode cX4_tower 40 = .ok (.iconst 0, 1) := by decide +kernel
theorem dX4_tower_41 : decode cX4_tower 41 = .ok (.ireturn, 1) := by decide +kernel
theorem dX4_tower_42 : decode cX4_tower 42 = .ok (.aload_n 0, 1) := by decide +kernel
theorem dX4_tower_43 : decode cX4_tower 43 = .ok (.iload_n 1, 1) := by decide +kernel
theorem dX4_tower_44 : decode cX4_tower 44 = .ok (.iload_n 2, 1) := by decide +kernel
theorem dX4_tower_45 : decode cX4_tower 45 = .ok (.invokevirtual 183, 3) := by decide +kernel
theorem dX4_tower_48 : decode cX4_tower 48 = .ok (.iload_n 3, 1) := by decide +kernel
theorem dX4_tower_49 : decode cX4_tower 49 = .ok (.if_icmp .le 5, 3) := by decide +kernel
theorem dX4_tower_52 : decode cX4_tower 52 = .ok (.iconst 0, 1) := by decide +kernel
theorem dX4_tower_53 : decode cX4_tower 53 = .ok (.ireturn, 1) := by decide +kernel
theorem dX4_tower_54 : decode cX4_tower 54 = .ok (.iload_n 1, 1) := by decide +kernel
theorem dX4_tower_55 : decode cX4_tower 55 = .ok (.iconst (-1), 1) := by decide +kernel
theorem dX4_tower_56 : decode cX4_tower 56 = .ok (.if_icmp .eq 10, 3) := by decide +kernel
theorem dX4_tower_59 : decode cX4_tower 59 = .ok (.aload_n 0, 1) := by decide +kernel
theorem dX4_tower_60 : decode cX4_tower 60 = .ok (.getfield 35, 3) := by decide +kernel
theorem dX4_tower_63 : decode cX4_tower 63 = .ok (.iload_n 1, 1) := by decide +kernel
theorem dX4_tower_64 : decode cX4_tower 64 = .ok (.iload_n 2, 1) := by decide +kernel
theorem dX4_tower_65 : decode cX4_tower 65 = .ok (.iastore, 1) := by decide +kernel
theorem dX4_tower_66 : decode cX4_tower 66 = .ok (.aload_n 0, 1) := by decide +kernel
theorem dX4_tower_67 : decode cX4_tower 67 = .ok (.iload_n 3, 1) := by decide +kernel
theorem dX4_tower_68 : decode cX4_tower 68 = .ok (.putfield 187, 3) := by decide +kernel
theorem dX4_tower_71 : decode cX4_tower 71 = .ok (.iconst 1, 1) := by decide +kernel
theorem dX4_tower_72 : decode cX4_tower 72 = .ok (.ireturn, 1) := by decide +kernel
theorem dX4_hang_0 : decode cX4_hang 0 = .ok (.aload_n 0, 1) := by decide +kernel
theorem dX4_hang_1 : decode cX4_hang 1 = .ok (.iload_n 1, 1) := by decide +kernel
theorem dX4_hang_2 : decode cX4_hang 2 = .ok (.invokevirtual 101, 3) := by decide +kernel
theorem dX4_hang_5 : decode cX4_hang 5 = .ok (.astore_n 3, 1) := by decide +kernel
theorem dX4_hang_6 : decode cX4_hang 6 = .ok (.aload_n 3, 1) := by decide +kernel
theorem dX4_hang_7 : decode cX4_hang 7 = .ok (.ifnull 22, 3) := by decide +kernel
theorem dX4_hang_10 : decode cX4_hang 10 = .ok (.aload_n 3, 1) := by decide +kernel
theorem dX4_hang_11 : decode cX4_hang 11 = .ok (.getfield 124, 3) := by decide +kernel
theorem dX4_hang_14 : decode cX4_hang 14 = .ok (.ifCond .ne 15, 3) := by decide +kernel
theorem dX4_hang_17 : decode cX4_hang 17 = .ok (.iload_n 2, 1) := by decide +kernel
theorem dX4_hang_18 : decode cX4_hang 18 = .ok (.iconst (-1), 1) := by decide +kernel
theorem dX4_hang_19 : decode cX4_hang 19 = .ok (.if_icmp .eq 12, 3) := by decide +kernel
theorem dX4_hang_22 : decode cX4_hang 22 = .ok (.iload_n 2, 1) := by decide +kernel
theorem dX4_hang_23 : decode cX4_hang 23 = .ok (.invokestatic 180, 3) := by decide +kernel
theorem dX4_hang_26 : decode cX4_hang 26 = .ok (.ifCond .ne 5, 3) := by decide +kernel
theorem dX4_hang_29 : decode cX4_hang 29 = .ok (.iconst 0, 1) := by decide +kernel
theorem dX4_hang_30 : decode cX4_hang 30 = .ok (.ireturn, 1) := by decide +kernel
theorem dX4_hang_31 : decode cX4_hang 31 = .ok (.aload_n 0, 1) := by decide +kernel
theorem dX4_hang_32 : decode cX4_hang 32 = .ok (.invokevirtual 190, 3) := by decide +kernel
theorem dX4_hang_35 : decode cX4_hang 35 = .ok (.aload_n 3, 1) := by decide +kernel
theorem dX4_hang_36 : decode cX4_hang 36 = .ok (.aload_n 3, 1) := by decide +kernel
theorem dX4_hang_37 : decode cX4_hang 37 = .ok (.getfield 127, 3) := by decide +kernel
theorem dX4_hang_40 : decode cX4_hang 40 = .ok (.aload_n 0, 1) := by decide +kernel
theorem dX4_hang_41 : decode cX4_hang 41 = .ok (.aload_n 3, 1) := by decide +kernel
theorem dX4_hang_42 : decode cX4_hang 42 = .ok (.getfield 127, 3) := by decide +kernel
theorem dX4_hang_45 : decode cX4_hang 45 = .ok (.invokevirtual 140, 3) := by decide +kernel
theorem dX4_hang_48 : decode cX4_hang 48 = .ok (.invokestatic 143, 3) := by decide +kernel
theorem dX4_hang_51 : decode cX4_hang 51 = .ok (.isub, 1) := by decide +kernel
theorem dX4_hang_52 : decode cX4_hang 52 = .ok (.istore 4, 2) := by decide +kernel
theorem dX4_hang_54 : decode cX4_hang 54 = .ok (.iload 4, 2) := by decide +kernel
theorem dX4_hang_56 : decode cX4_hang 56 = .ok (.aload_n 3, 1) := by decide +kernel
theorem dX4_hang_57 : decode cX4_hang 57 = .ok (.iload_n 2, 1) := by decide +kernel
theorem dX4_hang_58 : decode cX4_hang 58 = .ok (.aload_n 0, 1) := by decide +kernel
theorem dX4_hang_59 : decode cX4_hang 59 = .ok (.iload_n 2, 1) := by decide +kernel
theorem dX4_hang_60 : decode cX4_hang 60 = .ok (.invokevirtual 140, 3) := by decide +kernel
theorem dX4_hang_63 : decode cX4_hang 63 = .ok (.invokestatic 143, 3) := by decide +kernel
theorem dX4_hang_66 : decode cX4_hang 66 = .ok (.iadd, 1) := by decide +kernel
theorem dX4_hang_67 : decode cX4_hang 67 = .ok (.aload_n 0, 1) := by decide +kernel
theorem dX4_hang_68 : decode cX4_hang 68 = .ok (.getfield 187, 3) := by decide +kernel
theorem dX4_hang_71 : decode cX4_hang 71 = .ok (.if_icmp .le 5, 3) := by decide +kernel
theorem dX4_hang_74 : decode cX4_hang 74 = .ok (.iconst 0, 1) := by decide +kernel
theorem dX4_hang_75 : decode cX4_hang 75 = .ok (.ireturn, 1) := by decide +kernel
theorem dX4_hang_76 : decode cX4_hang 76 = .ok (.aload_n 3, 1) := by decide +kernel
theorem dX4_hang_77 : decode cX4_hang 77 = .ok (.iload_n 2, 1) := by decide +kernel
theorem dX4_hang_78 : decode cX4_hang 78 = .ok (.putfield 127, 3) := by decide +kernel
theorem dX4_hang_81 : decode cX4_hang 81 = .ok (.iconst 1, 1) := by decide +kernel
theorem dX4_hang_82 : decode cX4_hang 82 = .ok (.ireturn, 1) := by decide +kernel
theorem dX4_about_0 : decode cX4_about 0 = .ok (.iload_n 1, 1) := by decide +kernel
theorem dX4_about_1 : decode cX4_about 1 = .ok (.bipush 10, 2) := by decide +kernel
theorem dX4_about_3 : decode cX4_about 3 = .ok (.bipush 14, 2) := by decide +kernel
theorem dX4_about_5 : decode cX4_about 5 = .ok (.invokestatic 43, 3) := by decide +kernel
theorem dX4_about_8 : decode cX4_about 8 = .ok (.ifCond .eq 13, 3) := by decide +kernel
theorem dX4_about_11 : decode cX4_about 11 = .ok (.aload_n 0, 1) := by decide +kernel
theorem dX4_about_12 : decode cX4_about 12 = .ok (.getfield 35, 3) := by decide +kernel
theorem dX4_about_15 : decode cX4_about 15 = .ok (.iload_n 1, 1) := by decide +kernel
theorem dX4_about_16 : decode cX4_about 16 = .ok (.bipush 10, 2) := by decide +kernel
theorem dX4_about_18 : decode cX4_about 18 = .ok (.isub, 1) := by decide +kernel
theorem dX4_about_19 : decode cX4_about 19 = .ok (.iaload, 1) := by decide +kernel
theorem dX4_about_20 : decode cX4_about 20 = .ok (.ireturn, 1) := by decide +kernel
theorem dX4_about_21 : decode cX4_about 21 = .ok (.iload_n 1, 1) := by decide +kernel
theorem dX4_about_22 : decode cX4_about 22 = .ok (.tableswitch 110 0 9 #[54, 59, 64, 69, 74, 79, 84, 92, 100, 105], 54) := by decide +kernel
theorem dX4_about_76 : decode cX4_about 76 = .ok (.aload_n 0, 1) := by decide +kernel
theorem dX4_about_77 : decode cX4_about 77 = .ok (.getfield 39, 3) := by decide +kernel
theorem dX4_about_80 : decode cX4_about 80 = .ok (.ireturn, 1) := by decide +kernel
theorem dX4_about_81 : decode cX4_about 81 = .ok (.aload_n 0, 1) := by decide +kernel
theorem dX4_about_82 : decode cX4_about 82 = .ok (.getfield 85, 3) := by decide +kernel
theorem dX4_about_85 : decode cX4_about 85 = .ok (.ireturn, 1) := by decide +kernel
theorem dX4_about_86 : decode cX4_about 86 = .ok (.aload_n 0, 1) := by decide +kernel
theorem dX4_about_87 : decode cX4_about 87 = .ok (.getfield 78, 3) := by decide +kernel
theorem dX4_about_90 : decode cX4_about 90 = .ok (.ireturn, 1) := by decide +kernel
theorem dX4_about_91 : decode cX4_about 91 = .ok (.aload_n 0, 1) := by decide +kernel
theorem dX4_about_92 : decode cX4_about 92 = .ok (.getfield 82, 3) := by decide +kernel
theorem dX4_about_95 : decode cX4_about 95 = .ok (.ireturn, 1) := by decide +kernel
theorem dX4_about_96 : decode cX4_about 96 = .ok (.aload_n 0, 1) := by decide +kernel
theorem dX4_about_97 : decode cX4_about 97 = .ok (.getfield 130, 3) := by decide +kernel
theorem dX4_about_100 : decode cX4_about 100 = .ok (.ireturn, 1) := by decide +kernel
theorem dX4_about_101 : decode cX4_about 101 = .ok (.aload_n 0, 1) := by decide +kernel
theorem dX4_about_102 : decode cX4_about 102 = .ok (.invokevirtual 193, 3) := by decide +kernel
theorem dX4_about_105 : decode cX4_about 105 = .ok (.ireturn, 1) := by decide +kernel
theorem dX4_about_106 : decode cX4_about 106 = .ok (.aload_n 0, 1) := by decide +kernel
theorem dX4_about_107 : decode cX4_about 107 = .ok (.getfield 31, 3) := by decide +kernel
theorem dX4_about_110 : decode cX4_about 110 = .ok (.getfield 161, 3) := by decide +kernel
theorem dX4_about_113 : decode cX4_about 113 = .ok (.ireturn, 1) := by decide +kernel
theorem dX4_about_114 : decode cX4_about 114 = .ok (.aload_n 0, 1) := by decide +kernel
theorem dX4_about_115 : decode cX4_about 115 = .ok (.getfield 31, 3) := by decide +kernel
theorem dX4_about_118 : decode cX4_about 118 = .ok (.getfield 196, 3) := by decide +kernel
theorem dX4_about_121 : decode cX4_about 121 = .ok (.ireturn, 1) := by decide +kernel
theorem dX4_about_122 : decode cX4_about 122 = .ok (.aload_n 0, 1) := by decide +kernel
theorem dX4_about_123 : decode cX4_about 123 = .ok (.invokevirtual 190, 3) := by decide +kernel
theorem dX4_about_126 : decode cX4_about 126 = .ok (.ireturn, 1) := by decide +kernel
theorem dX4_about_127 : decode cX4_about 127 = .ok (.aload_n 0, 1) := by decide +kernel
theorem dX4_about_128 : decode cX4_about 128 = .ok (.getfield 187, 3) := by decide +kernel
theorem dX4_about_131 : decode cX4_about 131 = .ok (.ireturn, 1) := by decide +kernel
theorem dX4_about_132 : decode cX4_about 132 = .ok (.iconst (-1), 1) := by decide +kernel
theorem dX4_about_133 : decode cX4_about 133 = .ok (.ireturn, 1) := by decide +kernel
theorem dX4_within_0 : decode cX4_within 0 = .ok (.iload_n 0, 1) := by decide +kernel
theorem dX4_within_1 : decode cX4_within 1 = .ok (.iload_n 1, 1) := by decide +kernel
theorem dX4_within_2 : decode cX4_within 2 = .ok (.if_icmp .lt 12, 3) := by decide +kernel
theorem dX4_within_5 : decode cX4_within 5 = .ok (.iload_n 0, 1) := by decide +kernel
theorem dX4_within_6 : decode cX4_within 6 = .ok (.iload_n 2, 1) := by decide +kernel
theorem dX4_within_7 : decode cX4_within 7 = .ok (.if_icmp .gt 7, 3) := by decide +kernel
theorem dX4_within_10 : decode cX4_within 10 = .ok (.iconst 1, 1) := by decide +kernel
theorem dX4_within_11 : decode cX4_within 11 = .ok (.goto 4, 3) := by decide +kernel
theorem dX4_within_14 : decode cX4_within 14 = .ok (.iconst 0, 1) := by decide +kernel
theorem dX4_within_15 : decode cX4_within 15 = .ok (.ireturn, 1) := by decide +kernel
theorem dX4_isHeight_0 : decode cX4_isHeight 0 = .ok (.iload_n 0, 1) := by decide +kernel
theorem dX4_isHeight_1 : decode cX4_isHeight 1 = .ok (.iconst 0, 1) := by decide +kernel
theorem dX4_isHeight_2 : decode cX4_isHeight 2 = .ok (.bipush 7, 2) := by decide +kernel
theorem dX4_isHeight_4 : decode cX4_isHeight 4 = .ok (.invokestatic 43, 3) := by decide +kernel
theorem dX4_isHeight_7 : decode cX4_isHeight 7 = .ok (.ireturn, 1) := by decide +kernel
theorem dX4_isPart_0 : decode cX4_isPart 0 = .ok (.iload_n 0, 1) := by decide +kernel
theorem dX4_isPart_1 : decode cX4_isPart 1 = .ok (.iconst 0, 1) := by decide +kernel
theorem dX4_isPart_2 : decode cX4_isPart 2 = .ok (.iconst 4, 1) := by decide +kernel
theorem dX4_isPart_3 : decode cX4_isPart 3 = .ok (.invokestatic 43, 3) := by decide +kernel
theorem dX4_isPart_6 : decode cX4_isPart 6 = .ok (.ireturn, 1) := by decide +kernel
theorem dX4_isWay_0 : decode cX4_isWay 0 = .ok (.iload_n 0, 1) := by decide +kernel
theorem dX4_isWay_1 : decode cX4_isWay 1 = .ok (.iconst 0, 1) := by decide +kernel
theorem dX4_isWay_2 : decode cX4_isWay 2 = .ok (.iconst 4, 1) := by decide +kernel
theorem dX4_isWay_3 : decode cX4_isWay 3 = .ok (.invokestatic 43, 3) := by decide +kernel
theorem dX4_isWay_6 : decode cX4_isWay 6 = .ok (.ireturn, 1) := by decide +kernel
theorem dX4_profileAt_0 : decode cX4_profileAt 0 = .ok (.iload_n 1, 1) := by decide +kernel
theorem dX4_profileAt_1 : decode cX4_profileAt 1 = .ok (.iconst 0, 1) := by decide +kernel
theorem dX4_profileAt_2 : decode cX4_profileAt 2 = .ok (.aload_n 0, 1) := by decide +kernel
theorem dX4_profileAt_3 : decode cX4_profileAt 3 = .ok (.getfield 39, 3) := by decide +kernel
theorem dX4_profileAt_6 : decode cX4_profileAt 6 = .ok (.iconst 1, 1) := by decide +kernel
theorem dX4_profileAt_7 : decode cX4_profileAt 7 = .ok (.isub, 1) := by decide +kernel
theorem dX4_profileAt_8 : decode cX4_profileAt 8 = .ok (.invokestatic 43, 3) := by decide +kernel
theorem dX4_profileAt_11 : decode cX4_profileAt 11 = .ok (.ifCond .eq 12, 3) := by decide +kernel
theorem dX4_profileAt_14 : decode cX4_profileAt 14 = .ok (.aload_n 0, 1) := by decide +kernel
theorem dX4_profileAt_15 : decode cX4_profileAt 15 = .ok (.getfield 11, 3) := by decide +kernel
theorem dX4_profileAt_18 : decode cX4_profileAt 18 = .ok (.iload_n 1, 1) := by decide +kernel
theorem dX4_profileAt_19 : decode cX4_profileAt 19 = .ok (.aaload, 1) := by decide +kernel
theorem dX4_profileAt_20 : decode cX4_profileAt 20 = .ok (.goto 4, 3) := by decide +kernel
theorem dX4_profileAt_23 : decode cX4_profileAt 23 = .ok (.aconst_null, 1) := by decide +kernel
theorem dX4_profileAt_24 : decode cX4_profileAt 24 = .ok (.areturn, 1) := by decide +kernel
theorem dX4_bellAt_0 : decode cX4_bellAt 0 = .ok (.iload_n 1, 1) := by decide +kernel
theorem dX4_bellAt_1 : decode cX4_bellAt 1 = .ok (.iconst 0, 1) := by decide +kernel
theorem dX4_bellAt_2 : decode cX4_bellAt 2 = .ok (.aload_n 0, 1) := by decide +kernel
theorem dX4_bellAt_3 : decode cX4_bellAt 3 = .ok (.getfield 85, 3) := by decide +kernel
theorem dX4_bellAt_6 : decode cX4_bellAt 6 = .ok (.iconst 1, 1) := by decide +kernel
theorem dX4_bellAt_7 : decode cX4_bellAt 7 = .ok (.isub, 1) := by decide +kernel
theorem dX4_bellAt_8 : decode cX4_bellAt 8 = .ok (.invokestatic 43, 3) := by decide +kernel
theorem dX4_bellAt_11 : decode cX4_bellAt 11 = .ok (.ifCond .eq 12, 3) := by decide +kernel
theorem dX4_bellAt_14 : decode cX4_bellAt 14 = .ok (.aload_n 0, 1) := by decide +kernel
theorem dX4_bellAt_15 : decode cX4_bellAt 15 = .ok (.getfield 17, 3) := by decide +kernel
theorem dX4_bellAt_18 : decode cX4_bellAt 18 = .ok (.iload_n 1, 1) := by decide +kernel
theorem dX4_bellAt_19 : decode cX4_bellAt 19 = .ok (.aaload, 1) := by decide +kernel
theorem dX4_bellAt_20 : decode cX4_bellAt 20 = .ok (.goto 4, 3) := by decide +kernel
theorem dX4_bellAt_23 : decode cX4_bellAt 23 = .ok (.aconst_null, 1) := by decide +kernel
theorem dX4_bellAt_24 : decode cX4_bellAt 24 = .ok (.areturn, 1) := by decide +kernel
theorem dX4_charge_0 : decode cX4_charge 0 = .ok (.aload_n 0, 1) := by decide +kernel
theorem dX4_charge_1 : decode cX4_charge 1 = .ok (.getfield 130, 3) := by decide +kernel
theorem dX4_charge_4 : decode cX4_charge 4 = .ok (.iload_n 1, 1) := by decide +kernel
theorem dX4_charge_5 : decode cX4_charge 5 = .ok (.invokestatic 199, 3) := by decide +kernel
theorem dX4_charge_8 : decode cX4_charge 8 = .ok (.istore_n 2, 1) := by decide +kernel
theorem dX4_charge_9 : decode cX4_charge 9 = .ok (.iload_n 1, 1) := by decide +kernel
theorem dX4_charge_10 : decode cX4_charge 10 = .ok (.iload_n 2, 1) := by decide +kernel
theorem dX4_charge_11 : decode cX4_charge 11 = .ok (.isub, 1) := by decide +kernel
theorem dX4_charge_12 : decode cX4_charge 12 = .ok (.istore_n 3, 1) := by decide +kernel
theorem dX4_charge_13 : decode cX4_charge 13 = .ok (.bipush 77, 2) := by decide +kernel
theorem dX4_charge_15 : decode cX4_charge 15 = .ok (.iload_n 3, 1) := by decide +kernel
theorem dX4_charge_16 : decode cX4_charge 16 = .ok (.imul, 1) := by decide +kernel
theorem dX4_charge_17 : decode cX4_charge 17 = .ok (.bipush 99, 2) := by decide +kernel
theorem dX4_charge_19 : decode cX4_charge 19 = .ok (.iadd, 1) := by decide +kernel
theorem dX4_charge_20 : decode cX4_charge 20 = .ok (.bipush 100, 2) := by decide +kernel
theorem dX4_charge_22 : decode cX4_charge 22 = .ok (.idiv, 1) := by decide +kernel
theorem dX4_charge_23 : decode cX4_charge 23 = .ok (.istore 4, 2) := by decide +kernel
theorem dX4_charge_25 : decode cX4_charge 25 = .ok (.iload_n 3, 1) := by decide +kernel
theorem dX4_charge_26 : decode cX4_charge 26 = .ok (.iload 4, 2) := by decide +kernel
theorem dX4_charge_28 : decode cX4_charge 28 = .ok (.isub, 1) := by decide +kernel
theorem dX4_charge_29 : decode cX4_charge 29 = .ok (.istore 5, 2) := by decide +kernel
theorem dX4_charge_31 : decode cX4_charge 31 = .ok (.iload 4, 2) := by decide +kernel
theorem dX4_charge_33 : decode cX4_charge 33 = .ok (.aload_n 0, 1) := by decide +kernel
theorem dX4_charge_34 : decode cX4_charge 34 = .ok (.getfield 78, 3) := by decide +kernel
theorem dX4_charge_37 : decode cX4_charge 37 = .ok (.if_icmp .gt 12, 3) := by decide +kernel
theorem dX4_charge_40 : decode cX4_charge 40 = .ok (.iload 5, 2) := by decide +kernel
theorem dX4_charge_42 : decode cX4_charge 42 = .ok (.aload_n 0, 1) := by decide +kernel
theorem dX4_charge_43 : decode cX4_charge 43 = .ok (.getfield 82, 3) := by decide +kernel
theorem dX4_charge_46 : decode cX4_charge 46 = .ok (.if_icmp .le 5, 3) := by decide +kernel
theorem dX4_charge_49 : decode cX4_charge 49 = .ok (.iconst 0, 1) := by decide +kernel
theorem dX4_charge_50 : decode cX4_charge 50 = .ok (.ireturn, 1) := by decide +kernel
theorem dX4_charge_51 : decode cX4_charge 51 = .ok (.aload_n 0, 1) := by decide +kernel
theorem dX4_charge_52 : decode cX4_charge 52 = .ok (.dup, 1) := by decide +kernel
theorem dX4_charge_53 : decode cX4_charge 53 = .ok (.getfield 130, 3) := by decide +kernel
theorem dX4_charge_56 : decode cX4_charge 56 = .ok (.iload_n 2, 1) := by decide +kernel
theorem dX4_charge_57 : decode cX4_charge 57 = .ok (.isub, 1) := by decide +kernel
theorem dX4_charge_58 : decode cX4_charge 58 = .ok (.putfield 130, 3) := by decide +kernel
theorem dX4_charge_61 : decode cX4_charge 61 = .ok (.aload_n 0, 1) := by decide +kernel
theorem dX4_charge_62 : decode cX4_charge 62 = .ok (.dup, 1) := by decide +kernel
theorem dX4_charge_63 : decode cX4_charge 63 = .ok (.getfield 78, 3) := by decide +kernel
theorem dX4_charge_66 : decode cX4_charge 66 = .ok (.iload 4, 2) := by decide +kernel
theorem dX4_charge_68 : decode cX4_charge 68 = .ok (.isub, 1) := by decide +kernel
theorem dX4_charge_69 : decode cX4_charge 69 = .ok (.putfield 78, 3) := by decide +kernel
theorem dX4_charge_72 : decode cX4_charge 72 = .ok (.aload_n 0, 1) := by decide +kernel
theorem dX4_charge_73 : decode cX4_charge 73 = .ok (.dup, 1) := by decide +kernel
theorem dX4_charge_74 : decode cX4_charge 74 = .ok (.getfield 82, 3) := by decide +kernel
theorem dX4_charge_77 : decode cX4_charge 77 = .ok (.iload 5, 2) := by decide +kernel
theorem dX4_charge_79 : decode cX4_charge 79 = .ok (.isub, 1) := by decide +kernel
theorem dX4_charge_80 : decode cX4_charge 80 = .ok (.putfield 82, 3) := by decide +kernel
theorem dX4_charge_83 : decode cX4_charge 83 = .ok (.iconst 1, 1) := by decide +kernel
theorem dX4_charge_84 : decode cX4_charge 84 = .ok (.ireturn, 1) := by decide +kernel
theorem dX4_trim_0 : decode cX4_trim 0 = .ok (.aload_n 0, 1) := by decide +kernel
theorem dX4_trim_1 : decode cX4_trim 1 = .ok (.dup, 1) := by decide +kernel
theorem dX4_trim_2 : decode cX4_trim 2 = .ok (.getfield 130, 3) := by decide +kernel
theorem dX4_trim_5 : decode cX4_trim 5 = .ok (.aload_n 1, 1) := by decide +kernel
theorem dX4_trim_6 : decode cX4_trim 6 = .ok (.iload_n 2, 1) := by decide +kernel
theorem dX4_trim_7 : decode cX4_trim 7 = .ok (.iload_n 3, 1) := by decide +kernel
theorem dX4_trim_8 : decode cX4_trim 8 = .ok (.invokevirtual 204, 3) := by decide +kernel
theorem dX4_trim_11 : decode cX4_trim 11 = .ok (.iadd, 1) := by decide +kernel
theorem dX4_trim_12 : decode cX4_trim 12 = .ok (.putfield 130, 3) := by decide +kernel
theorem dX4_trim_15 : decode cX4_trim 15 = .ok (.aload_n 0, 1) := by decide +kernel
theorem dX4_trim_16 : decode cX4_trim 16 = .ok (.getfield 31, 3) := by decide +kernel
theorem dX4_trim_19 : decode cX4_trim 19 = .ok (.invokevirtual 98, 3) := by decide +kernel
theorem dX4_trim_22 : decode cX4_trim 22 = .ok (.return_, 1) := by decide +kernel
theorem dX4_plannedCuts_0 : decode cX4_plannedCuts 0 = .ok (.aload_n 1, 1) := by decide +kernel
theorem dX4_plannedCuts_1 : decode cX4_plannedCuts 1 = .ok (.ifnull 10, 3) := by decide +kernel
theorem dX4_plannedCuts_4 : decode cX4_plannedCuts 4 = .ok (.aload_n 1, 1) := by decide +kernel
theorem dX4_plannedCuts_5 : decode cX4_plannedCuts 5 = .ok (.invokevirtual 105, 3) := by decide +kernel
theorem dX4_plannedCuts_8 : decode cX4_plannedCuts 8 = .ok (.ifCond .ne 5, 3) := by decide +kernel
theorem dX4_plannedCuts_11 : decode cX4_plannedCuts 11 = .ok (.iconst (-1), 1) := by decide +kernel
theorem dX4_plannedCuts_12 : decode cX4_plannedCuts 12 = .ok (.ireturn, 1) := by decide +kernel
theorem dX4_plannedCuts_13 : decode cX4_plannedCuts 13 = .ok (.aload_n 0, 1) := by decide +kernel
theorem dX4_plannedCuts_14 : decode cX4_plannedCuts 14 = .ok (.getfield 24, 3) := by decide +kernel
theorem dX4_plannedCuts_17 : decode cX4_plannedCuts 17 = .ok (.aload_n 1, 1) := by decide +kernel
theorem dX4_plannedCuts_18 : decode cX4_plannedCuts 18 = .ok (.invokevirtual 207, 3) := by decide +kernel
theorem dX4_plannedCuts_21 : decode cX4_plannedCuts 21 = .ok (.aload_n 1, 1) := by decide +kernel
theorem dX4_plannedCuts_22 : decode cX4_plannedCuts 22 = .ok (.getfield 210, 3) := by decide +kernel
theorem dX4_plannedCuts_25 : decode cX4_plannedCuts 25 = .ok (.ireturn, 1) := by decide +kernel
theorem dX4_soundMetal_0 : decode cX4_soundMetal 0 = .ok (.iconst 0, 1) := by decide +kernel
theorem dX4_soundMetal_1 : decode cX4_soundMetal 1 = .ok (.istore_n 1, 1) := by decide +kernel
theorem dX4_soundMetal_2 : decode cX4_soundMetal 2 = .ok (.iconst 0, 1) := by decide +kernel
theorem dX4_soundMetal_3 : decode cX4_soundMetal 3 = .ok (.istore_n 2, 1) := by decide +kernel
theorem dX4_soundMetal_4 : decode cX4_soundMetal 4 = .ok (.iload_n 2, 1) := by decide +kernel
theorem dX4_soundMetal_5 : decode cX4_soundMetal 5 = .ok (.aload_n 0, 1) := by decide +kernel
theorem dX4_soundMetal_6 : decode cX4_soundMetal 6 = .ok (.getfield 85, 3) := by decide +kernel
theorem dX4_soundMetal_9 : decode cX4_soundMetal 9 = .ok (.if_icmp .ge 34, 3) := by decide +kernel
theorem dX4_soundMetal_12 : decode cX4_soundMetal 12 = .ok (.aload_n 0, 1) := by decide +kernel
theorem dX4_soundMetal_13 : decode cX4_soundMetal 13 = .ok (.getfield 17, 3) := by decide +kernel
theorem dX4_soundMetal_16 : decode cX4_soundMetal 16 = .ok (.iload_n 2, 1) := by decide +kernel
theorem dX4_soundMetal_17 : decode cX4_soundMetal 17 = .ok (.aaload, 1) := by decide +kernel
theorem dX4_soundMetal_18 : decode cX4_soundMetal 18 = .ok (.astore_n 3, 1) := by decide +kernel
theorem dX4_soundMetal_19 : decode cX4_soundMetal 19 = .ok (.aload_n 3, 1) := by decide +kernel
theorem dX4_soundMetal_20 : decode cX4_soundMetal 20 = .ok (.ifnull 17, 3) := by decide +kernel
theorem dX4_soundMetal_23 : decode cX4_soundMetal 23 = .ok (.aload_n 3, 1) := by decide +kernel
theorem dX4_soundMetal_24 : decode cX4_soundMetal 24 = .ok (.getfield 124, 3) := by decide +kernel
theorem dX4_soundMetal_27 : decode cX4_soundMetal 27 = .ok (.ifCond .ne 10, 3) := by decide +kernel
theorem dX4_soundMetal_30 : decode cX4_soundMetal 30 = .ok (.iload_n 1, 1) := by decide +kernel
theorem dX4_soundMetal_31 : decode cX4_soundMetal 31 = .ok (.aload_n 3, 1) := by decide +kernel
theorem dX4_soundMetal_32 : decode cX4_soundMetal 32 = .ok (.invokevirtual 133, 3) := by decide +kernel
theorem dX4_soundMetal_35 : decode cX4_soundMetal 35 = .ok (.iadd, 1) := by decide +kernel
theorem dX4_soundMetal_36 : decode cX4_soundMetal 36 = .ok (.istore_n 1, 1) := by decide +kernel
theorem dX4_soundMetal_37 : decode cX4_soundMetal 37 = .ok (.iinc 2 1, 3) := by decide +kernel
theorem dX4_soundMetal_40 : decode cX4_soundMetal 40 = .ok (.goto (-36), 3) := by decide +kernel
theorem dX4_soundMetal_43 : decode cX4_soundMetal 43 = .ok (.iload_n 1, 1) := by decide +kernel
theorem dX4_soundMetal_44 : decode cX4_soundMetal 44 = .ok (.ireturn, 1) := by decide +kernel
theorem dX4_shareOf_0 : decode cX4_shareOf 0 = .ok (.iload_n 1, 1) := by decide +kernel
theorem dX4_shareOf_1 : decode cX4_shareOf 1 = .ok (.invokestatic 180, 3) := by decide +kernel
theorem dX4_shareOf_4 : decode cX4_shareOf 4 = .ok (.ifCond .eq 12, 3) := by decide +kernel
theorem dX4_shareOf_7 : decode cX4_shareOf 7 = .ok (.aload_n 0, 1) := by decide +kernel
theorem dX4_shareOf_8 : decode cX4_shareOf 8 = .ok (.getfield 35, 3) := by decide +kernel
theorem dX4_shareOf_11 : decode cX4_shareOf 11 = .ok (.iload_n 1, 1) := by decide +kernel
theorem dX4_shareOf_12 : decode cX4_shareOf 12 = .ok (.iaload, 1) := by decide +kernel
theorem dX4_shareOf_13 : decode cX4_shareOf 13 = .ok (.goto 4, 3) := by decide +kernel
theorem dX4_shareOf_16 : decode cX4_shareOf 16 = .ok (.iconst 0, 1) := by decide +kernel
theorem dX4_shareOf_17 : decode cX4_shareOf 17 = .ok (.ireturn, 1) := by decide +kernel
theorem dX4_pullBy_0 : decode cX4_pullBy 0 = .ok (.iload_n 1, 1) := by decide +kernel
theorem dX4_pullBy_1 : decode cX4_pullBy 1 = .ok (.iconst (-1), 1) := by decide +kernel
theorem dX4_pullBy_2 : decode cX4_pullBy 2 = .ok (.if_icmp .ne 7, 3) := by decide +kernel
theorem dX4_pullBy_5 : decode cX4_pullBy 5 = .ok (.iconst 0, 1) := by decide +kernel
theorem dX4_pullBy_6 : decode cX4_pullBy 6 = .ok (.goto 12, 3) := by decide +kernel
theorem dX4_pullBy_9 : decode cX4_pullBy 9 = .ok (.aload_n 0, 1) := by decide +kernel
theorem dX4_pullBy_10 : decode cX4_pullBy 10 = .ok (.invokevirtual 133, 3) := by decide +kernel
theorem dX4_pullBy_13 : decode cX4_pullBy 13 = .ok (.iload_n 2, 1) := by decide +kernel
theorem dX4_pullBy_14 : decode cX4_pullBy 14 = .ok (.imul, 1) := by decide +kernel
theorem dX4_pullBy_15 : decode cX4_pullBy 15 = .ok (.bipush 100, 2) := by decide +kernel
theorem dX4_pullBy_17 : decode cX4_pullBy 17 = .ok (.idiv, 1) := by decide +kernel
theorem dX4_pullBy_18 : decode cX4_pullBy 18 = .ok (.ireturn, 1) := by decide +kernel
theorem dX4_pullsTogether_0 : decode cX4_pullsTogether 0 = .ok (.aload_n 0, 1) := by decide +kernel
theorem dX4_pullsTogether_1 : decode cX4_pullsTogether 1 = .ok (.iconst (-1), 1) := by decide +kernel
theorem dX4_pullsTogether_2 : decode cX4_pullsTogether 2 = .ok (.iconst 0, 1) := by decide +kernel
theorem dX4_pullsTogether_3 : decode cX4_pullsTogether 3 = .ok (.invokevirtual 183, 3) := by decide +kernel
theorem dX4_pullsTogether_6 : decode cX4_pullsTogether 6 = .ok (.ireturn, 1) := by decide +kernel
theorem dX4_pullsIf_0 : decode cX4_pullsIf 0 = .ok (.iconst 0, 1) := by decide +kernel
theorem dX4_pullsIf_1 : decode cX4_pullsIf 1 = .ok (.istore_n 3, 1) := by decide +kernel
theorem dX4_pullsIf_2 : decode cX4_pullsIf 2 = .ok (.iconst 0, 1) := by decide +kernel
theorem dX4_pullsIf_3 : decode cX4_pullsIf 3 = .ok (.istore 4, 2) := by decide +kernel
theorem dX4_pullsIf_5 : decode cX4_pullsIf 5 = .ok (.iload 4, 2) := by decide +kernel
theorem dX4_pullsIf_7 : decode cX4_pullsIf 7 = .ok (.aload_n 0, 1) := by decide +kernel
theorem dX4_pullsIf_8 : decode cX4_pullsIf 8 = .ok (.getfield 85, 3) := by decide +kernel
theorem dX4_pullsIf_11 : decode cX4_pullsIf 11 = .ok (.if_icmp .ge 58, 3) := by decide +kernel
theorem dX4_pullsIf_14 : decode cX4_pullsIf 14 = .ok (.aload_n 0, 1) := by decide +kernel
theorem dX4_pullsIf_15 : decode cX4_pullsIf 15 = .ok (.getfield 17, 3) := by decide +kernel
theorem dX4_pullsIf_18 : decode cX4_pullsIf 18 = .ok (.iload 4, 2) := by decide +kernel
theorem dX4_pullsIf_20 : decode cX4_pullsIf 20 = .ok (.aaload, 1) := by decide +kernel
theorem dX4_pullsIf_21 : decode cX4_pullsIf 21 = .ok (.astore 5, 2) := by decide +kernel
theorem dX4_pullsIf_23 : decode cX4_pullsIf 23 = .ok (.aload 5, 2) := by decide +kernel
theorem dX4_pullsIf_25 : decode cX4_pullsIf 25 = .ok (.ifnull 38, 3) := by decide +kernel
theorem dX4_pullsIf_28 : decode cX4_pullsIf 28 = .ok (.iload_n 3, 1) := by decide +kernel
theorem dX4_pullsIf_29 : decode cX4_pullsIf 29 = .ok (.aload 5, 2) := by decide +kernel
theorem dX4_pullsIf_31 : decode cX4_pullsIf 31 = .ok (.aload 5, 2) := by decide +kernel
theorem dX4_pullsIf_33 : decode cX4_pullsIf 33 = .ok (.getfield 127, 3) := by decide +kernel
theorem dX4_pullsIf_36 : decode cX4_pullsIf 36 = .ok (.aload 5, 2) := by decide +kernel
theorem dX4_pullsIf_38 : decode cX4_pullsIf 38 = .ok (.getfield 127, 3) := by decide +kernel
theorem dX4_pullsIf_41 : decode cX4_pullsIf 41 = .ok (.iload_n 1, 1) := by decide +kernel
theorem dX4_pullsIf_42 : decode cX4_pullsIf 42 = .ok (.if_icmp .ne 7, 3) := by decide +kernel
theorem dX4_pullsIf_45 : decode cX4_pullsIf 45 = .ok (.iload_n 2, 1) := by decide +kernel
theorem dX4_pullsIf_46 : decode cX4_pullsIf 46 = .ok (.goto 12, 3) := by decide +kernel
theorem dX4_pullsIf_49 : decode cX4_pullsIf 49 = .ok (.aload_n 0, 1) := by decide +kernel
theorem dX4_pullsIf_50 : decode cX4_pullsIf 50 = .ok (.aload 5, 2) := by decide +kernel
theorem dX4_pullsIf_52 : decode cX4_pullsIf 52 = .ok (.getfield 127, 3) := by decide +kernel
theorem dX4_pullsIf_55 : decode cX4_pullsIf 55 = .ok (.invokevirtual 140, 3) := by decide +kernel
theorem dX4_pullsIf_58 : decode cX4_pullsIf 58 = .ok (.invokestatic 143, 3) := by decide +kernel
theorem dX4_pullsIf_61 : decode cX4_pullsIf 61 = .ok (.iadd, 1) := by decide +kernel
theorem dX4_pullsIf_62 : decode cX4_pullsIf 62 = .ok (.istore_n 3, 1) := by decide +kernel
theorem dX4_pullsIf_63 : decode cX4_pullsIf 63 = .ok (.iinc 4 1, 3) := by decide +kernel
theorem dX4_pullsIf_66 : decode cX4_pullsIf 66 = .ok (.goto (-61), 3) := by decide +kernel
theorem dX4_pullsIf_69 : decode cX4_pullsIf 69 = .ok (.iload_n 3, 1) := by decide +kernel
theorem dX4_pullsIf_70 : decode cX4_pullsIf 70 = .ok (.ireturn, 1) := by decide +kernel
