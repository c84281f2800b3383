theorem dX0_far_0 : decode cX0_far 0 = .ok (.iload_n 0, 1) := by decide +kernel
theorem dX0_far_1 : decode cX0_far 1 = .ok (.bipush 6, 2) := by decide +kernel
theorem dX0_far_3 : decode cX0_far 3 = .ok (.idiv, 1) := by decide +kernel
theorem dX0_far_4 : decode cX0_far 4 = .ok (.iload_n 1, 1) := by decide +kernel
theorem dX0_far_5 : decode cX0_far 5 = .ok (.bipush 6, 2) := by decide +kernel
theorem dX0_far_7 : decode cX0_far 7 = .ok (.idiv, 1) := by decide +kernel
theorem dX0_far_8 : decode cX0_far 8 = .ok (.isub, 1) := by decide +kernel
theorem dX0_far_9 : decode cX0_far 9 = .ok (.invokestatic 9, 3) := by decide +kernel
theorem dX0_far_12 : decode cX0_far 12 = .ok (.iload_n 0, 1) := by decide +kernel
theorem dX0_far_13 : decode cX0_far 13 = .ok (.bipush 6, 2) := by decide +kernel
theorem dX0_far_15 : decode cX0_far 15 = .ok (.irem, 1) := by decide +kernel
theorem dX0_far_16 : decode cX0_far 16 = .ok (.iload_n 1, 1) := by decide +kernel
theorem dX0_far_17 : decode cX0_far 17 = .ok (.bipush 6, 2) := by decide +kernel
theorem dX0_far_19 : decode cX0_far 19 = .ok (.irem, 1) := by decide +kernel
theorem dX0_far_20 : decode cX0_far 20 = .ok (.isub, 1) := by decide +kernel
theorem dX0_far_21 : decode cX0_far 21 = .ok (.invokestatic 9, 3) := by decide +kernel
theorem dX0_far_24 : decode cX0_far 24 = .ok (.iadd, 1) := by decide +kernel
theorem dX0_far_25 : decode cX0_far 25 = .ok (.ireturn, 1) := by decide +kernel
theorem dX0_step_0 : decode cX0_step 0 = .ok (.iload_n 1, 1) := by decide +kernel
theorem dX0_step_1 : decode cX0_step 1 = .ok (.bipush 6, 2) := by decide +kernel
theorem dX0_step_3 : decode cX0_step 3 = .ok (.irem, 1) := by decide +kernel
theorem dX0_step_4 : decode cX0_step 4 = .ok (.iload_n 0, 1) := by decide +kernel
theorem dX0_step_5 : decode cX0_step 5 = .ok (.bipush 6, 2) := by decide +kernel
theorem dX0_step_7 : decode cX0_step 7 = .ok (.irem, 1) := by decide +kernel
theorem dX0_step_8 : decode cX0_step 8 = .ok (.isub, 1) := by decide +kernel
theorem dX0_step_9 : decode cX0_step 9 = .ok (.istore_n 2, 1) := by decide +kernel
theorem dX0_step_10 : decode cX0_step 10 = .ok (.iload_n 1, 1) := by decide +kernel
theorem dX0_step_11 : decode cX0_step 11 = .ok (.bipush 6, 2) := by decide +kernel
theorem dX0_step_13 : decode cX0_step 13 = .ok (.idiv, 1) := by decide +kernel
theorem dX0_step_14 : decode cX0_step 14 = .ok (.iload_n 0, 1) := by decide +kernel
theorem dX0_step_15 : decode cX0_step 15 = .ok (.bipush 6, 2) := by decide +kernel
theorem dX0_step_17 : decode cX0_step 17 = .ok (.idiv, 1) := by decide +kernel
theorem dX0_step_18 : decode cX0_step 18 = .ok (.isub, 1) := by decide +kernel
theorem dX0_step_19 : decode cX0_step 19 = .ok (.istore_n 3, 1) := by decide +kernel
theorem dX0_step_20 : decode cX0_step 20 = .ok (.iload_n 2, 1) := by decide +kernel
theorem dX0_step_21 : decode cX0_step 21 = .ok (.ifCond .ne 9, 3) := by decide +kernel
theorem dX0_step_24 : decode cX0_step 24 = .ok (.iload_n 3, 1) := by decide +kernel
theorem dX0_step_25 : decode cX0_step 25 = .ok (.ifCond .ne 5, 3) := by decide +kernel
theorem dX0_step_28 : decode cX0_step 28 = .ok (.iload_n 0, 1) := by decide +kernel
theorem dX0_step_29 : decode cX0_step 29 = .ok (.ireturn, 1) := by decide +kernel
theorem dX0_step_30 : decode cX0_step 30 = .ok (.iload_n 2, 1) := by decide +kernel
theorem dX0_step_31 : decode cX0_step 31 = .ok (.invokestatic 9, 3) := by decide +kernel
theorem dX0_step_34 : decode cX0_step 34 = .ok (.iload_n 3, 1) := by decide +kernel
theorem dX0_step_35 : decode cX0_step 35 = .ok (.invokestatic 9, 3) := by decide +kernel
theorem dX0_step_38 : decode cX0_step 38 = .ok (.if_icmp .lt 17, 3) := by decide +kernel
theorem dX0_step_41 : decode cX0_step 41 = .ok (.iload_n 2, 1) := by decide +kernel
theorem dX0_step_42 : decode cX0_step 42 = .ok (.ifCond .le 9, 3) := by decide +kernel
theorem dX0_step_45 : decode cX0_step 45 = .ok (.iload_n 0, 1) := by decide +kernel
theorem dX0_step_46 : decode cX0_step 46 = .ok (.iconst 1, 1) := by decide +kernel
theorem dX0_step_47 : decode cX0_step 47 = .ok (.iadd, 1) := by decide +kernel
theorem dX0_step_48 : decode cX0_step 48 = .ok (.goto 6, 3) := by decide +kernel
theorem dX0_step_51 : decode cX0_step 51 = .ok (.iload_n 0, 1) := by decide +kernel
theorem dX0_step_52 : decode cX0_step 52 = .ok (.iconst 1, 1) := by decide +kernel
theorem dX0_step_53 : decode cX0_step 53 = .ok (.isub, 1) := by decide +kernel
theorem dX0_step_54 : decode cX0_step 54 = .ok (.ireturn, 1) := by decide +kernel
theorem dX0_step_55 : decode cX0_step 55 = .ok (.iload_n 3, 1) := by decide +kernel
theorem dX0_step_56 : decode cX0_step 56 = .ok (.ifCond .le 10, 3) := by decide +kernel
theorem dX0_step_59 : decode cX0_step 59 = .ok (.iload_n 0, 1) := by decide +kernel
theorem dX0_step_60 : decode cX0_step 60 = .ok (.bipush 6, 2) := by decide +kernel
theorem dX0_step_62 : decode cX0_step 62 = .ok (.iadd, 1) := by decide +kernel
theorem dX0_step_63 : decode cX0_step 63 = .ok (.goto 7, 3) := by decide +kernel
theorem dX0_step_66 : decode cX0_step 66 = .ok (.iload_n 0, 1) := by decide +kernel
theorem dX0_step_67 : decode cX0_step 67 = .ok (.bipush 6, 2) := by decide +kernel
theorem dX0_step_69 : decode cX0_step 69 = .ok (.isub, 1) := by decide +kernel
theorem dX0_step_70 : decode cX0_step 70 = .ok (.ireturn, 1) := by decide +kernel
theorem dX0_beside_0 : decode cX0_beside 0 = .ok (.iload_n 0, 1) := by decide +kernel
theorem dX0_beside_1 : decode cX0_beside 1 = .ok (.bipush 6, 2) := by decide +kernel
theorem dX0_beside_3 : decode cX0_beside 3 = .ok (.idiv, 1) := by decide +kernel
theorem dX0_beside_4 : decode cX0_beside 4 = .ok (.istore_n 2, 1) := by decide +kernel
theorem dX0_beside_5 : decode cX0_beside 5 = .ok (.iload_n 0, 1) := by decide +kernel
theorem dX0_beside_6 : decode cX0_beside 6 = .ok (.bipush 6, 2) := by decide +kernel
theorem dX0_beside_8 : decode cX0_beside 8 = .ok (.irem, 1) := by decide +kernel
theorem dX0_beside_9 : decode cX0_beside 9 = .ok (.istore_n 3, 1) := by decide +kernel
theorem dX0_beside_10 : decode cX0_beside 10 = .ok (.iload_n 1, 1) := by decide +kernel
theorem dX0_beside_11 : decode cX0_beside 11 = .ok (.tableswitch 81 0 3 #[29, 42, 56, 68], 29) := by decide +kernel
theorem dX0_beside_40 : decode cX0_beside 40 = .ok (.iload_n 3, 1) := by decide +kernel
theorem dX0_beside_41 : decode cX0_beside 41 = .ok (.iconst 5, 1) := by decide +kernel
theorem dX0_beside_42 : decode cX0_beside 42 = .ok (.if_icmp .ge 9, 3) := by decide +kernel
theorem dX0_beside_45 : decode cX0_beside 45 = .ok (.iload_n 0, 1) := by decide +kernel
theorem dX0_beside_46 : decode cX0_beside 46 = .ok (.iconst 1, 1) := by decide +kernel
theorem dX0_beside_47 : decode cX0_beside 47 = .ok (.iadd, 1) := by decide +kernel
theorem dX0_beside_48 : decode cX0_beside 48 = .ok (.goto 4, 3) := by decide +kernel
theorem dX0_beside_51 : decode cX0_beside 51 = .ok (.iconst (-1), 1) := by decide +kernel
theorem dX0_beside_52 : decode cX0_beside 52 = .ok (.ireturn, 1) := by decide +kernel
theorem dX0_beside_53 : decode cX0_beside 53 = .ok (.iload_n 2, 1) := by decide +kernel
theorem dX0_beside_54 : decode cX0_beside 54 = .ok (.iconst 3, 1) := by decide +kernel
theorem dX0_beside_55 : decode cX0_beside 55 = .ok (.if_icmp .ge 10, 3) := by decide +kernel
theorem dX0_beside_58 : decode cX0_beside 58 = .ok (.iload_n 0, 1) := by decide +kernel
theorem dX0_beside_59 : decode cX0_beside 59 = .ok (.bipush 6, 2) := by decide +kernel
theorem dX0_beside_61 : decode cX0_beside 61 = .ok (.iadd, 1) := by decide +kernel
theorem dX0_beside_62 : decode cX0_beside 62 = .ok (.goto 4, 3) := by decide +kernel
theorem dX0_beside_65 : decode cX0_beside 65 = .ok (.iconst (-1), 1) := by decide +kernel
theorem dX0_beside_66 : decode cX0_beside 66 = .ok (.ireturn, 1) := by decide +kernel
theorem dX0_beside_67 : decode cX0_beside 67 = .ok (.iload_n 3, 1) := by decide +kernel
theorem dX0_beside_68 : decode cX0_beside 68 = .ok (.ifCond .le 9, 3) := by decide +kernel
theorem dX0_beside_71 : decode cX0_beside 71 = .ok (.iload_n 0, 1) := by decide +kernel
theorem dX0_beside_72 : decode cX0_beside 72 = .ok (.iconst 1, 1) := by decide +kernel
theorem dX0_beside_73 : decode cX0_beside 73 = .ok (.isub, 1) := by decide +kernel
theorem dX0_beside_74 : decode cX0_beside 74 = .ok (.goto 4, 3) := by decide +kernel
theorem dX0_beside_77 : decode cX0_beside 77 = .ok (.iconst (-1), 1) := by decide +kernel
theorem dX0_beside_78 : decode cX0_beside 78 = .ok (.ireturn, 1) := by decide +kernel
theorem dX0_beside_79 : decode cX0_beside 79 = .ok (.iload_n 2, 1) := by decide +kernel
theorem dX0_beside_80 : decode cX0_beside 80 = .ok (.ifCond .le 10, 3) := by decide +kernel
theorem dX0_beside_83 : decode cX0_beside 83 = .ok (.iload_n 0, 1) := by decide +kernel
theorem dX0_beside_84 : decode cX0_beside 84 = .ok (.bipush 6, 2) := by decide +kernel
theorem dX0_beside_86 : decode cX0_beside 86 = .ok (.isub, 1) := by decide +kernel
theorem dX0_beside_87 : decode cX0_beside 87 = .ok (.goto 4, 3) := by decide +kernel
theorem dX0_beside_90 : decode cX0_beside 90 = .ok (.iconst (-1), 1) := by decide +kernel
theorem dX0_beside_91 : decode cX0_beside 91 = .ok (.ireturn, 1) := by decide +kernel
theorem dX0_beside_92 : decode cX0_beside 92 = .ok (.iload_n 0, 1) := by decide +kernel
theorem dX0_beside_93 : decode cX0_beside 93 = .ok (.ireturn, 1) := by decide +kernel
theorem dX1_init_0 : decode cX1_init 0 = .ok (.aload_n 0, 1) := by decide +kernel
theorem dX1_init_1 : decode cX1_init 1 = .ok (.invokespecial 3, 3) := by decide +kernel
theorem dX1_init_4 : decode cX1_init 4 = .ok (.aload_n 0, 1) := by decide +kernel
theorem dX1_init_5 : decode cX1_init 5 = .ok (.iconst 5, 1) := by decide +kernel
theorem dX1_init_6 : decode cX1_init 6 = .ok (.newarray .int, 2) := by decide +kernel
theorem dX1_init_8 : decode cX1_init 8 = .ok (.putfield 9, 3) := by decide +kernel
theorem dX1_init_11 : decode cX1_init 11 = .ok (.aload_n 0, 1) := by decide +kernel
theorem dX1_init_12 : decode cX1_init 12 = .ok (.iconst 5, 1) := by decide +kernel
theorem dX1_init_13 : decode cX1_init 13 = .ok (.newarray .int, 2) := by decide +kernel
theorem dX1_init_15 : decode cX1_init 15 = .ok (.putfield 15, 3) := by decide +kernel
theorem dX1_init_18 : decode cX1_init 18 = .ok (.aload_n 0, 1) := by decide +kernel
theorem dX1_init_19 : decode cX1_init 19 = .ok (.iconst 5, 1) := by decide +kernel
theorem dX1_init_20 : decode cX1_init 20 = .ok (.newarray .int, 2) := by decide +kernel
theorem dX1_init_22 : decode cX1_init 22 = .ok (.putfield 18, 3) := by decide +kernel
theorem dX1_init_25 : decode cX1_init 25 = .ok (.aload_n 0, 1) := by decide +kernel
theorem dX1_init_26 : decode cX1_init 26 = .ok (.iconst 5, 1) := by decide +kernel
theorem dX1_init_27 : decode cX1_init 27 = .ok (.newarray .int, 2) := by decide +kernel
theorem dX1_init_29 : decode cX1_init 29 = .ok (.putfield 21, 3) := by decide +kernel
theorem dX1_init_32 : decode cX1_init 32 = .ok (.aload_n 0, 1) := by decide +kernel
theorem dX1_init_33 : decode cX1_init 33 = .ok (.bipush 6, 2) := by decide +kernel
theorem dX1_init_35 : decode cX1_init 35 = .ok (.newarray .int, 2) := by decide +kernel
theorem dX1_init_37 : decode cX1_init 37 = .ok (.putfield 24, 3) := by decide +kernel
theorem dX1_init_40 : decode cX1_init 40 = .ok (.aload_n 0, 1) := by decide +kernel
theorem dX1_init_41 : decode cX1_init 41 = .ok (.bipush 6, 2) := by decide +kernel
theorem dX1_init_43 : decode cX1_init 43 = .ok (.newarray .int, 2) := by decide +kernel
theorem dX1_init_45 : decode cX1_init 45 = .ok (.putfield 27, 3) := by decide +kernel
theorem dX1_init_48 : decode cX1_init 48 = .ok (.aload_n 0, 1) := by decide +kernel
theorem dX1_init_49 : decode cX1_init 49 = .ok (.iconst 3, 1) := by decide +kernel
theorem dX1_init_50 : decode cX1_init 50 = .ok (.newarray .int, 2) := by decide +kernel
theorem dX1_init_52 : decode cX1_init 52 = .ok (.putfield 30, 3) := by decide +kernel
theorem dX1_init_55 : decode cX1_init 55 = .ok (.aload_n 0, 1) := by decide +kernel
theorem dX1_init_56 : decode cX1_init 56 = .ok (.iconst 5, 1) := by decide +kernel
theorem dX1_init_57 : decode cX1_init 57 = .ok (.newarray .int, 2) := by decide +kernel
theorem dX1_init_59 : decode cX1_init 59 = .ok (.putfield 33, 3) := by decide +kernel
theorem dX1_init_62 : decode cX1_init 62 = .ok (.aload_n 0, 1) := by decide +kernel
theorem dX1_init_63 : decode cX1_init 63 = .ok (.iconst 5, 1) := by decide +kernel
theorem dX1_init_64 : decode cX1_init 64 = .ok (.newarray .int, 2) := by decide +kernel
theorem dX1_init_66 : decode cX1_init 66 = .ok (.putfield 36, 3) := by decide +kernel
theorem dX1_init_69 : decode cX1_init 69 = .ok (.aload_n 0, 1) := by decide +kernel
theorem dX1_init_70 : decode cX1_init 70 = .ok (.iconst 0, 1) := by decide +kernel
theorem dX1_init_71 : decode cX1_init 71 = .ok (.putfield 39, 3) := by decide +kernel
theorem dX1_init_74 : decode cX1_init 74 = .ok (.aload_n 0, 1) := by decide +kernel
theorem dX1_init_75 : decode cX1_init 75 = .ok (.iconst 0, 1) := by decide +kernel
theorem dX1_init_76 : decode cX1_init 76 = .ok (.putfield 43, 3) := by decide +kernel
theorem dX1_init_79 : decode cX1_init 79 = .ok (.aload_n 0, 1) := by decide +kernel
theorem dX1_init_80 : decode cX1_init 80 = .ok (.iconst 0, 1) := by decide +kernel
theorem dX1_init_81 : decode cX1_init 81 = .ok (.putfield 46, 3) := by decide +kernel
theorem dX1_init_84 : decode cX1_init 84 = .ok (.aload_n 0, 1) := by decide +kernel
theorem dX1_init_85 : decode cX1_init 85 = .ok (.iconst 0, 1) := by decide +kernel
theorem dX1_init_86 : decode cX1_init 86 = .ok (.putfield 49, 3) := by decide +kernel
theorem dX1_init_89 : decode cX1_init 89 = .ok (.return_, 1) := by decide +kernel
theorem dX1_empty_0 : decode cX1_empty 0 = .ok (.aload_n 0, 1) := by decide +kernel
theorem dX1_empty_1 : decode cX1_empty 1 = .ok (.iconst 0, 1) := by decide +kernel
theorem dX1_empty_2 : decode cX1_empty 2 = .ok (.putfield 39, 3) := by decide +kernel
theorem dX1_empty_5 : decode cX1_empty 5 = .ok (.aload_n 0, 1) := by decide +kernel
theorem dX1_empty_6 : decode cX1_empty 6 = .ok (.iconst 0, 1) := by decide +kernel
theorem dX1_empty_7 : decode cX1_empty 7 = .ok (.putfield 43, 3) := by decide +kernel
theorem dX1_empty_10 : decode cX1_empty 10 = .ok (.aload_n 0, 1) := by decide +kernel
theorem dX1_empty_11 : decode cX1_empty 11 = .ok (.iconst 0, 1) := by decide +kernel
theorem dX1_empty_12 : decode cX1_empty 12 = .ok (.putfield 46, 3) := by decide +kernel
theorem dX1_empty_15 : decode cX1_empty 15 = .ok (.aload_n 0, 1) := by decide +kernel
theorem dX1_empty_16 : decode cX1_empty 16 = .ok (.iconst 0, 1) := by decide +kernel
theorem dX1_empty_17 : decode cX1_empty 17 = .ok (.putfield 49, 3) := by decide +kernel
theorem dX1_empty_20 : decode cX1_empty 20 = .ok (.return_, 1) := by decide +kernel
theorem dX1_becomes_0 : decode cX1_becomes 0 = .ok (.aload_n 1, 1) := by decide +kernel
theorem dX1_becomes_1 : decode cX1_becomes 1 = .ok (.getfield 9, 3) := by decide +kernel
theorem dX1_becomes_4 : decode cX1_becomes 4 = .ok (.iconst 0, 1) := by decide +kernel
theorem dX1_becomes_5 : decode cX1_becomes 5 = .ok (.aload_n 0, 1) := by decide +kernel
theorem dX1_becomes_6 : decode cX1_becomes 6 = .ok (.getfield 9, 3) := by decide +kernel
theorem dX1_becomes_9 : decode cX1_becomes 9 = .ok (.iconst 0, 1) := by decide +kernel
theorem dX1_becomes_10 : decode cX1_becomes 10 = .ok (.iconst 5, 1) := by decide +kernel
theorem dX1_becomes_11 : decode cX1_becomes 11 = .ok (.invokestatic 52, 3) := by decide +kernel
theorem dX1_becomes_14 : decode cX1_becomes 14 = .ok (.aload_n 1, 1) := by decide +kernel
theorem dX1_becomes_15 : decode cX1_becomes 15 = .ok (.getfield 15, 3) := by decide +kernel
theorem dX1_becomes_18 : decode cX1_becomes 18 = .ok (.iconst 0, 1) := by decide +kernel
theorem dX1_becomes_19 : decode cX1_becomes 19 = .ok (.aload_n 0, 1) := by decide +kernel
theorem dX1_becomes_20 : decode cX1_becomes 20 = .ok (.getfield 15, 3) := by decide +kernel
theorem dX1_becomes_23 : decode cX1_becomes 23 = .ok (.iconst 0, 1) := by decide +kernel
theorem dX1_becomes_24 : decode cX1_becomes 24 = .ok (.iconst 5, 1) := by decide +kernel
theorem dX1_becomes_25 : decode cX1_becomes 25 = .ok (.invokestatic 52, 3) := by decide +kernel
theorem dX1_becomes_28 : decode cX1_becomes 28 = .ok (.aload_n 1, 1) := by decide +kernel
theorem dX1_becomes_29 : decode cX1_becomes 29 = .ok (.getfield 18, 3) := by decide +kernel
theorem dX1_becomes_32 : decode cX1_becomes 32 = .ok (.iconst 0, 1) := by decide +kernel
theorem dX1_becomes_33 : decode cX1_becomes 33 = .ok (.aload_n 0, 1) := by decide +kernel
theorem dX1_becomes_34 : decode cX1_becomes 34 = .ok (.getfield 18, 3) := by decide +kernel
theorem dX1_becomes_37 : decode cX1_becomes 37 = .ok (.iconst 0, 1) := by decide +kernel
theorem dX1_becomes_38 : decode cX1_becomes 38 = .ok (.iconst 5, 1) := by decide +kernel
theorem dX1_becomes_39 : decode cX1_becomes 39 = .ok (.invokestatic 52, 3) := by decide +kernel
theorem dX1_becomes_42 : decode cX1_becomes 42 = .ok (.aload_n 1, 1) := by decide +kernel
theorem dX1_becomes_43 : decode cX1_becomes 43 = .ok (.getfield 21, 3) := by decide +kernel
theorem dX1_becomes_46 : decode cX1_becomes 46 = .ok (.iconst 0, 1) := by decide +kernel
theorem dX1_becomes_47 : decode cX1_becomes 47 = .ok (.aload_n 0, 1) := by decide +kernel
theorem dX1_becomes_48 : decode cX1_becomes 48 = .ok (.getfield 21, 3) := by decide +kernel
theorem dX1_becomes_51 : decode cX1_becomes 51 = .ok (.iconst 0, 1) := by decide +kernel
theorem dX1_becomes_52 : decode cX1_becomes 52 = .ok (.iconst 5, 1) := by decide +kernel
theorem dX1_becomes_53 : decode cX1_becomes 53 = .ok (.invokestatic 52, 3) := by decide +kernel
theorem dX1_becomes_56 : decode cX1_becomes 56 = .ok (.aload_n 1, 1) := by decide +kernel
theorem dX1_becomes_57 : decode cX1_becomes 57 = .ok (.getfield 24, 3) := by decide +kernel
theorem dX1_becomes_60 : decode cX1_becomes 60 = .ok (.iconst 0, 1) := by decide +kernel
theorem dX1_becomes_61 : decode cX1_becomes 61 = .ok (.aload_n 0, 1) := by decide +kernel
theorem dX1_becomes_62 : decode cX1_becomes 62 = .ok (.getfield 24, 3) := by decide +kernel
theorem dX1_becomes_65 : decode cX1_becomes 65 = .ok (.iconst 0, 1) := by decide +kernel
theorem dX1_becomes_66 : decode cX1_becomes 66 = .ok (.bipush 6, 2) := by decide +kernel
theorem dX1_becomes_68 : decode cX1_becomes 68 = .ok (.invokestatic 52, 3) := by decide +kernel
theorem dX1_becomes_71 : decode cX1_becomes 71 = .ok (.aload_n 1, 1) := by decide +kernel
theorem dX1_becomes_72 : decode cX1_becomes 72 = .ok (.getfield 27, 3) := by decide +kernel
theorem dX1_becomes_75 : decode cX1_becomes 75 = .ok (.iconst 0, 1) := by decide +kernel
theorem dX1_becomes_76 : decode cX1_becomes 76 = .ok (.aload_n 0, 1) := by decide +kernel
theorem dX1_becomes_77 : decode cX1_becomes 77 = .ok (.getfield 27, 3) := by decide +kernel
theorem dX1_becomes_80 : decode cX1_becomes 80 = .ok (.iconst 0, 1) := by decide +kernel
theorem dX1_becomes_81 : decode cX1_becomes 81 = .ok (.bipush 6, 2) := by decide +kernel
theorem dX1_becomes_83 : decode cX1_becomes 83 = .ok (.invokestatic 52, 3) := by decide +kernel
theorem dX1_becomes_86 : decode cX1_becomes 86 = .ok (.aload_n 1, 1) := by decide +kernel
theorem dX1_becomes_87 : decode cX1_becomes 87 = .ok (.getfield 30, 3) := by decide +kernel
theorem dX1_becomes_90 : decode cX1_becomes 90 = .ok (.iconst 0, 1) := by decide +kernel
theorem dX1_becomes_91 : decode cX1_becomes 91 = .ok (.aload_n 0, 1) := by decide +kernel
theorem dX1_becomes_92 : decode cX1_becomes 92 = .ok (.getfield 30, 3) := by decide +kernel
theorem dX1_becomes_95 : decode cX1_becomes 95 = .ok (.iconst 0, 1) := by decide +kernel
theorem dX1_becomes_96 : decode cX1_becomes 96 = .ok (.iconst 3, 1) := by decide +kernel
theorem dX1_becomes_97 : decode cX1_becomes 97 = .ok (.invokestatic 52, 3) := by decide +kernel
theorem dX1_becomes_100 : decode cX1_becomes 100 = .ok (.aload_n 0, 1) := by decide +kernel
theorem dX1_becomes_101 : decode cX1_becomes 101 = .ok (.aload_n 1, 1) := by decide +kernel
theorem dX1_becomes_102 : decode cX1_becomes 102 = .ok (.getfield 39, 3) := by decide +kernel
theorem dX1_becomes_105 : decode cX1_becomes 105 = .ok (.putfield 39, 3) := by decide +kernel
theorem dX1_becomes_108 : decode cX1_becomes 108 = .ok (.aload_n 0, 1) := by decide +kernel
theorem dX1_becomes_109 : decode cX1_becomes 109 = .ok (.aload_n 1, 1) := by decide +kernel
theorem dX1_becomes_110 : decode cX1_becomes 110 = .ok (.getfield 43, 3) := by decide +kernel
theorem dX1_becomes_113 : decode cX1_becomes 113 = .ok (.putfield 43, 3) := by decide +kernel
theorem dX1_becomes_116 : decode cX1_becomes 116 = .ok (.aload_n 0, 1) := by decide +kernel
theorem dX1_becomes_117 : decode cX1_becomes 117 = .ok (.aload_n 1, 1) := by decide +kernel
theorem dX1_becomes_118 : decode cX1_becomes 118 = .ok (.getfield 46, 3) := by decide +kernel
theorem dX1_becomes_121 : decode cX1_becomes 121 = .ok (.putfield 46, 3) := by decide +kernel
theorem dX1_becomes_124 : decode cX1_becomes 124 = .ok (.aload_n 0, 1) := by decide +kernel
theorem dX1_becomes_125 : decode cX1_becomes 125 = .ok (.aload_n 1, 1) := by decide +kernel
theorem dX1_becomes_126 : decode cX1_becomes 126 = .ok (.getfield 49, 3) := by decide +kernel
theorem dX1_becomes_129 : decode cX1_becomes 129 = .ok (.putfield 49, 3) := by decide +kernel
theorem dX1_becomes_132 : decode cX1_becomes 132 = .ok (.return_, 1) := by decide +kernel
theorem dX1_addCosy_0 : decode cX1_addCosy 0 = .ok (.aload_n 0, 1) := by decide +kernel
theorem dX1_addCosy_1 : decode cX1_addCosy 1 = .ok (.getfield 39, 3) := by decide +kernel
theorem dX1_addCosy_4 : decode cX1_addCosy 4 = .ok (.iconst 5, 1) := by decide +kernel
theorem dX1_addCosy_5 : decode cX1_addCosy 5 = .ok (.if_icmp .lt 6, 3) := by decide +kernel
theorem dX1_addCosy_8 : decode cX1_addCosy 8 = .ok (.bipush (-4), 2) := by decide +kernel
theorem dX1_addCosy_10 : decode cX1_addCosy 10 = .ok (.ireturn, 1) := by decide +kernel
theorem dX1_addCosy_11 : decode cX1_addCosy 11 = .ok (.aload_n 0, 1) := by decide +kernel
theorem dX1_addCosy_12 : decode cX1_addCosy 12 = .ok (.getfield 9, 3) := by decide +kernel
theorem dX1_addCosy_15 : decode cX1_addCosy 15 = .ok (.aload_n 0, 1) := by decide +kernel
theorem dX1_addCosy_16 : decode cX1_addCosy 16 = .ok (.getfield 39, 3) := by decide +kernel
theorem dX1_addCosy_19 : decode cX1_addCosy 19 = .ok (.iload_n 1, 1) := by decide +kernel
theorem dX1_addCosy_20 : decode cX1_addCosy 20 = .ok (.iastore, 1) := by decide +kernel
theorem dX1_addCosy_21 : decode cX1_addCosy 21 = .ok (.aload_n 0, 1) := by decide +kernel
theorem dX1_addCosy_22 : decode cX1_addCosy 22 = .ok (.getfield 15, 3) := by decide +kernel
theorem dX1_addCosy_25 : decode cX1_addCosy 25 = .ok (.aload_n 0, 1) := by decide +kernel
theorem dX1_addCosy_26 : decode cX1_addCosy 26 = .ok (.getfield 39, 3) := by decide +kernel
theorem dX1_addCosy_29 : decode cX1_addCosy 29 = .ok (.iload_n 2, 1) := by decide +kernel
theorem dX1_addCosy_30 : decode cX1_addCosy 30 = .ok (.iastore, 1) := by decide +kernel
theorem dX1_addCosy_31 : decode cX1_addCosy 31 = .ok (.aload_n 0, 1) := by decide +kernel
theorem dX1_addCosy_32 : decode cX1_addCosy 32 = .ok (.getfield 18, 3) := by decide +kernel
theorem dX1_addCosy_35 : decode cX1_addCosy 35 = .ok (.aload_n 0, 1) := by decide +kernel
theorem dX1_addCosy_36 : decode cX1_addCosy 36 = .ok (.getfield 39, 3) := by decide +kernel
theorem dX1_addCosy_39 : decode cX1_addCosy 39 = .ok (.iload_n 3, 1) := by decide +kernel
theorem dX1_addCosy_40 : decode cX1_addCosy 40 = .ok (.iastore, 1) := by decide +kernel
theorem dX1_addCosy_41 : decode cX1_addCosy 41 = .ok (.aload_n 0, 1) := by decide +kernel
theorem dX1_addCosy_42 : decode cX1_addCosy 42 = .ok (.getfield 21, 3) := by decide +kernel
theorem dX1_addCosy_45 : decode cX1_addCosy 45 = .ok (.aload_n 0, 1) := by decide +kernel
theorem dX1_addCosy_46 : decode cX1_addCosy 46 = .ok (.getfield 39, 3) := by decide +kernel
theorem dX1_addCosy_49 : decode cX1_addCosy 49 = .ok (.iconst 0, 1) := by decide +kernel
theorem dX1_addCosy_50 : decode cX1_addCosy 50 = .ok (.iastore, 1) := by decide +kernel
theorem dX1_addCosy_51 : decode cX1_addCosy 51 = .ok (.aload_n 0, 1) := by decide +kernel
theorem dX1_addCosy_52 : decode cX1_addCosy 52 = .ok (.dup, 1) := by decide +kernel
theorem dX1_addCosy_53 : decode cX1_addCosy 53 = .ok (.getfield 39, 3) := by decide +kernel
theorem dX1_addCosy_56 : decode cX1_addCosy 56 = .ok (.iconst 1, 1) := by decide +kernel
theorem dX1_addCosy_57 : decode cX1_addCosy 57 = .ok (.iadd, 1) := by decide +kernel
theorem dX1_addCosy_58 : decode cX1_addCosy 58 = .ok (.putfield 39, 3) := by decide +kernel
theorem dX1_addCosy_61 : decode cX1_addCosy 61 = .ok (.aload_n 0, 1) := by decide +kernel
theorem dX1_addCosy_62 : decode cX1_addCosy 62 = .ok (.getfield 39, 3) := by decide +kernel
theorem dX1_addCosy_65 : decode cX1_addCosy 65 = .ok (.iconst 1, 1) := by decide +kernel
theorem dX1_addCosy_66 : decode cX1_addCosy 66 = .ok (.isub, 1) := by decide +kernel
theorem dX1_addCosy_67 : decode cX1_addCosy 67 = .ok (.ireturn, 1) := by decide +kernel
theorem dX1_addHunted_0 : decode cX1_addHunted 0 = .ok (.aload_n 0, 1) := by decide +kernel
theorem dX1_addHunted_1 : decode cX1_addHunted 1 = .ok (.getfield 43, 3) := by decide +kernel
theorem dX1_addHunted_4 : decode cX1_addHunted 4 = .ok (.bipush 6, 2) := by decide +kernel
theorem dX1_addHunted_6 : decode cX1_addHunted 6 = .ok (.if_icmp .lt 6, 3) := by decide +kernel
theorem dX1_addHunted_9 : decode cX1_addHunted 9 = .ok (.bipush (-4), 2) := by decide +kernel
theorem dX1_addHunted_11 : decode cX1_addHunted 11 = .ok (.ireturn, 1) := by decide +kernel
theorem dX1_addHunted_12 : decode cX1_addHunted 12 = .ok (.aload_n 0, 1) := by decide +kernel
theorem dX1_addHunted_13 : decode cX1_addHunted 13 = .ok (.aload_n 0, 1) := by decide +kernel
theorem dX1_addHunted_14 : decode cX1_addHunted 14 = .ok (.getfield 43, 3) := by decide +kernel
theorem dX1_addHunted_17 : decode cX1_addHunted 17 = .ok (.iload_n 1, 1) := by decide +kernel
theorem dX1_addHunted_18 : decode cX1_addHunted 18 = .ok (.invokevirtual 58, 3) := by decide +kernel
theorem dX1_addHunted_21 : decode cX1_addHunted 21 = .ok (.aload_n 0, 1) := by decide +kernel
theorem dX1_addHunted_22 : decode cX1_addHunted 22 = .ok (.dup, 1) := by decide +kernel
theorem dX1_addHunted_23 : decode cX1_addHunted 23 = .ok (.getfield 43, 3) := by decide +kernel
theorem dX1_addHunted_26 : decode cX1_addHunted 26 = .ok (.iconst 1, 1) := by decide +kernel
theorem dX1_addHunted_27 : decode cX1_addHunted 27 = .ok (.iadd, 1) := by decide +kernel
theorem dX1_addHunted_28 : decode cX1_addHunted 28 = .ok (.putfield 43, 3) := by decide +kernel
theorem dX1_addHunted_31 : decode cX1_addHunted 31 = .ok (.aload_n 0, 1) := by decide +kernel
theorem dX1_addHunted_32 : decode cX1_addHunted 32 = .ok (.getfield 43, 3) := by decide +kernel
theorem dX1_addHunted_35 : decode cX1_addHunted 35 = .ok (.iconst 1, 1) := by decide +kernel
theorem dX1_addHunted_36 : decode cX1_addHunted 36 = .ok (.isub, 1) := by decide +kernel
theorem dX1_addHunted_37 : decode cX1_addHunted 37 = .ok (.ireturn, 1) := by decide +kernel
theorem dX1_addSheriff_0 : decode cX1_addSheriff 0 = .ok (.aload_n 0, 1) := by decide +kernel
theorem dX1_addSheriff_1 : decode cX1_addSheriff 1 = .ok (.getfield 46, 3) := by decide +kernel
theorem dX1_addSheriff_4 : decode cX1_addSheriff 4 = .ok (.iconst 3, 1) := by decide +kernel
theorem dX1_addSheriff_5 : decode cX1_addSheriff 5 = .ok (.if_icmp .lt 6, 3) := by decide +kernel
theorem dX1_addSheriff_8 : decode cX1_addSheriff 8 = .ok (.bipush (-4), 2) := by decide +kernel
theorem dX1_addSheriff_10 : decode cX1_addSheriff 10 = .ok (.ireturn, 1) := by decide +kernel
theorem dX1_addSheriff_11 : decode cX1_addSheriff 11 = .ok (.aload_n 0, 1) := by decide +kernel
theorem dX1_addSheriff_12 : decode cX1_addSheriff 12 = .ok (.getfield 30, 3) := by decide +kernel
theorem dX1_addSheriff_15 : decode cX1_addSheriff 15 = .ok (.aload_n 0, 1) := by decide +kernel
theorem dX1_addSheriff_16 : decode cX1_addSheriff 16 = .ok (.getfield 46, 3) := by decide +kernel
theorem dX1_addSheriff_19 : decode cX1_addSheriff 19 = .ok (.iload_n 1, 1) := by decide +kernel
theorem dX1_addSheriff_20 : decode cX1_addSheriff 20 = .ok (.iastore, 1) := by decide +kernel
theorem dX1_addSheriff_21 : decode cX1_addSheriff 21 = .ok (.aload_n 0, 1) := by decide +kernel
theorem dX1_addSheriff_22 : decode cX1_addSheriff 22 = .ok (.dup, 1) := by decide +kernel
theorem dX1_addSheriff_23 : decode cX1_addSheriff 23 = .ok (.getfield 46, 3) := by decide +kernel
theorem dX1_addSheriff_26 : decode cX1_addSheriff 26 = .ok (.iconst 1, 1) := by decide +kernel
theorem dX1_addSheriff_27 : decode cX1_addSheriff 27 = .ok (.iadd, 1) := by decide +kernel
theorem dX1_addSheriff_28 : decode cX1_addSheriff 28 = .ok (.putfield 46, 3) := by decide +kernel
theorem dX1_addSheriff_31 : decode cX1_addSheriff 31 = .ok (.aload_n 0, 1) := by decide +kernel
theorem dX1_addSheriff_32 : decode cX1_addSheriff 32 = .ok (.getfield 46, 3) := by decide +kernel
theorem dX1_addSheriff_35 : decode cX1_addSheriff 35 = .ok (.iconst 1, 1) := by decide +kernel
theorem dX1_addSheriff_36 : decode cX1_addSheriff 36 = .ok (.isub, 1) := by decide +kernel
theorem dX1_addSheriff_37 : decode cX1_addSheriff 37 = .ok (.ireturn, 1) := by decide +kernel
theorem dX1_setFree_0 : decode cX1_setFree 0 = .ok (.aload_n 0, 1) := by decide +kernel
theorem dX1_setFree_1 : decode cX1_setFree 1 = .ok (.getfield 24, 3) := by decide +kernel
theorem dX1_setFree_4 : decode cX1_setFree 4 = .ok (.iload_n 1, 1) := by decide +kernel
theorem dX1_setFree_5 : decode cX1_setFree 5 = .ok (.iload_n 2, 1) := by decide +kernel
theorem dX1_setFree_6 : decode cX1_setFree 6 = .ok (.iastore, 1) := by decide +kernel
theorem dX1_setFree_7 : decode cX1_setFree 7 = .ok (.aload_n 0, 1) := by decide +kernel
theorem dX1_setFree_8 : decode cX1_setFree 8 = .ok (.getfield 27, 3) := by decide +kernel
theorem dX1_setFree_11 : decode cX1_setFree 11 = .ok (.iload_n 1, 1) := by decide +kernel
theorem dX1_setFree_12 : decode cX1_setFree 12 = .ok (.iconst (-1), 1) := by decide +kernel
theorem dX1_setFree_13 : decode cX1_setFree 13 = .ok (.iastore, 1) := by decide +kernel
theorem dX1_setFree_14 : decode cX1_setFree 14 = .ok (.return_, 1) := by decide +kernel
theorem dX1_setWear_0 : decode cX1_setWear 0 = .ok (.iload_n 1, 1) := by decide +kernel
theorem dX1_setWear_1 : decode cX1_setWear 1 = .ok (.iconst 0, 1) := by decide +kernel
theorem dX1_setWear_2 : decode cX1_setWear 2 = .ok (.aload_n 0, 1) := by decide +kernel
theorem dX1_setWear_3 : decode cX1_setWear 3 = .ok (.getfield 39, 3) := by decide +kernel
theorem dX1_setWear_6 : decode cX1_setWear 6 = .ok (.iconst 1, 1) := by decide +kernel
theorem dX1_setWear_7 : decode cX1_setWear 7 = .ok (.isub, 1) := by decide +kernel
theorem dX1_setWear_8 : decode cX1_setWear 8 = .ok (.invokestatic 62, 3) := by decide +kernel
theorem dX1_setWear_11 : decode cX1_setWear 11 = .ok (.ifCond .eq 10, 3) := by decide +kernel
theorem dX1_setWear_14 : decode cX1_setWear 14 = .ok (.aload_n 0, 1) := by decide +kernel
theorem dX1_setWear_15 : decode cX1_setWear 15 = .ok (.getfield 21, 3) := by decide +kernel
theorem dX1_setWear_18 : decode cX1_setWear 18 = .ok (.iload_n 1, 1) := by decide +kernel
theorem dX1_setWear_19 : decode cX1_setWear 19 = .ok (.iload_n 2, 1) := by decide +kernel
theorem dX1_setWear_20 : decode cX1_setWear 20 = .ok (.iastore, 1) := by decide +kernel
theorem dX1_setWear_21 : decode cX1_setWear 21 = .ok (.return_, 1) := by decide +kernel
theorem dX1_moveCosy_0 : decode cX1_moveCosy 0 = .ok (.aload_n 0, 1) := by decide +kernel
theorem dX1_moveCosy_1 : decode cX1_moveCosy 1 = .ok (.getfield 15, 3) := by decide +kernel
theorem dX1_moveCosy_4 : decode cX1_moveCosy 4 = .ok (.iload_n 1, 1) := by decide +kernel
theorem dX1_moveCosy_5 : decode cX1_moveCosy 5 = .ok (.iload_n 2, 1) := by decide +kernel
theorem dX1_moveCosy_6 : decode cX1_moveCosy 6 = .ok (.iastore, 1) := by decide +kernel
theorem dX1_moveCosy_7 : decode cX1_moveCosy 7 = .ok (.iconst 0, 1) := by decide +kernel
theorem dX1_moveCosy_8 : decode cX1_moveCosy 8 = .ok (.istore_n 3, 1) := by decide +kernel
theorem dX1_moveCosy_9 : decode cX1_moveCosy 9 = .ok (.iload_n 3, 1) := by decide +kernel
theorem dX1_moveCosy_10 : decode cX1_moveCosy 10 = .ok (.aload_n 0, 1) := by decide +kernel
theorem dX1_moveCosy_11 : decode cX1_moveCosy 11 = .ok (.getfield 43, 3) := by decide +kernel
theorem dX1_moveCosy_14 : decode cX1_moveCosy 14 = .ok (.if_icmp .ge 26, 3) := by decide +kernel
theorem dX1_moveCosy_17 : decode cX1_moveCosy 17 = .ok (.aload_n 0, 1) := by decide +kernel
theorem dX1_moveCosy_18 : decode cX1_moveCosy 18 = .ok (.getfield 27, 3) := by decide +kernel
theorem dX1_moveCosy_21 : decode cX1_moveCosy 21 = .ok (.iload_n 3, 1) := by decide +kernel
theorem dX1_moveCosy_22 : decode cX1_moveCosy 22 = .ok (.iaload, 1) := by decide +kernel
theorem dX1_moveCosy_23 : decode cX1_moveCosy 23 = .ok (.iload_n 1, 1) := by decide +kernel
theorem dX1_moveCosy_24 : decode cX1_moveCosy 24 = .ok (.if_icmp .ne 10, 3) := by decide +kernel
theorem dX1_moveCosy_27 : decode cX1_moveCosy 27 = .ok (.aload_n 0, 1) := by decide +kernel
theorem dX1_moveCosy_28 : decode cX1_moveCosy 28 = .ok (.getfield 24, 3) := by decide +kernel
theorem dX1_moveCosy_31 : decode cX1_moveCosy 31 = .ok (.iload_n 3, 1) := by decide +kernel
theorem dX1_moveCosy_32 : decode cX1_moveCosy 32 = .ok (.iload_n 2, 1) := by decide +kernel
theorem dX1_moveCosy_33 : decode cX1_moveCosy 33 = .ok (.iastore, 1) := by decide +kernel
theorem dX1_moveCosy_34 : decode cX1_moveCosy 34 = .ok (.iinc 3 1, 3) := by decide +kernel
theorem dX1_moveCosy_37 : decode cX1_moveCosy 37 = .ok (.goto (-28), 3) := by decide +kernel
theorem dX1_moveCosy_40 : decode cX1_moveCosy 40 = .ok (.return_, 1) := by decide +kernel
theorem dX1_holds_0 : decode cX1_holds 0 = .ok (.aload_n 0, 1) := by decide +kernel
theorem dX1_holds_1 : decode cX1_holds 1 = .ok (.getfield 9, 3) := by decide +kernel
theorem dX1_holds_4 : decode cX1_holds 4 = .ok (.iload_n 1, 1) := by decide +kernel
theorem dX1_holds_5 : decode cX1_holds 5 = .ok (.iaload, 1) := by decide +kernel
theorem dX1_holds_6 : decode cX1_holds 6 = .ok (.aload_n 0, 1) := by decide +kernel
theorem dX1_holds_7 : decode cX1_holds 7 = .ok (.getfield 18, 3) := by decide +kernel
theorem dX1_holds_10 : decode cX1_holds 10 = .ok (.iload_n 1, 1) := by decide +kernel
theorem dX1_holds_11 : decode cX1_holds 11 = .ok (.iaload, 1) := by decide +kernel
theorem dX1_holds_12 : decode cX1_holds 12 = .ok (.aload_n 0, 1) := by decide +kernel
theorem dX1_holds_13 : decode cX1_holds 13 = .ok (.getfield 21, 3) := by decide +kernel
theorem dX1_holds_16 : decode cX1_holds 16 = .ok (.iload_n 1, 1) := by decide +kernel
theorem dX1_holds_17 : decode cX1_holds 17 = .ok (.iaload, 1) := by decide +kernel
theorem dX1_holds_18 : decode cX1_holds 18 = .ok (.invokestatic 66, 3) := by decide +kernel
theorem dX1_holds_21 : decode cX1_holds 21 = .ok (.ireturn, 1) := by decide +kernel
theorem dX1_whoIs_0 : decode cX1_whoIs 0 = .ok (.iconst 0, 1) := by decide +kernel
theorem dX1_whoIs_1 : decode cX1_whoIs 1 = .ok (.istore_n 2, 1) := by decide +kernel
theorem dX1_whoIs_2 : decode cX1_whoIs 2 = .ok (.iconst 0, 1) := by decide +kernel
theorem dX1_whoIs_3 : decode cX1_whoIs 3 = .ok (.istore_n 3, 1) := by decide +kernel
theorem dX1_whoIs_4 : decode cX1_whoIs 4 = .ok (.iload_n 3, 1) := by decide +kernel
theorem dX1_whoIs_5 : decode cX1_whoIs 5 = .ok (.aload_n 0, 1) := by decide +kernel
theorem dX1_whoIs_6 : decode cX1_whoIs 6 = .ok (.getfield 43, 3) := by decide +kernel
theorem dX1_whoIs_9 : decode cX1_whoIs 9 = .ok (.if_icmp .ge 25, 3) := by decide +kernel
theorem dX1_whoIs_12 : decode cX1_whoIs 12 = .ok (.aload_n 0, 1) := by decide +kernel
theorem dX1_whoIs_13 : decode cX1_whoIs 13 = .ok (.getfield 27, 3) := by decide +kernel
theorem dX1_whoIs_16 : decode cX1_whoIs 16 = .ok (.iload_n 3, 1) := by decide +kernel
theorem dX1_whoIs_17 : decode cX1_whoIs 17 = .ok (.iaload, 1) := by decide +kernel
theorem dX1_whoIs_18 : decode cX1_whoIs 18 = .ok (.iload_n 1, 1) := by decide +kernel
theorem dX1_whoIs_19 : decode cX1_whoIs 19 = .ok (.if_icmp .ne 9, 3) := by decide +kernel
theorem dX1_whoIs_22 : decode cX1_whoIs 22 = .ok (.iload_n 2, 1) := by decide +kernel
theorem dX1_whoIs_23 : decode cX1_whoIs 23 = .ok (.iconst 1, 1) := by decide +kernel
theorem dX1_whoIs_24 : decode cX1_whoIs 24 = .ok (.iload_n 3, 1) := by decide +kernel
theorem dX1_whoIs_25 : decode cX1_whoIs 25 = .ok (.ishl, 1) := by decide +kernel
theorem dX1_whoIs_26 : decode cX1_whoIs 26 = .ok (.ior, 1) := by decide +kernel
theorem dX1_whoIs_27 : decode cX1_whoIs 27 = .ok (.istore_n 2, 1) := by decide +kernel
theorem dX1_whoIs_28 : decode cX1_whoIs 28 = .ok (.iinc 3 1, 3) := by decide +kernel
theorem dX1_whoIs_31 : decode cX1_whoIs 31 = .ok (.goto (-27), 3) := by decide +kernel
theorem dX1_whoIs_34 : decode cX1_whoIs 34 = .ok (.iload_n 2, 1) := by decide +kernel
theorem dX1_whoIs_35 : decode cX1_whoIs 35 = .ok (.ireturn, 1) := by decide +kernel
theorem dX1_manyUnder_0 : decode cX1_manyUnder 0 = .ok (.aload_n 0, 1) := by decide +kernel
theorem dX1_manyUnder_1 : decode cX1_manyUnder 1 = .ok (.iload_n 1, 1) := by decide +kernel
theorem dX1_manyUnder_2 : decode cX1_manyUnder 2 = .ok (.invokevirtual 72, 3) := by decide +kernel
theorem dX1_manyUnder_5 : decode cX1_manyUnder 5 = .ok (.invokestatic 76, 3) := by decide +kernel
theorem dX1_manyUnder_8 : decode cX1_manyUnder 8 = .ok (.ireturn, 1) := by decide +kernel
theorem dX1_manyTaken_0 : decode cX1_manyTaken 0 = .ok (.aload_n 0, 1) := by decide +kernel
theorem dX1_manyTaken_1 : decode cX1_manyTaken 1 = .ok (.bipush (-2), 2) := by decide +kernel
theorem dX1_manyTaken_3 : decode cX1_manyTaken 3 = .ok (.invokevirtual 72, 3) := by decide +kernel
theorem dX1_manyTaken_6 : decode cX1_manyTaken 6 = .ok (.invokestatic 76, 3) := by decide +kernel
theorem dX1_manyTaken_9 : decode cX1_manyTaken 9 = .ok (.ireturn, 1) := by decide +kernel
theorem dX1_manyUnder__0 : decode cX1_manyUnder_ 0 = .ok (.aload_n 0, 1) := by decide +kernel
theorem dX1_manyUnder__1 : decode cX1_manyUnder_ 1 = .ok (.getfield 43, 3) := by decide +kernel
theorem dX1_manyUnder__4 : decode cX1_manyUnder_ 4 = .ok (.aload_n 0, 1) := by decide +kernel
theorem dX1_manyUnder__5 : decode cX1_manyUnder_ 5 = .ok (.invokevirtual 81, 3) := by decide +kernel
theorem dX1_manyUnder__8 : decode cX1_manyUnder_ 8 = .ok (.isub, 1) := by decide +kernel
theorem dX1_manyUnder__9 : decode cX1_manyUnder_ 9 = .ok (.aload_n 0, 1) := by decide +kernel
theorem dX1_manyUnder__10 : decode cX1_manyUnder_ 10 = .ok (.iconst (-1), 1) := by decide +kernel
theorem dX1_manyUnder__11 : decode cX1_manyUnder_ 11 = .ok (.invokevirtual 72, 3) := by decide +kernel
theorem dX1_manyUnder__14 : decode cX1_manyUnder_ 14 = .ok (.invokestatic 76, 3) := by decide +kernel
theorem dX1_manyUnder__17 : decode cX1_manyUnder_ 17 = .ok (.isub, 1) := by decide +kernel
theorem dX1_manyUnder__18 : decode cX1_manyUnder_ 18 = .ok (.ireturn, 1) := by decide +kernel
theorem dX1_whoIsNear_0 : decode cX1_whoIsNear 0 = .ok (.iconst 0, 1) := by decide +kernel
theorem dX1_whoIsNear_1 : decode cX1_whoIsNear 1 = .ok (.istore_n 3, 1) := by decide +kernel
theorem dX1_whoIsNear_2 : decode cX1_whoIsNear 2 = .ok (.iconst 0, 1) := by decide +kernel
theorem dX1_whoIsNear_3 : decode cX1_whoIsNear 3 = .ok (.istore 4, 2) := by decide +kernel
theorem dX1_whoIsNear_5 : decode cX1_whoIsNear 5 = .ok (.iload 4, 2) := by decide +kernel
theorem dX1_whoIsNear_7 : decode cX1_whoIsNear 7 = .ok (.aload_n 0, 1) := by decide +kernel
theorem dX1_whoIsNear_8 : decode cX1_whoIsNear 8 = .ok (.getfield 43, 3) := by decide +kernel
theorem dX1_whoIsNear_11 : decode cX1_whoIsNear 11 = .ok (.if_icmp .ge 43, 3) := by decide +kernel
theorem dX1_whoIsNear_14 : decode cX1_whoIsNear 14 = .ok (.aload_n 0, 1) := by decide +kernel
theorem dX1_whoIsNear_15 : decode cX1_whoIsNear 15 = .ok (.getfield 27, 3) := by decide +kernel
theorem dX1_whoIsNear_18 : decode cX1_whoIsNear 18 = .ok (.iload 4, 2) := by decide +kernel
theorem dX1_whoIsNear_20 : decode cX1_whoIsNear 20 = .ok (.iaload, 1) := by decide +kernel
theorem dX1_whoIsNear_21 : decode cX1_whoIsNear 21 = .ok (.bipush (-2), 2) := by decide +kernel
theorem dX1_whoIsNear_23 : decode cX1_whoIsNear 23 = .ok (.if_icmp .eq 25, 3) := by decide +kernel
theorem dX1_whoIsNear_26 : decode cX1_whoIsNear 26 = .ok (.aload_n 0, 1) := by decide +kernel
theorem dX1_whoIsNear_27 : decode cX1_whoIsNear 27 = .ok (.getfield 24, 3) := by decide +kernel
theorem dX1_whoIsNear_30 : decode cX1_whoIsNear 30 = .ok (.iload 4, 2) := by decide +kernel
theorem dX1_whoIsNear_32 : decode cX1_whoIsNear 32 = .ok (.iaload, 1) := by decide +kernel
theorem dX1_whoIsNear_33 : decode cX1_whoIsNear 33 = .ok (.iload_n 1, 1) := by decide +kernel
theorem dX1_whoIsNear_34 : decode cX1_whoIsNear 34 = .ok (.invokestatic 85, 3) := by decide +kernel
theorem dX1_whoIsNear_37 : decode cX1_whoIsNear 37 = .ok (.iload_n 2, 1) := by decide +kernel
theorem dX1_whoIsNear_38 : decode cX1_whoIsNear 38 = .ok (.if_icmp .gt 10, 3) := by decide +kernel
theorem dX1_whoIsNear_41 : decode cX1_whoIsNear 41 = .ok (.iload_n 3, 1) := by decide +kernel
theorem dX1_whoIsNear_42 : decode cX1_whoIsNear 42 = .ok (.iconst 1, 1) := by decide +kernel
theorem dX1_whoIsNear_43 : decode cX1_whoIsNear 43 = .ok (.iload 4, 2) := by decide +kernel
theorem dX1_whoIsNear_45 : decode cX1_whoIsNear 45 = .ok (.ishl, 1) := by decide +kernel
theorem dX1_whoIsNear_46 : decode cX1_whoIsNear 46 = .ok (.ior, 1) := by decide +kernel
theorem dX1_whoIsNear_47 : decode cX1_whoIsNear 47 = .ok (.istore_n 3, 1) := by decide +kernel
theorem dX1_whoIsNear_48 : decode cX1_whoIsNear 48 = .ok (.iinc 4 1, 3) := by decide +kernel
theorem dX1_whoIsNear_51 : decode cX1_whoIsNear 51 = .ok (.goto (-46), 3) := by decide +kernel
theorem dX1_whoIsNear_54 : decode cX1_whoIsNear 54 = .ok (.iload_n 3, 1) := by decide +kernel
theorem dX1_whoIsNear_55 : decode cX1_whoIsNear 55 = .ok (.ireturn, 1) := by decide +kernel
theorem dX1_tellOf_0 : decode cX1_tellOf 0 = .ok (.iload_n 2, 1) := by decide +kernel
theorem dX1_tellOf_1 : decode cX1_tellOf 1 = .ok (.lookupswitch 54 #[(0, 27), (1, 34)], 27) := by decide +kernel
theorem dX1_tellOf_28 : decode cX1_tellOf 28 = .ok (.aload_n 0, 1) := by decide +kernel
theorem dX1_tellOf_29 : decode cX1_tellOf 29 = .ok (.getfield 24, 3) := by decide +kernel
theorem dX1_tellOf_32 : decode cX1_tellOf 32 = .ok (.iload_n 1, 1) := by decide +kernel
theorem dX1_tellOf_33 : decode cX1_tellOf 33 = .ok (.iaload, 1) := by decide +kernel
theorem dX1_tellOf_34 : decode cX1_tellOf 34 = .ok (.ireturn, 1) := by decide +kernel
theorem dX1_tellOf_35 : decode cX1_tellOf 35 = .ok (.aload_n 0, 1) := by decide +kernel
theorem dX1_tellOf_36 : decode cX1_tellOf 36 = .ok (.getfield 27, 3) := by decide +kernel
theorem dX1_tellOf_39 : decode cX1_tellOf 39 = .ok (.iload_n 1, 1) := by decide +kernel
theorem dX1_tellOf_40 : decode cX1_tellOf 40 = .ok (.iaload, 1) := by decide +kernel
theorem dX1_tellOf_41 : decode cX1_tellOf 41 = .ok (.ifCond .lt 12, 3) := by decide +kernel
theorem dX1_tellOf_44 : decode cX1_tellOf 44 = .ok (.aload_n 0, 1) := by decide +kernel
theorem dX1_tellOf_45 : decode cX1_tellOf 45 = .ok (.getfield 27, 3) := by decide +kernel
theorem dX1_tellOf_48 : decode cX1_tellOf 48 = .ok (.iload_n 1, 1) := by decide +kernel
theorem dX1_tellOf_49 : decode cX1_tellOf 49 = .ok (.iaload, 1) := by decide +kernel
theorem dX1_tellOf_50 : decode cX1_tellOf 50 = .ok (.goto 4, 3) := by decide +kernel
theorem dX1_tellOf_53 : decode cX1_tellOf 53 = .ok (.iconst (-1), 1) := by decide +kernel
theorem dX1_tellOf_54 : decode cX1_tellOf 54 = .ok (.ireturn, 1) := by decide +kernel
theorem dX1_tellOf_55 : decode cX1_tellOf 55 = .ok (.aload_n 0, 1) := by decide +kernel
theorem dX1_tellOf_56 : decode cX1_tellOf 56 = .ok (.getfield 27, 3) := by decide +kernel
theorem dX1_tellOf_59 : decode cX1_tellOf 59 = .ok (.iload_n 1, 1) := by decide +kernel
theorem dX1_tellOf_60 : decode cX1_tellOf 60 = .ok (.iaload, 1) := by decide +kernel
theorem dX1_tellOf_61 : decode cX1_tellOf 61 = .ok (.bipush (-2), 2) := by decide +kernel
theorem dX1_tellOf_63 : decode cX1_tellOf 63 = .ok (.if_icmp .ne 7, 3) := by decide +kernel
theorem dX1_tellOf_66 : decode cX1_tellOf 66 = .ok (.iconst 1, 1) := by decide +kernel
theorem dX1_tellOf_67 : decode cX1_tellOf 67 = .ok (.goto 4, 3) := by decide +kernel
theorem dX1_tellOf_70 : decode cX1_tellOf 70 = .ok (.iconst 0, 1) := by decide +kernel
theorem dX1_tellOf_71 : decode cX1_tellOf 71 = .ok (.ireturn, 1) := by decide +kernel
theorem dX1_passHours_0 : decode cX1_passHours 0 = .ok (.iconst 0, 1) := by decide +kernel
theorem dX1_passHours_1 : decode cX1_passHours 1 = .ok (.istore_n 2, 1) := by decide +kernel
theorem dX1_passHours_2 : decode cX1_passHours 2 = .ok (.iload_n 2, 1) := by decide +kernel
theorem dX1_passHours_3 : decode cX1_passHours 3 = .ok (.iload_n 1, 1) := by decide +kernel
theorem dX1_passHours_4 : decode cX1_passHours 4 = .ok (.if_icmp .ge 15, 3) := by decide +kernel
theorem dX1_passHours_7 : decode cX1_passHours 7 = .ok (.aload_n 0, 1) := by decide +kernel
theorem dX1_passHours_8 : decode cX1_passHours 8 = .ok (.iconst (-1), 1) := by decide +kernel
theorem dX1_passHours_9 : decode cX1_passHours 9 = .ok (.iconst (-1), 1) := by decide +kernel
theorem dX1_passHours_10 : decode cX1_passHours 10 = .ok (.invokevirtual 91, 3) := by decide +kernel
theorem dX1_passHours_13 : decode cX1_passHours 13 = .ok (.iinc 2 1, 3) := by decide +kernel
theorem dX1_passHours_16 : decode cX1_passHours 16 = .ok (.goto (-14), 3) := by decide +kernel
theorem dX1_passHours_19 : decode cX1_passHours 19 = .ok (.return_, 1) := by decide +kernel
theorem dX1_passHourWith_0 : decode cX1_passHourWith 0 = .ok (.aload_n 0, 1) := by decide +kernel
theorem dX1_passHourWith_1 : decode cX1_passHourWith 1 = .ok (.invokevirtual 94, 3) := by decide +kernel
theorem dX1_passHourWith_4 : decode cX1_passHourWith 4 = .ok (.iconst 0, 1) := by decide +kernel
theorem dX1_passHourWith_5 : decode cX1_passHourWith 5 = .ok (.istore_n 3, 1) := by decide +kernel
theorem dX1_passHourWith_6 : decode cX1_passHourWith 6 = .ok (.iload_n 3, 1) := by decide +kernel
theorem dX1_passHourWith_7 : decode cX1_passHourWith 7 = .ok (.aload_n 0, 1) := by decide +kernel
theorem dX1_passHourWith_8 : decode cX1_passHourWith 8 = .ok (.getfield 43, 3) := by decide +kernel
theorem dX1_passHourWith_11 : decode cX1_passHourWith 11 = .ok (.if_icmp .ge 34, 3) := by decide +kernel
theorem dX1_passHourWith_14 : decode cX1_passHourWith 14 = .ok (.aload_n 0, 1) := by decide +kernel
theorem dX1_passHourWith_15 : decode cX1_passHourWith 15 = .ok (.getfield 27, 3) := by decide +kernel
theorem dX1_passHourWith_18 : decode cX1_passHourWith 18 = .ok (.iload_n 3, 1) := by decide +kernel
theorem dX1_passHourWith_19 : decode cX1_passHourWith 19 = .ok (.iaload, 1) := by decide +kernel
theorem dX1_passHourWith_20 : decode cX1_passHourWith 20 = .ok (.iconst (-1), 1) := by decide +kernel
theorem dX1_passHourWith_21 : decode cX1_passHourWith 21 = .ok (.if_icmp .ne 18, 3) := by decide +kernel
theorem dX1_passHourWith_24 : decode cX1_passHourWith 24 = .ok (.aload_n 0, 1) := by decide +kernel
theorem dX1_passHourWith_25 : decode cX1_passHourWith 25 = .ok (.iload_n 3, 1) := by decide +kernel
theorem dX1_passHourWith_26 : decode cX1_passHourWith 26 = .ok (.iload_n 3, 1) := by decide +kernel
theorem dX1_passHourWith_27 : decode cX1_passHourWith 27 = .ok (.iload_n 1, 1) := by decide +kernel
theorem dX1_passHourWith_28 : decode cX1_passHourWith 28 = .ok (.if_icmp .ne 7, 3) := by decide +kernel
theorem dX1_passHourWith_31 : decode cX1_passHourWith 31 = .ok (.iload_n 2, 1) := by decide +kernel
theorem dX1_passHourWith_32 : decode cX1_passHourWith 32 = .ok (.goto 4, 3) := by decide +kernel
theorem dX1_passHourWith_35 : decode cX1_passHourWith 35 = .ok (.iconst (-1), 1) := by decide +kernel
theorem dX1_passHourWith_36 : decode cX1_passHourWith 36 = .ok (.invokevirtual 97, 3) := by decide +kernel
theorem dX1_passHourWith_39 : decode cX1_passHourWith 39 = .ok (.iinc 3 1, 3) := by decide +kernel
theorem dX1_passHourWith_42 : decode cX1_passHourWith 42 = .ok (.goto (-36), 3) := by decide +kernel
theorem dX1_passHourWith_45 : decode cX1_passHourWith 45 = .ok (.iconst 0, 1) := by decide +kernel
theorem dX1_passHourWith_46 : decode cX1_passHourWith 46 = .ok (.istore_n 3, 1) := by decide +kernel
theorem dX1_passHourWith_47 : decode cX1_passHourWith 47 = .ok (.iload_n 3, 1) := by decide +kernel
theorem dX1_passHourWith_48 : decode cX1_passHourWith 48 = .ok (.aload_n 0, 1) := by decide +kernel
theorem dX1_passHourWith_49 : decode cX1_passHourWith 49 = .ok (.getfield 46, 3) := by decide +kernel
theorem dX1_passHourWith_52 : decode cX1_passHourWith 52 = .ok (.if_icmp .ge 14, 3) := by decide +kernel
theorem dX1_passHourWith_55 : decode cX1_passHourWith 55 = .ok (.aload_n 0, 1) := by decide +kernel
theorem dX1_passHourWith_56 : decode cX1_passHourWith 56 = .ok (.iload_n 3, 1) := by decide +kernel
theorem dX1_passHourWith_57 : decode cX1_passHourWith 57 = .ok (.invokevirtual 100, 3) := by decide +kernel
theorem dX1_passHourWith_60 : decode cX1_passHourWith 60 = .ok (.iinc 3 1, 3) := by decide +kernel
theorem dX1_passHourWith_63 : decode cX1_passHourWith 63 = .ok (.goto (-16), 3) := by decide +kernel
theorem dX1_passHourWith_66 : decode cX1_passHourWith 66 = .ok (.iconst 0, 1) := by decide +kernel
theorem dX1_passHourWith_67 : decode cX1_passHourWith 67 = .ok (.istore_n 3, 1) := by decide +kernel
theorem dX1_passHourWith_68 : decode cX1_passHourWith 68 = .ok (.iload_n 3, 1) := by decide +kernel
theorem dX1_passHourWith_69 : decode cX1_passHourWith 69 = .ok (.aload_n 0, 1) := by decide +kernel
theorem dX1_passHourWith_70 : decode cX1_passHourWith 70 = .ok (.getfield 39, 3) := by decide +kernel
theorem dX1_passHourWith_73 : decode cX1_passHourWith 73 = .ok (.if_icmp .ge 14, 3) := by decide +kernel
theorem dX1_passHourWith_76 : decode cX1_passHourWith 76 = .ok (.aload_n 0, 1) := by decide +kernel
theorem dX1_passHourWith_77 : decode cX1_passHourWith 77 = .ok (.iload_n 3, 1) := by decide +kernel
theorem dX1_passHourWith_78 : decode cX1_passHourWith 78 = .ok (.invokevirtual 104, 3) := by decide +kernel
theorem dX1_passHourWith_81 : decode cX1_passHourWith 81 = .ok (.iinc 3 1, 3) := by decide +kernel
theorem dX1_passHourWith_84 : decode cX1_passHourWith 84 = .ok (.goto (-16), 3) := by decide +kernel
theorem dX1_passHourWith_87 : decode cX1_passHourWith 87 = .ok (.aload_n 0, 1) := by decide +kernel
theorem dX1_passHourWith_88 : decode cX1_passHourWith 88 = .ok (.dup, 1) := by decide +kernel
theorem dX1_passHourWith_89 : decode cX1_passHourWith 89 = .ok (.getfield 49, 3) := by decide +kernel
theorem dX1_passHourWith_92 : decode cX1_passHourWith 92 = .ok (.iconst 1, 1) := by decide +kernel
theorem dX1_passHourWith_93 : decode cX1_passHourWith 93 = .ok (.iadd, 1) := by decide +kernel
theorem dX1_passHourWith_94 : decode cX1_passHourWith 94 = .ok (.putfield 49, 3) := by decide +kernel
theorem dX1_passHourWith_97 : decode cX1_passHourWith 97 = .ok (.return_, 1) := by decide +kernel
theorem dX1_countRooms_0 : decode cX1_countRooms 0 = .ok (.iconst 0, 1) := by decide +kernel
theorem dX1_countRooms_1 : decode cX1_countRooms 1 = .ok (.istore_n 1, 1) := by decide +kernel
theorem dX1_countRooms_2 : decode cX1_countRooms 2 = .ok (.iload_n 1, 1) := by decide +kernel
theorem dX1_countRooms_3 : decode cX1_countRooms 3 = .ok (.aload_n 0, 1) := by decide +kernel
theorem dX1_countRooms_4 : decode cX1_countRooms 4 = .ok (.getfield 39, 3) := by decide +kernel
theorem dX1_countRooms_7 : decode cX1_countRooms 7 = .ok (.if_icmp .ge 27, 3) := by decide +kernel
theorem dX1_countRooms_10 : decode cX1_countRooms 10 = .ok (.aload_n 0, 1) := by decide +kernel
theorem dX1_countRooms_11 : decode cX1_countRooms 11 = .ok (.getfield 33, 3) := by decide +kernel
theorem dX1_countRooms_14 : decode cX1_countRooms 14 = .ok (.iload_n 1, 1) := by decide +kernel
theorem dX1_countRooms_15 : decode cX1_countRooms 15 = .ok (.aload_n 0, 1) := by decide +kernel
theorem dX1_countRooms_16 : decode cX1_countRooms 16 = .ok (.iload_n 1, 1) := by decide +kernel
theorem dX1_countRooms_17 : decode cX1_countRooms 17 = .ok (.invokevirtual 107, 3) := by decide +kernel
theorem dX1_countRooms_20 : decode cX1_countRooms 20 = .ok (.iastore, 1) := by decide +kernel
theorem dX1_countRooms_21 : decode cX1_countRooms 21 = .ok (.aload_n 0, 1) := by decide +kernel
theorem dX1_countRooms_22 : decode cX1_countRooms 22 = .ok (.getfield 36, 3) := by decide +kernel
theorem dX1_countRooms_25 : decode cX1_countRooms 25 = .ok (.iload_n 1, 1) := by decide +kernel
theorem dX1_countRooms_26 : decode cX1_countRooms 26 = .ok (.iconst 0, 1) := by decide +kernel
theorem dX1_countRooms_27 : decode cX1_countRooms 27 = .ok (.iastore, 1) := by decide +kernel
theorem dX1_countRooms_28 : decode cX1_countRooms 28 = .ok (.iinc 1 1, 3) := by decide +kernel
theorem dX1_countRooms_31 : decode cX1_countRooms 31 = .ok (.goto (-29), 3) := by decide +kernel
theorem dX1_countRooms_34 : decode cX1_countRooms 34 = .ok (.iconst 0, 1) := by decide +kernel
theorem dX1_countRooms_35 : decode cX1_countRooms 35 = .ok (.istore_n 1, 1) := by decide +kernel
theorem dX1_countRooms_36 : decode cX1_countRooms 36 = .ok (.iload_n 1, 1) := by decide +kernel
theorem dX1_countRooms_37 : decode cX1_countRooms 37 = .ok (.aload_n 0, 1) := by decide +kernel
theorem dX1_countRooms_38 : decode cX1_countRooms 38 = .ok (.getfield 43, 3) := by decide +kernel
theorem dX1_countRooms_41 : decode cX1_countRooms 41 = .ok (.if_icmp .ge 38, 3) := by decide +kernel
theorem dX1_countRooms_44 : decode cX1_countRooms 44 = .ok (.aload_n 0, 1) := by decide +kernel
theorem dX1_countRooms_45 : decode cX1_countRooms 45 = .ok (.getfield 27, 3) := by decide +kernel
theorem dX1_countRooms_48 : decode cX1_countRooms 48 = .ok (.iload_n 1, 1) := by decide +kernel
theorem dX1_countRooms_49 : decode cX1_countRooms 49 = .ok (.iaload, 1) := by decide +kernel
theorem dX1_countRooms_50 : decode cX1_countRooms 50 = .ok (.iconst 0, 1) := by decide +kernel
theorem dX1_countRooms_51 : decode cX1_countRooms 51 = .ok (.aload_n 0, 1) := by decide +kernel
theorem dX1_countRooms_52 : decode cX1_countRooms 52 = .ok (.getfield 39, 3) := by decide +kernel
theorem dX1_countRooms_55 : decode cX1_countRooms 55 = .ok (.iconst 1, 1) := by decide +kernel
theorem dX1_countRooms_56 : decode cX1_countRooms 56 = .ok (.isub, 1) := by decide +kernel
theorem dX1_countRooms_57 : decode cX1_countRooms 57 = .ok (.invokestatic 62, 3) := by decide +kernel
theorem dX1_countRooms_60 : decode cX1_countRooms 60 = .ok (.ifCond .eq 13, 3) := by decide +kernel
theorem dX1_countRooms_63 : decode cX1_countRooms 63 = .ok (.aload_n 0, 1) := by decide +kernel
theorem dX1_countRooms_64 : decode cX1_countRooms 64 = .ok (.aload_n 0, 1) := by decide +kernel
theorem dX1_countRooms_65 : decode cX1_countRooms 65 = .ok (.getfield 27, 3) := by decide +kernel
theorem dX1_countRooms_68 : decode cX1_countRooms 68 = .ok (.iload_n 1, 1) := by decide +kernel
theorem dX1_countRooms_69 : decode cX1_countRooms 69 = .ok (.iaload, 1) := by decide +kernel
theorem dX1_countRooms_70 : decode cX1_countRooms 70 = .ok (.invokevirtual 109, 3) := by decide +kernel
theorem dX1_countRooms_73 : decode cX1_countRooms 73 = .ok (.iinc 1 1, 3) := by decide +kernel
theorem dX1_countRooms_76 : decode cX1_countRooms 76 = .ok (.goto (-40), 3) := by decide +kernel
theorem dX1_countRooms_79 : decode cX1_countRooms 79 = .ok (.return_, 1) := by decide +kernel
theorem dX1_fill_0 : decode cX1_fill 0 = .ok (.aload_n 0, 1) := by decide +kernel
theorem dX1_fill_1 : decode cX1_fill 1 = .ok (.getfield 33, 3) := by decide +kernel
theorem dX1_fill_4 : decode cX1_fill 4 = .ok (.iload_n 1, 1) := by decide +kernel
theorem dX1_fill_5 : decode cX1_fill 5 = .ok (.dup2, 1) := by decide +kernel
theorem dX1_fill_6 : decode cX1_fill 6 = .ok (.iaload, 1) := by decide +kernel
theorem dX1_fill_7 : decode cX1_fill 7 = .ok (.iconst 1, 1) := by decide +kernel
theorem dX1_fill_8 : decode cX1_fill 8 = .ok (.isub, 1) := by decide +kernel
theorem dX1_fill_9 : decode cX1_fill 9 = .ok (.iastore, 1) := by decide +kernel
theorem dX1_fill_10 : decode cX1_fill 10 = .ok (.aload_n 0, 1) := by decide +kernel
theorem dX1_fill_11 : decode cX1_fill 11 = .ok (.getfield 36, 3) := by decide +kernel
theorem dX1_fill_14 : decode cX1_fill 14 = .ok (.iload_n 1, 1) := by decide +kernel
theorem dX1_fill_15 : decode cX1_fill 15 = .ok (.dup2, 1) := by decide +kernel
theorem dX1_fill_16 : decode cX1_fill 16 = .ok (.iaload, 1) := by decide +kernel
theorem dX1_fill_17 : decode cX1_fill 17 = .ok (.iconst 1, 1) := by decide +kernel
theorem dX1_fill_18 : decode cX1_fill 18 = .ok (.iadd, 1) := by decide +kernel
theorem dX1_fill_19 : decode cX1_fill 19 = .ok (.iastore, 1) := by decide +kernel
theorem dX1_fill_20 : decode cX1_fill 20 = .ok (.return_, 1) := by decide +kernel
theorem dX1_flee_0 : decode cX1_flee 0 = .ok (.aload_n 0, 1) := by decide +kernel
theorem dX1_flee_1 : decode cX1_flee 1 = .ok (.getfield 24, 3) := by decide +kernel
theorem dX1_flee_4 : decode cX1_flee 4 = .ok (.iload_n 1, 1) := by decide +kernel
theorem dX1_flee_5 : decode cX1_flee 5 = .ok (.iaload, 1) := by decide +kernel
theorem dX1_flee_6 : decode cX1_flee 6 = .ok (.istore_n 3, 1) := by decide +kernel
theorem dX1_flee_7 : decode cX1_flee 7 = .ok (.iload_n 2, 1) := by decide +kernel
theorem dX1_flee_8 : decode cX1_flee 8 = .ok (.ifCond .lt 34, 3) := by decide +kernel
theorem dX1_flee_11 : decode cX1_flee 11 = .ok (.iload_n 2, 1) := by decide +kernel
theorem dX1_flee_12 : decode cX1_flee 12 = .ok (.iconst 4, 1) := by decide +kernel
theorem dX1_flee_13 : decode cX1_flee 13 = .ok (.if_icmp .ge 29, 3) := by decide +kernel
theorem dX1_flee_16 : decode cX1_flee 16 = .ok (.iload_n 3, 1) := by decide +kernel
theorem dX1_flee_17 : decode cX1_flee 17 = .ok (.iload_n 2, 1) := by decide +kernel
theorem dX1_flee_18 : decode cX1_flee 18 = .ok (.invokestatic 112, 3) := by decide +kernel
theorem dX1_flee_21 : decode cX1_flee 21 = .ok (.istore 4, 2) := by decide +kernel
theorem dX1_flee_23 : decode cX1_flee 23 = .ok (.aload_n 0, 1) := by decide +kernel
theorem dX1_flee_24 : decode cX1_flee 24 = .ok (.getfield 24, 3) := by decide +kernel
theorem dX1_flee_27 : decode cX1_flee 27 = .ok (.iload_n 1, 1) := by decide +kernel
theorem dX1_flee_28 : decode cX1_flee 28 = .ok (.iload 4, 2) := by decide +kernel
theorem dX1_flee_30 : decode cX1_flee 30 = .ok (.iconst (-1), 1) := by decide +kernel
theorem dX1_flee_31 : decode cX1_flee 31 = .ok (.if_icmp .ne 7, 3) := by decide +kernel
theorem dX1_flee_34 : decode cX1_flee 34 = .ok (.iload_n 3, 1) := by decide +kernel
theorem dX1_flee_35 : decode cX1_flee 35 = .ok (.goto 5, 3) := by decide +kernel
theorem dX1_flee_38 : decode cX1_flee 38 = .ok (.iload 4, 2) := by decide +kernel
theorem dX1_flee_40 : decode cX1_flee 40 = .ok (.iastore, 1) := by decide +kernel
theorem dX1_flee_41 : decode cX1_flee 41 = .ok (.return_, 1) := by decide +kernel
theorem dX1_flee_42 : decode cX1_flee 42 = .ok (.aload_n 0, 1) := by decide +kernel
theorem dX1_flee_43 : decode cX1_flee 43 = .ok (.iload_n 3, 1) := by decide +kernel
theorem dX1_flee_44 : decode cX1_flee 44 = .ok (.invokevirtual 115, 3) := by decide +kernel
theorem dX1_flee_47 : decode cX1_flee 47 = .ok (.istore 4, 2) := by decide +kernel
theorem dX1_flee_49 : decode cX1_flee 49 = .ok (.iload 4, 2) := by decide +kernel
theorem dX1_flee_51 : decode cX1_flee 51 = .ok (.iconst (-1), 1) := by decide +kernel
theorem dX1_flee_52 : decode cX1_flee 52 = .ok (.if_icmp .ne 4, 3) := by decide +kernel
theorem dX1_flee_55 : decode cX1_flee 55 = .ok (.return_, 1) := by decide +kernel
theorem dX1_flee_56 : decode cX1_flee 56 = .ok (.aload_n 0, 1) := by decide +kernel
theorem dX1_flee_57 : decode cX1_flee 57 = .ok (.getfield 15, 3) := by decide +kernel
theorem dX1_flee_60 : decode cX1_flee 60 = .ok (.iload 4, 2) := by decide +kernel
theorem dX1_flee_62 : decode cX1_flee 62 = .ok (.iaload, 1) := by decide +kernel
theorem dX1_flee_63 : decode cX1_flee 63 = .ok (.iload_n 3, 1) := by decide +kernel
theorem dX1_flee_64 : decode cX1_flee 64 = .ok (.if_icmp .ne 20, 3) := by decide +kernel
theorem dX1_flee_67 : decode cX1_flee 67 = .ok (.aload_n 0, 1) := by decide +kernel
theorem dX1_flee_68 : decode cX1_flee 68 = .ok (.getfield 27, 3) := by decide +kernel
theorem dX1_flee_71 : decode cX1_flee 71 = .ok (.iload_n 1, 1) := by decide +kernel
theorem dX1_flee_72 : decode cX1_flee 72 = .ok (.iload 4, 2) := by decide +kernel
theorem dX1_flee_74 : decode cX1_flee 74 = .ok (.iastore, 1) := by decide +kernel
theorem dX1_flee_75 : decode cX1_flee 75 = .ok (.aload_n 0, 1) := by decide +kernel
theorem dX1_flee_76 : decode cX1_flee 76 = .ok (.iload 4, 2) := by decide +kernel
theorem dX1_flee_78 : decode cX1_flee 78 = .ok (.invokevirtual 109, 3) := by decide +kernel
theorem dX1_flee_81 : decode cX1_flee 81 = .ok (.goto 25, 3) := by decide +kernel
theorem dX1_flee_84 : decode cX1_flee 84 = .ok (.iload_n 2, 1) := by decide +kernel
theorem dX1_flee_85 : decode cX1_flee 85 = .ok (.iconst 4, 1) := by decide +kernel
theorem dX1_flee_86 : decode cX1_flee 86 = .ok (.if_icmp .eq 20, 3) := by decide +kernel
theorem dX1_flee_89 : decode cX1_flee 89 = .ok (.aload_n 0, 1) := by decide +kernel
theorem dX1_flee_90 : decode cX1_flee 90 = .ok (.getfield 24, 3) := by decide +kernel
theorem dX1_flee_93 : decode cX1_flee 93 = .ok (.iload_n 1, 1) := by decide +kernel
theorem dX1_flee_94 : decode cX1_flee 94 = .ok (.iload_n 3, 1) := by decide +kernel
theorem dX1_flee_95 : decode cX1_flee 95 = .ok (.aload_n 0, 1) := by decide +kernel
theorem dX1_flee_96 : decode cX1_flee 96 = .ok (.getfield 15, 3) := by decide +kernel
theorem dX1_flee_99 : decode cX1_flee 99 = .ok (.iload 4, 2) := by decide +kernel
theorem dX1_flee_101 : decode cX1_flee 101 = .ok (.iaload, 1) := by decide +kernel
theorem dX1_flee_102 : decode cX1_flee 102 = .ok (.invokestatic 118, 3) := by decide +kernel
theorem dX1_flee_105 : decode cX1_flee 105 = .ok (.iastore, 1) := by decide +kernel
theorem dX1_flee_106 : decode cX1_flee 106 = .ok (.return_, 1) := by decide +kernel
theorem dX1_nearestRoom_0 : decode cX1_nearestRoom 0 = .ok (.iconst (-1), 1) := by decide +kernel
theorem dX1_nearestRoom_1 : decode cX1_nearestRoom 1 = .ok (.istore_n 2, 1) := by decide +kernel
theorem dX1_nearestRoom_2 : decode cX1_nearestRoom 2 = .ok (.bipush 9, 2) := by decide +kernel
theorem dX1_nearestRoom_4 : decode cX1_nearestRoom 4 = .ok (.istore_n 3, 1) := by decide +kernel
theorem dX1_nearestRoom_5 : decode cX1_nearestRoom 5 = .ok (.iconst 0, 1) := by decide +kernel
theorem dX1_nearestRoom_6 : decode cX1_nearestRoom 6 = .ok (.istore 4, 2) := by decide +kernel
theorem dX1_nearestRoom_8 : decode cX1_nearestRoom 8 = .ok (.iload 4, 2) := by decide +kernel
theorem dX1_nearestRoom_10 : decode cX1_nearestRoom 10 = .ok (.aload_n 0, 1) := by decide +kernel
theorem dX1_nearestRoom_11 : decode cX1_nearestRoom 11 = .ok (.getfield 39, 3) := by decide +kernel
theorem dX1_nearestRoom_14 : decode cX1_nearestRoom 14 = .ok (.if_icmp .ge 44, 3) := by decide +kernel
theorem dX1_nearestRoom_17 : decode cX1_nearestRoom 17 = .ok (.aload_n 0, 1) := by decide +kernel
theorem dX1_nearestRoom_18 : decode cX1_nearestRoom 18 = .ok (.getfield 33, 3) := by decide +kernel
theorem dX1_nearestRoom_21 : decode cX1_nearestRoom 21 = .ok (.iload 4, 2) := by decide +kernel
theorem dX1_nearestRoom_23 : decode cX1_nearestRoom 23 = .ok (.iaload, 1) := by decide +kernel
theorem dX1_nearestRoom_24 : decode cX1_nearestRoom 24 = .ok (.ifCond .le 28, 3) := by decide +kernel
theorem dX1_nearestRoom_27 : decode cX1_nearestRoom 27 = .ok (.iload_n 1, 1) := by decide +kernel
theorem dX1_nearestRoom_28 : decode cX1_nearestRoom 28 = .ok (.aload_n 0, 1) := by decide +kernel
theorem dX1_nearestRoom_29 : decode cX1_nearestRoom 29 = .ok (.getfield 15, 3) := by decide +kernel
theorem dX1_nearestRoom_32 : decode cX1_nearestRoom 32 = .ok (.iload 4, 2) := by decide +kernel
theorem dX1_nearestRoom_34 : decode cX1_nearestRoom 34 = .ok (.iaload, 1) := by decide +kernel
theorem dX1_nearestRoom_35 : decode cX1_nearestRoom 35 = .ok (.invokestatic 85, 3) := by decide +kernel
theorem dX1_nearestRoom_38 : decode cX1_nearestRoom 38 = .ok (.istore 5, 2) := by decide +kernel
theorem dX1_nearestRoom_40 : decode cX1_nearestRoom 40 = .ok (.iload 5, 2) := by decide +kernel
theorem dX1_nearestRoom_42 : decode cX1_nearestRoom 42 = .ok (.iload_n 3, 1) := by decide +kernel
theorem dX1_nearestRoom_43 : decode cX1_nearestRoom 43 = .ok (.if_icmp .ge 9, 3) := by decide +kernel
theorem dX1_nearestRoom_46 : decode cX1_nearestRoom 46 = .ok (.iload 4, 2) := by decide +kernel
theorem dX1_nearestRoom_48 : decode cX1_nearestRoom 48 = .ok (.istore_n 2, 1) := by decide +kernel
theorem dX1_nearestRoom_49 : decode cX1_nearestRoom 49 = .ok (.iload 5, 2) := by decide +kernel
theorem dX1_nearestRoom_51 : decode cX1_nearestRoom 51 = .ok (.istore_n 3, 1) := by decide +kernel
theorem dX1_nearestRoom_52 : decode cX1_nearestRoom 52 = .ok (.iinc 4 1, 3) := by decide +kernel
theorem dX1_nearestRoom_55 : decode cX1_nearestRoom 55 = .ok (.goto (-47), 3) := by decide +kernel
theorem dX1_nearestRoom_58 : decode cX1_nearestRoom 58 = .ok (.iload_n 2, 1) := by decide +kernel
theorem dX1_nearestRoom_59 : decode cX1_nearestRoom 59 = .ok (.ireturn, 1) := by decide +kernel
theorem dX1_chase_0 : decode cX1_chase 0 = .ok (.aload_n 0, 1) := by decide +kernel
theorem dX1_chase_1 : decode cX1_chase 1 = .ok (.aload_n 0, 1) := by decide +kernel
theorem dX1_chase_2 : decode cX1_chase 2 = .ok (.getfield 30, 3) := by decide +kernel
theorem dX1_chase_5 : decode cX1_chase 5 = .ok (.iload_n 1, 1) := by decide +kernel
theorem dX1_chase_6 : decode cX1_chase 6 = .ok (.iaload, 1) := by decide +kernel
theorem dX1_chase_7 : decode cX1_chase 7 = .ok (.invokevirtual 121, 3) := by decide +kernel
theorem dX1_chase_10 : decode cX1_chase 10 = .ok (.istore_n 2, 1) := by decide +kernel
theorem dX1_chase_11 : decode cX1_chase 11 = .ok (.iload_n 2, 1) := by decide +kernel
theorem dX1_chase_12 : decode cX1_chase 12 = .ok (.iconst (-1), 1) := by decide +kernel
theorem dX1_chase_13 : decode cX1_chase 13 = .ok (.if_icmp .ne 4, 3) := by decide +kernel
theorem dX1_chase_16 : decode cX1_chase 16 = .ok (.return_, 1) := by decide +kernel
theorem dX1_chase_17 : decode cX1_chase 17 = .ok (.aload_n 0, 1) := by decide +kernel
theorem dX1_chase_18 : decode cX1_chase 18 = .ok (.getfield 30, 3) := by decide +kernel
theorem dX1_chase_21 : decode cX1_chase 21 = .ok (.iload_n 1, 1) := by decide +kernel
theorem dX1_chase_22 : decode cX1_chase 22 = .ok (.iaload, 1) := by decide +kernel
theorem dX1_chase_23 : decode cX1_chase 23 = .ok (.aload_n 0, 1) := by decide +kernel
theorem dX1_chase_24 : decode cX1_chase 24 = .ok (.getfield 24, 3) := by decide +kernel
theorem dX1_chase_27 : decode cX1_chase 27 = .ok (.iload_n 2, 1) := by decide +kernel
theorem dX1_chase_28 : decode cX1_chase 28 = .ok (.iaload, 1) := by decide +kernel
theorem dX1_chase_29 : decode cX1_chase 29 = .ok (.invokestatic 118, 3) := by decide +kernel
theorem dX1_chase_32 : decode cX1_chase 32 = .ok (.istore_n 3, 1) := by decide +kernel
theorem dX1_chase_33 : decode cX1_chase 33 = .ok (.aload_n 0, 1) := by decide +kernel
theorem dX1_chase_34 : decode cX1_chase 34 = .ok (.getfield 30, 3) := by decide +kernel
theorem dX1_chase_37 : decode cX1_chase 37 = .ok (.iload_n 1, 1) := by decide +kernel
theorem dX1_chase_38 : decode cX1_chase 38 = .ok (.iload_n 3, 1) := by decide +kernel
theorem dX1_chase_39 : decode cX1_chase 39 = .ok (.iastore, 1) := by decide +kernel
theorem dX1_chase_40 : decode cX1_chase 40 = .ok (.iconst 0, 1) := by decide +kernel
theorem dX1_chase_41 : decode cX1_chase 41 = .ok (.istore 4, 2) := by decide +kernel
theorem dX1_chase_43 : decode cX1_chase 43 = .ok (.iload 4, 2) := by decide +kernel
theorem dX1_chase_45 : decode cX1_chase 45 = .ok (.aload_n 0, 1) := by decide +kernel
theorem dX1_chase_46 : decode cX1_chase 46 = .ok (.getfield 43, 3) := by decide +kernel
theorem dX1_chase_49 : decode cX1_chase 49 = .ok (.if_icmp .ge 40, 3) := by decide +kernel
theorem dX1_chase_52 : decode cX1_chase 52 = .ok (.aload_n 0, 1) := by decide +kernel
theorem dX1_chase_53 : decode cX1_chase 53 = .ok (.getfield 27, 3) := by decide +kernel
theorem dX1_chase_56 : decode cX1_chase 56 = .ok (.iload 4, 2) := by decide +kernel
theorem dX1_chase_58 : decode cX1_chase 58 = .ok (.iaload, 1) := by decide +kernel
theorem dX1_chase_59 : decode cX1_chase 59 = .ok (.iconst (-1), 1) := by decide +kernel
theorem dX1_chase_60 : decode cX1_chase 60 = .ok (.if_icmp .ne 23, 3) := by decide +kernel
theorem dX1_chase_63 : decode cX1_chase 63 = .ok (.aload_n 0, 1) := by decide +kernel
theorem dX1_chase_64 : decode cX1_chase 64 = .ok (.getfield 24, 3) := by decide +kernel
theorem dX1_chase_67 : decode cX1_chase 67 = .ok (.iload 4, 2) := by decide +kernel
theorem dX1_chase_69 : decode cX1_chase 69 = .ok (.iaload, 1) := by decide +kernel
theorem dX1_chase_70 : decode cX1_chase 70 = .ok (.iload_n 3, 1) := by decide +kernel
theorem dX1_chase_71 : decode cX1_chase 71 = .ok (.if_icmp .ne 12, 3) := by decide +kernel
theorem dX1_chase_74 : decode cX1_chase 74 = .ok (.aload_n 0, 1) := by decide +kernel
theorem dX1_chase_75 : decode cX1_chase 75 = .ok (.getfield 27, 3) := by decide +kernel
theorem dX1_chase_78 : decode cX1_chase 78 = .ok (.iload 4, 2) := by decide +kernel
theorem dX1_chase_80 : decode cX1_chase 80 = .ok (.bipush (-2), 2) := by decide +kernel
theorem dX1_chase_82 : decode cX1_chase 82 = .ok (.iastore, 1) := by decide +kernel
theorem dX1_chase_83 : decode cX1_chase 83 = .ok (.iinc 4 1, 3) := by decide +kernel
theorem dX1_chase_86 : decode cX1_chase 86 = .ok (.goto (-43), 3) := by decide +kernel
theorem dX1_chase_89 : decode cX1_chase 89 = .ok (.return_, 1) := by decide +kernel
theorem dX1_nearestFree_0 : decode cX1_nearestFree 0 = .ok (.iconst (-1), 1) := by decide +kernel
theorem dX1_nearestFree_1 : decode cX1_nearestFree 1 = .ok (.istore_n 2, 1) := by decide +kernel
theorem dX1_nearestFree_2 : decode cX1_nearestFree 2 = .ok (.bipush 9, 2) := by decide +kernel
theorem dX1_nearestFree_4 : decode cX1_nearestFree 4 = .ok (.istore_n 3, 1) := by decide +kernel
theorem dX1_nearestFree_5 : decode cX1_nearestFree 5 = .ok (.iconst 0, 1) := by decide +kernel
theorem dX1_nearestFree_6 : decode cX1_nearestFree 6 = .ok (.istore 4, 2) := by decide +kernel
theorem dX1_nearestFree_8 : decode cX1_nearestFree 8 = .ok (.iload 4, 2) := by decide +kernel
theorem dX1_nearestFree_10 : decode cX1_nearestFree 10 = .ok (.aload_n 0, 1) := by decide +kernel
theorem dX1_nearestFree_11 : decode cX1_nearestFree 11 = .ok (.getfield 43, 3) := by decide +kernel
theorem dX1_nearestFree_14 : decode cX1_nearestFree 14 = .ok (.if_icmp .ge 45, 3) := by decide +kernel
theorem dX1_nearestFree_17 : decode cX1_nearestFree 17 = .ok (.aload_n 0, 1) := by decide +kernel
theorem dX1_nearestFree_18 : decode cX1_nearestFree 18 = .ok (.getfield 27, 3) := by decide +kernel
theorem dX1_nearestFree_21 : decode cX1_nearestFree 21 = .ok (.iload 4, 2) := by decide +kernel
theorem dX1_nearestFree_23 : decode cX1_nearestFree 23 = .ok (.iaload, 1) := by decide +kernel
theorem dX1_nearestFree_24 : decode cX1_nearestFree 24 = .ok (.iconst (-1), 1) := by decide +kernel
theorem dX1_nearestFree_25 : decode cX1_nearestFree 25 = .ok (.if_icmp .ne 28, 3) := by decide +kernel
theorem dX1_nearestFree_28 : decode cX1_nearestFree 28 = .ok (.iload_n 1, 1) := by decide +kernel
theorem dX1_nearestFree_29 : decode cX1_nearestFree 29 = .ok (.aload_n 0, 1) := by decide +kernel
theorem dX1_nearestFree_30 : decode cX1_nearestFree 30 = .ok (.getfield 24, 3) := by decide +kernel
theorem dX1_nearestFree_33 : decode cX1_nearestFree 33 = .ok (.iload 4, 2) := by decide +kernel
theorem dX1_nearestFree_35 : decode cX1_nearestFree 35 = .ok (.iaload, 1) := by decide +kernel
theorem dX1_nearestFree_36 : decode cX1_nearestFree 36 = .ok (.invokestatic 85, 3) := by decide +kernel
theorem dX1_nearestFree_39 : decode cX1_nearestFree 39 = .ok (.istore 5, 2) := by decide +kernel
theorem dX1_nearestFree_41 : decode cX1_nearestFree 41 = .ok (.iload 5, 2) := by decide +kernel
theorem dX1_nearestFree_43 : decode cX1_nearestFree 43 = .ok (.iload_n 3, 1) := by decide +kernel
theorem dX1_nearestFree_44 : decode cX1_nearestFree 44 = .ok (.if_icmp .ge 9, 3) := by decide +kernel
theorem dX1_nearestFree_47 : decode cX1_nearestFree 47 = .ok (.iload 4, 2) := by decide +kernel
theorem dX1_nearestFree_49 : decode cX1_nearestFree 49 = .ok (.istore_n 2, 1) := by decide +kernel
theorem dX1_nearestFree_50 : decode cX1_nearestFree 50 = .ok (.iload 5, 2) := by decide +kernel
theorem dX1_nearestFree_52 : decode cX1_nearestFree 52 = .ok (.istore_n 3, 1) := by decide +kernel
theorem dX1_nearestFree_53 : decode cX1_nearestFree 53 = .ok (.iinc 4 1, 3) := by decide +kernel
theorem dX1_nearestFree_56 : decode cX1_nearestFree 56 = .ok (.goto (-48), 3) := by decide +kernel
theorem dX1_nearestFree_59 : decode cX1_nearestFree 59 = .ok (.iload_n 2, 1) := by decide +kernel
theorem dX1_nearestFree_60 : decode cX1_nearestFree 60 = .ok (.ireturn, 1) := by decide +kernel
theorem dX1_wearOut_0 : decode cX1_wearOut 0 = .ok (.aload_n 0, 1) := by decide +kernel
theorem dX1_wearOut_1 : decode cX1_wearOut 1 = .ok (.getfield 36, 3) := by decide +kernel
theorem dX1_wearOut_4 : decode cX1_wearOut 4 = .ok (.iload_n 1, 1) := by decide +kernel
theorem dX1_wearOut_5 : decode cX1_wearOut 5 = .ok (.iaload, 1) := by decide +kernel
theorem dX1_wearOut_6 : decode cX1_wearOut 6 = .ok (.istore_n 2, 1) := by decide +kernel
theorem dX1_wearOut_7 : decode cX1_wearOut 7 = .ok (.aload_n 0, 1) := by decide +kernel
theorem dX1_wearOut_8 : decode cX1_wearOut 8 = .ok (.getfield 21, 3) := by decide +kernel
theorem dX1_wearOut_11 : decode cX1_wearOut 11 = .ok (.iload_n 1, 1) := by decide +kernel
theorem dX1_wearOut_12 : decode cX1_wearOut 12 = .ok (.bipush 40, 2) := by decide +kernel
theorem dX1_wearOut_14 : decode cX1_wearOut 14 = .ok (.aload_n 0, 1) := by decide +kernel
theorem dX1_wearOut_15 : decode cX1_wearOut 15 = .ok (.getfield 21, 3) := by decide +kernel
theorem dX1_wearOut_18 : decode cX1_wearOut 18 = .ok (.iload_n 1, 1) := by decide +kernel
theorem dX1_wearOut_19 : decode cX1_wearOut 19 = .ok (.iaload, 1) := by decide +kernel
theorem dX1_wearOut_20 : decode cX1_wearOut 20 = .ok (.aload_n 0, 1) := by decide +kernel
theorem dX1_wearOut_21 : decode cX1_wearOut 21 = .ok (.getfield 9, 3) := by decide +kernel
theorem dX1_wearOut_24 : decode cX1_wearOut 24 = .ok (.iload_n 1, 1) := by decide +kernel
theorem dX1_wearOut_25 : decode cX1_wearOut 25 = .ok (.iaload, 1) := by decide +kernel
theorem dX1_wearOut_26 : decode cX1_wearOut 26 = .ok (.iload_n 2, 1) := by decide +kernel
theorem dX1_wearOut_27 : decode cX1_wearOut 27 = .ok (.invokestatic 124, 3) := by decide +kernel
theorem dX1_wearOut_30 : decode cX1_wearOut 30 = .ok (.iadd, 1) := by decide +kernel
theorem dX1_wearOut_31 : decode cX1_wearOut 31 = .ok (.invokestatic 127, 3) := by decide +kernel
theorem dX1_wearOut_34 : decode cX1_wearOut 34 = .ok (.iastore, 1) := by decide +kernel
theorem dX1_wearOut_35 : decode cX1_wearOut 35 = .ok (.aload_n 0, 1) := by decide +kernel
theorem dX1_wearOut_36 : decode cX1_wearOut 36 = .ok (.iload_n 1, 1) := by decide +kernel
theorem dX1_wearOut_37 : decode cX1_wearOut 37 = .ok (.invokevirtual 107, 3) := by decide +kernel
theorem dX1_wearOut_40 : decode cX1_wearOut 40 = .ok (.istore_n 3, 1) := by decide +kernel
theorem dX1_wearOut_41 : decode cX1_wearOut 41 = .ok (.aload_n 0, 1) := by decide +kernel
theorem dX1_wearOut_42 : decode cX1_wearOut 42 = .ok (.getfield 43, 3) := by decide +kernel
theorem dX1_wearOut_45 : decode cX1_wearOut 45 = .ok (.iconst 1, 1) := by decide +kernel
theorem dX1_wearOut_46 : decode cX1_wearOut 46 = .ok (.isub, 1) := by decide +kernel
theorem dX1_wearOut_47 : decode cX1_wearOut 47 = .ok (.istore 4, 2) := by decide +kernel
theorem dX1_wearOut_49 : decode cX1_wearOut 49 = .ok (.iload 4, 2) := by decide +kernel
theorem dX1_wearOut_51 : decode cX1_wearOut 51 = .ok (.ifCond .lt 40, 3) := by decide +kernel
theorem dX1_wearOut_54 : decode cX1_wearOut 54 = .ok (.iload_n 2, 1) := by decide +kernel
theorem dX1_wearOut_55 : decode cX1_wearOut 55 = .ok (.iload_n 3, 1) := by decide +kernel
theorem dX1_wearOut_56 : decode cX1_wearOut 56 = .ok (.if_icmp .le 35, 3) := by decide +kernel
theorem dX1_wearOut_59 : decode cX1_wearOut 59 = .ok (.aload_n 0, 1) := by decide +kernel
theorem dX1_wearOut_60 : decode cX1_wearOut 60 = .ok (.getfield 27, 3) := by decide +kernel
theorem dX1_wearOut_63 : decode cX1_wearOut 63 = .ok (.iload 4, 2) := by decide +kernel
theorem dX1_wearOut_65 : decode cX1_wearOut 65 = .ok (.iaload, 1) := by decide +kernel
theorem dX1_wearOut_66 : decode cX1_wearOut 66 = .ok (.iload_n 1, 1) := by decide +kernel
theorem dX1_wearOut_67 : decode cX1_wearOut 67 = .ok (.if_icmp .ne 18, 3) := by decide +kernel
theorem dX1_wearOut_70 : decode cX1_wearOut 70 = .ok (.aload_n 0, 1) := by decide +kernel
theorem dX1_wearOut_71 : decode cX1_wearOut 71 = .ok (.iload 4, 2) := by decide +kernel
theorem dX1_wearOut_73 : decode cX1_wearOut 73 = .ok (.aload_n 0, 1) := by decide +kernel
theorem dX1_wearOut_74 : decode cX1_wearOut 74 = .ok (.getfield 15, 3) := by decide +kernel
theorem dX1_wearOut_77 : decode cX1_wearOut 77 = .ok (.iload_n 1, 1) := by decide +kernel
theorem dX1_wearOut_78 : decode cX1_wearOut 78 = .ok (.iaload, 1) := by decide +kernel
theorem dX1_wearOut_79 : decode cX1_wearOut 79 = .ok (.invokevirtual 58, 3) := by decide +kernel
theorem dX1_wearOut_82 : decode cX1_wearOut 82 = .ok (.iinc 2 (-1), 3) := by decide +kernel
theorem dX1_wearOut_85 : decode cX1_wearOut 85 = .ok (.iinc 4 (-1), 3) := by decide +kernel
theorem dX1_wearOut_88 : decode cX1_wearOut 88 = .ok (.goto (-39), 3) := by decide +kernel
theorem dX1_wearOut_91 : decode cX1_wearOut 91 = .ok (.return_, 1) := by decide +kernel
theorem dX1_fewestHoursTo_0 : decode cX1_fewestHoursTo 0 = .ok (.bipush 9, 2) := by decide +kernel
theorem dX1_fewestHoursTo_2 : decode cX1_fewestHoursTo 2 = .ok (.istore_n 2, 1) := by decide +kernel
theorem dX1_fewestHoursTo_3 : decode cX1_fewestHoursTo 3 = .ok (.iconst 0, 1) := by decide +kernel
theorem dX1_fewestHoursTo_4 : decode cX1_fewestHoursTo 4 = .ok (.istore_n 3, 1) := by decide +kernel
theorem dX1_fewestHoursTo_5 : decode cX1_fewestHoursTo 5 = .ok (.iload_n 3, 1) := by decide +kernel
theorem dX1_fewestHoursTo_6 : decode cX1_fewestHoursTo 6 = .ok (.aload_n 0, 1) := by decide +kernel
theorem dX1_fewestHoursTo_7 : decode cX1_fewestHoursTo 7 = .ok (.getfield 39, 3) := by decide +kernel
theorem dX1_fewestHoursTo_10 : decode cX1_fewestHoursTo 10 = .ok (.if_icmp .ge 37, 3) := by decide +kernel
theorem dX1_fewestHoursTo_13 : decode cX1_fewestHoursTo 13 = .ok (.aload_n 0, 1) := by decide +kernel
theorem dX1_fewestHoursTo_14 : decode cX1_fewestHoursTo 14 = .ok (.iload_n 3, 1) := by decide +kernel
theorem dX1_fewestHoursTo_15 : decode cX1_fewestHoursTo 15 = .ok (.invokevirtual 107, 3) := by decide +kernel
theorem dX1_fewestHoursTo_18 : decode cX1_fewestHoursTo 18 = .ok (.ifCond .le 23, 3) := by decide +kernel
theorem dX1_fewestHoursTo_21 : decode cX1_fewestHoursTo 21 = .ok (.iload_n 2, 1) := by decide +kernel
theorem dX1_fewestHoursTo_22 : decode cX1_fewestHoursTo 22 = .ok (.aload_n 0, 1) := by decide +kernel
theorem dX1_fewestHoursTo_23 : decode cX1_fewestHoursTo 23 = .ok (.getfield 24, 3) := by decide +kernel
theorem dX1_fewestHoursTo_26 : decode cX1_fewestHoursTo 26 = .ok (.iload_n 1, 1) := by decide +kernel
theorem dX1_fewestHoursTo_27 : decode cX1_fewestHoursTo 27 = .ok (.iaload, 1) := by decide +kernel
theorem dX1_fewestHoursTo_28 : decode cX1_fewestHoursTo 28 = .ok (.aload_n 0, 1) := by decide +kernel
theorem dX1_fewestHoursTo_29 : decode cX1_fewestHoursTo 29 = .ok (.getfield 15, 3) := by decide +kernel
theorem dX1_fewestHoursTo_32 : decode cX1_fewestHoursTo 32 = .ok (.iload_n 3, 1) := by decide +kernel
theorem dX1_fewestHoursTo_33 : decode cX1_fewestHoursTo 33 = .ok (.iaload, 1) := by decide +kernel
theorem dX1_fewestHoursTo_34 : decode cX1_fewestHoursTo 34 = .ok (.invokestatic 85, 3) := by decide +kernel
theorem dX1_fewestHoursTo_37 : decode cX1_fewestHoursTo 37 = .ok (.invokestatic 127, 3) := by decide +kernel
theorem dX1_fewestHoursTo_40 : decode cX1_fewestHoursTo 40 = .ok (.istore_n 2, 1) := by decide +kernel
theorem dX1_fewestHoursTo_41 : decode cX1_fewestHoursTo 41 = .ok (.iinc 3 1, 3) := by decide +kernel
theorem dX1_fewestHoursTo_44 : decode cX1_fewestHoursTo 44 = .ok (.goto (-39), 3) := by decide +kernel
theorem dX1_fewestHoursTo_47 : decode cX1_fewestHoursTo 47 = .ok (.iload_n 2, 1) := by decide +kernel
theorem dX1_fewestHoursTo_48 : decode cX1_fewestHoursTo 48 = .ok (.iconst 1, 1) := by decide +kernel
theorem dX1_fewestHoursTo_49 : decode cX1_fewestHoursTo 49 = .ok (.iadd, 1) := by decide +kernel
theorem dX1_fewestHoursTo_50 : decode cX1_fewestHoursTo 50 = .ok (.ireturn, 1) := by decide +kernel
theorem dX1_digestOn_0 : decode cX1_digestOn 0 = .ok (.iconst 0, 1) := by decide +kernel
theorem dX1_digestOn_1 : decode cX1_digestOn 1 = .ok (.istore_n 3, 1) := by decide +kernel
theorem dX1_digestOn_2 : decode cX1_digestOn 2 = .ok (.iload_n 3, 1) := by decide +kernel
theorem dX1_digestOn_3 : decode cX1_digestOn 3 = .ok (.aload_n 0, 1) := by decide +kernel
theorem dX1_digestOn_4 : decode cX1_digestOn 4 = .ok (.getfield 39, 3) := by decide +kernel
theorem dX1_digestOn_7 : decode cX1_digestOn 7 = .ok (.if_icmp .ge 65, 3) := by decide +kernel
theorem dX1_digestOn_10 : decode cX1_digestOn 10 = .ok (.ldc2_w 132, 3) := by decide +kernel
theorem dX1_digestOn_13 : decode cX1_digestOn 13 = .ok (.lload_n 1, 1) := by decide +kernel
theorem dX1_digestOn_14 : decode cX1_digestOn 14 = .ok (.lmul, 1) := by decide +kernel
theorem dX1_digestOn_15 : decode cX1_digestOn 15 = .ok (.aload_n 0, 1) := by decide +kernel
theorem dX1_digestOn_16 : decode cX1_digestOn 16 = .ok (.getfield 9, 3) := by decide +kernel
theorem dX1_digestOn_19 : decode cX1_digestOn 19 = .ok (.iload_n 3, 1) := by decide +kernel
theorem dX1_digestOn_20 : decode cX1_digestOn 20 = .ok (.iaload, 1) := by decide +kernel
theorem dX1_digestOn_21 : decode cX1_digestOn 21 = .ok (.i2l, 1) := by decide +kernel
theorem dX1_digestOn_22 : decode cX1_digestOn 22 = .ok (.ladd, 1) := by decide +kernel
theorem dX1_digestOn_23 : decode cX1_digestOn 23 = .ok (.lstore_n 1, 1) := by decide +kernel
theorem dX1_digestOn_24 : decode cX1_digestOn 24 = .ok (.ldc2_w 132, 3) := by decide +kernel
theorem dX1_digestOn_27 : decode cX1_digestOn 27 = .ok (.lload_n 1, 1) := by decide +kernel
theorem dX1_digestOn_28 : decode cX1_digestOn 28 = .ok (.lmul, 1) := by decide +kernel
theorem dX1_digestOn_29 : decode cX1_digestOn 29 = .ok (.aload_n 0, 1) := by decide +kernel
theorem dX1_digestOn_30 : decode cX1_digestOn 30 = .ok (.getfield 15, 3) := by decide +kernel
theorem dX1_digestOn_33 : decode cX1_digestOn 33 = .ok (.iload_n 3, 1) := by decide +kernel
theorem dX1_digestOn_34 : decode cX1_digestOn 34 = .ok (.iaload, 1) := by decide +kernel
theorem dX1_digestOn_35 : decode cX1_digestOn 35 = .ok (.i2l, 1) := by decide +kernel
theorem dX1_digestOn_36 : decode cX1_digestOn 36 = .ok (.ladd, 1) := by decide +kernel
theorem dX1_digestOn_37 : decode cX1_digestOn 37 = .ok (.lstore_n 1, 1) := by decide +kernel
theorem dX1_digestOn_38 : decode cX1_digestOn 38 = .ok (.ldc2_w 132, 3) := by decide +kernel
theorem dX1_digestOn_41 : decode cX1_digestOn 41 = .ok (.lload_n 1, 1) := by decide +kernel
theorem dX1_digestOn_42 : decode cX1_digestOn 42 = .ok (.lmul, 1) := by decide +kernel
theorem dX1_digestOn_43 : decode cX1_digestOn 43 = .ok (.aload_n 0, 1) := by decide +kernel
theorem dX1_digestOn_44 : decode cX1_digestOn 44 = .ok (.getfield 18, 3) := by decide +kernel
theorem dX1_digestOn_47 : decode cX1_digestOn 47 = .ok (.iload_n 3, 1) := by decide +kernel
theorem dX1_digestOn_48 : decode cX1_digestOn 48 = .ok (.iaload, 1) := by decide +kernel
theorem dX1_digestOn_49 : decode cX1_digestOn 49 = .ok (.i2l, 1) := by decide +kernel
theorem dX1_digestOn_50 : decode cX1_digestOn 50 = .ok (.ladd, 1) := by decide +kernel
theorem dX1_digestOn_51 : decode cX1_digestOn 51 = .ok (.lstore_n 1, 1) := by decide +kernel
theorem dX1_digestOn_52 : decode cX1_digestOn 52 = .ok (.ldc2_w 132, 3) := by decide +kernel
theorem dX1_digestOn_55 : decode cX1_digestOn 55 = .ok (.lload_n 1, 1) := by decide +kernel
theorem dX1_digestOn_56 : decode cX1_digestOn 56 = .ok (.lmul, 1) := by decide +kernel
theorem dX1_digestOn_57 : decode cX1_digestOn 57 = .ok (.aload_n 0, 1) := by decide +kernel
theorem dX1_digestOn_58 : decode cX1_digestOn 58 = .ok (.getfield 21, 3) := by decide +kernel
theorem dX1_digestOn_61 : decode cX1_digestOn 61 = .ok (.iload_n 3, 1) := by decide +kernel
theorem dX1_digestOn_62 : decode cX1_digestOn 62 = .ok (.iaload, 1) := by decide +kernel
theorem dX1_digestOn_63 : decode cX1_digestOn 63 = .ok (.i2l, 1) := by decide +kernel
theorem dX1_digestOn_64 : decode cX1_digestOn 64 = .ok (.ladd, 1) := by decide +kernel
theorem dX1_digestOn_65 : decode cX1_digestOn 65 = .ok (.lstore_n 1, 1) := by decide +kernel
theorem dX1_digestOn_66 : decode cX1_digestOn 66 = .ok (.iinc 3 1, 3) := by decide +kernel
theorem dX1_digestOn_69 : decode cX1_digestOn 69 = .ok (.goto (-67), 3) := by decide +kernel
theorem dX1_digestOn_72 : decode cX1_digestOn 72 = .ok (.iconst 0, 1) := by decide +kernel
theorem dX1_digestOn_73 : decode cX1_digestOn 73 = .ok (.istore_n 3, 1) := by decide +kernel
theorem dX1_digestOn_74 : decode cX1_digestOn 74 = .ok (.iload_n 3, 1) := by decide +kernel
theorem dX1_digestOn_75 : decode cX1_digestOn 75 = .ok (.aload_n 0, 1) := by decide +kernel
theorem dX1_digestOn_76 : decode cX1_digestOn 76 = .ok (.getfield 43, 3) := by decide +kernel
theorem dX1_digestOn_79 : decode cX1_digestOn 79 = .ok (.if_icmp .ge 39, 3) := by decide +kernel
theorem dX1_digestOn_82 : decode cX1_digestOn 82 = .ok (.iconst 0, 1) := by decide +kernel
theorem dX1_digestOn_83 : decode cX1_digestOn 83 = .ok (.istore 4, 2) := by decide +kernel
theorem dX1_digestOn_85 : decode cX1_digestOn 85 = .ok (.iload 4, 2) := by decide +kernel
theorem dX1_digestOn_87 : decode cX1_digestOn 87 = .ok (.iconst 2, 1) := by decide +kernel
theorem dX1_digestOn_88 : decode cX1_digestOn 88 = .ok (.if_icmp .gt 24, 3) := by decide +kernel
theorem dX1_digestOn_91 : decode cX1_digestOn 91 = .ok (.ldc2_w 132, 3) := by decide +kernel
theorem dX1_digestOn_94 : decode cX1_digestOn 94 = .ok (.lload_n 1, 1) := by decide +kernel
theorem dX1_digestOn_95 : decode cX1_digestOn 95 = .ok (.lmul, 1) := by decide +kernel
theorem dX1_digestOn_96 : decode cX1_digestOn 96 = .ok (.aload_n 0, 1) := by decide +kernel
theorem dX1_digestOn_97 : decode cX1_digestOn 97 = .ok (.iload_n 3, 1) := by decide +kernel
theorem dX1_digestOn_98 : decode cX1_digestOn 98 = .ok (.iload 4, 2) := by decide +kernel
theorem dX1_digestOn_100 : decode cX1_digestOn 100 = .ok (.invokevirtual 134, 3) := by decide +kernel
theorem dX1_digestOn_103 : decode cX1_digestOn 103 = .ok (.i2l, 1) := by decide +kernel
theorem dX1_digestOn_104 : decode cX1_digestOn 104 = .ok (.ladd, 1) := by decide +kernel
theorem dX1_digestOn_105 : decode cX1_digestOn 105 = .ok (.lstore_n 1, 1) := by decide +kernel
theorem dX1_digestOn_106 : decode cX1_digestOn 106 = .ok (.iinc 4 1, 3) := by decide +kernel
theorem dX1_digestOn_109 : decode cX1_digestOn 109 = .ok (.goto (-24), 3) := by decide +kernel
theorem dX1_digestOn_112 : decode cX1_digestOn 112 = .ok (.iinc 3 1, 3) := by decide +kernel
theorem dX1_digestOn_115 : decode cX1_digestOn 115 = .ok (.goto (-41), 3) := by decide +kernel
theorem dX1_digestOn_118 : decode cX1_digestOn 118 = .ok (.iconst 0, 1) := by decide +kernel
theorem dX1_digestOn_119 : decode cX1_digestOn 119 = .ok (.istore_n 3, 1) := by decide +kernel
theorem dX1_digestOn_120 : decode cX1_digestOn 120 = .ok (.iload_n 3, 1) := by decide +kernel
theorem dX1_digestOn_121 : decode cX1_digestOn 121 = .ok (.aload_n 0, 1) := by decide +kernel
theorem dX1_digestOn_122 : decode cX1_digestOn 122 = .ok (.getfield 46, 3) := by decide +kernel
theorem dX1_digestOn_125 : decode cX1_digestOn 125 = .ok (.if_icmp .ge 23, 3) := by decide +kernel
theorem dX1_digestOn_128 : decode cX1_digestOn 128 = .ok (.ldc2_w 132, 3) := by decide +kernel
theorem dX1_digestOn_131 : decode cX1_digestOn 131 = .ok (.lload_n 1, 1) := by decide +kernel
theorem dX1_digestOn_132 : decode cX1_digestOn 132 = .ok (.lmul, 1) := by decide +kernel
theorem dX1_digestOn_133 : decode cX1_digestOn 133 = .ok (.aload_n 0, 1) := by decide +kernel
theorem dX1_digestOn_134 : decode cX1_digestOn 134 = .ok (.getfield 30, 3) := by decide +kernel
theorem dX1_digestOn_137 : decode cX1_digestOn 137 = .ok (.iload_n 3, 1) := by decide +kernel
theorem dX1_digestOn_138 : decode cX1_digestOn 138 = .ok (.iaload, 1) := by decide +kernel
theorem dX1_digestOn_139 : decode cX1_digestOn 139 = .ok (.i2l, 1) := by decide +kernel
theorem dX1_digestOn_140 : decode cX1_digestOn 140 = .ok (.ladd, 1) := by decide +kernel
theorem dX1_digestOn_141 : decode cX1_digestOn 141 = .ok (.lstore_n 1, 1) := by decide +kernel
theorem dX1_digestOn_142 : decode cX1_digestOn 142 = .ok (.iinc 3 1, 3) := by decide +kernel
theorem dX1_digestOn_145 : decode cX1_digestOn 145 = .ok (.goto (-25), 3) := by decide +kernel
theorem dX1_digestOn_148 : decode cX1_digestOn 148 = .ok (.lload_n 1, 1) := by decide +kernel
theorem dX1_digestOn_149 : decode cX1_digestOn 149 = .ok (.lreturn, 1) := by decide +kernel
theorem dX2_init_0 : decode cX2_init 0 = .ok (.aload_n 0, 1) := by decide +kernel
theorem dX2_init_1 : decode cX2_init 1 = .ok (.invokespecial 3, 3) := by decide +kernel
theorem dX2_init_4 : decode cX2_init 4 = .ok (.aload_n 0, 1) := by decide +kernel
theorem dX2_init_5 : decode cX2_init 5 = .ok (.iconst 5, 1) := by decide +kernel
theorem dX2_init_6 : decode cX2_init 6 = .ok (.anewarray 9, 3) := by decide +kernel
theorem dX2_init_9 : decode cX2_init 9 = .ok (.putfield 11, 3) := by decide +kernel
theorem dX2_init_12 : decode cX2_init 12 = .ok (.aload_n 0, 1) := by decide +kernel
theorem dX2_init_13 : decode cX2_init 13 = .ok (.iconst 4, 1) := by decide +kernel
theorem dX2_init_14 : decode cX2_init 14 = .ok (.newarray .int, 2) := by decide +kernel
theorem dX2_init_16 : decode cX2_init 16 = .ok (.putfield 17, 3) := by decide +kernel
theorem dX2_init_19 : decode cX2_init 19 = .ok (.iconst 0, 1) := by decide +kernel
theorem dX2_init_20 : decode cX2_init 20 = .ok (.istore_n 1, 1) := by decide +kernel
theorem dX2_init_21 : decode cX2_init 21 = .ok (.iload_n 1, 1) := by decide +kernel
theorem dX2_init_22 : decode cX2_init 22 = .ok (.iconst 4, 1) := by decide +kernel
theorem dX2_init_23 : decode cX2_init 23 = .ok (.if_icmp .gt 22, 3) := by decide +kernel
theorem dX2_init_26 : decode cX2_init 26 = .ok (.aload_n 0, 1) := by decide +kernel
theorem dX2_init_27 : decode cX2_init 27 = .ok (.getfield 11, 3) := by decide +kernel
theorem dX2_init_30 : decode cX2_init 30 = .ok (.iload_n 1, 1) := by decide +kernel
theorem dX2_init_31 : decode cX2_init 31 = .ok (.new 9, 3) := by decide +kernel
theorem dX2_init_34 : decode cX2_init 34 = .ok (.dup, 1) := by decide +kernel
theorem dX2_init_35 : decode cX2_init 35 = .ok (.invokespecial 21, 3) := by decide +kernel
theorem dX2_init_38 : decode cX2_init 38 = .ok (.aastore, 1) := by decide +kernel
theorem dX2_init_39 : decode cX2_init 39 = .ok (.iinc 1 1, 3) := by decide +kernel
theorem dX2_init_42 : decode cX2_init 42 = .ok (.goto (-21), 3) := by decide +kernel
theorem dX2_init_45 : decode cX2_init 45 = .ok (.return_, 1) := by decide +kernel
theorem dX2_findFewestHours_0 : decode cX2_findFewestHours 0 = .ok (.aload_n 0, 1) := by decide +kernel
theorem dX2_findFewestHours_1 : decode cX2_findFewestHours 1 = .ok (.iconst 0, 1) := by decide +kernel
theorem dX2_findFewestHours_2 : decode cX2_findFewestHours 2 = .ok (.invokevirtual 22, 3) := by decide +kernel
theorem dX2_findFewestHours_5 : decode cX2_findFewestHours 5 = .ok (.astore_n 3, 1) := by decide +kernel
theorem dX2_findFewestHours_6 : decode cX2_findFewestHours 6 = .ok (.aload_n 3, 1) := by decide +kernel
theorem dX2_findFewestHours_7 : decode cX2_findFewestHours 7 = .ok (.ifnonnull 5, 3) := by decide +kernel
theorem dX2_findFewestHours_10 : decode cX2_findFewestHours 10 = .ok (.iconst (-1), 1) := by decide +kernel
theorem dX2_findFewestHours_11 : decode cX2_findFewestHours 11 = .ok (.ireturn, 1) := by decide +kernel
theorem dX2_findFewestHours_12 : decode cX2_findFewestHours 12 = .ok (.aload_n 3, 1) := by decide +kernel
theorem dX2_findFewestHours_13 : decode cX2_findFewestHours 13 = .ok (.aload_n 1, 1) := by decide +kernel
theorem dX2_findFewestHours_14 : decode cX2_findFewestHours 14 = .ok (.invokevirtual 26, 3) := by decide +kernel
theorem dX2_findFewestHours_17 : decode cX2_findFewestHours 17 = .ok (.iconst 1, 1) := by decide +kernel
theorem dX2_findFewestHours_18 : decode cX2_findFewestHours 18 = .ok (.istore 4, 2) := by decide +kernel
theorem dX2_findFewestHours_20 : decode cX2_findFewestHours 20 = .ok (.iload 4, 2) := by decide +kernel
theorem dX2_findFewestHours_22 : decode cX2_findFewestHours 22 = .ok (.iconst 4, 1) := by decide +kernel
theorem dX2_findFewestHours_23 : decode cX2_findFewestHours 23 = .ok (.if_icmp .gt 23, 3) := by decide +kernel
theorem dX2_findFewestHours_26 : decode cX2_findFewestHours 26 = .ok (.aload_n 0, 1) := by decide +kernel
theorem dX2_findFewestHours_27 : decode cX2_findFewestHours 27 = .ok (.iload_n 2, 1) := by decide +kernel
theorem dX2_findFewestHours_28 : decode cX2_findFewestHours 28 = .ok (.iconst 0, 1) := by decide +kernel
theorem dX2_findFewestHours_29 : decode cX2_findFewestHours 29 = .ok (.iload 4, 2) := by decide +kernel
theorem dX2_findFewestHours_31 : decode cX2_findFewestHours 31 = .ok (.invokestatic 30, 3) := by decide +kernel
theorem dX2_findFewestHours_34 : decode cX2_findFewestHours 34 = .ok (.ifCond .eq 6, 3) := by decide +kernel
theorem dX2_findFewestHours_37 : decode cX2_findFewestHours 37 = .ok (.iload 4, 2) := by decide +kernel
theorem dX2_findFewestHours_39 : decode cX2_findFewestHours 39 = .ok (.ireturn, 1) := by decide +kernel
theorem dX2_findFewestHours_40 : decode cX2_findFewestHours 40 = .ok (.iinc 4 1, 3) := by decide +kernel
theorem dX2_findFewestHours_43 : decode cX2_findFewestHours 43 = .ok (.goto (-23), 3) := by decide +kernel
theorem dX2_findFewestHours_46 : decode cX2_findFewestHours 46 = .ok (.iconst (-1), 1) := by decide +kernel
theorem dX2_findFewestHours_47 : decode cX2_findFewestHours 47 = .ok (.ireturn, 1) := by decide +kernel
theorem dX2_isUnderBehind_0 : decode cX2_isUnderBehind 0 = .ok (.aload_n 0, 1) := by decide +kernel
theorem dX2_isUnderBehind_1 : decode cX2_isUnderBehind 1 = .ok (.iload_n 2, 1) := by decide +kernel
theorem dX2_isUnderBehind_2 : decode cX2_isUnderBehind 2 = .ok (.invokevirtual 22, 3) := by decide +kernel
theorem dX2_isUnderBehind_5 : decode cX2_isUnderBehind 5 = .ok (.astore 4, 2) := by decide +kernel
theorem dX2_isUnderBehind_7 : decode cX2_isUnderBehind 7 = .ok (.aload_n 0, 1) := by decide +kernel
theorem dX2_isUnderBehind_8 : decode cX2_isUnderBehind 8 = .ok (.iload_n 2, 1) := by decide +kernel
theorem dX2_isUnderBehind_9 : decode cX2_isUnderBehind 9 = .ok (.iconst 1, 1) := by decide +kernel
theorem dX2_isUnderBehind_10 : decode cX2_isUnderBehind 10 = .ok (.iadd, 1) := by decide +kernel
theorem dX2_isUnderBehind_11 : decode cX2_isUnderBehind 11 = .ok (.invokevirtual 22, 3) := by decide +kernel
theorem dX2_isUnderBehind_14 : decode cX2_isUnderBehind 14 = .ok (.astore 5, 2) := by decide +kernel
theorem dX2_isUnderBehind_16 : decode cX2_isUnderBehind 16 = .ok (.aload 4, 2) := by decide +kernel
theorem dX2_isUnderBehind_18 : decode cX2_isUnderBehind 18 = .ok (.ifnull 24, 3) := by decide +kernel
theorem dX2_isUnderBehind_21 : decode cX2_isUnderBehind 21 = .ok (.iload_n 2, 1) := by decide +kernel
theorem dX2_isUnderBehind_22 : decode cX2_isUnderBehind 22 = .ok (.iload_n 3, 1) := by decide +kernel
theorem dX2_isUnderBehind_23 : decode cX2_isUnderBehind 23 = .ok (.if_icmp .ne 19, 3) := by decide +kernel
theorem dX2_isUnderBehind_26 : decode cX2_isUnderBehind 26 = .ok (.aload 4, 2) := by decide +kernel
theorem dX2_isUnderBehind_28 : decode cX2_isUnderBehind 28 = .ok (.getfield 34, 3) := by decide +kernel
theorem dX2_isUnderBehind_31 : decode cX2_isUnderBehind 31 = .ok (.iload_n 1, 1) := by decide +kernel
theorem dX2_isUnderBehind_32 : decode cX2_isUnderBehind 32 = .ok (.iaload, 1) := by decide +kernel
theorem dX2_isUnderBehind_33 : decode cX2_isUnderBehind 33 = .ok (.ifCond .lt 7, 3) := by decide +kernel
theorem dX2_isUnderBehind_36 : decode cX2_isUnderBehind 36 = .ok (.iconst 1, 1) := by decide +kernel
theorem dX2_isUnderBehind_37 : decode cX2_isUnderBehind 37 = .ok (.goto 4, 3) := by decide +kernel
theorem dX2_isUnderBehind_40 : decode cX2_isUnderBehind 40 = .ok (.iconst 0, 1) := by decide +kernel
theorem dX2_isUnderBehind_41 : decode cX2_isUnderBehind 41 = .ok (.ireturn, 1) := by decide +kernel
theorem dX2_isUnderBehind_42 : decode cX2_isUnderBehind 42 = .ok (.aload 4, 2) := by decide +kernel
theorem dX2_isUnderBehind_44 : decode cX2_isUnderBehind 44 = .ok (.ifnull 24, 3) := by decide +kernel
theorem dX2_isUnderBehind_47 : decode cX2_isUnderBehind 47 = .ok (.aload 5, 2) := by decide +kernel
theorem dX2_isUnderBehind_49 : decode cX2_isUnderBehind 49 = .ok (.ifnull 19, 3) := by decide +kernel
theorem dX2_isUnderBehind_52 : decode cX2_isUnderBehind 52 = .ok (.iload_n 2, 1) := by decide +kernel
theorem dX2_isUnderBehind_53 : decode cX2_isUnderBehind 53 = .ok (.iconst 4, 1) := by decide +kernel
theorem dX2_isUnderBehind_54 : decode cX2_isUnderBehind 54 = .ok (.if_icmp .ge 14, 3) := by decide +kernel
theorem dX2_isUnderBehind_57 : decode cX2_isUnderBehind 57 = .ok (.aload 4, 2) := by decide +kernel
theorem dX2_isUnderBehind_59 : decode cX2_isUnderBehind 59 = .ok (.getfield 34, 3) := by decide +kernel
theorem dX2_isUnderBehind_62 : decode cX2_isUnderBehind 62 = .ok (.iload_n 1, 1) := by decide +kernel
theorem dX2_isUnderBehind_63 : decode cX2_isUnderBehind 63 = .ok (.iaload, 1) := by decide +kernel
theorem dX2_isUnderBehind_64 : decode cX2_isUnderBehind 64 = .ok (.iconst (-1), 1) := by decide +kernel
theorem dX2_isUnderBehind_65 : decode cX2_isUnderBehind 65 = .ok (.if_icmp .eq 5, 3) := by decide +kernel
theorem dX2_isUnderBehind_68 : decode cX2_isUnderBehind 68 = .ok (.iconst 0, 1) := by decide +kernel
theorem dX2_isUnderBehind_69 : decode cX2_isUnderBehind 69 = .ok (.ireturn, 1) := by decide +kernel
theorem dX2_isUnderBehind_70 : decode cX2_isUnderBehind 70 = .ok (.aload 4, 2) := by decide +kernel
theorem dX2_isUnderBehind_72 : decode cX2_isUnderBehind 72 = .ok (.iload_n 1, 1) := by decide +kernel
theorem dX2_isUnderBehind_73 : decode cX2_isUnderBehind 73 = .ok (.invokevirtual 37, 3) := by decide +kernel
theorem dX2_isUnderBehind_76 : decode cX2_isUnderBehind 76 = .ok (.iload_n 3, 1) := by decide +kernel
theorem dX2_isUnderBehind_77 : decode cX2_isUnderBehind 77 = .ok (.iload_n 2, 1) := by decide +kernel
theorem dX2_isUnderBehind_78 : decode cX2_isUnderBehind 78 = .ok (.isub, 1) := by decide +kernel
theorem dX2_isUnderBehind_79 : decode cX2_isUnderBehind 79 = .ok (.if_icmp .le 5, 3) := by decide +kernel
theorem dX2_isUnderBehind_82 : decode cX2_isUnderBehind 82 = .ok (.iconst 0, 1) := by decide +kernel
theorem dX2_isUnderBehind_83 : decode cX2_isUnderBehind 83 = .ok (.ireturn, 1) := by decide +kernel
theorem dX2_isUnderBehind_84 : decode cX2_isUnderBehind 84 = .ok (.iconst 0, 1) := by decide +kernel
theorem dX2_isUnderBehind_85 : decode cX2_isUnderBehind 85 = .ok (.istore 6, 2) := by decide +kernel
theorem dX2_isUnderBehind_87 : decode cX2_isUnderBehind 87 = .ok (.iload 6, 2) := by decide +kernel
theorem dX2_isUnderBehind_89 : decode cX2_isUnderBehind 89 = .ok (.iconst 5, 1) := by decide +kernel
theorem dX2_isUnderBehind_90 : decode cX2_isUnderBehind 90 = .ok (.if_icmp .ge 62, 3) := by decide +kernel
theorem dX2_isUnderBehind_93 : decode cX2_isUnderBehind 93 = .ok (.aload 4, 2) := by decide +kernel
theorem dX2_isUnderBehind_95 : decode cX2_isUnderBehind 95 = .ok (.getfield 41, 3) := by decide +kernel
theorem dX2_isUnderBehind_98 : decode cX2_isUnderBehind 98 = .ok (.iload_n 1, 1) := by decide +kernel
theorem dX2_isUnderBehind_99 : decode cX2_isUnderBehind 99 = .ok (.iaload, 1) := by decide +kernel
theorem dX2_isUnderBehind_100 : decode cX2_isUnderBehind 100 = .ok (.iload 6, 2) := by decide +kernel
theorem dX2_isUnderBehind_102 : decode cX2_isUnderBehind 102 = .ok (.invokestatic 44, 3) := by decide +kernel
theorem dX2_isUnderBehind_105 : decode cX2_isUnderBehind 105 = .ok (.iconst (-1), 1) := by decide +kernel
theorem dX2_isUnderBehind_106 : decode cX2_isUnderBehind 106 = .ok (.if_icmp .eq 40, 3) := by decide +kernel
theorem dX2_isUnderBehind_109 : decode cX2_isUnderBehind 109 = .ok (.aload_n 0, 1) := by decide +kernel
theorem dX2_isUnderBehind_110 : decode cX2_isUnderBehind 110 = .ok (.getfield 17, 3) := by decide +kernel
theorem dX2_isUnderBehind_113 : decode cX2_isUnderBehind 113 = .ok (.iload_n 2, 1) := by decide +kernel
theorem dX2_isUnderBehind_114 : decode cX2_isUnderBehind 114 = .ok (.iload 6, 2) := by decide +kernel
theorem dX2_isUnderBehind_116 : decode cX2_isUnderBehind 116 = .ok (.iastore, 1) := by decide +kernel
theorem dX2_isUnderBehind_117 : decode cX2_isUnderBehind 117 = .ok (.aload 5, 2) := by decide +kernel
theorem dX2_isUnderBehind_119 : decode cX2_isUnderBehind 119 = .ok (.aload 4, 2) := by decide +kernel
theorem dX2_isUnderBehind_121 : decode cX2_isUnderBehind 121 = .ok (.invokevirtual 26, 3) := by decide +kernel
theorem dX2_isUnderBehind_124 : decode cX2_isUnderBehind 124 = .ok (.aload 5, 2) := by decide +kernel
theorem dX2_isUnderBehind_126 : decode cX2_isUnderBehind 126 = .ok (.iload_n 1, 1) := by decide +kernel
theorem dX2_isUnderBehind_127 : decode cX2_isUnderBehind 127 = .ok (.iload 6, 2) := by decide +kernel
theorem dX2_isUnderBehind_129 : decode cX2_isUnderBehind 129 = .ok (.invokevirtual 50, 3) := by decide +kernel
theorem dX2_isUnderBehind_132 : decode cX2_isUnderBehind 132 = .ok (.aload_n 0, 1) := by decide +kernel
theorem dX2_isUnderBehind_133 : decode cX2_isUnderBehind 133 = .ok (.iload_n 1, 1) := by decide +kernel
theorem dX2_isUnderBehind_134 : decode cX2_isUnderBehind 134 = .ok (.iload_n 2, 1) := by decide +kernel
theorem dX2_isUnderBehind_135 : decode cX2_isUnderBehind 135 = .ok (.iconst 1, 1) := by decide +kernel
theorem dX2_isUnderBehind_136 : decode cX2_isUnderBehind 136 = .ok (.iadd, 1) := by decide +kernel
theorem dX2_isUnderBehind_137 : decode cX2_isUnderBehind 137 = .ok (.iload_n 3, 1) := by decide +kernel
theorem dX2_isUnderBehind_138 : decode cX2_isUnderBehind 138 = .ok (.invokestatic 30, 3) := by decide +kernel
theorem dX2_isUnderBehind_141 : decode cX2_isUnderBehind 141 = .ok (.ifCond .eq 5, 3) := by decide +kernel
theorem dX2_isUnderBehind_144 : decode cX2_isUnderBehind 144 = .ok (.iconst 1, 1) := by decide +kernel
theorem dX2_isUnderBehind_145 : decode cX2_isUnderBehind 145 = .ok (.ireturn, 1) := by decide +kernel
theorem dX2_isUnderBehind_146 : decode cX2_isUnderBehind 146 = .ok (.iinc 6 1, 3) := by decide +kernel
theorem dX2_isUnderBehind_149 : decode cX2_isUnderBehind 149 = .ok (.goto (-62), 3) := by decide +kernel
theorem dX2_isUnderBehind_152 : decode cX2_isUnderBehind 152 = .ok (.iconst 0, 1) := by decide +kernel
theorem dX2_isUnderBehind_153 : decode cX2_isUnderBehind 153 = .ok (.ireturn, 1) := by decide +kernel
theorem dX2_stageAt_0 : decode cX2_stageAt 0 = .ok (.iload_n 1, 1) := by decide +kernel
theorem dX2_stageAt_1 : decode cX2_stageAt 1 = .ok (.iconst 0, 1) := by decide +kernel
theorem dX2_stageAt_2 : decode cX2_stageAt 2 = .ok (.iconst 4, 1) := by decide +kernel
theorem dX2_stageAt_3 : decode cX2_stageAt 3 = .ok (.invokestatic 54, 3) := by decide +kernel
theorem dX2_stageAt_6 : decode cX2_stageAt 6 = .ok (.ifCond .eq 12, 3) := by decide +kernel
theorem dX2_stageAt_9 : decode cX2_stageAt 9 = .ok (.aload_n 0, 1) := by decide +kernel
theorem dX2_stageAt_10 : decode cX2_stageAt 10 = .ok (.getfield 11, 3) := by decide +kernel
theorem dX2_stageAt_13 : decode cX2_stageAt 13 = .ok (.iload_n 1, 1) := by decide +kernel
theorem dX2_stageAt_14 : decode cX2_stageAt 14 = .ok (.aaload, 1) := by decide +kernel
theorem dX2_stageAt_15 : decode cX2_stageAt 15 = .ok (.goto 4, 3) := by decide +kernel
theorem dX2_stageAt_18 : decode cX2_stageAt 18 = .ok (.aconst_null, 1) := by decide +kernel
theorem dX2_stageAt_19 : decode cX2_stageAt 19 = .ok (.areturn, 1) := by decide +kernel
theorem dX3_init_0 : decode cX3_init 0 = .ok (.aload_n 0, 1) := by decide +kernel
theorem dX3_init_1 : decode cX3_init 1 = .ok (.invokespecial 3, 3) := by decide +kernel
theorem dX3_init_4 : decode cX3_init 4 = .ok (.aload_n 0, 1) := by decide +kernel
theorem dX3_init_5 : decode cX3_init 5 = .ok (.new 9, 3) := by decide +kernel
theorem dX3_init_8 : decode cX3_init 8 = .ok (.dup, 1) := by decide +kernel
theorem dX3_init_9 : decode cX3_init 9 = .ok (.invokespecial 11, 3) := by decide +kernel
theorem dX3_init_12 : decode cX3_init 12 = .ok (.putfield 12, 3) := by decide +kernel
theorem dX3_init_15 : decode cX3_init 15 = .ok (.aload_n 0, 1) := by decide +kernel
theorem dX3_init_16 : decode cX3_init 16 = .ok (.new 18, 3) := by decide +kernel
theorem dX3_init_19 : decode cX3_init 19 = .ok (.dup, 1) := by decide +kernel
theorem dX3_init_20 : decode cX3_init 20 = .ok (.invokespecial 20, 3) := by decide +kernel
theorem dX3_init_23 : decode cX3_init 23 = .ok (.putfield 21, 3) := by decide +kernel
theorem dX3_init_26 : decode cX3_init 26 = .ok (.aload_n 0, 1) := by decide +kernel
theorem dX3_init_27 : decode cX3_init 27 = .ok (.bipush 6, 2) := by decide +kernel
theorem dX3_init_29 : decode cX3_init 29 = .ok (.newarray .int, 2) := by decide +kernel
theorem dX3_init_31 : decode cX3_init 31 = .ok (.putfield 25, 3) := by decide +kernel
theorem dX3_init_34 : decode cX3_init 34 = .ok (.aload_n 0, 1) := by decide +kernel
theorem dX3_init_35 : decode cX3_init 35 = .ok (.bipush 6, 2) := by decide +kernel
theorem dX3_init_37 : decode cX3_init 37 = .ok (.newarray .int, 2) := by decide +kernel
theorem dX3_init_39 : decode cX3_init 39 = .ok (.putfield 29, 3) := by decide +kernel
theorem dX3_init_42 : decode cX3_init 42 = .ok (.aload_n 0, 1) := by decide +kernel
theorem dX3_init_43 : decode cX3_init 43 = .ok (.bipush 6, 2) := by decide +kernel
theorem dX3_init_45 : decode cX3_init 45 = .ok (.newarray .int, 2) := by decide +kernel
theorem dX3_init_47 : decode cX3_init 47 = .ok (.putfield 32, 3) := by decide +kernel
theorem dX3_init_50 : decode cX3_init 50 = .ok (.aload_n 0, 1) := by decide +kernel
theorem dX3_init_51 : decode cX3_init 51 = .ok (.iconst 0, 1) := by decide +kernel
theorem dX3_init_52 : decode cX3_init 52 = .ok (.putfield 35, 3) := by decide +kernel
theorem dX3_init_55 : decode cX3_init 55 = .ok (.aload_n 0, 1) := by decide +kernel
theorem dX3_init_56 : decode cX3_init 56 = .ok (.iconst 0, 1) := by decide +kernel
theorem dX3_init_57 : decode cX3_init 57 = .ok (.putfield 39, 3) := by decide +kernel
theorem dX3_init_60 : decode cX3_init 60 = .ok (.return_, 1) := by decide +kernel
theorem dX3_empty_0 : decode cX3_empty 0 = .ok (.aload_n 0, 1) := by decide +kernel
theorem dX3_empty_1 : decode cX3_empty 1 = .ok (.getfield 12, 3) := by decide +kernel
theorem dX3_empty_4 : decode cX3_empty 4 = .ok (.invokevirtual 43, 3) := by decide +kernel
theorem dX3_empty_7 : decode cX3_empty 7 = .ok (.aload_n 0, 1) := by decide +kernel
theorem dX3_empty_8 : decode cX3_empty 8 = .ok (.getfield 21, 3) := by decide +kernel
theorem dX3_empty_11 : decode cX3_empty 11 = .ok (.iconst 0, 1) := by decide +kernel
theorem dX3_empty_12 : decode cX3_empty 12 = .ok (.putfield 46, 3) := by decide +kernel
theorem dX3_empty_15 : decode cX3_empty 15 = .ok (.aload_n 0, 1) := by decide +kernel
theorem dX3_empty_16 : decode cX3_empty 16 = .ok (.iconst 0, 1) := by decide +kernel
theorem dX3_empty_17 : decode cX3_empty 17 = .ok (.putfield 35, 3) := by decide +kernel
theorem dX3_empty_20 : decode cX3_empty 20 = .ok (.return_, 1) := by decide +kernel
theorem dX3_becomes_0 : decode cX3_becomes 0 = .ok (.aload_n 0, 1) := by decide +kernel
theorem dX3_becomes_1 : decode cX3_becomes 1 = .ok (.getfield 12, 3) := by decide +kernel
theorem dX3_becomes_4 : decode cX3_becomes 4 = .ok (.aload_n 1, 1) := by decide +kernel
theorem dX3_becomes_5 : decode cX3_becomes 5 = .ok (.getfield 12, 3) := by decide +kernel
theorem dX3_becomes_8 : decode cX3_becomes 8 = .ok (.invokevirtual 49, 3) := by decide +kernel
theorem dX3_becomes_11 : decode cX3_becomes 11 = .ok (.aload_n 0, 1) := by decide +kernel
theorem dX3_becomes_12 : decode cX3_becomes 12 = .ok (.getfield 21, 3) := by decide +kernel
theorem dX3_becomes_15 : decode cX3_becomes 15 = .ok (.aload_n 1, 1) := by decide +kernel
theorem dX3_becomes_16 : decode cX3_becomes 16 = .ok (.getfield 21, 3) := by decide +kernel
theorem dX3_becomes_19 : decode cX3_becomes 19 = .ok (.invokevirtual 53, 3) := by decide +kernel
theorem dX3_becomes_22 : decode cX3_becomes 22 = .ok (.aload_n 1, 1) := by decide +kernel
theorem dX3_becomes_23 : decode cX3_becomes 23 = .ok (.getfield 25, 3) := by decide +kernel
theorem dX3_becomes_26 : decode cX3_becomes 26 = .ok (.iconst 0, 1) := by decide +kernel
theorem dX3_becomes_27 : decode cX3_becomes 27 = .ok (.aload_n 0, 1) := by decide +kernel
theorem dX3_becomes_28 : decode cX3_becomes 28 = .ok (.getfield 25, 3) := by decide +kernel
theorem dX3_becomes_31 : decode cX3_becomes 31 = .ok (.iconst 0, 1) := by decide +kernel
theorem dX3_becomes_32 : decode cX3_becomes 32 = .ok (.bipush 6, 2) := by decide +kernel
theorem dX3_becomes_34 : decode cX3_becomes 34 = .ok (.invokestatic 56, 3) := by decide +kernel
theorem dX3_becomes_37 : decode cX3_becomes 37 = .ok (.aload_n 1, 1) := by decide +kernel
theorem dX3_becomes_38 : decode cX3_becomes 38 = .ok (.getfield 29, 3) := by decide +kernel
theorem dX3_becomes_41 : decode cX3_becomes 41 = .ok (.iconst 0, 1) := by decide +kernel
theorem dX3_becomes_42 : decode cX3_becomes 42 = .ok (.aload_n 0, 1) := by decide +kernel
theorem dX3_becomes_43 : decode cX3_becomes 43 = .ok (.getfield 29, 3) := by decide +kernel
theorem dX3_becomes_46 : decode cX3_becomes 46 = .ok (.iconst 0, 1) := by decide +kernel
theorem dX3_becomes_47 : decode cX3_becomes 47 = .ok (.bipush 6, 2) := by decide +kernel
theorem dX3_becomes_49 : decode cX3_becomes 49 = .ok (.invokestatic 56, 3) := by decide +kernel
theorem dX3_becomes_52 : decode cX3_becomes 52 = .ok (.aload_n 1, 1) := by decide +kernel
theorem dX3_becomes_53 : decode cX3_becomes 53 = .ok (.getfield 32, 3) := by decide +kernel
theorem dX3_becomes_56 : decode cX3_becomes 56 = .ok (.iconst 0, 1) := by decide +kernel
theorem dX3_becomes_57 : decode cX3_becomes 57 = .ok (.aload_n 0, 1) := by decide +kernel
theorem dX3_becomes_58 : decode cX3_becomes 58 = .ok (.getfield 32, 3) := by decide +kernel
theorem dX3_becomes_61 : decode cX3_becomes 61 = .ok (.iconst 0, 1) := by decide +kernel
theorem dX3_becomes_62 : decode cX3_becomes 62 = .ok (.bipush 6, 2) := by decide +kernel
theorem dX3_becomes_64 : decode cX3_becomes 64 = .ok (.invokestatic 56, 3) := by decide +kernel
theorem dX3_becomes_67 : decode cX3_becomes 67 = .ok (.aload_n 0, 1) := by decide +kernel
theorem dX3_becomes_68 : decode cX3_becomes 68 = .ok (.aload_n 1, 1) := by decide +kernel
theorem dX3_becomes_69 : decode cX3_becomes 69 = .ok (.getfield 35, 3) := by decide +kernel
theorem dX3_becomes_72 : decode cX3_becomes 72 = .ok (.putfield 35, 3) := by decide +kernel
theorem dX3_becomes_75 : decode cX3_becomes 75 = .ok (.return_, 1) := by decide +kernel
theorem dX3_addNote_0 : decode cX3_addNote 0 = .ok (.aload_n 0, 1) := by decide +kernel
theorem dX3_addNote_1 : decode cX3_addNote 1 = .ok (.getfield 35, 3) := by decide +kernel
theorem dX3_addNote_4 : decode cX3_addNote 4 = .ok (.bipush 6, 2) := by decide +kernel
theorem dX3_addNote_6 : decode cX3_addNote 6 = .ok (.if_icmp .lt 6, 3) := by decide +kernel
theorem dX3_addNote_9 : decode cX3_addNote 9 = .ok (.bipush (-4), 2) := by decide +kernel
theorem dX3_addNote_11 : decode cX3_addNote 11 = .ok (.ireturn, 1) := by decide +kernel
theorem dX3_addNote_12 : decode cX3_addNote 12 = .ok (.aload_n 0, 1) := by decide +kernel
theorem dX3_addNote_13 : decode cX3_addNote 13 = .ok (.getfield 25, 3) := by decide +kernel
theorem dX3_addNote_16 : decode cX3_addNote 16 = .ok (.aload_n 0, 1) := by decide +kernel
theorem dX3_addNote_17 : decode cX3_addNote 17 = .ok (.getfield 35, 3) := by decide +kernel
theorem dX3_addNote_20 : decode cX3_addNote 20 = .ok (.iload_n 1, 1) := by decide +kernel
theorem dX3_addNote_21 : decode cX3_addNote 21 = .ok (.iastore, 1) := by decide +kernel
theorem dX3_addNote_22 : decode cX3_addNote 22 = .ok (.aload_n 0, 1) := by decide +kernel
theorem dX3_addNote_23 : decode cX3_addNote 23 = .ok (.getfield 29, 3) := by decide +kernel
theorem dX3_addNote_26 : decode cX3_addNote 26 = .ok (.aload_n 0, 1) := by decide +kernel
theorem dX3_addNote_27 : decode cX3_addNote 27 = .ok (.getfield 35, 3) := by decide +kernel
theorem dX3_addNote_30 : decode cX3_addNote 30 = .ok (.iload_n 2, 1) := by decide +kernel
theorem dX3_addNote_31 : decode cX3_addNote 31 = .ok (.iastore, 1) := by decide +kernel
theorem dX3_addNote_32 : decode cX3_addNote 32 = .ok (.aload_n 0, 1) := by decide +kernel
theorem dX3_addNote_33 : decode cX3_addNote 33 = .ok (.getfield 32, 3) := by decide +kernel
theorem dX3_addNote_36 : decode cX3_addNote 36 = .ok (.aload_n 0, 1) := by decide +kernel
theorem dX3_addNote_37 : decode cX3_addNote 37 = .ok (.getfield 35, 3) := by decide +kernel
theorem dX3_addNote_40 : decode cX3_addNote 40 = .ok (.iload_n 3, 1) := by decide +kernel
theorem dX3_addNote_41 : decode cX3_addNote 41 = .ok (.iastore, 1) := by decide +kernel
theorem dX3_addNote_42 : decode cX3_addNote 42 = .ok (.aload_n 0, 1) := by decide +kernel
theorem dX3_addNote_43 : decode cX3_addNote 43 = .ok (.dup, 1) := by decide +kernel
theorem dX3_addNote_44 : decode cX3_addNote 44 = .ok (.getfield 35, 3) := by decide +kernel
theorem dX3_addNote_47 : decode cX3_addNote 47 = .ok (.iconst 1, 1) := by decide +kernel
theorem dX3_addNote_48 : decode cX3_addNote 48 = .ok (.iadd, 1) := by decide +kernel
theorem dX3_addNote_49 : decode cX3_addNote 49 = .ok (.putfield 35, 3) := by decide +kernel
theorem dX3_addNote_52 : decode cX3_addNote 52 = .ok (.aload_n 0, 1) := by decide +kernel
theorem dX3_addNote_53 : decode cX3_addNote 53 = .ok (.getfield 35, 3) := by decide +kernel
theorem dX3_addNote_56 : decode cX3_addNote 56 = .ok (.ireturn, 1) := by decide +kernel
theorem dX3_digestNotesOn_0 : decode cX3_digestNotesOn 0 = .ok (.iconst 0, 1) := by decide +kernel
theorem dX3_digestNotesOn_1 : decode cX3_digestNotesOn 1 = .ok (.istore_n 3, 1) := by decide +kernel
theorem dX3_digestNotesOn_2 : decode cX3_digestNotesOn 2 = .ok (.iload_n 3, 1) := by decide +kernel
theorem dX3_digestNotesOn_3 : decode cX3_digestNotesOn 3 = .ok (.aload_n 0, 1) := by decide +kernel
theorem dX3_digestNotesOn_4 : decode cX3_digestNotesOn 4 = .ok (.getfield 35, 3) := by decide +kernel
theorem dX3_digestNotesOn_7 : decode cX3_digestNotesOn 7 = .ok (.if_icmp .ge 51, 3) := by decide +kernel
theorem dX3_digestNotesOn_10 : decode cX3_digestNotesOn 10 = .ok (.ldc2_w 62, 3) := by decide +kernel
theorem dX3_digestNotesOn_13 : decode cX3_digestNotesOn 13 = .ok (.lload_n 1, 1) := by decide +kernel
theorem dX3_digestNotesOn_14 : decode cX3_digestNotesOn 14 = .ok (.lmul, 1) := by decide +kernel
theorem dX3_digestNotesOn_15 : decode cX3_digestNotesOn 15 = .ok (.aload_n 0, 1) := by decide +kernel
theorem dX3_digestNotesOn_16 : decode cX3_digestNotesOn 16 = .ok (.getfield 25, 3) := by decide +kernel
theorem dX3_digestNotesOn_19 : decode cX3_digestNotesOn 19 = .ok (.iload_n 3, 1) := by decide +kernel
theorem dX3_digestNotesOn_20 : decode cX3_digestNotesOn 20 = .ok (.iaload, 1) := by decide +kernel
theorem dX3_digestNotesOn_21 : decode cX3_digestNotesOn 21 = .ok (.i2l, 1) := by decide +kernel
theorem dX3_digestNotesOn_22 : decode cX3_digestNotesOn 22 = .ok (.ladd, 1) := by decide +kernel
theorem dX3_digestNotesOn_23 : decode cX3_digestNotesOn 23 = .ok (.lstore_n 1, 1) := by decide +kernel
theorem dX3_digestNotesOn_24 : decode cX3_digestNotesOn 24 = .ok (.ldc2_w 62, 3) := by decide +kernel
theorem dX3_digestNotesOn_27 : decode cX3_digestNotesOn 27 = .ok (.lload_n 1, 1) := by decide +kernel
theorem dX3_digestNotesOn_28 : decode cX3_digestNotesOn 28 = .ok (.lmul, 1) := by decide +kernel
theorem dX3_digestNotesOn_29 : decode cX3_digestNotesOn 29 = .ok (.aload_n 0, 1) := by decide +kernel
theorem dX3_digestNotesOn_30 : decode cX3_digestNotesOn 30 = .ok (.getfield 29, 3) := by decide +kernel
theorem dX3_digestNotesOn_33 : decode cX3_digestNotesOn 33 = .ok (.iload_n 3, 1) := by decide +kernel
theorem dX3_digestNotesOn_34 : decode cX3_digestNotesOn 34 = .ok (.iaload, 1) := by decide +kernel
theorem dX3_digestNotesOn_35 : decode cX3_digestNotesOn 35 = .ok (.i2l, 1) := by decide +kernel
theorem dX3_digestNotesOn_36 : decode cX3_digestNotesOn 36 = .ok (.ladd, 1) := by decide +kernel
theorem dX3_digestNotesOn_37 : decode cX3_digestNotesOn 37 = .ok (.lstore_n 1, 1) := by decide +kernel
theorem dX3_digestNotesOn_38 : decode cX3_digestNotesOn 38 = .ok (.ldc2_w 62, 3) := by decide +kernel
theorem dX3_digestNotesOn_41 : decode cX3_digestNotesOn 41 = .ok (.lload_n 1, 1) := by decide +kernel
theorem dX3_digestNotesOn_42 : decode cX3_digestNotesOn 42 = .ok (.lmul, 1) := by decide +kernel
theorem dX3_digestNotesOn_43 : decode cX3_digestNotesOn 43 = .ok (.aload_n 0, 1) := by decide +kernel
theorem dX3_digestNotesOn_44 : decode cX3_digestNotesOn 44 = .ok (.getfield 32, 3) := by decide +kernel
theorem dX3_digestNotesOn_47 : decode cX3_digestNotesOn 47 = .ok (.iload_n 3, 1) := by decide +kernel
theorem dX3_digestNotesOn_48 : decode cX3_digestNotesOn 48 = .ok (.iaload, 1) := by decide +kernel
theorem dX3_digestNotesOn_49 : decode cX3_digestNotesOn 49 = .ok (.i2l, 1) := by decide +kernel
theorem dX3_digestNotesOn_50 : decode cX3_digestNotesOn 50 = .ok (.ladd, 1) := by decide +kernel
theorem dX3_digestNotesOn_51 : decode cX3_digestNotesOn 51 = .ok (.lstore_n 1, 1) := by decide +kernel
theorem dX3_digestNotesOn_52 : decode cX3_digestNotesOn 52 = .ok (.iinc 3 1, 3) := by decide +kernel
theorem dX3_digestNotesOn_55 : decode cX3_digestNotesOn 55 = .ok (.goto (-53), 3) := by decide +kernel
theorem dX3_digestNotesOn_58 : decode cX3_digestNotesOn 58 = .ok (.lload_n 1, 1) := by decide +kernel
theorem dX3_digestNotesOn_59 : decode cX3_digestNotesOn 59 = .ok (.lreturn, 1) := by decide +kernel
theorem dX4_holds_0 : decode cX4_holds 0 = .ok (.iconst 0, 1) := by decide +kernel
theorem dX4_holds_1 : decode cX4_holds 1 = .ok (.iload_n 1, 1) := by decide +kernel
theorem dX4_holds_2 : decode cX4_holds 2 = .ok (.iload_n 2, 1) := by decide +kernel
theorem dX4_holds_3 : decode cX4_holds 3 = .ok (.bipush 10, 2) := by decide +kernel
theorem dX4_holds_5 : decode cX4_holds 5 = .ok (.idiv, 1) := by decide +kernel
theorem dX4_holds_6 : decode cX4_holds 6 = .ok (.isub, 1) := by decide +kernel
theorem dX4_holds_7 : decode cX4_holds 7 = .ok (.invokestatic 9, 3) := by decide +kernel
theorem dX4_holds_10 : decode cX4_holds 10 = .ok (.istore_n 3, 1) := by decide +kernel
theorem dX4_holds_11 : decode cX4_holds 11 = .ok (.iload_n 3, 1) := by decide +kernel
theorem dX4_holds_12 : decode cX4_holds 12 = .ok (.iconst 1, 1) := by decide +kernel
theorem dX4_holds_13 : decode cX4_holds 13 = .ok (.iadd, 1) := by decide +kernel
theorem dX4_holds_14 : decode cX4_holds 14 = .ok (.istore 4, 2) := by decide +kernel
theorem dX4_holds_16 : decode cX4_holds 16 = .ok (.iconst 0, 1) := by decide +kernel
theorem dX4_holds_17 : decode cX4_holds 17 = .ok (.iload_n 1, 1) := by decide +kernel
theorem dX4_holds_18 : decode cX4_holds 18 = .ok (.iload_n 2, 1) := by decide +kernel
theorem dX4_holds_19 : decode cX4_holds 19 = .ok (.iconst 2, 1) := by decide +kernel
theorem dX4_holds_20 : decode cX4_holds 20 = .ok (.idiv, 1) := by decide +kernel
theorem dX4_holds_21 : decode cX4_holds 21 = .ok (.bipush 10, 2) := by decide +kernel
theorem dX4_holds_23 : decode cX4_holds 23 = .ok (.idiv, 1) := by decide +kernel
theorem dX4_holds_24 : decode cX4_holds 24 = .ok (.isub, 1) := by decide +kernel
theorem dX4_holds_25 : decode cX4_holds 25 = .ok (.invokestatic 9, 3) := by decide +kernel
theorem dX4_holds_28 : decode cX4_holds 28 = .ok (.istore 5, 2) := by decide +kernel
theorem dX4_holds_30 : decode cX4_holds 30 = .ok (.iload_n 0, 1) := by decide +kernel
theorem dX4_holds_31 : decode cX4_holds 31 = .ok (.tableswitch 68 0 5 #[37, 39, 42, 68, 45, 59], 37) := by decide +kernel
theorem dX4_holds_68 : decode cX4_holds 68 = .ok (.iload_n 3, 1) := by decide +kernel
theorem dX4_holds_69 : decode cX4_holds 69 = .ok (.ireturn, 1) := by decide +kernel
theorem dX4_holds_70 : decode cX4_holds 70 = .ok (.iload 4, 2) := by decide +kernel
theorem dX4_holds_72 : decode cX4_holds 72 = .ok (.ireturn, 1) := by decide +kernel
theorem dX4_holds_73 : decode cX4_holds 73 = .ok (.iload 5, 2) := by decide +kernel
theorem dX4_holds_75 : decode cX4_holds 75 = .ok (.ireturn, 1) := by decide +kernel
theorem dX4_holds_76 : decode cX4_holds 76 = .ok (.iload_n 2, 1) := by decide +kernel
theorem dX4_holds_77 : decode cX4_holds 77 = .ok (.ifCond .ne 10, 3) := by decide +kernel
theorem dX4_holds_80 : decode cX4_holds 80 = .ok (.iload 4, 2) := by decide +kernel
theorem dX4_holds_82 : decode cX4_holds 82 = .ok (.iconst 2, 1) := by decide +kernel
theorem dX4_holds_83 : decode cX4_holds 83 = .ok (.iadd, 1) := by decide +kernel
theorem dX4_holds_84 : decode cX4_holds 84 = .ok (.goto 5, 3) := by decide +kernel
theorem dX4_holds_87 : decode cX4_holds 87 = .ok (.iload 4, 2) := by decide +kernel
theorem dX4_holds_89 : decode cX4_holds 89 = .ok (.ireturn, 1) := by decide +kernel
theorem dX4_holds_90 : decode cX4_holds 90 = .ok (.iconst 0, 1) := by decide +kernel
theorem dX4_holds_91 : decode cX4_holds 91 = .ok (.iload 5, 2) := by decide +kernel
theorem dX4_holds_93 : decode cX4_holds 93 = .ok (.iconst 1, 1) := by decide +kernel
theorem dX4_holds_94 : decode cX4_holds 94 = .ok (.isub, 1) := by decide +kernel
theorem dX4_holds_95 : decode cX4_holds 95 = .ok (.invokestatic 9, 3) := by decide +kernel
theorem dX4_holds_98 : decode cX4_holds 98 = .ok (.ireturn, 1) := by decide +kernel
theorem dX4_holds_99 : decode cX4_holds 99 = .ok (.iconst 0, 1) := by decide +kernel
theorem dX4_holds_100 : decode cX4_holds 100 = .ok (.ireturn, 1) := by decide +kernel
theorem dX4_wearsInAnHour_0 : decode cX4_wearsInAnHour 0 = .ok (.iload_n 0, 1) := by decide +kernel
theorem dX4_wearsInAnHour_1 : decode cX4_wearsInAnHour 1 = .ok (.tableswitch 37 3 5 #[27, 29, 33], 27) := by decide +kernel
theorem dX4_wearsInAnHour_28 : decode cX4_wearsInAnHour 28 = .ok (.iconst 0, 1) := by decide +kernel
theorem dX4_wearsInAnHour_29 : decode cX4_wearsInAnHour 29 = .ok (.ireturn, 1) := by decide +kernel
theorem dX4_wearsInAnHour_30 : decode cX4_wearsInAnHour 30 = .ok (.iconst 2, 1) := by decide +kernel
theorem dX4_wearsInAnHour_31 : decode cX4_wearsInAnHour 31 = .ok (.iload_n 1, 1) := by decide +kernel
theorem dX4_wearsInAnHour_32 : decode cX4_wearsInAnHour 32 = .ok (.imul, 1) := by decide +kernel
theorem dX4_wearsInAnHour_33 : decode cX4_wearsInAnHour 33 = .ok (.ireturn, 1) := by decide +kernel
theorem dX4_wearsInAnHour_34 : decode cX4_wearsInAnHour 34 = .ok (.iload_n 1, 1) := by decide +kernel
theorem dX4_wearsInAnHour_35 : decode cX4_wearsInAnHour 35 = .ok (.iconst 1, 1) := by decide +kernel
theorem dX4_wearsInAnHour_36 : decode cX4_wearsInAnHour 36 = .ok (.iadd, 1) := by decide +kernel
theorem dX4_wearsInAnHour_37 : decode cX4_wearsInAnHour 37 = .ok (.ireturn, 1) := by decide +kernel
theorem dX4_wearsInAnHour_38 : decode cX4_wearsInAnHour 38 = .ok (.iload_n 1, 1) := by decide +kernel
theorem dX4_wearsInAnHour_39 : decode cX4_wearsInAnHour 39 = .ok (.ireturn, 1) := by decide +kernel
theorem dX5_init_0 : decode cX5_init 0 = .ok (.aload_n 0, 1) := by decide +kernel
theorem dX5_init_1 : decode cX5_init 1 = .ok (.invokespecial 3, 3) := by decide +kernel
theorem dX5_init_4 : decode cX5_init 4 = .ok (.aload_n 0, 1) := by decide +kernel
theorem dX5_init_5 : decode cX5_init 5 = .ok (.bipush 8, 2) := by decide +kernel
theorem dX5_init_7 : decode cX5_init 7 = .ok (.anewarray 9, 3) := by decide +kernel
theorem dX5_init_10 : decode cX5_init 10 = .ok (.putfield 11, 3) := by decide +kernel
theorem dX5_init_13 : decode cX5_init 13 = .ok (.aload_n 0, 1) := by decide +kernel
theorem dX5_init_14 : decode cX5_init 14 = .ok (.iconst 0, 1) := by decide +kernel
theorem dX5_init_15 : decode cX5_init 15 = .ok (.putfield 17, 3) := by decide +kernel
theorem dX5_init_18 : decode cX5_init 18 = .ok (.iconst 0, 1) := by decide +kernel
theorem dX5_init_19 : decode cX5_init 19 = .ok (.istore_n 1, 1) := by decide +kernel
theorem dX5_init_20 : decode cX5_init 20 = .ok (.iload_n 1, 1) := by decide +kernel
theorem dX5_init_21 : decode cX5_init 21 = .ok (.bipush 8, 2) := by decide +kernel
theorem dX5_init_23 : decode cX5_init 23 = .ok (.if_icmp .ge 22, 3) := by decide +kernel
theorem dX5_init_26 : decode cX5_init 26 = .ok (.aload_n 0, 1) := by decide +kernel
theorem dX5_init_27 : decode cX5_init 27 = .ok (.getfield 11, 3) := by decide +kernel
theorem dX5_init_30 : decode cX5_init 30 = .ok (.iload_n 1, 1) := by decide +kernel
theorem dX5_init_31 : decode cX5_init 31 = .ok (.new 9, 3) := by decide +kernel
theorem dX5_init_34 : decode cX5_init 34 = .ok (.dup, 1) := by decide +kernel
theorem dX5_init_35 : decode cX5_init 35 = .ok (.invokespecial 21, 3) := by decide +kernel
theorem dX5_init_38 : decode cX5_init 38 = .ok (.aastore, 1) := by decide +kernel
theorem dX5_init_39 : decode cX5_init 39 = .ok (.iinc 1 1, 3) := by decide +kernel
theorem dX5_init_42 : decode cX5_init 42 = .ok (.goto (-22), 3) := by decide +kernel
theorem dX5_init_45 : decode cX5_init 45 = .ok (.return_, 1) := by decide +kernel
theorem dX5_keep_0 : decode cX5_keep 0 = .ok (.aload_n 0, 1) := by decide +kernel
theorem dX5_keep_1 : decode cX5_keep 1 = .ok (.getfield 17, 3) := by decide +kernel
theorem dX5_keep_4 : decode cX5_keep 4 = .ok (.bipush 8, 2) := by decide +kernel
theorem dX5_keep_6 : decode cX5_keep 6 = .ok (.if_icmp .lt 7, 3) := by decide +kernel
theorem dX5_keep_9 : decode cX5_keep 9 = .ok (.aload_n 0, 1) := by decide +kernel
theorem dX5_keep_10 : decode cX5_keep 10 = .ok (.invokevirtual 22, 3) := by decide +kernel
theorem dX5_keep_13 : decode cX5_keep 13 = .ok (.aload_n 0, 1) := by decide +kernel
theorem dX5_keep_14 : decode cX5_keep 14 = .ok (.aload_n 0, 1) := by decide +kernel
theorem dX5_keep_15 : decode cX5_keep 15 = .ok (.getfield 17, 3) := by decide +kernel
theorem dX5_keep_18 : decode cX5_keep 18 = .ok (.invokevirtual 25, 3) := by decide +kernel
theorem dX5_keep_21 : decode cX5_keep 21 = .ok (.astore_n 2, 1) := by decide +kernel
theorem dX5_keep_22 : decode cX5_keep 22 = .ok (.aload_n 2, 1) := by decide +kernel
theorem dX5_keep_23 : decode cX5_keep 23 = .ok (.ifnull 18, 3) := by decide +kernel
theorem dX5_keep_26 : decode cX5_keep 26 = .ok (.aload_n 2, 1) := by decide +kernel
theorem dX5_keep_27 : decode cX5_keep 27 = .ok (.aload_n 1, 1) := by decide +kernel
theorem dX5_keep_28 : decode cX5_keep 28 = .ok (.invokevirtual 29, 3) := by decide +kernel
theorem dX5_keep_31 : decode cX5_keep 31 = .ok (.aload_n 0, 1) := by decide +kernel
theorem dX5_keep_32 : decode cX5_keep 32 = .ok (.dup, 1) := by decide +kernel
theorem dX5_keep_33 : decode cX5_keep 33 = .ok (.getfield 17, 3) := by decide +kernel
theorem dX5_keep_36 : decode cX5_keep 36 = .ok (.iconst 1, 1) := by decide +kernel
theorem dX5_keep_37 : decode cX5_keep 37 = .ok (.iadd, 1) := by decide +kernel
theorem dX5_keep_38 : decode cX5_keep 38 = .ok (.putfield 17, 3) := by decide +kernel
theorem dX5_keep_41 : decode cX5_keep 41 = .ok (.return_, 1) := by decide +kernel
theorem dX5_giveBack_0 : decode cX5_giveBack 0 = .ok (.aload_n 0, 1) := by decide +kernel
theorem dX5_giveBack_1 : decode cX5_giveBack 1 = .ok (.aload_n 0, 1) := by decide +kernel
theorem dX5_giveBack_2 : decode cX5_giveBack 2 = .ok (.getfield 17, 3) := by decide +kernel
theorem dX5_giveBack_5 : decode cX5_giveBack 5 = .ok (.iconst 1, 1) := by decide +kernel
theorem dX5_giveBack_6 : decode cX5_giveBack 6 = .ok (.isub, 1) := by decide +kernel
theorem dX5_giveBack_7 : decode cX5_giveBack 7 = .ok (.invokevirtual 25, 3) := by decide +kernel
theorem dX5_giveBack_10 : decode cX5_giveBack 10 = .ok (.astore_n 2, 1) := by decide +kernel
theorem dX5_giveBack_11 : decode cX5_giveBack 11 = .ok (.aload_n 2, 1) := by decide +kernel
theorem dX5_giveBack_12 : decode cX5_giveBack 12 = .ok (.ifnull 18, 3) := by decide +kernel
theorem dX5_giveBack_15 : decode cX5_giveBack 15 = .ok (.aload_n 1, 1) := by decide +kernel
theorem dX5_giveBack_16 : decode cX5_giveBack 16 = .ok (.aload_n 2, 1) := by decide +kernel
theorem dX5_giveBack_17 : decode cX5_giveBack 17 = .ok (.invokevirtual 29, 3) := by decide +kernel
theorem dX5_giveBack_20 : decode cX5_giveBack 20 = .ok (.aload_n 0, 1) := by decide +kernel
theorem dX5_giveBack_21 : decode cX5_giveBack 21 = .ok (.dup, 1) := by decide +kernel
theorem dX5_giveBack_22 : decode cX5_giveBack 22 = .ok (.getfield 17, 3) := by decide +kernel
theorem dX5_giveBack_25 : decode cX5_giveBack 25 = .ok (.iconst 1, 1) := by decide +kernel
theorem dX5_giveBack_26 : decode cX5_giveBack 26 = .ok (.isub, 1) := by decide +kernel
theorem dX5_giveBack_27 : decode cX5_giveBack 27 = .ok (.putfield 17, 3) := by decide +kernel
theorem dX5_giveBack_30 : decode cX5_giveBack 30 = .ok (.return_, 1) := by decide +kernel
theorem dX5_becomes_0 : decode cX5_becomes 0 = .ok (.iconst 0, 1) := by decide +kernel
theorem dX5_becomes_1 : decode cX5_becomes 1 = .ok (.istore_n 2, 1) := by decide +kernel
theorem dX5_becomes_2 : decode cX5_becomes 2 = .ok (.iload_n 2, 1) := by decide +kernel
theorem dX5_becomes_3 : decode cX5_becomes 3 = .ok (.aload_n 1, 1) := by decide +kernel
theorem dX5_becomes_4 : decode cX5_becomes 4 = .ok (.getfield 17, 3) := by decide +kernel
theorem dX5_becomes_7 : decode cX5_becomes 7 = .ok (.if_icmp .ge 37, 3) := by decide +kernel
theorem dX5_becomes_10 : decode cX5_becomes 10 = .ok (.aload_n 0, 1) := by decide +kernel
theorem dX5_becomes_11 : decode cX5_becomes 11 = .ok (.iload_n 2, 1) := by decide +kernel
theorem dX5_becomes_12 : decode cX5_becomes 12 = .ok (.invokevirtual 25, 3) := by decide +kernel
theorem dX5_becomes_15 : decode cX5_becomes 15 = .ok (.astore_n 3, 1) := by decide +kernel
theorem dX5_becomes_16 : decode cX5_becomes 16 = .ok (.aload_n 1, 1) := by decide +kernel
theorem dX5_becomes_17 : decode cX5_becomes 17 = .ok (.iload_n 2, 1) := by decide +kernel
theorem dX5_becomes_18 : decode cX5_becomes 18 = .ok (.invokevirtual 25, 3) := by decide +kernel
theorem dX5_becomes_21 : decode cX5_becomes 21 = .ok (.astore 4, 2) := by decide +kernel
theorem dX5_becomes_23 : decode cX5_becomes 23 = .ok (.aload_n 3, 1) := by decide +kernel
theorem dX5_becomes_24 : decode cX5_becomes 24 = .ok (.ifnull 14, 3) := by decide +kernel
theorem dX5_becomes_27 : decode cX5_becomes 27 = .ok (.aload 4, 2) := by decide +kernel
theorem dX5_becomes_29 : decode cX5_becomes 29 = .ok (.ifnull 9, 3) := by decide +kernel
theorem dX5_becomes_32 : decode cX5_becomes 32 = .ok (.aload_n 3, 1) := by decide +kernel
theorem dX5_becomes_33 : decode cX5_becomes 33 = .ok (.aload 4, 2) := by decide +kernel
theorem dX5_becomes_35 : decode cX5_becomes 35 = .ok (.invokevirtual 29, 3) := by decide +kernel
theorem dX5_becomes_38 : decode cX5_becomes 38 = .ok (.iinc 2 1, 3) := by decide +kernel
theorem dX5_becomes_41 : decode cX5_becomes 41 = .ok (.goto (-39), 3) := by decide +kernel
theorem dX5_becomes_44 : decode cX5_becomes 44 = .ok (.aload_n 0, 1) := by decide +kernel
theorem dX5_becomes_45 : decode cX5_becomes 45 = .ok (.aload_n 1, 1) := by decide +kernel
theorem dX5_becomes_46 : decode cX5_becomes 46 = .ok (.getfield 17, 3) := by decide +kernel
theorem dX5_becomes_49 : decode cX5_becomes 49 = .ok (.putfield 17, 3) := by decide +kernel
theorem dX5_becomes_52 : decode cX5_becomes 52 = .ok (.return_, 1) := by decide +kernel
theorem dX5_dropFirst_0 : decode cX5_dropFirst 0 = .ok (.aload_n 0, 1) := by decide +kernel
theorem dX5_dropFirst_1 : decode cX5_dropFirst 1 = .ok (.getfield 11, 3) := by decide +kernel
theorem dX5_dropFirst_4 : decode cX5_dropFirst 4 = .ok (.iconst 0, 1) := by decide +kernel
theorem dX5_dropFirst_5 : decode cX5_dropFirst 5 = .ok (.aaload, 1) := by decide +kernel
theorem dX5_dropFirst_6 : decode cX5_dropFirst 6 = .ok (.astore_n 1, 1) := by decide +kernel
theorem dX5_dropFirst_7 : decode cX5_dropFirst 7 = .ok (.iconst 1, 1) := by decide +kernel
theorem dX5_dropFirst_8 : decode cX5_dropFirst 8 = .ok (.istore_n 2, 1) := by decide +kernel
theorem dX5_dropFirst_9 : decode cX5_dropFirst 9 = .ok (.iload_n 2, 1) := by decide +kernel
theorem dX5_dropFirst_10 : decode cX5_dropFirst 10 = .ok (.bipush 8, 2) := by decide +kernel
theorem dX5_dropFirst_12 : decode cX5_dropFirst 12 = .ok (.if_icmp .ge 23, 3) := by decide +kernel
theorem dX5_dropFirst_15 : decode cX5_dropFirst 15 = .ok (.aload_n 0, 1) := by decide +kernel
theorem dX5_dropFirst_16 : decode cX5_dropFirst 16 = .ok (.getfield 11, 3) := by decide +kernel
theorem dX5_dropFirst_19 : decode cX5_dropFirst 19 = .ok (.iload_n 2, 1) := by decide +kernel
theorem dX5_dropFirst_20 : decode cX5_dropFirst 20 = .ok (.iconst 1, 1) := by decide +kernel
theorem dX5_dropFirst_21 : decode cX5_dropFirst 21 = .ok (.isub, 1) := by decide +kernel
theorem dX5_dropFirst_22 : decode cX5_dropFirst 22 = .ok (.aload_n 0, 1) := by decide +kernel
theorem dX5_dropFirst_23 : decode cX5_dropFirst 23 = .ok (.getfield 11, 3) := by decide +kernel
theorem dX5_dropFirst_26 : decode cX5_dropFirst 26 = .ok (.iload_n 2, 1) := by decide +kernel
theorem dX5_dropFirst_27 : decode cX5_dropFirst 27 = .ok (.aaload, 1) := by decide +kernel
theorem dX5_dropFirst_28 : decode cX5_dropFirst 28 = .ok (.aastore, 1) := by decide +kernel
theorem dX5_dropFirst_29 : decode cX5_dropFirst 29 = .ok (.iinc 2 1, 3) := by decide +kernel
theorem dX5_dropFirst_32 : decode cX5_dropFirst 32 = .ok (.goto (-23), 3) := by decide +kernel
theorem dX5_dropFirst_35 : decode cX5_dropFirst 35 = .ok (.aload_n 0, 1) := by decide +kernel
theorem dX5_dropFirst_36 : decode cX5_dropFirst 36 = .ok (.getfield 11, 3) := by decide +kernel
theorem dX5_dropFirst_39 : decode cX5_dropFirst 39 = .ok (.bipush 7, 2) := by decide +kernel
theorem dX5_dropFirst_41 : decode cX5_dropFirst 41 = .ok (.aload_n 1, 1) := by decide +kernel
theorem dX5_dropFirst_42 : decode cX5_dropFirst 42 = .ok (.aastore, 1) := by decide +kernel
theorem dX5_dropFirst_43 : decode cX5_dropFirst 43 = .ok (.aload_n 0, 1) := by decide +kernel
theorem dX5_dropFirst_44 : decode cX5_dropFirst 44 = .ok (.bipush 7, 2) := by decide +kernel
theorem dX5_dropFirst_46 : decode cX5_dropFirst 46 = .ok (.putfield 17, 3) := by decide +kernel
theorem dX5_dropFirst_49 : decode cX5_dropFirst 49 = .ok (.return_, 1) := by decide +kernel
theorem dX5_rowAt_0 : decode cX5_rowAt 0 = .ok (.iload_n 1, 1) := by decide +kernel
theorem dX5_rowAt_1 : decode cX5_rowAt 1 = .ok (.iconst 0, 1) := by decide +kernel
theorem dX5_rowAt_2 : decode cX5_rowAt 2 = .ok (.bipush 7, 2) := by decide +kernel
theorem dX5_rowAt_4 : decode cX5_rowAt 4 = .ok (.invokestatic 33, 3) := by decide +kernel
theorem dX5_rowAt_7 : decode cX5_rowAt 7 = .ok (.ifCond .eq 12, 3) := by decide +kernel
theorem dX5_rowAt_10 : decode cX5_rowAt 10 = .ok (.aload_n 0, 1) := by decide +kernel
theorem dX5_rowAt_11 : decode cX5_rowAt 11 = .ok (.getfield 11, 3) := by decide +kernel
theorem dX5_rowAt_14 : decode cX5_rowAt 14 = .ok (.iload_n 1, 1) := by decide +kernel
theorem dX5_rowAt_15 : decode cX5_rowAt 15 = .ok (.aaload, 1) := by decide +kernel
theorem dX5_rowAt_16 : decode cX5_rowAt 16 = .ok (.goto 4, 3) := by decide +kernel
theorem dX5_rowAt_19 : decode cX5_rowAt 19 = .ok (.aconst_null, 1) := by decide +kernel
theorem dX5_rowAt_20 : decode cX5_rowAt 20 = .ok (.areturn, 1) := by decide +kernel
theorem dX6_init_0 : decode cX6_init 0 = .ok (.aload_n 0, 1) := by decide +kernel
theorem dX6_init_1 : decode cX6_init 1 = .ok (.invokespecial 3, 3) := by decide +kernel
theorem dX6_init_4 : decode cX6_init 4 = .ok (.aload_n 0, 1) := by decide +kernel
theorem dX6_init_5 : decode cX6_init 5 = .ok (.new 9, 3) := by decide +kernel
theorem dX6_init_8 : decode cX6_init 8 = .ok (.dup, 1) := by decide +kernel
theorem dX6_init_9 : decode cX6_init 9 = .ok (.invokespecial 11, 3) := by decide +kernel
theorem dX6_init_12 : decode cX6_init 12 = .ok (.putfield 12, 3) := by decide +kernel
theorem dX6_init_15 : decode cX6_init 15 = .ok (.aload_n 0, 1) := by decide +kernel
theorem dX6_init_16 : decode cX6_init 16 = .ok (.iconst 3, 1) := by decide +kernel
theorem dX6_init_17 : decode cX6_init 17 = .ok (.newarray .int, 2) := by decide +kernel
theorem dX6_init_19 : decode cX6_init 19 = .ok (.putfield 18, 3) := by decide +kernel
theorem dX6_init_22 : decode cX6_init 22 = .ok (.aload_n 0, 1) := by decide +kernel
theorem dX6_init_23 : decode cX6_init 23 = .ok (.iconst 0, 1) := by decide +kernel
theorem dX6_init_24 : decode cX6_init 24 = .ok (.putfield 22, 3) := by decide +kernel
theorem dX6_init_27 : decode cX6_init 27 = .ok (.aload_n 0, 1) := by decide +kernel
theorem dX6_init_28 : decode cX6_init 28 = .ok (.iconst (-1), 1) := by decide +kernel
theorem dX6_init_29 : decode cX6_init 29 = .ok (.putfield 26, 3) := by decide +kernel
theorem dX6_init_32 : decode cX6_init 32 = .ok (.aload_n 0, 1) := by decide +kernel
theorem dX6_init_33 : decode cX6_init 33 = .ok (.iconst 0, 1) := by decide +kernel
theorem dX6_init_34 : decode cX6_init 34 = .ok (.putfield 29, 3) := by decide +kernel
theorem dX6_init_37 : decode cX6_init 37 = .ok (.return_, 1) := by decide +kernel
theorem dX6_findFault_0 : decode cX6_findFault 0 = .ok (.aload_n 1, 1) := by decide +kernel
theorem dX6_findFault_1 : decode cX6_findFault 1 = .ok (.invokevirtual 32, 3) := by decide +kernel
theorem dX6_findFault_4 : decode cX6_findFault 4 = .ok (.aload_n 0, 1) := by decide +kernel
theorem dX6_findFault_5 : decode cX6_findFault 5 = .ok (.getfield 12, 3) := by decide +kernel
theorem dX6_findFault_8 : decode cX6_findFault 8 = .ok (.invokevirtual 37, 3) := by decide +kernel
theorem dX6_findFault_11 : decode cX6_findFault 11 = .ok (.aload_n 0, 1) := by decide +kernel
theorem dX6_findFault_12 : decode cX6_findFault 12 = .ok (.iconst 0, 1) := by decide +kernel
theorem dX6_findFault_13 : decode cX6_findFault 13 = .ok (.putfield 22, 3) := by decide +kernel
theorem dX6_findFault_16 : decode cX6_findFault 16 = .ok (.aload_n 0, 1) := by decide +kernel
theorem dX6_findFault_17 : decode cX6_findFault 17 = .ok (.iconst (-1), 1) := by decide +kernel
theorem dX6_findFault_18 : decode cX6_findFault 18 = .ok (.putfield 26, 3) := by decide +kernel
theorem dX6_findFault_21 : decode cX6_findFault 21 = .ok (.iconst 0, 1) := by decide +kernel
theorem dX6_findFault_22 : decode cX6_findFault 22 = .ok (.istore_n 2, 1) := by decide +kernel
theorem dX6_findFault_23 : decode cX6_findFault 23 = .ok (.iload_n 2, 1) := by decide +kernel
theorem dX6_findFault_24 : decode cX6_findFault 24 = .ok (.sipush 150, 3) := by decide +kernel
theorem dX6_findFault_27 : decode cX6_findFault 27 = .ok (.if_icmp .gt 50, 3) := by decide +kernel
theorem dX6_findFault_30 : decode cX6_findFault 30 = .ok (.aload_n 1, 1) := by decide +kernel
theorem dX6_findFault_31 : decode cX6_findFault 31 = .ok (.invokevirtual 40, 3) := by decide +kernel
theorem dX6_findFault_34 : decode cX6_findFault 34 = .ok (.aload_n 1, 1) := by decide +kernel
theorem dX6_findFault_35 : decode cX6_findFault 35 = .ok (.getfield 43, 3) := by decide +kernel
theorem dX6_findFault_38 : decode cX6_findFault 38 = .ok (.ifCond .ne 20, 3) := by decide +kernel
theorem dX6_findFault_41 : decode cX6_findFault 41 = .ok (.aload_n 0, 1) := by decide +kernel
theorem dX6_findFault_42 : decode cX6_findFault 42 = .ok (.getfield 26, 3) := by decide +kernel
theorem dX6_findFault_45 : decode cX6_findFault 45 = .ok (.iconst (-1), 1) := by decide +kernel
theorem dX6_findFault_46 : decode cX6_findFault 46 = .ok (.if_icmp .ne 12, 3) := by decide +kernel
theorem dX6_findFault_49 : decode cX6_findFault 49 = .ok (.aload_n 0, 1) := by decide +kernel
theorem dX6_findFault_50 : decode cX6_findFault 50 = .ok (.getfield 22, 3) := by decide +kernel
theorem dX6_findFault_53 : decode cX6_findFault 53 = .ok (.ifCond .le 5, 3) := by decide +kernel
theorem dX6_findFault_56 : decode cX6_findFault 56 = .ok (.iconst (-1), 1) := by decide +kernel
theorem dX6_findFault_57 : decode cX6_findFault 57 = .ok (.ireturn, 1) := by decide +kernel
theorem dX6_findFault_58 : decode cX6_findFault 58 = .ok (.aload_n 0, 1) := by decide +kernel
theorem dX6_findFault_59 : decode cX6_findFault 59 = .ok (.aload_n 1, 1) := by decide +kernel
theorem dX6_findFault_60 : decode cX6_findFault 60 = .ok (.invokevirtual 46, 3) := by decide +kernel
theorem dX6_findFault_63 : decode cX6_findFault 63 = .ok (.ifCond .ne 8, 3) := by decide +kernel
theorem dX6_findFault_66 : decode cX6_findFault 66 = .ok (.aload_n 1, 1) := by decide +kernel
theorem dX6_findFault_67 : decode cX6_findFault 67 = .ok (.getfield 50, 3) := by decide +kernel
theorem dX6_findFault_70 : decode cX6_findFault 70 = .ok (.ireturn, 1) := by decide +kernel
theorem dX6_findFault_71 : decode cX6_findFault 71 = .ok (.iinc 2 1, 3) := by decide +kernel
theorem dX6_findFault_74 : decode cX6_findFault 74 = .ok (.goto (-51), 3) := by decide +kernel
theorem dX6_findFault_77 : decode cX6_findFault 77 = .ok (.aload_n 1, 1) := by decide +kernel
theorem dX6_findFault_78 : decode cX6_findFault 78 = .ok (.getfield 50, 3) := by decide +kernel
theorem dX6_findFault_81 : decode cX6_findFault 81 = .ok (.ireturn, 1) := by decide +kernel
theorem dX6_takes_0 : decode cX6_takes 0 = .ok (.aload_n 0, 1) := by decide +kernel
theorem dX6_takes_1 : decode cX6_takes 1 = .ok (.getfield 26, 3) := by decide +kernel
theorem dX6_takes_4 : decode cX6_takes 4 = .ok (.iconst (-1), 1) := by decide +kernel
theorem dX6_takes_5 : decode cX6_takes 5 = .ok (.if_icmp .ne 9, 3) := by decide +kernel
theorem dX6_takes_8 : decode cX6_takes 8 = .ok (.aload_n 0, 1) := by decide +kernel
theorem dX6_takes_9 : decode cX6_takes 9 = .ok (.aload_n 1, 1) := by decide +kernel
theorem dX6_takes_10 : decode cX6_takes 10 = .ok (.invokevirtual 53, 3) := by decide +kernel
theorem dX6_takes_13 : decode cX6_takes 13 = .ok (.ireturn, 1) := by decide +kernel
theorem dX6_takes_14 : decode cX6_takes 14 = .ok (.aload_n 0, 1) := by decide +kernel
theorem dX6_takes_15 : decode cX6_takes 15 = .ok (.getfield 29, 3) := by decide +kernel
theorem dX6_takes_18 : decode cX6_takes 18 = .ok (.aload_n 0, 1) := by decide +kernel
theorem dX6_takes_19 : decode cX6_takes 19 = .ok (.getfield 26, 3) := by decide +kernel
theorem dX6_takes_22 : decode cX6_takes 22 = .ok (.invokestatic 56, 3) := by decide +kernel
theorem dX6_takes_25 : decode cX6_takes 25 = .ok (.if_icmp .ge 9, 3) := by decide +kernel
theorem dX6_takes_28 : decode cX6_takes 28 = .ok (.aload_n 0, 1) := by decide +kernel
theorem dX6_takes_29 : decode cX6_takes 29 = .ok (.aload_n 1, 1) := by decide +kernel
theorem dX6_takes_30 : decode cX6_takes 30 = .ok (.invokevirtual 60, 3) := by decide +kernel
theorem dX6_takes_33 : decode cX6_takes 33 = .ok (.ireturn, 1) := by decide +kernel
theorem dX6_takes_34 : decode cX6_takes 34 = .ok (.aload_n 1, 1) := by decide +kernel
theorem dX6_takes_35 : decode cX6_takes 35 = .ok (.getfield 43, 3) := by decide +kernel
theorem dX6_takes_38 : decode cX6_takes 38 = .ok (.iconst 1, 1) := by decide +kernel
theorem dX6_takes_39 : decode cX6_takes 39 = .ok (.if_icmp .eq 5, 3) := by decide +kernel
theorem dX6_takes_42 : decode cX6_takes 42 = .ok (.iconst 0, 1) := by decide +kernel
theorem dX6_takes_43 : decode cX6_takes 43 = .ok (.ireturn, 1) := by decide +kernel
theorem dX6_takes_44 : decode cX6_takes 44 = .ok (.aload_n 0, 1) := by decide +kernel
theorem dX6_takes_45 : decode cX6_takes 45 = .ok (.invokevirtual 63, 3) := by decide +kernel
theorem dX6_takes_48 : decode cX6_takes 48 = .ok (.iconst 1, 1) := by decide +kernel
theorem dX6_takes_49 : decode cX6_takes 49 = .ok (.ireturn, 1) := by decide +kernel
theorem dX6_takesWord_0 : decode cX6_takesWord 0 = .ok (.aload_n 1, 1) := by decide +kernel
theorem dX6_takesWord_1 : decode cX6_takesWord 1 = .ok (.getfield 43, 3) := by decide +kernel
theorem dX6_takesWord_4 : decode cX6_takesWord 4 = .ok (.iconst 3, 1) := by decide +kernel
theorem dX6_takesWord_5 : decode cX6_takesWord 5 = .ok (.if_icmp .ne 30, 3) := by decide +kernel
theorem dX6_takesWord_8 : decode cX6_takesWord 8 = .ok (.aload_n 0, 1) := by decide +kernel
theorem dX6_takesWord_9 : decode cX6_takesWord 9 = .ok (.getfield 22, 3) := by decide +kernel
theorem dX6_takesWord_12 : decode cX6_takesWord 12 = .ok (.ifCond .ne 7, 3) := by decide +kernel
theorem dX6_takesWord_15 : decode cX6_takesWord 15 = .ok (.iconst 1, 1) := by decide +kernel
theorem dX6_takesWord_16 : decode cX6_takesWord 16 = .ok (.goto 4, 3) := by decide +kernel
theorem dX6_takesWord_19 : decode cX6_takesWord 19 = .ok (.iconst 0, 1) := by decide +kernel
theorem dX6_takesWord_20 : decode cX6_takesWord 20 = .ok (.aload_n 1, 1) := by decide +kernel
theorem dX6_takesWord_21 : decode cX6_takesWord 21 = .ok (.getfield 66, 3) := by decide +kernel
theorem dX6_takesWord_24 : decode cX6_takesWord 24 = .ok (.ifCond .ne 7, 3) := by decide +kernel
theorem dX6_takesWord_27 : decode cX6_takesWord 27 = .ok (.iconst 1, 1) := by decide +kernel
theorem dX6_takesWord_28 : decode cX6_takesWord 28 = .ok (.goto 4, 3) := by decide +kernel
theorem dX6_takesWord_31 : decode cX6_takesWord 31 = .ok (.iconst 0, 1) := by decide +kernel
theorem dX6_takesWord_32 : decode cX6_takesWord 32 = .ok (.if_icmp .eq 5, 3) := by decide +kernel
theorem dX6_takesWord_35 : decode cX6_takesWord 35 = .ok (.iconst 0, 1) := by decide +kernel
theorem dX6_takesWord_36 : decode cX6_takesWord 36 = .ok (.ireturn, 1) := by decide +kernel
theorem dX6_takesWord_37 : decode cX6_takesWord 37 = .ok (.aload_n 0, 1) := by decide +kernel
theorem dX6_takesWord_38 : decode cX6_takesWord 38 = .ok (.aload_n 1, 1) := by decide +kernel
theorem dX6_takesWord_39 : decode cX6_takesWord 39 = .ok (.getfield 66, 3) := by decide +kernel
theorem dX6_takesWord_42 : decode cX6_takesWord 42 = .ok (.putfield 26, 3) := by decide +kernel
theorem dX6_takesWord_45 : decode cX6_takesWord 45 = .ok (.aload_n 0, 1) := by decide +kernel
theorem dX6_takesWord_46 : decode cX6_takesWord 46 = .ok (.iconst 0, 1) := by decide +kernel
theorem dX6_takesWord_47 : decode cX6_takesWord 47 = .ok (.putfield 29, 3) := by decide +kernel
theorem dX6_takesWord_50 : decode cX6_takesWord 50 = .ok (.aload_n 0, 1) := by decide +kernel
theorem dX6_takesWord_51 : decode cX6_takesWord 51 = .ok (.getfield 26, 3) := by decide +kernel
theorem dX6_takesWord_54 : decode cX6_takesWord 54 = .ok (.tableswitch 78 1 3 #[26, 43, 61], 26) := by decide +kernel
theorem dX6_takesWord_80 : decode cX6_takesWord 80 = .ok (.aload_n 0, 1) := by decide +kernel
theorem dX6_takesWord_81 : decode cX6_takesWord 81 = .ok (.getfield 12, 3) := by decide +kernel
theorem dX6_takesWord_84 : decode cX6_takesWord 84 = .ok (.getfield 69, 3) := by decide +kernel
theorem dX6_takesWord_87 : decode cX6_takesWord 87 = .ok (.iconst 5, 1) := by decide +kernel
theorem dX6_takesWord_88 : decode cX6_takesWord 88 = .ok (.if_icmp .ge 7, 3) := by decide +kernel
theorem dX6_takesWord_91 : decode cX6_takesWord 91 = .ok (.iconst 1, 1) := by decide +kernel
theorem dX6_takesWord_92 : decode cX6_takesWord 92 = .ok (.goto 4, 3) := by decide +kernel
theorem dX6_takesWord_95 : decode cX6_takesWord 95 = .ok (.iconst 0, 1) := by decide +kernel
theorem dX6_takesWord_96 : decode cX6_takesWord 96 = .ok (.ireturn, 1) := by decide +kernel
theorem dX6_takesWord_97 : decode cX6_takesWord 97 = .ok (.aload_n 0, 1) := by decide +kernel
theorem dX6_takesWord_98 : decode cX6_takesWord 98 = .ok (.getfield 12, 3) := by decide +kernel
theorem dX6_takesWord_101 : decode cX6_takesWord 101 = .ok (.getfield 72, 3) := by decide +kernel
theorem dX6_takesWord_104 : decode cX6_takesWord 104 = .ok (.bipush 6, 2) := by decide +kernel
theorem dX6_takesWord_106 : decode cX6_takesWord 106 = .ok (.if_icmp .ge 7, 3) := by decide +kernel
theorem dX6_takesWord_109 : decode cX6_takesWord 109 = .ok (.iconst 1, 1) := by decide +kernel
theorem dX6_takesWord_110 : decode cX6_takesWord 110 = .ok (.goto 4, 3) := by decide +kernel
theorem dX6_takesWord_113 : decode cX6_takesWord 113 = .ok (.iconst 0, 1) := by decide +kernel
theorem dX6_takesWord_114 : decode cX6_takesWord 114 = .ok (.ireturn, 1) := by decide +kernel
theorem dX6_takesWord_115 : decode cX6_takesWord 115 = .ok (.aload_n 0, 1) := by decide +kernel
theorem dX6_takesWord_116 : decode cX6_takesWord 116 = .ok (.getfield 12, 3) := by decide +kernel
theorem dX6_takesWord_119 : decode cX6_takesWord 119 = .ok (.getfield 75, 3) := by decide +kernel
theorem dX6_takesWord_122 : decode cX6_takesWord 122 = .ok (.iconst 3, 1) := by decide +kernel
theorem dX6_takesWord_123 : decode cX6_takesWord 123 = .ok (.if_icmp .ge 7, 3) := by decide +kernel
theorem dX6_takesWord_126 : decode cX6_takesWord 126 = .ok (.iconst 1, 1) := by decide +kernel
theorem dX6_takesWord_127 : decode cX6_takesWord 127 = .ok (.goto 4, 3) := by decide +kernel
theorem dX6_takesWord_130 : decode cX6_takesWord 130 = .ok (.iconst 0, 1) := by decide +kernel
theorem dX6_takesWord_131 : decode cX6_takesWord 131 = .ok (.ireturn, 1) := by decide +kernel
theorem dX6_takesWord_132 : decode cX6_takesWord 132 = .ok (.iconst 1, 1) := by decide +kernel
theorem dX6_takesWord_133 : decode cX6_takesWord 133 = .ok (.ireturn, 1) := by decide +kernel
theorem dX6_takesNumber_0 : decode cX6_takesNumber 0 = .ok (.aload_n 0, 1) := by decide +kernel
theorem dX6_takesNumber_1 : decode cX6_takesNumber 1 = .ok (.getfield 29, 3) := by decide +kernel
theorem dX6_takesNumber_4 : decode cX6_takesNumber 4 = .ok (.istore_n 2, 1) := by decide +kernel
theorem dX6_takesNumber_5 : decode cX6_takesNumber 5 = .ok (.aload_n 0, 1) := by decide +kernel
theorem dX6_takesNumber_6 : decode cX6_takesNumber 6 = .ok (.getfield 26, 3) := by decide +kernel
theorem dX6_takesNumber_9 : decode cX6_takesNumber 9 = .ok (.iconst 1, 1) := by decide +kernel
theorem dX6_takesNumber_10 : decode cX6_takesNumber 10 = .ok (.if_icmp .ne 12, 3) := by decide +kernel
theorem dX6_takesNumber_13 : decode cX6_takesNumber 13 = .ok (.iload_n 2, 1) := by decide +kernel
theorem dX6_takesNumber_14 : decode cX6_takesNumber 14 = .ok (.iconst 2, 1) := by decide +kernel
theorem dX6_takesNumber_15 : decode cX6_takesNumber 15 = .ok (.if_icmp .ne 7, 3) := by decide +kernel
theorem dX6_takesNumber_18 : decode cX6_takesNumber 18 = .ok (.iconst 1, 1) := by decide +kernel
theorem dX6_takesNumber_19 : decode cX6_takesNumber 19 = .ok (.goto 4, 3) := by decide +kernel
theorem dX6_takesNumber_22 : decode cX6_takesNumber 22 = .ok (.iconst 0, 1) := by decide +kernel
theorem dX6_takesNumber_23 : decode cX6_takesNumber 23 = .ok (.istore_n 3, 1) := by decide +kernel
theorem dX6_takesNumber_24 : decode cX6_takesNumber 24 = .ok (.iload_n 2, 1) := by decide +kernel
theorem dX6_takesNumber_25 : decode cX6_takesNumber 25 = .ok (.iconst 3, 1) := by decide +kernel
theorem dX6_takesNumber_26 : decode cX6_takesNumber 26 = .ok (.if_icmp .ge 31, 3) := by decide +kernel
theorem dX6_takesNumber_29 : decode cX6_takesNumber 29 = .ok (.aload_n 1, 1) := by decide +kernel
theorem dX6_takesNumber_30 : decode cX6_takesNumber 30 = .ok (.getfield 43, 3) := by decide +kernel
theorem dX6_takesNumber_33 : decode cX6_takesNumber 33 = .ok (.iconst 2, 1) := by decide +kernel
theorem dX6_takesNumber_34 : decode cX6_takesNumber 34 = .ok (.if_icmp .ne 23, 3) := by decide +kernel
theorem dX6_takesNumber_37 : decode cX6_takesNumber 37 = .ok (.aload_n 1, 1) := by decide +kernel
theorem dX6_takesNumber_38 : decode cX6_takesNumber 38 = .ok (.getfield 66, 3) := by decide +kernel
theorem dX6_takesNumber_41 : decode cX6_takesNumber 41 = .ok (.iload_n 3, 1) := by decide +kernel
theorem dX6_takesNumber_42 : decode cX6_takesNumber 42 = .ok (.aload_n 0, 1) := by decide +kernel
theorem dX6_takesNumber_43 : decode cX6_takesNumber 43 = .ok (.aload_n 0, 1) := by decide +kernel
theorem dX6_takesNumber_44 : decode cX6_takesNumber 44 = .ok (.getfield 26, 3) := by decide +kernel
theorem dX6_takesNumber_47 : decode cX6_takesNumber 47 = .ok (.iload_n 2, 1) := by decide +kernel
theorem dX6_takesNumber_48 : decode cX6_takesNumber 48 = .ok (.invokevirtual 78, 3) := by decide +kernel
theorem dX6_takesNumber_51 : decode cX6_takesNumber 51 = .ok (.invokestatic 82, 3) := by decide +kernel
theorem dX6_takesNumber_54 : decode cX6_takesNumber 54 = .ok (.ifCond .ne 5, 3) := by decide +kernel
theorem dX6_takesNumber_57 : decode cX6_takesNumber 57 = .ok (.iconst 0, 1) := by decide +kernel
theorem dX6_takesNumber_58 : decode cX6_takesNumber 58 = .ok (.ireturn, 1) := by decide +kernel
theorem dX6_takesNumber_59 : decode cX6_takesNumber 59 = .ok (.aload_n 0, 1) := by decide +kernel
theorem dX6_takesNumber_60 : decode cX6_takesNumber 60 = .ok (.getfield 18, 3) := by decide +kernel
theorem dX6_takesNumber_63 : decode cX6_takesNumber 63 = .ok (.iload_n 2, 1) := by decide +kernel
theorem dX6_takesNumber_64 : decode cX6_takesNumber 64 = .ok (.aload_n 1, 1) := by decide +kernel
theorem dX6_takesNumber_65 : decode cX6_takesNumber 65 = .ok (.getfield 66, 3) := by decide +kernel
theorem dX6_takesNumber_68 : decode cX6_takesNumber 68 = .ok (.iastore, 1) := by decide +kernel
theorem dX6_takesNumber_69 : decode cX6_takesNumber 69 = .ok (.aload_n 0, 1) := by decide +kernel
theorem dX6_takesNumber_70 : decode cX6_takesNumber 70 = .ok (.dup, 1) := by decide +kernel
theorem dX6_takesNumber_71 : decode cX6_takesNumber 71 = .ok (.getfield 29, 3) := by decide +kernel
theorem dX6_takesNumber_74 : decode cX6_takesNumber 74 = .ok (.iconst 1, 1) := by decide +kernel
theorem dX6_takesNumber_75 : decode cX6_takesNumber 75 = .ok (.iadd, 1) := by decide +kernel
theorem dX6_takesNumber_76 : decode cX6_takesNumber 76 = .ok (.putfield 29, 3) := by decide +kernel
theorem dX6_takesNumber_79 : decode cX6_takesNumber 79 = .ok (.iconst 1, 1) := by decide +kernel
theorem dX6_takesNumber_80 : decode cX6_takesNumber 80 = .ok (.ireturn, 1) := by decide +kernel
theorem dX6_addItem_0 : decode cX6_addItem 0 = .ok (.aload_n 0, 1) := by decide +kernel
theorem dX6_addItem_1 : decode cX6_addItem 1 = .ok (.getfield 26, 3) := by decide +kernel
theorem dX6_addItem_4 : decode cX6_addItem 4 = .ok (.tableswitch 117 1 4 #[32, 61, 78, 95], 32) := by decide +kernel
theorem dX6_addItem_36 : decode cX6_addItem 36 = .ok (.aload_n 0, 1) := by decide +kernel
theorem dX6_addItem_37 : decode cX6_addItem 37 = .ok (.getfield 12, 3) := by decide +kernel
theorem dX6_addItem_40 : decode cX6_addItem 40 = .ok (.aload_n 0, 1) := by decide +kernel
theorem dX6_addItem_41 : decode cX6_addItem 41 = .ok (.getfield 18, 3) := by decide +kernel
theorem dX6_addItem_44 : decode cX6_addItem 44 = .ok (.iconst 0, 1) := by decide +kernel
theorem dX6_addItem_45 : decode cX6_addItem 45 = .ok (.iaload, 1) := by decide +kernel
theorem dX6_addItem_46 : decode cX6_addItem 46 = .ok (.aload_n 0, 1) := by decide +kernel
theorem dX6_addItem_47 : decode cX6_addItem 47 = .ok (.getfield 18, 3) := by decide +kernel
theorem dX6_addItem_50 : decode cX6_addItem 50 = .ok (.iconst 1, 1) := by decide +kernel
theorem dX6_addItem_51 : decode cX6_addItem 51 = .ok (.iaload, 1) := by decide +kernel
theorem dX6_addItem_52 : decode cX6_addItem 52 = .ok (.aload_n 0, 1) := by decide +kernel
theorem dX6_addItem_53 : decode cX6_addItem 53 = .ok (.getfield 18, 3) := by decide +kernel
theorem dX6_addItem_56 : decode cX6_addItem 56 = .ok (.iconst 2, 1) := by decide +kernel
theorem dX6_addItem_57 : decode cX6_addItem 57 = .ok (.iaload, 1) := by decide +kernel
theorem dX6_addItem_58 : decode cX6_addItem 58 = .ok (.invokevirtual 86, 3) := by decide +kernel
theorem dX6_addItem_61 : decode cX6_addItem 61 = .ok (.pop, 1) := by decide +kernel
theorem dX6_addItem_62 : decode cX6_addItem 62 = .ok (.goto 59, 3) := by decide +kernel
theorem dX6_addItem_65 : decode cX6_addItem 65 = .ok (.aload_n 0, 1) := by decide +kernel
theorem dX6_addItem_66 : decode cX6_addItem 66 = .ok (.getfield 12, 3) := by decide +kernel
theorem dX6_addItem_69 : decode cX6_addItem 69 = .ok (.aload_n 0, 1) := by decide +kernel
theorem dX6_addItem_70 : decode cX6_addItem 70 = .ok (.getfield 18, 3) := by decide +kernel
theorem dX6_addItem_73 : decode cX6_addItem 73 = .ok (.iconst 0, 1) := by decide +kernel
theorem dX6_addItem_74 : decode cX6_addItem 74 = .ok (.iaload, 1) := by decide +kernel
theorem dX6_addItem_75 : decode cX6_addItem 75 = .ok (.invokevirtual 90, 3) := by decide +kernel
theorem dX6_addItem_78 : decode cX6_addItem 78 = .ok (.pop, 1) := by decide +kernel
theorem dX6_addItem_79 : decode cX6_addItem 79 = .ok (.goto 42, 3) := by decide +kernel
theorem dX6_addItem_82 : decode cX6_addItem 82 = .ok (.aload_n 0, 1) := by decide +kernel
theorem dX6_addItem_83 : decode cX6_addItem 83 = .ok (.getfield 12, 3) := by decide +kernel
theorem dX6_addItem_86 : decode cX6_addItem 86 = .ok (.aload_n 0, 1) := by decide +kernel
theorem dX6_addItem_87 : decode cX6_addItem 87 = .ok (.getfield 18, 3) := by decide +kernel
theorem dX6_addItem_90 : decode cX6_addItem 90 = .ok (.iconst 0, 1) := by decide +kernel
theorem dX6_addItem_91 : decode cX6_addItem 91 = .ok (.iaload, 1) := by decide +kernel
theorem dX6_addItem_92 : decode cX6_addItem 92 = .ok (.invokevirtual 93, 3) := by decide +kernel
theorem dX6_addItem_95 : decode cX6_addItem 95 = .ok (.pop, 1) := by decide +kernel
theorem dX6_addItem_96 : decode cX6_addItem 96 = .ok (.goto 25, 3) := by decide +kernel
theorem dX6_addItem_99 : decode cX6_addItem 99 = .ok (.aload_n 0, 1) := by decide +kernel
theorem dX6_addItem_100 : decode cX6_addItem 100 = .ok (.getfield 12, 3) := by decide +kernel
theorem dX6_addItem_103 : decode cX6_addItem 103 = .ok (.aload_n 0, 1) := by decide +kernel
theorem dX6_addItem_104 : decode cX6_addItem 104 = .ok (.getfield 18, 3) := by decide +kernel
theorem dX6_addItem_107 : decode cX6_addItem 107 = .ok (.iconst 0, 1) := by decide +kernel
theorem dX6_addItem_108 : decode cX6_addItem 108 = .ok (.iaload, 1) := by decide +kernel
theorem dX6_addItem_109 : decode cX6_addItem 109 = .ok (.aload_n 0, 1) := by decide +kernel
theorem dX6_addItem_110 : decode cX6_addItem 110 = .ok (.getfield 18, 3) := by decide +kernel
theorem dX6_addItem_113 : decode cX6_addItem 113 = .ok (.iconst 1, 1) := by decide +kernel
theorem dX6_addItem_114 : decode cX6_addItem 114 = .ok (.iaload, 1) := by decide +kernel
theorem dX6_addItem_115 : decode cX6_addItem 115 = .ok (.invokevirtual 96, 3) := by decide +kernel
theorem dX6_addItem_118 : decode cX6_addItem 118 = .ok (.goto 3, 3) := by decide +kernel
theorem dX6_addItem_121 : decode cX6_addItem 121 = .ok (.aload_n 0, 1) := by decide +kernel
theorem dX6_addItem_122 : decode cX6_addItem 122 = .ok (.dup, 1) := by decide +kernel
theorem dX6_addItem_123 : decode cX6_addItem 123 = .ok (.getfield 22, 3) := by decide +kernel
theorem dX6_addItem_126 : decode cX6_addItem 126 = .ok (.iconst 1, 1) := by decide +kernel
theorem dX6_addItem_127 : decode cX6_addItem 127 = .ok (.iadd, 1) := by decide +kernel
theorem dX6_addItem_128 : decode cX6_addItem 128 = .ok (.putfield 22, 3) := by decide +kernel
theorem dX6_addItem_131 : decode cX6_addItem 131 = .ok (.aload_n 0, 1) := by decide +kernel
theorem dX6_addItem_132 : decode cX6_addItem 132 = .ok (.iconst (-1), 1) := by decide +kernel
theorem dX6_addItem_133 : decode cX6_addItem 133 = .ok (.putfield 26, 3) := by decide +kernel
theorem dX6_addItem_136 : decode cX6_addItem 136 = .ok (.return_, 1) := by decide +kernel
theorem dX6_numbersOf_0 : decode cX6_numbersOf 0 = .ok (.iload_n 0, 1) := by decide +kernel
theorem dX6_numbersOf_1 : decode cX6_numbersOf 1 = .ok (.tableswitch 41 0 4 #[35, 37, 41, 41, 39], 35) := by decide +kernel
theorem dX6_numbersOf_36 : decode cX6_numbersOf 36 = .ok (.iconst 0, 1) := by decide +kernel
theorem dX6_numbersOf_37 : decode cX6_numbersOf 37 = .ok (.ireturn, 1) := by decide +kernel
theorem dX6_numbersOf_38 : decode cX6_numbersOf 38 = .ok (.iconst 3, 1) := by decide +kernel
theorem dX6_numbersOf_39 : decode cX6_numbersOf 39 = .ok (.ireturn, 1) := by decide +kernel
theorem dX6_numbersOf_40 : decode cX6_numbersOf 40 = .ok (.iconst 2, 1) := by decide +kernel
theorem dX6_numbersOf_41 : decode cX6_numbersOf 41 = .ok (.ireturn, 1) := by decide +kernel
theorem dX6_numbersOf_42 : decode cX6_numbersOf 42 = .ok (.iconst 1, 1) := by decide +kernel
theorem dX6_numbersOf_43 : decode cX6_numbersOf 43 = .ok (.ireturn, 1) := by decide +kernel
theorem dX6_mostOf_0 : decode cX6_mostOf 0 = .ok (.iload_n 1, 1) := by decide +kernel
theorem dX6_mostOf_1 : decode cX6_mostOf 1 = .ok (.lookupswitch 66 #[(1, 27), (4, 47)], 27) := by decide +kernel
theorem dX6_mostOf_28 : decode cX6_mostOf 28 = .ok (.iload_n 2, 1) := by decide +kernel
theorem dX6_mostOf_29 : decode cX6_mostOf 29 = .ok (.ifCond .ne 7, 3) := by decide +kernel
theorem dX6_mostOf_32 : decode cX6_mostOf 32 = .ok (.iconst 5, 1) := by decide +kernel
theorem dX6_mostOf_33 : decode cX6_mostOf 33 = .ok (.goto 14, 3) := by decide +kernel
theorem dX6_mostOf_36 : decode cX6_mostOf 36 = .ok (.iload_n 2, 1) := by decide +kernel
theorem dX6_mostOf_37 : decode cX6_mostOf 37 = .ok (.iconst 1, 1) := by decide +kernel
theorem dX6_mostOf_38 : decode cX6_mostOf 38 = .ok (.if_icmp .ne 8, 3) := by decide +kernel
theorem dX6_mostOf_41 : decode cX6_mostOf 41 = .ok (.bipush 23, 2) := by decide +kernel
theorem dX6_mostOf_43 : decode cX6_mostOf 43 = .ok (.goto 4, 3) := by decide +kernel
theorem dX6_mostOf_46 : decode cX6_mostOf 46 = .ok (.iconst 4, 1) := by decide +kernel
theorem dX6_mostOf_47 : decode cX6_mostOf 47 = .ok (.ireturn, 1) := by decide +kernel
theorem dX6_mostOf_48 : decode cX6_mostOf 48 = .ok (.iload_n 2, 1) := by decide +kernel
theorem dX6_mostOf_49 : decode cX6_mostOf 49 = .ok (.ifCond .ne 15, 3) := by decide +kernel
theorem dX6_mostOf_52 : decode cX6_mostOf 52 = .ok (.aload_n 0, 1) := by decide +kernel
theorem dX6_mostOf_53 : decode cX6_mostOf 53 = .ok (.getfield 12, 3) := by decide +kernel
theorem dX6_mostOf_56 : decode cX6_mostOf 56 = .ok (.getfield 69, 3) := by decide +kernel
theorem dX6_mostOf_59 : decode cX6_mostOf 59 = .ok (.iconst 1, 1) := by decide +kernel
theorem dX6_mostOf_60 : decode cX6_mostOf 60 = .ok (.isub, 1) := by decide +kernel
theorem dX6_mostOf_61 : decode cX6_mostOf 61 = .ok (.goto 5, 3) := by decide +kernel
theorem dX6_mostOf_64 : decode cX6_mostOf 64 = .ok (.bipush 40, 2) := by decide +kernel
theorem dX6_mostOf_66 : decode cX6_mostOf 66 = .ok (.ireturn, 1) := by decide +kernel
theorem dX6_mostOf_67 : decode cX6_mostOf 67 = .ok (.bipush 23, 2) := by decide +kernel
theorem dX6_mostOf_69 : decode cX6_mostOf 69 = .ok (.ireturn, 1) := by decide +kernel
theorem dX7_init_0 : decode cX7_init 0 = .ok (.aload_n 0, 1) := by decide +kernel
theorem dX7_init_1 : decode cX7_init 1 = .ok (.invokespecial 3, 3) := by decide +kernel
theorem dX7_init_4 : decode cX7_init 4 = .ok (.aload_n 0, 1) := by decide +kernel
theorem dX7_init_5 : decode cX7_init 5 = .ok (.sipush 150, 3) := by decide +kernel
theorem dX7_init_8 : decode cX7_init 8 = .ok (.newarray .char, 2) := by decide +kernel
theorem dX7_init_10 : decode cX7_init 10 = .ok (.putfield 9, 3) := by decide +kernel
theorem dX7_init_13 : decode cX7_init 13 = .ok (.aload_n 0, 1) := by decide +kernel
theorem dX7_init_14 : decode cX7_init 14 = .ok (.iconst 0, 1) := by decide +kernel
theorem dX7_init_15 : decode cX7_init 15 = .ok (.putfield 15, 3) := by decide +kernel
theorem dX7_init_18 : decode cX7_init 18 = .ok (.aload_n 0, 1) := by decide +kernel
theorem dX7_init_19 : decode cX7_init 19 = .ok (.iconst 0, 1) := by decide +kernel
theorem dX7_init_20 : decode cX7_init 20 = .ok (.putfield 19, 3) := by decide +kernel
theorem dX7_init_23 : decode cX7_init 23 = .ok (.aload_n 0, 1) := by decide +kernel
theorem dX7_init_24 : decode cX7_init 24 = .ok (.iconst 0, 1) := by decide +kernel
theorem dX7_init_25 : decode cX7_init 25 = .ok (.putfield 22, 3) := by decide +kernel
theorem dX7_init_28 : decode cX7_init 28 = .ok (.aload_n 0, 1) := by decide +kernel
theorem dX7_init_29 : decode cX7_init 29 = .ok (.iconst 0, 1) := by decide +kernel
theorem dX7_init_30 : decode cX7_init 30 = .ok (.putfield 25, 3) := by decide +kernel
theorem dX7_init_33 : decode cX7_init 33 = .ok (.aload_n 0, 1) := by decide +kernel
theorem dX7_init_34 : decode cX7_init 34 = .ok (.iconst 0, 1) := by decide +kernel
theorem dX7_init_35 : decode cX7_init 35 = .ok (.putfield 28, 3) := by decide +kernel
theorem dX7_init_38 : decode cX7_init 38 = .ok (.return_, 1) := by decide +kernel
theorem dX7_add_0 : decode cX7_add 0 = .ok (.aload_n 0, 1) := by decide +kernel
theorem dX7_add_1 : decode cX7_add 1 = .ok (.getfield 15, 3) := by decide +kernel
theorem dX7_add_4 : decode cX7_add 4 = .ok (.sipush 150, 3) := by decide +kernel
theorem dX7_add_7 : decode cX7_add 7 = .ok (.if_icmp .ge 24, 3) := by decide +kernel
theorem dX7_add_10 : decode cX7_add 10 = .ok (.aload_n 0, 1) := by decide +kernel
theorem dX7_add_11 : decode cX7_add 11 = .ok (.getfield 9, 3) := by decide +kernel
theorem dX7_add_14 : decode cX7_add 14 = .ok (.aload_n 0, 1) := by decide +kernel
theorem dX7_add_15 : decode cX7_add 15 = .ok (.getfield 15, 3) := by decide +kernel
theorem dX7_add_18 : decode cX7_add 18 = .ok (.iload_n 1, 1) := by decide +kernel
theorem dX7_add_19 : decode cX7_add 19 = .ok (.i2c, 1) := by decide +kernel
theorem dX7_add_20 : decode cX7_add 20 = .ok (.castore, 1) := by decide +kernel
theorem dX7_add_21 : decode cX7_add 21 = .ok (.aload_n 0, 1) := by decide +kernel
theorem dX7_add_22 : decode cX7_add 22 = .ok (.dup, 1) := by decide +kernel
theorem dX7_add_23 : decode cX7_add 23 = .ok (.getfield 15, 3) := by decide +kernel
theorem dX7_add_26 : decode cX7_add 26 = .ok (.iconst 1, 1) := by decide +kernel
theorem dX7_add_27 : decode cX7_add 27 = .ok (.iadd, 1) := by decide +kernel
theorem dX7_add_28 : decode cX7_add 28 = .ok (.putfield 15, 3) := by decide +kernel
theorem dX7_add_31 : decode cX7_add 31 = .ok (.return_, 1) := by decide +kernel
theorem dX7_rewind_0 : decode cX7_rewind 0 = .ok (.aload_n 0, 1) := by decide +kernel
theorem dX7_rewind_1 : decode cX7_rewind 1 = .ok (.iconst 0, 1) := by decide +kernel
theorem dX7_rewind_2 : decode cX7_rewind 2 = .ok (.putfield 19, 3) := by decide +kernel
theorem dX7_rewind_5 : decode cX7_rewind 5 = .ok (.aload_n 0, 1) := by decide +kernel
theorem dX7_rewind_6 : decode cX7_rewind 6 = .ok (.iconst 0, 1) := by decide +kernel
theorem dX7_rewind_7 : decode cX7_rewind 7 = .ok (.putfield 22, 3) := by decide +kernel
theorem dX7_rewind_10 : decode cX7_rewind 10 = .ok (.aload_n 0, 1) := by decide +kernel
theorem dX7_rewind_11 : decode cX7_rewind 11 = .ok (.iconst 0, 1) := by decide +kernel
theorem dX7_rewind_12 : decode cX7_rewind 12 = .ok (.putfield 25, 3) := by decide +kernel
theorem dX7_rewind_15 : decode cX7_rewind 15 = .ok (.return_, 1) := by decide +kernel
theorem dX7_goOn_0 : decode cX7_goOn 0 = .ok (.aload_n 0, 1) := by decide +kernel
theorem dX7_goOn_1 : decode cX7_goOn 1 = .ok (.aload_n 0, 1) := by decide +kernel
theorem dX7_goOn_2 : decode cX7_goOn 2 = .ok (.getfield 22, 3) := by decide +kernel
theorem dX7_goOn_5 : decode cX7_goOn 5 = .ok (.putfield 19, 3) := by decide +kernel
theorem dX7_goOn_8 : decode cX7_goOn 8 = .ok (.iconst 0, 1) := by decide +kernel
theorem dX7_goOn_9 : decode cX7_goOn 9 = .ok (.istore_n 1, 1) := by decide +kernel
theorem dX7_goOn_10 : decode cX7_goOn 10 = .ok (.iload_n 1, 1) := by decide +kernel
theorem dX7_goOn_11 : decode cX7_goOn 11 = .ok (.sipush 150, 3) := by decide +kernel
theorem dX7_goOn_14 : decode cX7_goOn 14 = .ok (.if_icmp .ge 32, 3) := by decide +kernel
theorem dX7_goOn_17 : decode cX7_goOn 17 = .ok (.aload_n 0, 1) := by decide +kernel
theorem dX7_goOn_18 : decode cX7_goOn 18 = .ok (.aload_n 0, 1) := by decide +kernel
theorem dX7_goOn_19 : decode cX7_goOn 19 = .ok (.getfield 19, 3) := by decide +kernel
theorem dX7_goOn_22 : decode cX7_goOn 22 = .ok (.invokevirtual 31, 3) := by decide +kernel
theorem dX7_goOn_25 : decode cX7_goOn 25 = .ok (.bipush 32, 2) := by decide +kernel
theorem dX7_goOn_27 : decode cX7_goOn 27 = .ok (.if_icmp .ne 19, 3) := by decide +kernel
theorem dX7_goOn_30 : decode cX7_goOn 30 = .ok (.aload_n 0, 1) := by decide +kernel
theorem dX7_goOn_31 : decode cX7_goOn 31 = .ok (.dup, 1) := by decide +kernel
theorem dX7_goOn_32 : decode cX7_goOn 32 = .ok (.getfield 19, 3) := by decide +kernel
theorem dX7_goOn_35 : decode cX7_goOn 35 = .ok (.iconst 1, 1) := by decide +kernel
theorem dX7_goOn_36 : decode cX7_goOn 36 = .ok (.iadd, 1) := by decide +kernel
theorem dX7_goOn_37 : decode cX7_goOn 37 = .ok (.putfield 19, 3) := by decide +kernel
theorem dX7_goOn_40 : decode cX7_goOn 40 = .ok (.iinc 1 1, 3) := by decide +kernel
theorem dX7_goOn_43 : decode cX7_goOn 43 = .ok (.goto (-33), 3) := by decide +kernel
theorem dX7_goOn_46 : decode cX7_goOn 46 = .ok (.aload_n 0, 1) := by decide +kernel
theorem dX7_goOn_47 : decode cX7_goOn 47 = .ok (.aload_n 0, 1) := by decide +kernel
theorem dX7_goOn_48 : decode cX7_goOn 48 = .ok (.getfield 19, 3) := by decide +kernel
theorem dX7_goOn_51 : decode cX7_goOn 51 = .ok (.putfield 22, 3) := by decide +kernel
theorem dX7_goOn_54 : decode cX7_goOn 54 = .ok (.aload_n 0, 1) := by decide +kernel
theorem dX7_goOn_55 : decode cX7_goOn 55 = .ok (.aload_n 0, 1) := by decide +kernel
theorem dX7_goOn_56 : decode cX7_goOn 56 = .ok (.getfield 19, 3) := by decide +kernel
theorem dX7_goOn_59 : decode cX7_goOn 59 = .ok (.invokevirtual 31, 3) := by decide +kernel
theorem dX7_goOn_62 : decode cX7_goOn 62 = .ok (.istore_n 1, 1) := by decide +kernel
theorem dX7_goOn_63 : decode cX7_goOn 63 = .ok (.iload_n 1, 1) := by decide +kernel
theorem dX7_goOn_64 : decode cX7_goOn 64 = .ok (.iconst (-1), 1) := by decide +kernel
theorem dX7_goOn_65 : decode cX7_goOn 65 = .ok (.if_icmp .ne 11, 3) := by decide +kernel
theorem dX7_goOn_68 : decode cX7_goOn 68 = .ok (.aload_n 0, 1) := by decide +kernel
theorem dX7_goOn_69 : decode cX7_goOn 69 = .ok (.iconst 0, 1) := by decide +kernel
theorem dX7_goOn_70 : decode cX7_goOn 70 = .ok (.putfield 25, 3) := by decide +kernel
theorem dX7_goOn_73 : decode cX7_goOn 73 = .ok (.goto 60, 3) := by decide +kernel
theorem dX7_goOn_76 : decode cX7_goOn 76 = .ok (.iload_n 1, 1) := by decide +kernel
theorem dX7_goOn_77 : decode cX7_goOn 77 = .ok (.bipush 59, 2) := by decide +kernel
theorem dX7_goOn_79 : decode cX7_goOn 79 = .ok (.if_icmp .ne 21, 3) := by decide +kernel
theorem dX7_goOn_82 : decode cX7_goOn 82 = .ok (.aload_n 0, 1) := by decide +kernel
theorem dX7_goOn_83 : decode cX7_goOn 83 = .ok (.iconst 1, 1) := by decide +kernel
theorem dX7_goOn_84 : decode cX7_goOn 84 = .ok (.putfield 25, 3) := by decide +kernel
theorem dX7_goOn_87 : decode cX7_goOn 87 = .ok (.aload_n 0, 1) := by decide +kernel
theorem dX7_goOn_88 : decode cX7_goOn 88 = .ok (.aload_n 0, 1) := by decide +kernel
theorem dX7_goOn_89 : decode cX7_goOn 89 = .ok (.getfield 19, 3) := by decide +kernel
theorem dX7_goOn_92 : decode cX7_goOn 92 = .ok (.iconst 1, 1) := by decide +kernel
theorem dX7_goOn_93 : decode cX7_goOn 93 = .ok (.iadd, 1) := by decide +kernel
theorem dX7_goOn_94 : decode cX7_goOn 94 = .ok (.putfield 22, 3) := by decide +kernel
theorem dX7_goOn_97 : decode cX7_goOn 97 = .ok (.goto 36, 3) := by decide +kernel
theorem dX7_goOn_100 : decode cX7_goOn 100 = .ok (.iload_n 1, 1) := by decide +kernel
theorem dX7_goOn_101 : decode cX7_goOn 101 = .ok (.invokestatic 35, 3) := by decide +kernel
theorem dX7_goOn_104 : decode cX7_goOn 104 = .ok (.ifCond .eq 10, 3) := by decide +kernel
theorem dX7_goOn_107 : decode cX7_goOn 107 = .ok (.aload_n 0, 1) := by decide +kernel
theorem dX7_goOn_108 : decode cX7_goOn 108 = .ok (.invokevirtual 39, 3) := by decide +kernel
theorem dX7_goOn_111 : decode cX7_goOn 111 = .ok (.goto 22, 3) := by decide +kernel
theorem dX7_goOn_114 : decode cX7_goOn 114 = .ok (.iload_n 1, 1) := by decide +kernel
theorem dX7_goOn_115 : decode cX7_goOn 115 = .ok (.invokestatic 42, 3) := by decide +kernel
theorem dX7_goOn_118 : decode cX7_goOn 118 = .ok (.ifCond .eq 10, 3) := by decide +kernel
theorem dX7_goOn_121 : decode cX7_goOn 121 = .ok (.aload_n 0, 1) := by decide +kernel
theorem dX7_goOn_122 : decode cX7_goOn 122 = .ok (.invokevirtual 45, 3) := by decide +kernel
theorem dX7_goOn_125 : decode cX7_goOn 125 = .ok (.goto 8, 3) := by decide +kernel
theorem dX7_goOn_128 : decode cX7_goOn 128 = .ok (.aload_n 0, 1) := by decide +kernel
theorem dX7_goOn_129 : decode cX7_goOn 129 = .ok (.iconst 4, 1) := by decide +kernel
theorem dX7_goOn_130 : decode cX7_goOn 130 = .ok (.putfield 25, 3) := by decide +kernel
theorem dX7_goOn_133 : decode cX7_goOn 133 = .ok (.return_, 1) := by decide +kernel
theorem dX7_takeNumber_0 : decode cX7_takeNumber 0 = .ok (.aload_n 0, 1) := by decide +kernel
theorem dX7_takeNumber_1 : decode cX7_takeNumber 1 = .ok (.iconst 0, 1) := by decide +kernel
theorem dX7_takeNumber_2 : decode cX7_takeNumber 2 = .ok (.putfield 28, 3) := by decide +kernel
theorem dX7_takeNumber_5 : decode cX7_takeNumber 5 = .ok (.iconst 0, 1) := by decide +kernel
theorem dX7_takeNumber_6 : decode cX7_takeNumber 6 = .ok (.istore_n 1, 1) := by decide +kernel
theorem dX7_takeNumber_7 : decode cX7_takeNumber 7 = .ok (.iload_n 1, 1) := by decide +kernel
theorem dX7_takeNumber_8 : decode cX7_takeNumber 8 = .ok (.sipush 150, 3) := by decide +kernel
theorem dX7_takeNumber_11 : decode cX7_takeNumber 11 = .ok (.if_icmp .ge 68, 3) := by decide +kernel
theorem dX7_takeNumber_14 : decode cX7_takeNumber 14 = .ok (.aload_n 0, 1) := by decide +kernel
theorem dX7_takeNumber_15 : decode cX7_takeNumber 15 = .ok (.aload_n 0, 1) := by decide +kernel
theorem dX7_takeNumber_16 : decode cX7_takeNumber 16 = .ok (.getfield 22, 3) := by decide +kernel
theorem dX7_takeNumber_19 : decode cX7_takeNumber 19 = .ok (.invokevirtual 31, 3) := by decide +kernel
theorem dX7_takeNumber_22 : decode cX7_takeNumber 22 = .ok (.invokestatic 35, 3) := by decide +kernel
theorem dX7_takeNumber_25 : decode cX7_takeNumber 25 = .ok (.ifCond .eq 54, 3) := by decide +kernel
theorem dX7_takeNumber_28 : decode cX7_takeNumber 28 = .ok (.aload_n 0, 1) := by decide +kernel
theorem dX7_takeNumber_29 : decode cX7_takeNumber 29 = .ok (.iload_n 1, 1) := by decide +kernel
theorem dX7_takeNumber_30 : decode cX7_takeNumber 30 = .ok (.iconst 2, 1) := by decide +kernel
theorem dX7_takeNumber_31 : decode cX7_takeNumber 31 = .ok (.if_icmp .ge 25, 3) := by decide +kernel
theorem dX7_takeNumber_34 : decode cX7_takeNumber 34 = .ok (.bipush 10, 2) := by decide +kernel
theorem dX7_takeNumber_36 : decode cX7_takeNumber 36 = .ok (.aload_n 0, 1) := by decide +kernel
theorem dX7_takeNumber_37 : decode cX7_takeNumber 37 = .ok (.getfield 28, 3) := by decide +kernel
theorem dX7_takeNumber_40 : decode cX7_takeNumber 40 = .ok (.imul, 1) := by decide +kernel
theorem dX7_takeNumber_41 : decode cX7_takeNumber 41 = .ok (.aload_n 0, 1) := by decide +kernel
theorem dX7_takeNumber_42 : decode cX7_takeNumber 42 = .ok (.aload_n 0, 1) := by decide +kernel
theorem dX7_takeNumber_43 : decode cX7_takeNumber 43 = .ok (.getfield 22, 3) := by decide +kernel
theorem dX7_takeNumber_46 : decode cX7_takeNumber 46 = .ok (.invokevirtual 31, 3) := by decide +kernel
theorem dX7_takeNumber_49 : decode cX7_takeNumber 49 = .ok (.iadd, 1) := by decide +kernel
theorem dX7_takeNumber_50 : decode cX7_takeNumber 50 = .ok (.bipush 48, 2) := by decide +kernel
theorem dX7_takeNumber_52 : decode cX7_takeNumber 52 = .ok (.isub, 1) := by decide +kernel
theorem dX7_takeNumber_53 : decode cX7_takeNumber 53 = .ok (.goto 7, 3) := by decide +kernel
theorem dX7_takeNumber_56 : decode cX7_takeNumber 56 = .ok (.aload_n 0, 1) := by decide +kernel
theorem dX7_takeNumber_57 : decode cX7_takeNumber 57 = .ok (.getfield 28, 3) := by decide +kernel
theorem dX7_takeNumber_60 : decode cX7_takeNumber 60 = .ok (.putfield 28, 3) := by decide +kernel
theorem dX7_takeNumber_63 : decode cX7_takeNumber 63 = .ok (.aload_n 0, 1) := by decide +kernel
theorem dX7_takeNumber_64 : decode cX7_takeNumber 64 = .ok (.dup, 1) := by decide +kernel
theorem dX7_takeNumber_65 : decode cX7_takeNumber 65 = .ok (.getfield 22, 3) := by decide +kernel
theorem dX7_takeNumber_68 : decode cX7_takeNumber 68 = .ok (.iconst 1, 1) := by decide +kernel
theorem dX7_takeNumber_69 : decode cX7_takeNumber 69 = .ok (.iadd, 1) := by decide +kernel
theorem dX7_takeNumber_70 : decode cX7_takeNumber 70 = .ok (.putfield 22, 3) := by decide +kernel
theorem dX7_takeNumber_73 : decode cX7_takeNumber 73 = .ok (.iinc 1 1, 3) := by decide +kernel
theorem dX7_takeNumber_76 : decode cX7_takeNumber 76 = .ok (.goto (-69), 3) := by decide +kernel
theorem dX7_takeNumber_79 : decode cX7_takeNumber 79 = .ok (.aload_n 0, 1) := by decide +kernel
theorem dX7_takeNumber_80 : decode cX7_takeNumber 80 = .ok (.aload_n 0, 1) := by decide +kernel
theorem dX7_takeNumber_81 : decode cX7_takeNumber 81 = .ok (.getfield 22, 3) := by decide +kernel
theorem dX7_takeNumber_84 : decode cX7_takeNumber 84 = .ok (.aload_n 0, 1) := by decide +kernel
theorem dX7_takeNumber_85 : decode cX7_takeNumber 85 = .ok (.getfield 19, 3) := by decide +kernel
theorem dX7_takeNumber_88 : decode cX7_takeNumber 88 = .ok (.isub, 1) := by decide +kernel
theorem dX7_takeNumber_89 : decode cX7_takeNumber 89 = .ok (.iconst 2, 1) := by decide +kernel
theorem dX7_takeNumber_90 : decode cX7_takeNumber 90 = .ok (.if_icmp .gt 7, 3) := by decide +kernel
theorem dX7_takeNumber_93 : decode cX7_takeNumber 93 = .ok (.iconst 2, 1) := by decide +kernel
theorem dX7_takeNumber_94 : decode cX7_takeNumber 94 = .ok (.goto 4, 3) := by decide +kernel
theorem dX7_takeNumber_97 : decode cX7_takeNumber 97 = .ok (.iconst 4, 1) := by decide +kernel
theorem dX7_takeNumber_98 : decode cX7_takeNumber 98 = .ok (.putfield 25, 3) := by decide +kernel
theorem dX7_takeNumber_101 : decode cX7_takeNumber 101 = .ok (.return_, 1) := by decide +kernel
theorem dX7_takeWord_0 : decode cX7_takeWord 0 = .ok (.iconst 0, 1) := by decide +kernel
theorem dX7_takeWord_1 : decode cX7_takeWord 1 = .ok (.istore_n 1, 1) := by decide +kernel
theorem dX7_takeWord_2 : decode cX7_takeWord 2 = .ok (.iload_n 1, 1) := by decide +kernel
theorem dX7_takeWord_3 : decode cX7_takeWord 3 = .ok (.sipush 150, 3) := by decide +kernel
theorem dX7_takeWord_6 : decode cX7_takeWord 6 = .ok (.if_icmp .ge 33, 3) := by decide +kernel
theorem dX7_takeWord_9 : decode cX7_takeWord 9 = .ok (.aload_n 0, 1) := by decide +kernel
theorem dX7_takeWord_10 : decode cX7_takeWord 10 = .ok (.aload_n 0, 1) := by decide +kernel
theorem dX7_takeWord_11 : decode cX7_takeWord 11 = .ok (.getfield 22, 3) := by decide +kernel
theorem dX7_takeWord_14 : decode cX7_takeWord 14 = .ok (.invokevirtual 31, 3) := by decide +kernel
theorem dX7_takeWord_17 : decode cX7_takeWord 17 = .ok (.invokestatic 42, 3) := by decide +kernel
theorem dX7_takeWord_20 : decode cX7_takeWord 20 = .ok (.ifCond .eq 19, 3) := by decide +kernel
theorem dX7_takeWord_23 : decode cX7_takeWord 23 = .ok (.aload_n 0, 1) := by decide +kernel
theorem dX7_takeWord_24 : decode cX7_takeWord 24 = .ok (.dup, 1) := by decide +kernel
theorem dX7_takeWord_25 : decode cX7_takeWord 25 = .ok (.getfield 22, 3) := by decide +kernel
theorem dX7_takeWord_28 : decode cX7_takeWord 28 = .ok (.iconst 1, 1) := by decide +kernel
theorem dX7_takeWord_29 : decode cX7_takeWord 29 = .ok (.iadd, 1) := by decide +kernel
theorem dX7_takeWord_30 : decode cX7_takeWord 30 = .ok (.putfield 22, 3) := by decide +kernel
theorem dX7_takeWord_33 : decode cX7_takeWord 33 = .ok (.iinc 1 1, 3) := by decide +kernel
theorem dX7_takeWord_36 : decode cX7_takeWord 36 = .ok (.goto (-34), 3) := by decide +kernel
theorem dX7_takeWord_39 : decode cX7_takeWord 39 = .ok (.aload_n 0, 1) := by decide +kernel
theorem dX7_takeWord_40 : decode cX7_takeWord 40 = .ok (.iconst 3, 1) := by decide +kernel
theorem dX7_takeWord_41 : decode cX7_takeWord 41 = .ok (.putfield 25, 3) := by decide +kernel
theorem dX7_takeWord_44 : decode cX7_takeWord 44 = .ok (.aload_n 0, 1) := by decide +kernel
theorem dX7_takeWord_45 : decode cX7_takeWord 45 = .ok (.ldc 48, 2) := by decide +kernel
theorem dX7_takeWord_47 : decode cX7_takeWord 47 = .ok (.invokevirtual 50, 3) := by decide +kernel
theorem dX7_takeWord_50 : decode cX7_takeWord 50 = .ok (.ifCond .eq 11, 3) := by decide +kernel
theorem dX7_takeWord_53 : decode cX7_takeWord 53 = .ok (.aload_n 0, 1) := by decide +kernel
theorem dX7_takeWord_54 : decode cX7_takeWord 54 = .ok (.iconst 0, 1) := by decide +kernel
theorem dX7_takeWord_55 : decode cX7_takeWord 55 = .ok (.putfield 28, 3) := by decide +kernel
theorem dX7_takeWord_58 : decode cX7_takeWord 58 = .ok (.goto 76, 3) := by decide +kernel
theorem dX7_takeWord_61 : decode cX7_takeWord 61 = .ok (.aload_n 0, 1) := by decide +kernel
theorem dX7_takeWord_62 : decode cX7_takeWord 62 = .ok (.ldc 54, 2) := by decide +kernel
theorem dX7_takeWord_64 : decode cX7_takeWord 64 = .ok (.invokevirtual 50, 3) := by decide +kernel
theorem dX7_takeWord_67 : decode cX7_takeWord 67 = .ok (.ifCond .eq 11, 3) := by decide +kernel
theorem dX7_takeWord_70 : decode cX7_takeWord 70 = .ok (.aload_n 0, 1) := by decide +kernel
theorem dX7_takeWord_71 : decode cX7_takeWord 71 = .ok (.iconst 1, 1) := by decide +kernel
theorem dX7_takeWord_72 : decode cX7_takeWord 72 = .ok (.putfield 28, 3) := by decide +kernel
theorem dX7_takeWord_75 : decode cX7_takeWord 75 = .ok (.goto 59, 3) := by decide +kernel
theorem dX7_takeWord_78 : decode cX7_takeWord 78 = .ok (.aload_n 0, 1) := by decide +kernel
theorem dX7_takeWord_79 : decode cX7_takeWord 79 = .ok (.ldc 56, 2) := by decide +kernel
theorem dX7_takeWord_81 : decode cX7_takeWord 81 = .ok (.invokevirtual 50, 3) := by decide +kernel
theorem dX7_takeWord_84 : decode cX7_takeWord 84 = .ok (.ifCond .eq 11, 3) := by decide +kernel
theorem dX7_takeWord_87 : decode cX7_takeWord 87 = .ok (.aload_n 0, 1) := by decide +kernel
theorem dX7_takeWord_88 : decode cX7_takeWord 88 = .ok (.iconst 2, 1) := by decide +kernel
theorem dX7_takeWord_89 : decode cX7_takeWord 89 = .ok (.putfield 28, 3) := by decide +kernel
theorem dX7_takeWord_92 : decode cX7_takeWord 92 = .ok (.goto 42, 3) := by decide +kernel
theorem dX7_takeWord_95 : decode cX7_takeWord 95 = .ok (.aload_n 0, 1) := by decide +kernel
theorem dX7_takeWord_96 : decode cX7_takeWord 96 = .ok (.ldc 58, 2) := by decide +kernel
theorem dX7_takeWord_98 : decode cX7_takeWord 98 = .ok (.invokevirtual 50, 3) := by decide +kernel
theorem dX7_takeWord_101 : decode cX7_takeWord 101 = .ok (.ifCond .eq 11, 3) := by decide +kernel
theorem dX7_takeWord_104 : decode cX7_takeWord 104 = .ok (.aload_n 0, 1) := by decide +kernel
theorem dX7_takeWord_105 : decode cX7_takeWord 105 = .ok (.iconst 3, 1) := by decide +kernel
theorem dX7_takeWord_106 : decode cX7_takeWord 106 = .ok (.putfield 28, 3) := by decide +kernel
theorem dX7_takeWord_109 : decode cX7_takeWord 109 = .ok (.goto 25, 3) := by decide +kernel
theorem dX7_takeWord_112 : decode cX7_takeWord 112 = .ok (.aload_n 0, 1) := by decide +kernel
theorem dX7_takeWord_113 : decode cX7_takeWord 113 = .ok (.ldc 60, 2) := by decide +kernel
theorem dX7_takeWord_115 : decode cX7_takeWord 115 = .ok (.invokevirtual 50, 3) := by decide +kernel
theorem dX7_takeWord_118 : decode cX7_takeWord 118 = .ok (.ifCond .eq 11, 3) := by decide +kernel
theorem dX7_takeWord_121 : decode cX7_takeWord 121 = .ok (.aload_n 0, 1) := by decide +kernel
theorem dX7_takeWord_122 : decode cX7_takeWord 122 = .ok (.iconst 4, 1) := by decide +kernel
theorem dX7_takeWord_123 : decode cX7_takeWord 123 = .ok (.putfield 28, 3) := by decide +kernel
theorem dX7_takeWord_126 : decode cX7_takeWord 126 = .ok (.goto 8, 3) := by decide +kernel
theorem dX7_takeWord_129 : decode cX7_takeWord 129 = .ok (.aload_n 0, 1) := by decide +kernel
theorem dX7_takeWord_130 : decode cX7_takeWord 130 = .ok (.iconst 4, 1) := by decide +kernel
theorem dX7_takeWord_131 : decode cX7_takeWord 131 = .ok (.putfield 25, 3) := by decide +kernel
theorem dX7_takeWord_134 : decode cX7_takeWord 134 = .ok (.return_, 1) := by decide +kernel
theorem dX7_spells_0 : decode cX7_spells 0 = .ok (.aload_n 0, 1) := by decide +kernel
theorem dX7_spells_1 : decode cX7_spells 1 = .ok (.getfield 22, 3) := by decide +kernel
theorem dX7_spells_4 : decode cX7_spells 4 = .ok (.aload_n 0, 1) := by decide +kernel
theorem dX7_spells_5 : decode cX7_spells 5 = .ok (.getfield 19, 3) := by decide +kernel
theorem dX7_spells_8 : decode cX7_spells 8 = .ok (.isub, 1) := by decide +kernel
theorem dX7_spells_9 : decode cX7_spells 9 = .ok (.aload_n 1, 1) := by decide +kernel
theorem dX7_spells_10 : decode cX7_spells 10 = .ok (.invokevirtual 62, 3) := by decide +kernel
theorem dX7_spells_13 : decode cX7_spells 13 = .ok (.if_icmp .eq 5, 3) := by decide +kernel
theorem dX7_spells_16 : decode cX7_spells 16 = .ok (.iconst 0, 1) := by decide +kernel
theorem dX7_spells_17 : decode cX7_spells 17 = .ok (.ireturn, 1) := by decide +kernel
theorem dX7_spells_18 : decode cX7_spells 18 = .ok (.iconst 0, 1) := by decide +kernel
theorem dX7_spells_19 : decode cX7_spells 19 = .ok (.istore_n 2, 1) := by decide +kernel
theorem dX7_spells_20 : decode cX7_spells 20 = .ok (.iload_n 2, 1) := by decide +kernel
theorem dX7_spells_21 : decode cX7_spells 21 = .ok (.aload_n 1, 1) := by decide +kernel
theorem dX7_spells_22 : decode cX7_spells 22 = .ok (.invokevirtual 62, 3) := by decide +kernel
theorem dX7_spells_25 : decode cX7_spells 25 = .ok (.if_icmp .ge 29, 3) := by decide +kernel
theorem dX7_spells_28 : decode cX7_spells 28 = .ok (.aload_n 0, 1) := by decide +kernel
theorem dX7_spells_29 : decode cX7_spells 29 = .ok (.aload_n 0, 1) := by decide +kernel
theorem dX7_spells_30 : decode cX7_spells 30 = .ok (.getfield 19, 3) := by decide +kernel
theorem dX7_spells_33 : decode cX7_spells 33 = .ok (.iload_n 2, 1) := by decide +kernel
theorem dX7_spells_34 : decode cX7_spells 34 = .ok (.iadd, 1) := by decide +kernel
theorem dX7_spells_35 : decode cX7_spells 35 = .ok (.invokevirtual 31, 3) := by decide +kernel
theorem dX7_spells_38 : decode cX7_spells 38 = .ok (.aload_n 1, 1) := by decide +kernel
theorem dX7_spells_39 : decode cX7_spells 39 = .ok (.iload_n 2, 1) := by decide +kernel
theorem dX7_spells_40 : decode cX7_spells 40 = .ok (.invokevirtual 67, 3) := by decide +kernel
theorem dX7_spells_43 : decode cX7_spells 43 = .ok (.if_icmp .eq 5, 3) := by decide +kernel
theorem dX7_spells_46 : decode cX7_spells 46 = .ok (.iconst 0, 1) := by decide +kernel
theorem dX7_spells_47 : decode cX7_spells 47 = .ok (.ireturn, 1) := by decide +kernel
theorem dX7_spells_48 : decode cX7_spells 48 = .ok (.iinc 2 1, 3) := by decide +kernel
theorem dX7_spells_51 : decode cX7_spells 51 = .ok (.goto (-31), 3) := by decide +kernel
theorem dX7_spells_54 : decode cX7_spells 54 = .ok (.iconst 1, 1) := by decide +kernel
theorem dX7_spells_55 : decode cX7_spells 55 = .ok (.ireturn, 1) := by decide +kernel
theorem dX7_byteAt_0 : decode cX7_byteAt 0 = .ok (.iload_n 1, 1) := by decide +kernel
theorem dX7_byteAt_1 : decode cX7_byteAt 1 = .ok (.ifCond .lt 27, 3) := by decide +kernel
theorem dX7_byteAt_4 : decode cX7_byteAt 4 = .ok (.iload_n 1, 1) := by decide +kernel
theorem dX7_byteAt_5 : decode cX7_byteAt 5 = .ok (.aload_n 0, 1) := by decide +kernel
theorem dX7_byteAt_6 : decode cX7_byteAt 6 = .ok (.getfield 15, 3) := by decide +kernel
theorem dX7_byteAt_9 : decode cX7_byteAt 9 = .ok (.if_icmp .ge 19, 3) := by decide +kernel
theorem dX7_byteAt_12 : decode cX7_byteAt 12 = .ok (.iload_n 1, 1) := by decide +kernel
theorem dX7_byteAt_13 : decode cX7_byteAt 13 = .ok (.sipush 150, 3) := by decide +kernel
theorem dX7_byteAt_16 : decode cX7_byteAt 16 = .ok (.if_icmp .ge 12, 3) := by decide +kernel
theorem dX7_byteAt_19 : decode cX7_byteAt 19 = .ok (.aload_n 0, 1) := by decide +kernel
theorem dX7_byteAt_20 : decode cX7_byteAt 20 = .ok (.getfield 9, 3) := by decide +kernel
theorem dX7_byteAt_23 : decode cX7_byteAt 23 = .ok (.iload_n 1, 1) := by decide +kernel
theorem dX7_byteAt_24 : decode cX7_byteAt 24 = .ok (.caload, 1) := by decide +kernel
theorem dX7_byteAt_25 : decode cX7_byteAt 25 = .ok (.goto 4, 3) := by decide +kernel
theorem dX7_byteAt_28 : decode cX7_byteAt 28 = .ok (.iconst (-1), 1) := by decide +kernel
theorem dX7_byteAt_29 : decode cX7_byteAt 29 = .ok (.ireturn, 1) := by decide +kernel
theorem dX7_isFigure_0 : decode cX7_isFigure 0 = .ok (.iload_n 0, 1) := by decide +kernel
theorem dX7_isFigure_1 : decode cX7_isFigure 1 = .ok (.bipush 48, 2) := by decide +kernel
theorem dX7_isFigure_3 : decode cX7_isFigure 3 = .ok (.if_icmp .lt 13, 3) := by decide +kernel
theorem dX7_isFigure_6 : decode cX7_isFigure 6 = .ok (.iload_n 0, 1) := by decide +kernel
theorem dX7_isFigure_7 : decode cX7_isFigure 7 = .ok (.bipush 57, 2) := by decide +kernel
theorem dX7_isFigure_9 : decode cX7_isFigure 9 = .ok (.if_icmp .gt 7, 3) := by decide +kernel
theorem dX7_isFigure_12 : decode cX7_isFigure 12 = .ok (.iconst 1, 1) := by decide +kernel
theorem dX7_isFigure_13 : decode cX7_isFigure 13 = .ok (.goto 4, 3) := by decide +kernel
theorem dX7_isFigure_16 : decode cX7_isFigure 16 = .ok (.iconst 0, 1) := by decide +kernel
theorem dX7_isFigure_17 : decode cX7_isFigure 17 = .ok (.ireturn, 1) := by decide +kernel
theorem dX7_isLetter_0 : decode cX7_isLetter 0 = .ok (.iload_n 0, 1) := by decide +kernel
theorem dX7_isLetter_1 : decode cX7_isLetter 1 = .ok (.bipush 97, 2) := by decide +kernel
theorem dX7_isLetter_3 : decode cX7_isLetter 3 = .ok (.if_icmp .lt 13, 3) := by decide +kernel
theorem dX7_isLetter_6 : decode cX7_isLetter 6 = .ok (.iload_n 0, 1) := by decide +kernel
theorem dX7_isLetter_7 : decode cX7_isLetter 7 = .ok (.bipush 122, 2) := by decide +kernel
theorem dX7_isLetter_9 : decode cX7_isLetter 9 = .ok (.if_icmp .gt 7, 3) := by decide +kernel
theorem dX7_isLetter_12 : decode cX7_isLetter 12 = .ok (.iconst 1, 1) := by decide +kernel
theorem dX7_isLetter_13 : decode cX7_isLetter 13 = .ok (.goto 4, 3) := by decide +kernel
theorem dX7_isLetter_16 : decode cX7_isLetter 16 = .ok (.iconst 0, 1) := by decide +kernel
theorem dX7_isLetter_17 : decode cX7_isLetter 17 = .ok (.ireturn, 1) := by decide +kernel
theorem dX8_init_0 : decode cX8_init 0 = .ok (.aload_n 0, 1) := by decide +kernel
theorem dX8_init_1 : decode cX8_init 1 = .ok (.invokespecial 1, 3) := by decide +kernel
theorem dX8_init_4 : decode cX8_init 4 = .ok (.aload_n 0, 1) := by decide +kernel
theorem dX8_init_5 : decode cX8_init 5 = .ok (.new 7, 3) := by decide +kernel
theorem dX8_init_8 : decode cX8_init 8 = .ok (.dup, 1) := by decide +kernel
theorem dX8_init_9 : decode cX8_init 9 = .ok (.invokespecial 9, 3) := by decide +kernel
theorem dX8_init_12 : decode cX8_init 12 = .ok (.putfield 10, 3) := by decide +kernel
theorem dX8_init_15 : decode cX8_init 15 = .ok (.aload_n 0, 1) := by decide +kernel
theorem dX8_init_16 : decode cX8_init 16 = .ok (.new 7, 3) := by decide +kernel
theorem dX8_init_19 : decode cX8_init 19 = .ok (.dup, 1) := by decide +kernel
theorem dX8_init_20 : decode cX8_init 20 = .ok (.invokespecial 9, 3) := by decide +kernel
theorem dX8_init_23 : decode cX8_init 23 = .ok (.putfield 16, 3) := by decide +kernel
theorem dX8_init_26 : decode cX8_init 26 = .ok (.aload_n 0, 1) := by decide +kernel
theorem dX8_init_27 : decode cX8_init 27 = .ok (.new 7, 3) := by decide +kernel
theorem dX8_init_30 : decode cX8_init 30 = .ok (.dup, 1) := by decide +kernel
theorem dX8_init_31 : decode cX8_init 31 = .ok (.invokespecial 9, 3) := by decide +kernel
theorem dX8_init_34 : decode cX8_init 34 = .ok (.putfield 19, 3) := by decide +kernel
theorem dX8_init_37 : decode cX8_init 37 = .ok (.aload_n 0, 1) := by decide +kernel
theorem dX8_init_38 : decode cX8_init 38 = .ok (.new 22, 3) := by decide +kernel
theorem dX8_init_41 : decode cX8_init 41 = .ok (.dup, 1) := by decide +kernel
theorem dX8_init_42 : decode cX8_init 42 = .ok (.invokespecial 24, 3) := by decide +kernel
theorem dX8_init_45 : decode cX8_init 45 = .ok (.putfield 25, 3) := by decide +kernel
theorem dX8_init_48 : decode cX8_init 48 = .ok (.aload_n 0, 1) := by decide +kernel
theorem dX8_init_49 : decode cX8_init 49 = .ok (.new 29, 3) := by decide +kernel
theorem dX8_init_52 : decode cX8_init 52 = .ok (.dup, 1) := by decide +kernel
theorem dX8_init_53 : decode cX8_init 53 = .ok (.invokespecial 31, 3) := by decide +kernel
theorem dX8_init_56 : decode cX8_init 56 = .ok (.putfield 32, 3) := by decide +kernel
theorem dX8_init_59 : decode cX8_init 59 = .ok (.aload_n 0, 1) := by decide +kernel
theorem dX8_init_60 : decode cX8_init 60 = .ok (.new 36, 3) := by decide +kernel
theorem dX8_init_63 : decode cX8_init 63 = .ok (.dup, 1) := by decide +kernel
theorem dX8_init_64 : decode cX8_init 64 = .ok (.invokespecial 38, 3) := by decide +kernel
theorem dX8_init_67 : decode cX8_init 67 = .ok (.putfield 39, 3) := by decide +kernel
theorem dX8_init_70 : decode cX8_init 70 = .ok (.aload_n 0, 1) := by decide +kernel
theorem dX8_init_71 : decode cX8_init 71 = .ok (.new 43, 3) := by decide +kernel
theorem dX8_init_74 : decode cX8_init 74 = .ok (.dup, 1) := by decide +kernel
theorem dX8_init_75 : decode cX8_init 75 = .ok (.invokespecial 45, 3) := by decide +kernel
theorem dX8_init_78 : decode cX8_init 78 = .ok (.putfield 46, 3) := by decide +kernel
theorem dX8_init_81 : decode cX8_init 81 = .ok (.aload_n 0, 1) := by decide +kernel
theorem dX8_init_82 : decode cX8_init 82 = .ok (.bipush 6, 2) := by decide +kernel
theorem dX8_init_84 : decode cX8_init 84 = .ok (.newarray .int, 2) := by decide +kernel
theorem dX8_init_86 : decode cX8_init 86 = .ok (.putfield 50, 3) := by decide +kernel
theorem dX8_init_89 : decode cX8_init 89 = .ok (.aload_n 0, 1) := by decide +kernel
theorem dX8_init_90 : decode cX8_init 90 = .ok (.lconst 0, 1) := by decide +kernel
theorem dX8_init_91 : decode cX8_init 91 = .ok (.putfield 54, 3) := by decide +kernel
theorem dX8_init_94 : decode cX8_init 94 = .ok (.aload_n 0, 1) := by decide +kernel
theorem dX8_init_95 : decode cX8_init 95 = .ok (.lconst 1, 1) := by decide +kernel
theorem dX8_init_96 : decode cX8_init 96 = .ok (.putfield 58, 3) := by decide +kernel
theorem dX8_init_99 : decode cX8_init 99 = .ok (.aload_n 0, 1) := by decide +kernel
theorem dX8_init_100 : decode cX8_init 100 = .ok (.iconst 0, 1) := by decide +kernel
theorem dX8_init_101 : decode cX8_init 101 = .ok (.putfield 61, 3) := by decide +kernel
theorem dX8_init_104 : decode cX8_init 104 = .ok (.aload_n 0, 1) := by decide +kernel
theorem dX8_init_105 : decode cX8_init 105 = .ok (.iconst 0, 1) := by decide +kernel
theorem dX8_init_106 : decode cX8_init 106 = .ok (.putfield 65, 3) := by decide +kernel
theorem dX8_init_109 : decode cX8_init 109 = .ok (.aload_n 0, 1) := by decide +kernel
theorem dX8_init_110 : decode cX8_init 110 = .ok (.iconst 0, 1) := by decide +kernel
theorem dX8_init_111 : decode cX8_init 111 = .ok (.putfield 68, 3) := by decide +kernel
theorem dX8_init_114 : decode cX8_init 114 = .ok (.return_, 1) := by decide +kernel
theorem dX8_common_0 : decode cX8_common 0 = .ok (.aload_n 0, 1) := by decide +kernel
theorem dX8_common_1 : decode cX8_common 1 = .ok (.getfield 10, 3) := by decide +kernel
theorem dX8_common_4 : decode cX8_common 4 = .ok (.getfield 71, 3) := by decide +kernel
theorem dX8_common_7 : decode cX8_common 7 = .ok (.getfield 74, 3) := by decide +kernel
theorem dX8_common_10 : decode cX8_common 10 = .ok (.istore_n 1, 1) := by decide +kernel
theorem dX8_common_11 : decode cX8_common 11 = .ok (.aload_n 0, 1) := by decide +kernel
theorem dX8_common_12 : decode cX8_common 12 = .ok (.getfield 10, 3) := by decide +kernel
theorem dX8_common_15 : decode cX8_common 15 = .ok (.invokevirtual 77, 3) := by decide +kernel
theorem dX8_common_18 : decode cX8_common 18 = .ok (.iload_n 1, 1) := by decide +kernel
theorem dX8_common_19 : decode cX8_common 19 = .ok (.ireturn, 1) := by decide +kernel
theorem dX8_cosy_0 : decode cX8_cosy 0 = .ok (.iload_n 1, 1) := by decide +kernel
theorem dX8_cosy_1 : decode cX8_cosy 1 = .ok (.iconst 0, 1) := by decide +kernel
theorem dX8_cosy_2 : decode cX8_cosy 2 = .ok (.iconst 5, 1) := by decide +kernel
theorem dX8_cosy_3 : decode cX8_cosy 3 = .ok (.invokestatic 80, 3) := by decide +kernel
theorem dX8_cosy_6 : decode cX8_cosy 6 = .ok (.ifCond .eq 19, 3) := by decide +kernel
theorem dX8_cosy_9 : decode cX8_cosy 9 = .ok (.iload_n 2, 1) := by decide +kernel
theorem dX8_cosy_10 : decode cX8_cosy 10 = .ok (.invokestatic 84, 3) := by decide +kernel
theorem dX8_cosy_13 : decode cX8_cosy 13 = .ok (.ifCond .eq 12, 3) := by decide +kernel
theorem dX8_cosy_16 : decode cX8_cosy 16 = .ok (.iload_n 3, 1) := by decide +kernel
theorem dX8_cosy_17 : decode cX8_cosy 17 = .ok (.iconst 1, 1) := by decide +kernel
theorem dX8_cosy_18 : decode cX8_cosy 18 = .ok (.iconst 4, 1) := by decide +kernel
theorem dX8_cosy_19 : decode cX8_cosy 19 = .ok (.invokestatic 80, 3) := by decide +kernel
theorem dX8_cosy_22 : decode cX8_cosy 22 = .ok (.ifCond .ne 10, 3) := by decide +kernel
theorem dX8_cosy_25 : decode cX8_cosy 25 = .ok (.aload_n 0, 1) := by decide +kernel
theorem dX8_cosy_26 : decode cX8_cosy 26 = .ok (.bipush (-2), 2) := by decide +kernel
theorem dX8_cosy_28 : decode cX8_cosy 28 = .ok (.invokevirtual 88, 3) := by decide +kernel
theorem dX8_cosy_31 : decode cX8_cosy 31 = .ok (.ireturn, 1) := by decide +kernel
theorem dX8_cosy_32 : decode cX8_cosy 32 = .ok (.aload_n 0, 1) := by decide +kernel
theorem dX8_cosy_33 : decode cX8_cosy 33 = .ok (.getfield 10, 3) := by decide +kernel
theorem dX8_cosy_36 : decode cX8_cosy 36 = .ok (.getfield 71, 3) := by decide +kernel
theorem dX8_cosy_39 : decode cX8_cosy 39 = .ok (.getfield 74, 3) := by decide +kernel
theorem dX8_cosy_42 : decode cX8_cosy 42 = .ok (.iconst 5, 1) := by decide +kernel
theorem dX8_cosy_43 : decode cX8_cosy 43 = .ok (.if_icmp .lt 8, 3) := by decide +kernel
theorem dX8_cosy_46 : decode cX8_cosy 46 = .ok (.aload_n 0, 1) := by decide +kernel
theorem dX8_cosy_47 : decode cX8_cosy 47 = .ok (.invokevirtual 92, 3) := by decide +kernel
theorem dX8_cosy_50 : decode cX8_cosy 50 = .ok (.ireturn, 1) := by decide +kernel
theorem dX8_cosy_51 : decode cX8_cosy 51 = .ok (.aload_n 0, 1) := by decide +kernel
theorem dX8_cosy_52 : decode cX8_cosy 52 = .ok (.getfield 10, 3) := by decide +kernel
theorem dX8_cosy_55 : decode cX8_cosy 55 = .ok (.getfield 96, 3) := by decide +kernel
theorem dX8_cosy_58 : decode cX8_cosy 58 = .ok (.iconst 0, 1) := by decide +kernel
theorem dX8_cosy_59 : decode cX8_cosy 59 = .ok (.putfield 100, 3) := by decide +kernel
theorem dX8_cosy_62 : decode cX8_cosy 62 = .ok (.aload_n 0, 1) := by decide +kernel
theorem dX8_cosy_63 : decode cX8_cosy 63 = .ok (.getfield 10, 3) := by decide +kernel
theorem dX8_cosy_66 : decode cX8_cosy 66 = .ok (.getfield 71, 3) := by decide +kernel
theorem dX8_cosy_69 : decode cX8_cosy 69 = .ok (.iload_n 1, 1) := by decide +kernel
theorem dX8_cosy_70 : decode cX8_cosy 70 = .ok (.iload_n 2, 1) := by decide +kernel
theorem dX8_cosy_71 : decode cX8_cosy 71 = .ok (.iload_n 3, 1) := by decide +kernel
theorem dX8_cosy_72 : decode cX8_cosy 72 = .ok (.invokevirtual 105, 3) := by decide +kernel
theorem dX8_cosy_75 : decode cX8_cosy 75 = .ok (.ireturn, 1) := by decide +kernel
theorem dX8_hunted_0 : decode cX8_hunted 0 = .ok (.iload_n 1, 1) := by decide +kernel
theorem dX8_hunted_1 : decode cX8_hunted 1 = .ok (.invokestatic 84, 3) := by decide +kernel
theorem dX8_hunted_4 : decode cX8_hunted 4 = .ok (.ifCond .ne 10, 3) := by decide +kernel
theorem dX8_hunted_7 : decode cX8_hunted 7 = .ok (.aload_n 0, 1) := by decide +kernel
theorem dX8_hunted_8 : decode cX8_hunted 8 = .ok (.bipush (-2), 2) := by decide +kernel
theorem dX8_hunted_10 : decode cX8_hunted 10 = .ok (.invokevirtual 88, 3) := by decide +kernel
theorem dX8_hunted_13 : decode cX8_hunted 13 = .ok (.ireturn, 1) := by decide +kernel
theorem dX8_hunted_14 : decode cX8_hunted 14 = .ok (.aload_n 0, 1) := by decide +kernel
theorem dX8_hunted_15 : decode cX8_hunted 15 = .ok (.getfield 10, 3) := by decide +kernel
theorem dX8_hunted_18 : decode cX8_hunted 18 = .ok (.getfield 71, 3) := by decide +kernel
theorem dX8_hunted_21 : decode cX8_hunted 21 = .ok (.getfield 109, 3) := by decide +kernel
theorem dX8_hunted_24 : decode cX8_hunted 24 = .ok (.bipush 6, 2) := by decide +kernel
theorem dX8_hunted_26 : decode cX8_hunted 26 = .ok (.if_icmp .lt 8, 3) := by decide +kernel
theorem dX8_hunted_29 : decode cX8_hunted 29 = .ok (.aload_n 0, 1) := by decide +kernel
theorem dX8_hunted_30 : decode cX8_hunted 30 = .ok (.invokevirtual 92, 3) := by decide +kernel
theorem dX8_hunted_33 : decode cX8_hunted 33 = .ok (.ireturn, 1) := by decide +kernel
theorem dX8_hunted_34 : decode cX8_hunted 34 = .ok (.aload_n 0, 1) := by decide +kernel
theorem dX8_hunted_35 : decode cX8_hunted 35 = .ok (.getfield 10, 3) := by decide +kernel
theorem dX8_hunted_38 : decode cX8_hunted 38 = .ok (.getfield 96, 3) := by decide +kernel
theorem dX8_hunted_41 : decode cX8_hunted 41 = .ok (.iconst 0, 1) := by decide +kernel
theorem dX8_hunted_42 : decode cX8_hunted 42 = .ok (.putfield 100, 3) := by decide +kernel
theorem dX8_hunted_45 : decode cX8_hunted 45 = .ok (.aload_n 0, 1) := by decide +kernel
theorem dX8_hunted_46 : decode cX8_hunted 46 = .ok (.getfield 10, 3) := by decide +kernel
theorem dX8_hunted_49 : decode cX8_hunted 49 = .ok (.getfield 71, 3) := by decide +kernel
theorem dX8_hunted_52 : decode cX8_hunted 52 = .ok (.iload_n 1, 1) := by decide +kernel
theorem dX8_hunted_53 : decode cX8_hunted 53 = .ok (.invokevirtual 112, 3) := by decide +kernel
theorem dX8_hunted_56 : decode cX8_hunted 56 = .ok (.ireturn, 1) := by decide +kernel
theorem dX8_sheriff_0 : decode cX8_sheriff 0 = .ok (.iload_n 1, 1) := by decide +kernel
theorem dX8_sheriff_1 : decode cX8_sheriff 1 = .ok (.invokestatic 84, 3) := by decide +kernel
theorem dX8_sheriff_4 : decode cX8_sheriff 4 = .ok (.ifCond .ne 10, 3) := by decide +kernel
theorem dX8_sheriff_7 : decode cX8_sheriff 7 = .ok (.aload_n 0, 1) := by decide +kernel
theorem dX8_sheriff_8 : decode cX8_sheriff 8 = .ok (.bipush (-2), 2) := by decide +kernel
theorem dX8_sheriff_10 : decode cX8_sheriff 10 = .ok (.invokevirtual 88, 3) := by decide +kernel
theorem dX8_sheriff_13 : decode cX8_sheriff 13 = .ok (.ireturn, 1) := by decide +kernel
theorem dX8_sheriff_14 : decode cX8_sheriff 14 = .ok (.aload_n 0, 1) := by decide +kernel
theorem dX8_sheriff_15 : decode cX8_sheriff 15 = .ok (.getfield 10, 3) := by decide +kernel
theorem dX8_sheriff_18 : decode cX8_sheriff 18 = .ok (.getfield 71, 3) := by decide +kernel
theorem dX8_sheriff_21 : decode cX8_sheriff 21 = .ok (.getfield 115, 3) := by decide +kernel
theorem dX8_sheriff_24 : decode cX8_sheriff 24 = .ok (.iconst 3, 1) := by decide +kernel
theorem dX8_sheriff_25 : decode cX8_sheriff 25 = .ok (.if_icmp .lt 8, 3) := by decide +kernel
theorem dX8_sheriff_28 : decode cX8_sheriff 28 = .ok (.aload_n 0, 1) := by decide +kernel
theorem dX8_sheriff_29 : decode cX8_sheriff 29 = .ok (.invokevirtual 92, 3) := by decide +kernel
theorem dX8_sheriff_32 : decode cX8_sheriff 32 = .ok (.ireturn, 1) := by decide +kernel
theorem dX8_sheriff_33 : decode cX8_sheriff 33 = .ok (.aload_n 0, 1) := by decide +kernel
theorem dX8_sheriff_34 : decode cX8_sheriff 34 = .ok (.getfield 10, 3) := by decide +kernel
theorem dX8_sheriff_37 : decode cX8_sheriff 37 = .ok (.getfield 96, 3) := by decide +kernel
theorem dX8_sheriff_40 : decode cX8_sheriff 40 = .ok (.iconst 0, 1) := by decide +kernel
theorem dX8_sheriff_41 : decode cX8_sheriff 41 = .ok (.putfield 100, 3) := by decide +kernel
theorem dX8_sheriff_44 : decode cX8_sheriff 44 = .ok (.aload_n 0, 1) := by decide +kernel
theorem dX8_sheriff_45 : decode cX8_sheriff 45 = .ok (.getfield 10, 3) := by decide +kernel
theorem dX8_sheriff_48 : decode cX8_sheriff 48 = .ok (.getfield 71, 3) := by decide +kernel
theorem dX8_sheriff_51 : decode cX8_sheriff 51 = .ok (.iload_n 1, 1) := by decide +kernel
theorem dX8_sheriff_52 : decode cX8_sheriff 52 = .ok (.invokevirtual 118, 3) := by decide +kernel
theorem dX8_sheriff_55 : decode cX8_sheriff 55 = .ok (.ireturn, 1) := by decide +kernel
theorem dX8_type_0 : decode cX8_type 0 = .ok (.iload_n 1, 1) := by decide +kernel
theorem dX8_type_1 : decode cX8_type 1 = .ok (.iconst 0, 1) := by decide +kernel
theorem dX8_type_2 : decode cX8_type 2 = .ok (.bipush 127, 2) := by decide +kernel
theorem dX8_type_4 : decode cX8_type 4 = .ok (.invokestatic 80, 3) := by decide +kernel
theorem dX8_type_7 : decode cX8_type 7 = .ok (.ifCond .ne 10, 3) := by decide +kernel
theorem dX8_type_10 : decode cX8_type 10 = .ok (.aload_n 0, 1) := by decide +kernel
theorem dX8_type_11 : decode cX8_type 11 = .ok (.bipush (-2), 2) := by decide +kernel
theorem dX8_type_13 : decode cX8_type 13 = .ok (.invokevirtual 88, 3) := by decide +kernel
theorem dX8_type_16 : decode cX8_type 16 = .ok (.ireturn, 1) := by decide +kernel
theorem dX8_type_17 : decode cX8_type 17 = .ok (.aload_n 0, 1) := by decide +kernel
theorem dX8_type_18 : decode cX8_type 18 = .ok (.getfield 25, 3) := by decide +kernel
theorem dX8_type_21 : decode cX8_type 21 = .ok (.getfield 121, 3) := by decide +kernel
theorem dX8_type_24 : decode cX8_type 24 = .ok (.sipush 150, 3) := by decide +kernel
theorem dX8_type_27 : decode cX8_type 27 = .ok (.if_icmp .lt 8, 3) := by decide +kernel
theorem dX8_type_30 : decode cX8_type 30 = .ok (.aload_n 0, 1) := by decide +kernel
theorem dX8_type_31 : decode cX8_type 31 = .ok (.invokevirtual 92, 3) := by decide +kernel
theorem dX8_type_34 : decode cX8_type 34 = .ok (.ireturn, 1) := by decide +kernel
theorem dX8_type_35 : decode cX8_type 35 = .ok (.aload_n 0, 1) := by decide +kernel
theorem dX8_type_36 : decode cX8_type 36 = .ok (.getfield 25, 3) := by decide +kernel
theorem dX8_type_39 : decode cX8_type 39 = .ok (.iload_n 1, 1) := by decide +kernel
theorem dX8_type_40 : decode cX8_type 40 = .ok (.invokevirtual 124, 3) := by decide +kernel
theorem dX8_type_43 : decode cX8_type 43 = .ok (.aload_n 0, 1) := by decide +kernel
theorem dX8_type_44 : decode cX8_type 44 = .ok (.getfield 25, 3) := by decide +kernel
theorem dX8_type_47 : decode cX8_type 47 = .ok (.getfield 121, 3) := by decide +kernel
theorem dX8_type_50 : decode cX8_type 50 = .ok (.ireturn, 1) := by decide +kernel
theorem dX8_clear_0 : decode cX8_clear 0 = .ok (.aload_n 0, 1) := by decide +kernel
theorem dX8_clear_1 : decode cX8_clear 1 = .ok (.getfield 25, 3) := by decide +kernel
theorem dX8_clear_4 : decode cX8_clear 4 = .ok (.getfield 121, 3) := by decide +kernel
theorem dX8_clear_7 : decode cX8_clear 7 = .ok (.istore_n 1, 1) := by decide +kernel
theorem dX8_clear_8 : decode cX8_clear 8 = .ok (.aload_n 0, 1) := by decide +kernel
theorem dX8_clear_9 : decode cX8_clear 9 = .ok (.getfield 25, 3) := by decide +kernel
theorem dX8_clear_12 : decode cX8_clear 12 = .ok (.iconst 0, 1) := by decide +kernel
theorem dX8_clear_13 : decode cX8_clear 13 = .ok (.putfield 121, 3) := by decide +kernel
theorem dX8_clear_16 : decode cX8_clear 16 = .ok (.iload_n 1, 1) := by decide +kernel
theorem dX8_clear_17 : decode cX8_clear 17 = .ok (.ireturn, 1) := by decide +kernel
theorem dX8_read_0 : decode cX8_read 0 = .ok (.aload_n 0, 1) := by decide +kernel
theorem dX8_read_1 : decode cX8_read 1 = .ok (.getfield 39, 3) := by decide +kernel
theorem dX8_read_4 : decode cX8_read 4 = .ok (.aload_n 0, 1) := by decide +kernel
theorem dX8_read_5 : decode cX8_read 5 = .ok (.getfield 25, 3) := by decide +kernel
theorem dX8_read_8 : decode cX8_read 8 = .ok (.invokevirtual 128, 3) := by decide +kernel
theorem dX8_read_11 : decode cX8_read 11 = .ok (.istore_n 1, 1) := by decide +kernel
theorem dX8_read_12 : decode cX8_read 12 = .ok (.iload_n 1, 1) := by decide +kernel
theorem dX8_read_13 : decode cX8_read 13 = .ok (.iconst (-1), 1) := by decide +kernel
theorem dX8_read_14 : decode cX8_read 14 = .ok (.if_icmp .eq 8, 3) := by decide +kernel
theorem dX8_read_17 : decode cX8_read 17 = .ok (.bipush (-10), 2) := by decide +kernel
theorem dX8_read_19 : decode cX8_read 19 = .ok (.iload_n 1, 1) := by decide +kernel
theorem dX8_read_20 : decode cX8_read 20 = .ok (.isub, 1) := by decide +kernel
theorem dX8_read_21 : decode cX8_read 21 = .ok (.ireturn, 1) := by decide +kernel
theorem dX8_read_22 : decode cX8_read 22 = .ok (.aload_n 0, 1) := by decide +kernel
theorem dX8_read_23 : decode cX8_read 23 = .ok (.getfield 10, 3) := by decide +kernel
theorem dX8_read_26 : decode cX8_read 26 = .ok (.invokevirtual 77, 3) := by decide +kernel
theorem dX8_read_29 : decode cX8_read 29 = .ok (.aload_n 0, 1) := by decide +kernel
theorem dX8_read_30 : decode cX8_read 30 = .ok (.getfield 10, 3) := by decide +kernel
theorem dX8_read_33 : decode cX8_read 33 = .ok (.getfield 71, 3) := by decide +kernel
theorem dX8_read_36 : decode cX8_read 36 = .ok (.aload_n 0, 1) := by decide +kernel
theorem dX8_read_37 : decode cX8_read 37 = .ok (.getfield 39, 3) := by decide +kernel
theorem dX8_read_40 : decode cX8_read 40 = .ok (.getfield 132, 3) := by decide +kernel
theorem dX8_read_43 : decode cX8_read 43 = .ok (.invokevirtual 135, 3) := by decide +kernel
theorem dX8_read_46 : decode cX8_read 46 = .ok (.aload_n 0, 1) := by decide +kernel
theorem dX8_read_47 : decode cX8_read 47 = .ok (.getfield 39, 3) := by decide +kernel
theorem dX8_read_50 : decode cX8_read 50 = .ok (.getfield 139, 3) := by decide +kernel
theorem dX8_read_53 : decode cX8_read 53 = .ok (.ireturn, 1) := by decide +kernel
theorem dX8_hour_0 : decode cX8_hour 0 = .ok (.iload_n 1, 1) := by decide +kernel
theorem dX8_hour_1 : decode cX8_hour 1 = .ok (.iconst 1, 1) := by decide +kernel
theorem dX8_hour_2 : decode cX8_hour 2 = .ok (.bipush 30, 2) := by decide +kernel
theorem dX8_hour_4 : decode cX8_hour 4 = .ok (.invokestatic 80, 3) := by decide +kernel
theorem dX8_hour_7 : decode cX8_hour 7 = .ok (.ifCond .ne 10, 3) := by decide +kernel
theorem dX8_hour_10 : decode cX8_hour 10 = .ok (.aload_n 0, 1) := by decide +kernel
theorem dX8_hour_11 : decode cX8_hour 11 = .ok (.bipush (-2), 2) := by decide +kernel
theorem dX8_hour_13 : decode cX8_hour 13 = .ok (.invokevirtual 88, 3) := by decide +kernel
theorem dX8_hour_16 : decode cX8_hour 16 = .ok (.ireturn, 1) := by decide +kernel
theorem dX8_hour_17 : decode cX8_hour 17 = .ok (.aload_n 0, 1) := by decide +kernel
theorem dX8_hour_18 : decode cX8_hour 18 = .ok (.getfield 10, 3) := by decide +kernel
theorem dX8_hour_21 : decode cX8_hour 21 = .ok (.getfield 96, 3) := by decide +kernel
theorem dX8_hour_24 : decode cX8_hour 24 = .ok (.aload_n 0, 1) := by decide +kernel
theorem dX8_hour_25 : decode cX8_hour 25 = .ok (.getfield 10, 3) := by decide +kernel
theorem dX8_hour_28 : decode cX8_hour 28 = .ok (.getfield 71, 3) := by decide +kernel
theorem dX8_hour_31 : decode cX8_hour 31 = .ok (.invokevirtual 142, 3) := by decide +kernel
theorem dX8_hour_34 : decode cX8_hour 34 = .ok (.iconst 0, 1) := by decide +kernel
theorem dX8_hour_35 : decode cX8_hour 35 = .ok (.istore_n 2, 1) := by decide +kernel
theorem dX8_hour_36 : decode cX8_hour 36 = .ok (.iload_n 2, 1) := by decide +kernel
theorem dX8_hour_37 : decode cX8_hour 37 = .ok (.iload_n 1, 1) := by decide +kernel
theorem dX8_hour_38 : decode cX8_hour 38 = .ok (.if_icmp .ge 36, 3) := by decide +kernel
theorem dX8_hour_41 : decode cX8_hour 41 = .ok (.aload_n 0, 1) := by decide +kernel
theorem dX8_hour_42 : decode cX8_hour 42 = .ok (.getfield 10, 3) := by decide +kernel
theorem dX8_hour_45 : decode cX8_hour 45 = .ok (.getfield 71, 3) := by decide +kernel
theorem dX8_hour_48 : decode cX8_hour 48 = .ok (.getfield 145, 3) := by decide +kernel
theorem dX8_hour_51 : decode cX8_hour 51 = .ok (.sipush 999, 3) := by decide +kernel
theorem dX8_hour_54 : decode cX8_hour 54 = .ok (.if_icmp .ge 20, 3) := by decide +kernel
theorem dX8_hour_57 : decode cX8_hour 57 = .ok (.aload_n 0, 1) := by decide +kernel
theorem dX8_hour_58 : decode cX8_hour 58 = .ok (.getfield 10, 3) := by decide +kernel
theorem dX8_hour_61 : decode cX8_hour 61 = .ok (.getfield 71, 3) := by decide +kernel
theorem dX8_hour_64 : decode cX8_hour 64 = .ok (.iconst 1, 1) := by decide +kernel
theorem dX8_hour_65 : decode cX8_hour 65 = .ok (.invokevirtual 148, 3) := by decide +kernel
theorem dX8_hour_68 : decode cX8_hour 68 = .ok (.iinc 2 1, 3) := by decide +kernel
theorem dX8_hour_71 : decode cX8_hour 71 = .ok (.goto (-35), 3) := by decide +kernel
theorem dX8_hour_74 : decode cX8_hour 74 = .ok (.aload_n 0, 1) := by decide +kernel
theorem dX8_hour_75 : decode cX8_hour 75 = .ok (.getfield 10, 3) := by decide +kernel
theorem dX8_hour_78 : decode cX8_hour 78 = .ok (.getfield 71, 3) := by decide +kernel
theorem dX8_hour_81 : decode cX8_hour 81 = .ok (.invokevirtual 151, 3) := by decide +kernel
theorem dX8_hour_84 : decode cX8_hour 84 = .ok (.ireturn, 1) := by decide +kernel
theorem dX8_darn_0 : decode cX8_darn 0 = .ok (.aload_n 0, 1) := by decide +kernel
theorem dX8_darn_1 : decode cX8_darn 1 = .ok (.iload_n 1, 1) := by decide +kernel
theorem dX8_darn_2 : decode cX8_darn 2 = .ok (.invokevirtual 154, 3) := by decide +kernel
theorem dX8_darn_5 : decode cX8_darn 5 = .ok (.ifCond .eq 13, 3) := by decide +kernel
theorem dX8_darn_8 : decode cX8_darn 8 = .ok (.iload_n 2, 1) := by decide +kernel
theorem dX8_darn_9 : decode cX8_darn 9 = .ok (.iconst 1, 1) := by decide +kernel
theorem dX8_darn_10 : decode cX8_darn 10 = .ok (.bipush 40, 2) := by decide +kernel
theorem dX8_darn_12 : decode cX8_darn 12 = .ok (.invokestatic 80, 3) := by decide +kernel
theorem dX8_darn_15 : decode cX8_darn 15 = .ok (.ifCond .ne 10, 3) := by decide +kernel
theorem dX8_darn_18 : decode cX8_darn 18 = .ok (.aload_n 0, 1) := by decide +kernel
theorem dX8_darn_19 : decode cX8_darn 19 = .ok (.bipush (-2), 2) := by decide +kernel
theorem dX8_darn_21 : decode cX8_darn 21 = .ok (.invokevirtual 88, 3) := by decide +kernel
theorem dX8_darn_24 : decode cX8_darn 24 = .ok (.ireturn, 1) := by decide +kernel
theorem dX8_darn_25 : decode cX8_darn 25 = .ok (.aload_n 0, 1) := by decide +kernel
theorem dX8_darn_26 : decode cX8_darn 26 = .ok (.getfield 10, 3) := by decide +kernel
theorem dX8_darn_29 : decode cX8_darn 29 = .ok (.getfield 96, 3) := by decide +kernel
theorem dX8_darn_32 : decode cX8_darn 32 = .ok (.aload_n 0, 1) := by decide +kernel
theorem dX8_darn_33 : decode cX8_darn 33 = .ok (.getfield 10, 3) := by decide +kernel
theorem dX8_darn_36 : decode cX8_darn 36 = .ok (.getfield 71, 3) := by decide +kernel
theorem dX8_darn_39 : decode cX8_darn 39 = .ok (.invokevirtual 142, 3) := by decide +kernel
theorem dX8_darn_42 : decode cX8_darn 42 = .ok (.iconst 0, 1) := by decide +kernel
theorem dX8_darn_43 : decode cX8_darn 43 = .ok (.aload_n 0, 1) := by decide +kernel
theorem dX8_darn_44 : decode cX8_darn 44 = .ok (.getfield 10, 3) := by decide +kernel
theorem dX8_darn_47 : decode cX8_darn 47 = .ok (.getfield 71, 3) := by decide +kernel
theorem dX8_darn_50 : decode cX8_darn 50 = .ok (.getfield 157, 3) := by decide +kernel
theorem dX8_darn_53 : decode cX8_darn 53 = .ok (.iload_n 1, 1) := by decide +kernel
theorem dX8_darn_54 : decode cX8_darn 54 = .ok (.iaload, 1) := by decide +kernel
theorem dX8_darn_55 : decode cX8_darn 55 = .ok (.iload_n 2, 1) := by decide +kernel
theorem dX8_darn_56 : decode cX8_darn 56 = .ok (.isub, 1) := by decide +kernel
theorem dX8_darn_57 : decode cX8_darn 57 = .ok (.invokestatic 160, 3) := by decide +kernel
theorem dX8_darn_60 : decode cX8_darn 60 = .ok (.istore_n 3, 1) := by decide +kernel
theorem dX8_darn_61 : decode cX8_darn 61 = .ok (.aload_n 0, 1) := by decide +kernel
theorem dX8_darn_62 : decode cX8_darn 62 = .ok (.getfield 10, 3) := by decide +kernel
theorem dX8_darn_65 : decode cX8_darn 65 = .ok (.getfield 71, 3) := by decide +kernel
theorem dX8_darn_68 : decode cX8_darn 68 = .ok (.iload_n 1, 1) := by decide +kernel
theorem dX8_darn_69 : decode cX8_darn 69 = .ok (.iload_n 3, 1) := by decide +kernel
theorem dX8_darn_70 : decode cX8_darn 70 = .ok (.invokevirtual 166, 3) := by decide +kernel
theorem dX8_darn_73 : decode cX8_darn 73 = .ok (.iload_n 3, 1) := by decide +kernel
theorem dX8_darn_74 : decode cX8_darn 74 = .ok (.ireturn, 1) := by decide +kernel
theorem dX8_carry_0 : decode cX8_carry 0 = .ok (.aload_n 0, 1) := by decide +kernel
theorem dX8_carry_1 : decode cX8_carry 1 = .ok (.iload_n 1, 1) := by decide +kernel
theorem dX8_carry_2 : decode cX8_carry 2 = .ok (.invokevirtual 154, 3) := by decide +kernel
theorem dX8_carry_5 : decode cX8_carry 5 = .ok (.ifCond .eq 10, 3) := by decide +kernel
theorem dX8_carry_8 : decode cX8_carry 8 = .ok (.iload_n 2, 1) := by decide +kernel
theorem dX8_carry_9 : decode cX8_carry 9 = .ok (.invokestatic 84, 3) := by decide +kernel
theorem dX8_carry_12 : decode cX8_carry 12 = .ok (.ifCond .ne 10, 3) := by decide +kernel
theorem dX8_carry_15 : decode cX8_carry 15 = .ok (.aload_n 0, 1) := by decide +kernel
theorem dX8_carry_16 : decode cX8_carry 16 = .ok (.bipush (-2), 2) := by decide +kernel
theorem dX8_carry_18 : decode cX8_carry 18 = .ok (.invokevirtual 88, 3) := by decide +kernel
theorem dX8_carry_21 : decode cX8_carry 21 = .ok (.ireturn, 1) := by decide +kernel
theorem dX8_carry_22 : decode cX8_carry 22 = .ok (.aload_n 0, 1) := by decide +kernel
theorem dX8_carry_23 : decode cX8_carry 23 = .ok (.getfield 10, 3) := by decide +kernel
theorem dX8_carry_26 : decode cX8_carry 26 = .ok (.getfield 96, 3) := by decide +kernel
theorem dX8_carry_29 : decode cX8_carry 29 = .ok (.aload_n 0, 1) := by decide +kernel
theorem dX8_carry_30 : decode cX8_carry 30 = .ok (.getfield 10, 3) := by decide +kernel
theorem dX8_carry_33 : decode cX8_carry 33 = .ok (.getfield 71, 3) := by decide +kernel
theorem dX8_carry_36 : decode cX8_carry 36 = .ok (.invokevirtual 142, 3) := by decide +kernel
theorem dX8_carry_39 : decode cX8_carry 39 = .ok (.aload_n 0, 1) := by decide +kernel
theorem dX8_carry_40 : decode cX8_carry 40 = .ok (.getfield 10, 3) := by decide +kernel
theorem dX8_carry_43 : decode cX8_carry 43 = .ok (.getfield 71, 3) := by decide +kernel
theorem dX8_carry_46 : decode cX8_carry 46 = .ok (.getfield 170, 3) := by decide +kernel
theorem dX8_carry_49 : decode cX8_carry 49 = .ok (.iload_n 1, 1) := by decide +kernel
theorem dX8_carry_50 : decode cX8_carry 50 = .ok (.iaload, 1) := by decide +kernel
theorem dX8_carry_51 : decode cX8_carry 51 = .ok (.istore_n 3, 1) := by decide +kernel
theorem dX8_carry_52 : decode cX8_carry 52 = .ok (.aload_n 0, 1) := by decide +kernel
theorem dX8_carry_53 : decode cX8_carry 53 = .ok (.getfield 10, 3) := by decide +kernel
theorem dX8_carry_56 : decode cX8_carry 56 = .ok (.getfield 71, 3) := by decide +kernel
theorem dX8_carry_59 : decode cX8_carry 59 = .ok (.iload_n 1, 1) := by decide +kernel
theorem dX8_carry_60 : decode cX8_carry 60 = .ok (.iload_n 2, 1) := by decide +kernel
theorem dX8_carry_61 : decode cX8_carry 61 = .ok (.invokevirtual 173, 3) := by decide +kernel
theorem dX8_carry_64 : decode cX8_carry 64 = .ok (.iload_n 3, 1) := by decide +kernel
theorem dX8_carry_65 : decode cX8_carry 65 = .ok (.ireturn, 1) := by decide +kernel
theorem dX8_undo_0 : decode cX8_undo 0 = .ok (.aload_n 0, 1) := by decide +kernel
theorem dX8_undo_1 : decode cX8_undo 1 = .ok (.getfield 10, 3) := by decide +kernel
theorem dX8_undo_4 : decode cX8_undo 4 = .ok (.getfield 96, 3) := by decide +kernel
theorem dX8_undo_7 : decode cX8_undo 7 = .ok (.getfield 100, 3) := by decide +kernel
theorem dX8_undo_10 : decode cX8_undo 10 = .ok (.ifCond .gt 8, 3) := by decide +kernel
theorem dX8_undo_13 : decode cX8_undo 13 = .ok (.aload_n 0, 1) := by decide +kernel
theorem dX8_undo_14 : decode cX8_undo 14 = .ok (.invokevirtual 176, 3) := by decide +kernel
theorem dX8_undo_17 : decode cX8_undo 17 = .ok (.ireturn, 1) := by decide +kernel
theorem dX8_undo_18 : decode cX8_undo 18 = .ok (.aload_n 0, 1) := by decide +kernel
theorem dX8_undo_19 : decode cX8_undo 19 = .ok (.getfield 10, 3) := by decide +kernel
theorem dX8_undo_22 : decode cX8_undo 22 = .ok (.getfield 96, 3) := by decide +kernel
theorem dX8_undo_25 : decode cX8_undo 25 = .ok (.aload_n 0, 1) := by decide +kernel
theorem dX8_undo_26 : decode cX8_undo 26 = .ok (.getfield 10, 3) := by decide +kernel
theorem dX8_undo_29 : decode cX8_undo 29 = .ok (.getfield 71, 3) := by decide +kernel
theorem dX8_undo_32 : decode cX8_undo 32 = .ok (.invokevirtual 179, 3) := by decide +kernel
theorem dX8_undo_35 : decode cX8_undo 35 = .ok (.aload_n 0, 1) := by decide +kernel
theorem dX8_undo_36 : decode cX8_undo 36 = .ok (.getfield 10, 3) := by decide +kernel
theorem dX8_undo_39 : decode cX8_undo 39 = .ok (.getfield 71, 3) := by decide +kernel
theorem dX8_undo_42 : decode cX8_undo 42 = .ok (.getfield 145, 3) := by decide +kernel
theorem dX8_undo_45 : decode cX8_undo 45 = .ok (.ireturn, 1) := by decide +kernel
theorem dX8_of_0 : decode cX8_of 0 = .ok (.aload_n 0, 1) := by decide +kernel
theorem dX8_of_1 : decode cX8_of 1 = .ok (.iload_n 1, 1) := by decide +kernel
theorem dX8_of_2 : decode cX8_of 2 = .ok (.invokevirtual 154, 3) := by decide +kernel
theorem dX8_of_5 : decode cX8_of 5 = .ok (.ifCond .ne 10, 3) := by decide +kernel
theorem dX8_of_8 : decode cX8_of 8 = .ok (.aload_n 0, 1) := by decide +kernel
theorem dX8_of_9 : decode cX8_of 9 = .ok (.bipush (-2), 2) := by decide +kernel
theorem dX8_of_11 : decode cX8_of 11 = .ok (.invokevirtual 88, 3) := by decide +kernel
theorem dX8_of_14 : decode cX8_of 14 = .ok (.ireturn, 1) := by decide +kernel
theorem dX8_of_15 : decode cX8_of 15 = .ok (.iload_n 2, 1) := by decide +kernel
theorem dX8_of_16 : decode cX8_of 16 = .ok (.tableswitch 116 0 5 #[40, 53, 66, 79, 92, 104], 40) := by decide +kernel
theorem dX8_of_56 : decode cX8_of 56 = .ok (.aload_n 0, 1) := by decide +kernel
theorem dX8_of_57 : decode cX8_of 57 = .ok (.getfield 10, 3) := by decide +kernel
theorem dX8_of_60 : decode cX8_of 60 = .ok (.getfield 71, 3) := by decide +kernel
theorem dX8_of_63 : decode cX8_of 63 = .ok (.getfield 182, 3) := by decide +kernel
theorem dX8_of_66 : decode cX8_of 66 = .ok (.iload_n 1, 1) := by decide +kernel
theorem dX8_of_67 : decode cX8_of 67 = .ok (.iaload, 1) := by decide +kernel
theorem dX8_of_68 : decode cX8_of 68 = .ok (.ireturn, 1) := by decide +kernel
theorem dX8_of_69 : decode cX8_of 69 = .ok (.aload_n 0, 1) := by decide +kernel
theorem dX8_of_70 : decode cX8_of 70 = .ok (.getfield 10, 3) := by decide +kernel
theorem dX8_of_73 : decode cX8_of 73 = .ok (.getfield 71, 3) := by decide +kernel
theorem dX8_of_76 : decode cX8_of 76 = .ok (.getfield 170, 3) := by decide +kernel
theorem dX8_of_79 : decode cX8_of 79 = .ok (.iload_n 1, 1) := by decide +kernel
theorem dX8_of_80 : decode cX8_of 80 = .ok (.iaload, 1) := by decide +kernel
theorem dX8_of_81 : decode cX8_of 81 = .ok (.ireturn, 1) := by decide +kernel
theorem dX8_of_82 : decode cX8_of 82 = .ok (.aload_n 0, 1) := by decide +kernel
theorem dX8_of_83 : decode cX8_of 83 = .ok (.getfield 10, 3) := by decide +kernel
theorem dX8_of_86 : decode cX8_of 86 = .ok (.getfield 71, 3) := by decide +kernel
theorem dX8_of_89 : decode cX8_of 89 = .ok (.getfield 185, 3) := by decide +kernel
theorem dX8_of_92 : decode cX8_of 92 = .ok (.iload_n 1, 1) := by decide +kernel
theorem dX8_of_93 : decode cX8_of 93 = .ok (.iaload, 1) := by decide +kernel
theorem dX8_of_94 : decode cX8_of 94 = .ok (.ireturn, 1) := by decide +kernel
theorem dX8_of_95 : decode cX8_of 95 = .ok (.aload_n 0, 1) := by decide +kernel
theorem dX8_of_96 : decode cX8_of 96 = .ok (.getfield 10, 3) := by decide +kernel
theorem dX8_of_99 : decode cX8_of 99 = .ok (.getfield 71, 3) := by decide +kernel
theorem dX8_of_102 : decode cX8_of 102 = .ok (.getfield 157, 3) := by decide +kernel
theorem dX8_of_105 : decode cX8_of 105 = .ok (.iload_n 1, 1) := by decide +kernel
theorem dX8_of_106 : decode cX8_of 106 = .ok (.iaload, 1) := by decide +kernel
theorem dX8_of_107 : decode cX8_of 107 = .ok (.ireturn, 1) := by decide +kernel
theorem dX8_of_108 : decode cX8_of 108 = .ok (.aload_n 0, 1) := by decide +kernel
theorem dX8_of_109 : decode cX8_of 109 = .ok (.getfield 10, 3) := by decide +kernel
theorem dX8_of_112 : decode cX8_of 112 = .ok (.getfield 71, 3) := by decide +kernel
theorem dX8_of_115 : decode cX8_of 115 = .ok (.iload_n 1, 1) := by decide +kernel
theorem dX8_of_116 : decode cX8_of 116 = .ok (.invokevirtual 188, 3) := by decide +kernel
theorem dX8_of_119 : decode cX8_of 119 = .ok (.ireturn, 1) := by decide +kernel
theorem dX8_of_120 : decode cX8_of 120 = .ok (.aload_n 0, 1) := by decide +kernel
theorem dX8_of_121 : decode cX8_of 121 = .ok (.getfield 10, 3) := by decide +kernel
theorem dX8_of_124 : decode cX8_of 124 = .ok (.getfield 71, 3) := by decide +kernel
theorem dX8_of_127 : decode cX8_of 127 = .ok (.iload_n 1, 1) := by decide +kernel
theorem dX8_of_128 : decode cX8_of 128 = .ok (.invokevirtual 191, 3) := by decide +kernel
theorem dX8_of_131 : decode cX8_of 131 = .ok (.ireturn, 1) := by decide +kernel
theorem dX8_of_132 : decode cX8_of 132 = .ok (.aload_n 0, 1) := by decide +kernel
theorem dX8_of_133 : decode cX8_of 133 = .ok (.bipush (-2), 2) := by decide +kernel
theorem dX8_of_135 : decode cX8_of 135 = .ok (.invokevirtual 88, 3) := by decide +kernel
theorem dX8_of_138 : decode cX8_of 138 = .ok (.ireturn, 1) := by decide +kernel
theorem dX8_about_0 : decode cX8_about 0 = .ok (.aload_n 0, 1) := by decide +kernel
theorem dX8_about_1 : decode cX8_about 1 = .ok (.iload_n 1, 1) := by decide +kernel
theorem dX8_about_2 : decode cX8_about 2 = .ok (.invokevirtual 194, 3) := by decide +kernel
theorem dX8_about_5 : decode cX8_about 5 = .ok (.ifCond .eq 12, 3) := by decide +kernel
theorem dX8_about_8 : decode cX8_about 8 = .ok (.iload_n 2, 1) := by decide +kernel
theorem dX8_about_9 : decode cX8_about 9 = .ok (.iconst 0, 1) := by decide +kernel
theorem dX8_about_10 : decode cX8_about 10 = .ok (.iconst 2, 1) := by decide +kernel
theorem dX8_about_11 : decode cX8_about 11 = .ok (.invokestatic 80, 3) := by decide +kernel
theorem dX8_about_14 : decode cX8_about 14 = .ok (.ifCond .ne 10, 3) := by decide +kernel
theorem dX8_about_17 : decode cX8_about 17 = .ok (.aload_n 0, 1) := by decide +kernel
theorem dX8_about_18 : decode cX8_about 18 = .ok (.bipush (-10), 2) := by decide +kernel
theorem dX8_about_20 : decode cX8_about 20 = .ok (.invokevirtual 88, 3) := by decide +kernel
theorem dX8_about_23 : decode cX8_about 23 = .ok (.ireturn, 1) := by decide +kernel
theorem dX8_about_24 : decode cX8_about 24 = .ok (.aload_n 0, 1) := by decide +kernel
theorem dX8_about_25 : decode cX8_about 25 = .ok (.getfield 10, 3) := by decide +kernel
theorem dX8_about_28 : decode cX8_about 28 = .ok (.getfield 71, 3) := by decide +kernel
theorem dX8_about_31 : decode cX8_about 31 = .ok (.iload_n 1, 1) := by decide +kernel
theorem dX8_about_32 : decode cX8_about 32 = .ok (.iload_n 2, 1) := by decide +kernel
theorem dX8_about_33 : decode cX8_about 33 = .ok (.invokevirtual 197, 3) := by decide +kernel
theorem dX8_about_36 : decode cX8_about 36 = .ok (.ireturn, 1) := by decide +kernel
theorem dX8_where_0 : decode cX8_where 0 = .ok (.iload_n 1, 1) := by decide +kernel
theorem dX8_where_1 : decode cX8_where 1 = .ok (.iconst 0, 1) := by decide +kernel
theorem dX8_where_2 : decode cX8_where 2 = .ok (.aload_n 0, 1) := by decide +kernel
theorem dX8_where_3 : decode cX8_where 3 = .ok (.getfield 10, 3) := by decide +kernel
theorem dX8_where_6 : decode cX8_where 6 = .ok (.getfield 71, 3) := by decide +kernel
theorem dX8_where_9 : decode cX8_where 9 = .ok (.getfield 115, 3) := by decide +kernel
theorem dX8_where_12 : decode cX8_where 12 = .ok (.iconst 1, 1) := by decide +kernel
theorem dX8_where_13 : decode cX8_where 13 = .ok (.isub, 1) := by decide +kernel
theorem dX8_where_14 : decode cX8_where 14 = .ok (.invokestatic 80, 3) := by decide +kernel
theorem dX8_where_17 : decode cX8_where 17 = .ok (.ifCond .ne 10, 3) := by decide +kernel
theorem dX8_where_20 : decode cX8_where 20 = .ok (.aload_n 0, 1) := by decide +kernel
theorem dX8_where_21 : decode cX8_where 21 = .ok (.bipush (-2), 2) := by decide +kernel
theorem dX8_where_23 : decode cX8_where 23 = .ok (.invokevirtual 88, 3) := by decide +kernel
theorem dX8_where_26 : decode cX8_where 26 = .ok (.ireturn, 1) := by decide +kernel
theorem dX8_where_27 : decode cX8_where 27 = .ok (.aload_n 0, 1) := by decide +kernel
theorem dX8_where_28 : decode cX8_where 28 = .ok (.getfield 10, 3) := by decide +kernel
theorem dX8_where_31 : decode cX8_where 31 = .ok (.getfield 71, 3) := by decide +kernel
theorem dX8_where_34 : decode cX8_where 34 = .ok (.getfield 200, 3) := by decide +kernel
theorem dX8_where_37 : decode cX8_where 37 = .ok (.iload_n 1, 1) := by decide +kernel
theorem dX8_where_38 : decode cX8_where 38 = .ok (.iaload, 1) := by decide +kernel
theorem dX8_where_39 : decode cX8_where 39 = .ok (.ireturn, 1) := by decide +kernel
theorem dX8_then_0 : decode cX8_then 0 = .ok (.aload_n 0, 1) := by decide +kernel
theorem dX8_then_1 : decode cX8_then 1 = .ok (.iload_n 1, 1) := by decide +kernel
theorem dX8_then_2 : decode cX8_then 2 = .ok (.invokevirtual 194, 3) := by decide +kernel
theorem dX8_then_5 : decode cX8_then 5 = .ok (.ifCond .eq 22, 3) := by decide +kernel
theorem dX8_then_8 : decode cX8_then 8 = .ok (.iload_n 2, 1) := by decide +kernel
theorem dX8_then_9 : decode cX8_then 9 = .ok (.iconst 0, 1) := by decide +kernel
theorem dX8_then_10 : decode cX8_then 10 = .ok (.bipush 40, 2) := by decide +kernel
theorem dX8_then_12 : decode cX8_then 12 = .ok (.invokestatic 80, 3) := by decide +kernel
theorem dX8_then_15 : decode cX8_then 15 = .ok (.ifCond .eq 12, 3) := by decide +kernel
theorem dX8_then_18 : decode cX8_then 18 = .ok (.iload_n 3, 1) := by decide +kernel
theorem dX8_then_19 : decode cX8_then 19 = .ok (.iconst 0, 1) := by decide +kernel
theorem dX8_then_20 : decode cX8_then 20 = .ok (.iconst 2, 1) := by decide +kernel
theorem dX8_then_21 : decode cX8_then 21 = .ok (.invokestatic 80, 3) := by decide +kernel
theorem dX8_then_24 : decode cX8_then 24 = .ok (.ifCond .ne 10, 3) := by decide +kernel
theorem dX8_then_27 : decode cX8_then 27 = .ok (.aload_n 0, 1) := by decide +kernel
theorem dX8_then_28 : decode cX8_then 28 = .ok (.bipush (-10), 2) := by decide +kernel
theorem dX8_then_30 : decode cX8_then 30 = .ok (.invokevirtual 88, 3) := by decide +kernel
theorem dX8_then_33 : decode cX8_then 33 = .ok (.ireturn, 1) := by decide +kernel
theorem dX8_then_34 : decode cX8_then 34 = .ok (.aload_n 0, 1) := by decide +kernel
theorem dX8_then_35 : decode cX8_then 35 = .ok (.iload_n 2, 1) := by decide +kernel
theorem dX8_then_36 : decode cX8_then 36 = .ok (.invokevirtual 203, 3) := by decide +kernel
theorem dX8_then_39 : decode cX8_then 39 = .ok (.aload_n 0, 1) := by decide +kernel
theorem dX8_then_40 : decode cX8_then 40 = .ok (.getfield 32, 3) := by decide +kernel
theorem dX8_then_43 : decode cX8_then 43 = .ok (.iload_n 1, 1) := by decide +kernel
theorem dX8_then_44 : decode cX8_then 44 = .ok (.iload_n 3, 1) := by decide +kernel
theorem dX8_then_45 : decode cX8_then 45 = .ok (.invokevirtual 197, 3) := by decide +kernel
theorem dX8_then_48 : decode cX8_then 48 = .ok (.ireturn, 1) := by decide +kernel
theorem dX8_fate_0 : decode cX8_fate 0 = .ok (.iload_n 1, 1) := by decide +kernel
theorem dX8_fate_1 : decode cX8_fate 1 = .ok (.iconst 0, 1) := by decide +kernel
theorem dX8_fate_2 : decode cX8_fate 2 = .ok (.bipush 40, 2) := by decide +kernel
theorem dX8_fate_4 : decode cX8_fate 4 = .ok (.invokestatic 80, 3) := by decide +kernel
theorem dX8_fate_7 : decode cX8_fate 7 = .ok (.ifCond .eq 12, 3) := by decide +kernel
theorem dX8_fate_10 : decode cX8_fate 10 = .ok (.iload_n 2, 1) := by decide +kernel
theorem dX8_fate_11 : decode cX8_fate 11 = .ok (.iconst 0, 1) := by decide +kernel
theorem dX8_fate_12 : decode cX8_fate 12 = .ok (.iconst 2, 1) := by decide +kernel
theorem dX8_fate_13 : decode cX8_fate 13 = .ok (.invokestatic 80, 3) := by decide +kernel
theorem dX8_fate_16 : decode cX8_fate 16 = .ok (.ifCond .ne 10, 3) := by decide +kernel
theorem dX8_fate_19 : decode cX8_fate 19 = .ok (.aload_n 0, 1) := by decide +kernel
theorem dX8_fate_20 : decode cX8_fate 20 = .ok (.bipush (-2), 2) := by decide +kernel
theorem dX8_fate_22 : decode cX8_fate 22 = .ok (.invokevirtual 88, 3) := by decide +kernel
theorem dX8_fate_25 : decode cX8_fate 25 = .ok (.ireturn, 1) := by decide +kernel
theorem dX8_fate_26 : decode cX8_fate 26 = .ok (.aload_n 0, 1) := by decide +kernel
theorem dX8_fate_27 : decode cX8_fate 27 = .ok (.iload_n 1, 1) := by decide +kernel
theorem dX8_fate_28 : decode cX8_fate 28 = .ok (.invokevirtual 203, 3) := by decide +kernel
theorem dX8_fate_31 : decode cX8_fate 31 = .ok (.iload_n 2, 1) := by decide +kernel
theorem dX8_fate_32 : decode cX8_fate 32 = .ok (.lookupswitch 46 #[(0, 28), (1, 36)], 28) := by decide +kernel
theorem dX8_fate_60 : decode cX8_fate 60 = .ok (.aload_n 0, 1) := by decide +kernel
theorem dX8_fate_61 : decode cX8_fate 61 = .ok (.getfield 32, 3) := by decide +kernel
theorem dX8_fate_64 : decode cX8_fate 64 = .ok (.invokevirtual 151, 3) := by decide +kernel
theorem dX8_fate_67 : decode cX8_fate 67 = .ok (.ireturn, 1) := by decide +kernel
theorem dX8_fate_68 : decode cX8_fate 68 = .ok (.aload_n 0, 1) := by decide +kernel
theorem dX8_fate_69 : decode cX8_fate 69 = .ok (.getfield 32, 3) := by decide +kernel
theorem dX8_fate_72 : decode cX8_fate 72 = .ok (.bipush (-2), 2) := by decide +kernel
theorem dX8_fate_74 : decode cX8_fate 74 = .ok (.invokevirtual 191, 3) := by decide +kernel
theorem dX8_fate_77 : decode cX8_fate 77 = .ok (.ireturn, 1) := by decide +kernel
theorem dX8_fate_78 : decode cX8_fate 78 = .ok (.aload_n 0, 1) := by decide +kernel
theorem dX8_fate_79 : decode cX8_fate 79 = .ok (.getfield 32, 3) := by decide +kernel
theorem dX8_fate_82 : decode cX8_fate 82 = .ok (.invokevirtual 206, 3) := by decide +kernel
theorem dX8_fate_85 : decode cX8_fate 85 = .ok (.ireturn, 1) := by decide +kernel
theorem dX8_when_0 : decode cX8_when 0 = .ok (.aload_n 0, 1) := by decide +kernel
theorem dX8_when_1 : decode cX8_when 1 = .ok (.iload_n 1, 1) := by decide +kernel
theorem dX8_when_2 : decode cX8_when 2 = .ok (.invokevirtual 194, 3) := by decide +kernel
theorem dX8_when_5 : decode cX8_when 5 = .ok (.ifCond .ne 10, 3) := by decide +kernel
theorem dX8_when_8 : decode cX8_when 8 = .ok (.aload_n 0, 1) := by decide +kernel
theorem dX8_when_9 : decode cX8_when 9 = .ok (.bipush (-2), 2) := by decide +kernel
theorem dX8_when_11 : decode cX8_when 11 = .ok (.invokevirtual 88, 3) := by decide +kernel
theorem dX8_when_14 : decode cX8_when 14 = .ok (.ireturn, 1) := by decide +kernel
theorem dX8_when_15 : decode cX8_when 15 = .ok (.aload_n 0, 1) := by decide +kernel
theorem dX8_when_16 : decode cX8_when 16 = .ok (.getfield 10, 3) := by decide +kernel
theorem dX8_when_19 : decode cX8_when 19 = .ok (.getfield 71, 3) := by decide +kernel
theorem dX8_when_22 : decode cX8_when 22 = .ok (.getfield 209, 3) := by decide +kernel
theorem dX8_when_25 : decode cX8_when 25 = .ok (.iload_n 1, 1) := by decide +kernel
theorem dX8_when_26 : decode cX8_when 26 = .ok (.iaload, 1) := by decide +kernel
theorem dX8_when_27 : decode cX8_when 27 = .ok (.bipush (-2), 2) := by decide +kernel
theorem dX8_when_29 : decode cX8_when 29 = .ok (.if_icmp .ne 5, 3) := by decide +kernel
theorem dX8_when_32 : decode cX8_when 32 = .ok (.iconst (-1), 1) := by decide +kernel
theorem dX8_when_33 : decode cX8_when 33 = .ok (.ireturn, 1) := by decide +kernel
theorem dX8_when_34 : decode cX8_when 34 = .ok (.aload_n 0, 1) := by decide +kernel
theorem dX8_when_35 : decode cX8_when 35 = .ok (.getfield 32, 3) := by decide +kernel
theorem dX8_when_38 : decode cX8_when 38 = .ok (.aload_n 0, 1) := by decide +kernel
theorem dX8_when_39 : decode cX8_when 39 = .ok (.getfield 10, 3) := by decide +kernel
theorem dX8_when_42 : decode cX8_when 42 = .ok (.getfield 71, 3) := by decide +kernel
theorem dX8_when_45 : decode cX8_when 45 = .ok (.invokevirtual 135, 3) := by decide +kernel
theorem dX8_when_48 : decode cX8_when 48 = .ok (.iconst 1, 1) := by decide +kernel
theorem dX8_when_49 : decode cX8_when 49 = .ok (.istore_n 2, 1) := by decide +kernel
theorem dX8_when_50 : decode cX8_when 50 = .ok (.iload_n 2, 1) := by decide +kernel
theorem dX8_when_51 : decode cX8_when 51 = .ok (.bipush 40, 2) := by decide +kernel
theorem dX8_when_53 : decode cX8_when 53 = .ok (.if_icmp .gt 33, 3) := by decide +kernel
theorem dX8_when_56 : decode cX8_when 56 = .ok (.aload_n 0, 1) := by decide +kernel
theorem dX8_when_57 : decode cX8_when 57 = .ok (.getfield 32, 3) := by decide +kernel
theorem dX8_when_60 : decode cX8_when 60 = .ok (.iconst 1, 1) := by decide +kernel
theorem dX8_when_61 : decode cX8_when 61 = .ok (.invokevirtual 148, 3) := by decide +kernel
theorem dX8_when_64 : decode cX8_when 64 = .ok (.aload_n 0, 1) := by decide +kernel
theorem dX8_when_65 : decode cX8_when 65 = .ok (.getfield 32, 3) := by decide +kernel
theorem dX8_when_68 : decode cX8_when 68 = .ok (.getfield 209, 3) := by decide +kernel
theorem dX8_when_71 : decode cX8_when 71 = .ok (.iload_n 1, 1) := by decide +kernel
theorem dX8_when_72 : decode cX8_when 72 = .ok (.iaload, 1) := by decide +kernel
theorem dX8_when_73 : decode cX8_when 73 = .ok (.bipush (-2), 2) := by decide +kernel
theorem dX8_when_75 : decode cX8_when 75 = .ok (.if_icmp .ne 5, 3) := by decide +kernel
theorem dX8_when_78 : decode cX8_when 78 = .ok (.iload_n 2, 1) := by decide +kernel
theorem dX8_when_79 : decode cX8_when 79 = .ok (.ireturn, 1) := by decide +kernel
theorem dX8_when_80 : decode cX8_when 80 = .ok (.iinc 2 1, 3) := by decide +kernel
theorem dX8_when_83 : decode cX8_when 83 = .ok (.goto (-33), 3) := by decide +kernel
theorem dX8_when_86 : decode cX8_when 86 = .ok (.iconst (-1), 1) := by decide +kernel
theorem dX8_when_87 : decode cX8_when 87 = .ok (.ireturn, 1) := by decide +kernel
theorem dX8_place_0 : decode cX8_place 0 = .ok (.aload_n 0, 1) := by decide +kernel
theorem dX8_place_1 : decode cX8_place 1 = .ok (.iload_n 1, 1) := by decide +kernel
theorem dX8_place_2 : decode cX8_place 2 = .ok (.invokevirtual 154, 3) := by decide +kernel
theorem dX8_place_5 : decode cX8_place 5 = .ok (.ifCond .eq 13, 3) := by decide +kernel
theorem dX8_place_8 : decode cX8_place 8 = .ok (.iload_n 2, 1) := by decide +kernel
theorem dX8_place_9 : decode cX8_place 9 = .ok (.iconst 0, 1) := by decide +kernel
theorem dX8_place_10 : decode cX8_place 10 = .ok (.bipush 20, 2) := by decide +kernel
theorem dX8_place_12 : decode cX8_place 12 = .ok (.invokestatic 80, 3) := by decide +kernel
theorem dX8_place_15 : decode cX8_place 15 = .ok (.ifCond .ne 10, 3) := by decide +kernel
theorem dX8_place_18 : decode cX8_place 18 = .ok (.aload_n 0, 1) := by decide +kernel
theorem dX8_place_19 : decode cX8_place 19 = .ok (.bipush (-2), 2) := by decide +kernel
theorem dX8_place_21 : decode cX8_place 21 = .ok (.invokevirtual 88, 3) := by decide +kernel
theorem dX8_place_24 : decode cX8_place 24 = .ok (.ireturn, 1) := by decide +kernel
theorem dX8_place_25 : decode cX8_place 25 = .ok (.iconst 0, 1) := by decide +kernel
theorem dX8_place_26 : decode cX8_place 26 = .ok (.istore_n 3, 1) := by decide +kernel
theorem dX8_place_27 : decode cX8_place 27 = .ok (.bipush 7, 2) := by decide +kernel
theorem dX8_place_29 : decode cX8_place 29 = .ok (.istore 4, 2) := by decide +kernel
theorem dX8_place_31 : decode cX8_place 31 = .ok (.iconst 0, 1) := by decide +kernel
theorem dX8_place_32 : decode cX8_place 32 = .ok (.istore 5, 2) := by decide +kernel
theorem dX8_place_34 : decode cX8_place 34 = .ok (.iconst 0, 1) := by decide +kernel
theorem dX8_place_35 : decode cX8_place 35 = .ok (.istore 6, 2) := by decide +kernel
theorem dX8_place_37 : decode cX8_place 37 = .ok (.iload 6, 2) := by decide +kernel
theorem dX8_place_39 : decode cX8_place 39 = .ok (.bipush 24, 2) := by decide +kernel
theorem dX8_place_41 : decode cX8_place 41 = .ok (.if_icmp .ge 91, 3) := by decide +kernel
theorem dX8_place_44 : decode cX8_place 44 = .ok (.aload_n 0, 1) := by decide +kernel
theorem dX8_place_45 : decode cX8_place 45 = .ok (.getfield 32, 3) := by decide +kernel
theorem dX8_place_48 : decode cX8_place 48 = .ok (.aload_n 0, 1) := by decide +kernel
theorem dX8_place_49 : decode cX8_place 49 = .ok (.getfield 10, 3) := by decide +kernel
theorem dX8_place_52 : decode cX8_place 52 = .ok (.getfield 71, 3) := by decide +kernel
theorem dX8_place_55 : decode cX8_place 55 = .ok (.invokevirtual 135, 3) := by decide +kernel
theorem dX8_place_58 : decode cX8_place 58 = .ok (.aload_n 0, 1) := by decide +kernel
theorem dX8_place_59 : decode cX8_place 59 = .ok (.getfield 32, 3) := by decide +kernel
theorem dX8_place_62 : decode cX8_place 62 = .ok (.iload_n 1, 1) := by decide +kernel
theorem dX8_place_63 : decode cX8_place 63 = .ok (.iload 6, 2) := by decide +kernel
theorem dX8_place_65 : decode cX8_place 65 = .ok (.invokevirtual 173, 3) := by decide +kernel
theorem dX8_place_68 : decode cX8_place 68 = .ok (.aload_n 0, 1) := by decide +kernel
theorem dX8_place_69 : decode cX8_place 69 = .ok (.getfield 32, 3) := by decide +kernel
theorem dX8_place_72 : decode cX8_place 72 = .ok (.iload_n 2, 1) := by decide +kernel
theorem dX8_place_73 : decode cX8_place 73 = .ok (.invokevirtual 148, 3) := by decide +kernel
theorem dX8_place_76 : decode cX8_place 76 = .ok (.aload_n 0, 1) := by decide +kernel
theorem dX8_place_77 : decode cX8_place 77 = .ok (.getfield 32, 3) := by decide +kernel
theorem dX8_place_80 : decode cX8_place 80 = .ok (.invokevirtual 151, 3) := by decide +kernel
theorem dX8_place_83 : decode cX8_place 83 = .ok (.istore 7, 2) := by decide +kernel
theorem dX8_place_85 : decode cX8_place 85 = .ok (.aload_n 0, 1) := by decide +kernel
theorem dX8_place_86 : decode cX8_place 86 = .ok (.getfield 32, 3) := by decide +kernel
theorem dX8_place_89 : decode cX8_place 89 = .ok (.invokevirtual 206, 3) := by decide +kernel
theorem dX8_place_92 : decode cX8_place 92 = .ok (.istore 8, 2) := by decide +kernel
theorem dX8_place_94 : decode cX8_place 94 = .ok (.iload 7, 2) := by decide +kernel
theorem dX8_place_96 : decode cX8_place 96 = .ok (.iload 4, 2) := by decide +kernel
theorem dX8_place_98 : decode cX8_place 98 = .ok (.if_icmp .lt 17, 3) := by decide +kernel
theorem dX8_place_101 : decode cX8_place 101 = .ok (.iload 7, 2) := by decide +kernel
theorem dX8_place_103 : decode cX8_place 103 = .ok (.iload 4, 2) := by decide +kernel
theorem dX8_place_105 : decode cX8_place 105 = .ok (.if_icmp .ne 21, 3) := by decide +kernel
theorem dX8_place_108 : decode cX8_place 108 = .ok (.iload 8, 2) := by decide +kernel
theorem dX8_place_110 : decode cX8_place 110 = .ok (.iload 5, 2) := by decide +kernel
theorem dX8_place_112 : decode cX8_place 112 = .ok (.if_icmp .le 14, 3) := by decide +kernel
theorem dX8_place_115 : decode cX8_place 115 = .ok (.iload 6, 2) := by decide +kernel
theorem dX8_place_117 : decode cX8_place 117 = .ok (.istore_n 3, 1) := by decide +kernel
theorem dX8_place_118 : decode cX8_place 118 = .ok (.iload 7, 2) := by decide +kernel
theorem dX8_place_120 : decode cX8_place 120 = .ok (.istore 4, 2) := by decide +kernel
theorem dX8_place_122 : decode cX8_place 122 = .ok (.iload 8, 2) := by decide +kernel
theorem dX8_place_124 : decode cX8_place 124 = .ok (.istore 5, 2) := by decide +kernel
theorem dX8_place_126 : decode cX8_place 126 = .ok (.iinc 6 1, 3) := by decide +kernel
theorem dX8_place_129 : decode cX8_place 129 = .ok (.goto (-92), 3) := by decide +kernel
theorem dX8_place_132 : decode cX8_place 132 = .ok (.iload_n 3, 1) := by decide +kernel
theorem dX8_place_133 : decode cX8_place 133 = .ok (.ireturn, 1) := by decide +kernel
theorem dX8_run_0 : decode cX8_run 0 = .ok (.aload_n 0, 1) := by decide +kernel
theorem dX8_run_1 : decode cX8_run 1 = .ok (.iload_n 1, 1) := by decide +kernel
theorem dX8_run_2 : decode cX8_run 2 = .ok (.invokevirtual 194, 3) := by decide +kernel
theorem dX8_run_5 : decode cX8_run 5 = .ok (.ifCond .eq 8, 3) := by decide +kernel
theorem dX8_run_8 : decode cX8_run 8 = .ok (.iload_n 2, 1) := by decide +kernel
theorem dX8_run_9 : decode cX8_run 9 = .ok (.iconst (-1), 1) := by decide +kernel
theorem dX8_run_10 : decode cX8_run 10 = .ok (.if_icmp .ge 10, 3) := by decide +kernel
theorem dX8_run_13 : decode cX8_run 13 = .ok (.aload_n 0, 1) := by decide +kernel
theorem dX8_run_14 : decode cX8_run 14 = .ok (.bipush (-10), 2) := by decide +kernel
theorem dX8_run_16 : decode cX8_run 16 = .ok (.invokevirtual 88, 3) := by decide +kernel
theorem dX8_run_19 : decode cX8_run 19 = .ok (.ireturn, 1) := by decide +kernel
theorem dX8_run_20 : decode cX8_run 20 = .ok (.aload_n 0, 1) := by decide +kernel
theorem dX8_run_21 : decode cX8_run 21 = .ok (.getfield 10, 3) := by decide +kernel
theorem dX8_run_24 : decode cX8_run 24 = .ok (.getfield 71, 3) := by decide +kernel
theorem dX8_run_27 : decode cX8_run 27 = .ok (.getfield 209, 3) := by decide +kernel
theorem dX8_run_30 : decode cX8_run 30 = .ok (.iload_n 1, 1) := by decide +kernel
theorem dX8_run_31 : decode cX8_run 31 = .ok (.iaload, 1) := by decide +kernel
theorem dX8_run_32 : decode cX8_run 32 = .ok (.iconst (-1), 1) := by decide +kernel
theorem dX8_run_33 : decode cX8_run 33 = .ok (.if_icmp .eq 8, 3) := by decide +kernel
theorem dX8_run_36 : decode cX8_run 36 = .ok (.aload_n 0, 1) := by decide +kernel
theorem dX8_run_37 : decode cX8_run 37 = .ok (.invokevirtual 176, 3) := by decide +kernel
theorem dX8_run_40 : decode cX8_run 40 = .ok (.ireturn, 1) := by decide +kernel
theorem dX8_run_41 : decode cX8_run 41 = .ok (.aload_n 0, 1) := by decide +kernel
theorem dX8_run_42 : decode cX8_run 42 = .ok (.getfield 46, 3) := by decide +kernel
theorem dX8_run_45 : decode cX8_run 45 = .ok (.aload_n 0, 1) := by decide +kernel
theorem dX8_run_46 : decode cX8_run 46 = .ok (.getfield 10, 3) := by decide +kernel
theorem dX8_run_49 : decode cX8_run 49 = .ok (.getfield 71, 3) := by decide +kernel
theorem dX8_run_52 : decode cX8_run 52 = .ok (.iload_n 1, 1) := by decide +kernel
theorem dX8_run_53 : decode cX8_run 53 = .ok (.invokevirtual 212, 3) := by decide +kernel
theorem dX8_run_56 : decode cX8_run 56 = .ok (.istore_n 3, 1) := by decide +kernel
theorem dX8_run_57 : decode cX8_run 57 = .ok (.iload_n 3, 1) := by decide +kernel
theorem dX8_run_58 : decode cX8_run 58 = .ok (.iconst (-1), 1) := by decide +kernel
theorem dX8_run_59 : decode cX8_run 59 = .ok (.if_icmp .eq 8, 3) := by decide +kernel
theorem dX8_run_62 : decode cX8_run 62 = .ok (.iload_n 2, 1) := by decide +kernel
theorem dX8_run_63 : decode cX8_run 63 = .ok (.iconst (-1), 1) := by decide +kernel
theorem dX8_run_64 : decode cX8_run 64 = .ok (.if_icmp .ne 5, 3) := by decide +kernel
theorem dX8_run_67 : decode cX8_run 67 = .ok (.iload_n 3, 1) := by decide +kernel
theorem dX8_run_68 : decode cX8_run 68 = .ok (.ireturn, 1) := by decide +kernel
theorem dX8_run_69 : decode cX8_run 69 = .ok (.iload_n 2, 1) := by decide +kernel
theorem dX8_run_70 : decode cX8_run 70 = .ok (.iload_n 3, 1) := by decide +kernel
theorem dX8_run_71 : decode cX8_run 71 = .ok (.if_icmp .ge 20, 3) := by decide +kernel
theorem dX8_run_74 : decode cX8_run 74 = .ok (.iload_n 2, 1) := by decide +kernel
theorem dX8_run_75 : decode cX8_run 75 = .ok (.iconst 4, 1) := by decide +kernel
theorem dX8_run_76 : decode cX8_run 76 = .ok (.if_icmp .ge 15, 3) := by decide +kernel
theorem dX8_run_79 : decode cX8_run 79 = .ok (.aload_n 0, 1) := by decide +kernel
theorem dX8_run_80 : decode cX8_run 80 = .ok (.getfield 46, 3) := by decide +kernel
theorem dX8_run_83 : decode cX8_run 83 = .ok (.getfield 216, 3) := by decide +kernel
theorem dX8_run_86 : decode cX8_run 86 = .ok (.iload_n 2, 1) := by decide +kernel
theorem dX8_run_87 : decode cX8_run 87 = .ok (.iaload, 1) := by decide +kernel
theorem dX8_run_88 : decode cX8_run 88 = .ok (.goto 5, 3) := by decide +kernel
theorem dX8_run_91 : decode cX8_run 91 = .ok (.bipush (-5), 2) := by decide +kernel
theorem dX8_run_93 : decode cX8_run 93 = .ok (.ireturn, 1) := by decide +kernel
theorem dX8_stitches_0 : decode cX8_stitches 0 = .ok (.aload_n 0, 1) := by decide +kernel
theorem dX8_stitches_1 : decode cX8_stitches 1 = .ok (.iload_n 1, 1) := by decide +kernel
theorem dX8_stitches_2 : decode cX8_stitches 2 = .ok (.invokevirtual 154, 3) := by decide +kernel
theorem dX8_stitches_5 : decode cX8_stitches 5 = .ok (.ifCond .eq 13, 3) := by decide +kernel
theorem dX8_stitches_8 : decode cX8_stitches 8 = .ok (.iload_n 2, 1) := by decide +kernel
theorem dX8_stitches_9 : decode cX8_stitches 9 = .ok (.iconst 0, 1) := by decide +kernel
theorem dX8_stitches_10 : decode cX8_stitches 10 = .ok (.bipush 9, 2) := by decide +kernel
theorem dX8_stitches_12 : decode cX8_stitches 12 = .ok (.invokestatic 80, 3) := by decide +kernel
theorem dX8_stitches_15 : decode cX8_stitches 15 = .ok (.ifCond .ne 10, 3) := by decide +kernel
theorem dX8_stitches_18 : decode cX8_stitches 18 = .ok (.aload_n 0, 1) := by decide +kernel
theorem dX8_stitches_19 : decode cX8_stitches 19 = .ok (.bipush (-2), 2) := by decide +kernel
theorem dX8_stitches_21 : decode cX8_stitches 21 = .ok (.invokevirtual 88, 3) := by decide +kernel
theorem dX8_stitches_24 : decode cX8_stitches 24 = .ok (.ireturn, 1) := by decide +kernel
theorem dX8_stitches_25 : decode cX8_stitches 25 = .ok (.aload_n 0, 1) := by decide +kernel
theorem dX8_stitches_26 : decode cX8_stitches 26 = .ok (.getfield 10, 3) := by decide +kernel
theorem dX8_stitches_29 : decode cX8_stitches 29 = .ok (.getfield 71, 3) := by decide +kernel
theorem dX8_stitches_32 : decode cX8_stitches 32 = .ok (.getfield 157, 3) := by decide +kernel
theorem dX8_stitches_35 : decode cX8_stitches 35 = .ok (.iload_n 1, 1) := by decide +kernel
theorem dX8_stitches_36 : decode cX8_stitches 36 = .ok (.iaload, 1) := by decide +kernel
theorem dX8_stitches_37 : decode cX8_stitches 37 = .ok (.istore_n 3, 1) := by decide +kernel
theorem dX8_stitches_38 : decode cX8_stitches 38 = .ok (.iconst 0, 1) := by decide +kernel
theorem dX8_stitches_39 : decode cX8_stitches 39 = .ok (.istore 4, 2) := by decide +kernel
theorem dX8_stitches_41 : decode cX8_stitches 41 = .ok (.iload 4, 2) := by decide +kernel
theorem dX8_stitches_43 : decode cX8_stitches 43 = .ok (.iload_n 3, 1) := by decide +kernel
theorem dX8_stitches_44 : decode cX8_stitches 44 = .ok (.if_icmp .gt 37, 3) := by decide +kernel
theorem dX8_stitches_47 : decode cX8_stitches 47 = .ok (.aload_n 0, 1) := by decide +kernel
theorem dX8_stitches_48 : decode cX8_stitches 48 = .ok (.aload_n 0, 1) := by decide +kernel
theorem dX8_stitches_49 : decode cX8_stitches 49 = .ok (.getfield 10, 3) := by decide +kernel
theorem dX8_stitches_52 : decode cX8_stitches 52 = .ok (.getfield 71, 3) := by decide +kernel
theorem dX8_stitches_55 : decode cX8_stitches 55 = .ok (.getfield 182, 3) := by decide +kernel
theorem dX8_stitches_58 : decode cX8_stitches 58 = .ok (.iload_n 1, 1) := by decide +kernel
theorem dX8_stitches_59 : decode cX8_stitches 59 = .ok (.iaload, 1) := by decide +kernel
theorem dX8_stitches_60 : decode cX8_stitches 60 = .ok (.iload_n 1, 1) := by decide +kernel
theorem dX8_stitches_61 : decode cX8_stitches 61 = .ok (.iload_n 3, 1) := by decide +kernel
theorem dX8_stitches_62 : decode cX8_stitches 62 = .ok (.iload 4, 2) := by decide +kernel
theorem dX8_stitches_64 : decode cX8_stitches 64 = .ok (.isub, 1) := by decide +kernel
theorem dX8_stitches_65 : decode cX8_stitches 65 = .ok (.invokevirtual 219, 3) := by decide +kernel
theorem dX8_stitches_68 : decode cX8_stitches 68 = .ok (.iload_n 2, 1) := by decide +kernel
theorem dX8_stitches_69 : decode cX8_stitches 69 = .ok (.if_icmp .lt 6, 3) := by decide +kernel
theorem dX8_stitches_72 : decode cX8_stitches 72 = .ok (.iload 4, 2) := by decide +kernel
theorem dX8_stitches_74 : decode cX8_stitches 74 = .ok (.ireturn, 1) := by decide +kernel
theorem dX8_stitches_75 : decode cX8_stitches 75 = .ok (.iinc 4 1, 3) := by decide +kernel
theorem dX8_stitches_78 : decode cX8_stitches 78 = .ok (.goto (-37), 3) := by decide +kernel
theorem dX8_stitches_81 : decode cX8_stitches 81 = .ok (.iconst (-1), 1) := by decide +kernel
theorem dX8_stitches_82 : decode cX8_stitches 82 = .ok (.ireturn, 1) := by decide +kernel
theorem dX8_note_0 : decode cX8_note 0 = .ok (.aload_n 0, 1) := by decide +kernel
theorem dX8_note_1 : decode cX8_note 1 = .ok (.iload_n 1, 1) := by decide +kernel
theorem dX8_note_2 : decode cX8_note 2 = .ok (.invokevirtual 154, 3) := by decide +kernel
theorem dX8_note_5 : decode cX8_note 5 = .ok (.ifCond .eq 23, 3) := by decide +kernel
theorem dX8_note_8 : decode cX8_note 8 = .ok (.iload_n 2, 1) := by decide +kernel
theorem dX8_note_9 : decode cX8_note 9 = .ok (.iconst 0, 1) := by decide +kernel
theorem dX8_note_10 : decode cX8_note 10 = .ok (.bipush 40, 2) := by decide +kernel
theorem dX8_note_12 : decode cX8_note 12 = .ok (.invokestatic 80, 3) := by decide +kernel
theorem dX8_note_15 : decode cX8_note 15 = .ok (.ifCond .eq 13, 3) := by decide +kernel
theorem dX8_note_18 : decode cX8_note 18 = .ok (.iload_n 3, 1) := by decide +kernel
theorem dX8_note_19 : decode cX8_note 19 = .ok (.iconst 0, 1) := by decide +kernel
theorem dX8_note_20 : decode cX8_note 20 = .ok (.bipush 9, 2) := by decide +kernel
theorem dX8_note_22 : decode cX8_note 22 = .ok (.invokestatic 80, 3) := by decide +kernel
theorem dX8_note_25 : decode cX8_note 25 = .ok (.ifCond .ne 10, 3) := by decide +kernel
theorem dX8_note_28 : decode cX8_note 28 = .ok (.aload_n 0, 1) := by decide +kernel
theorem dX8_note_29 : decode cX8_note 29 = .ok (.bipush (-2), 2) := by decide +kernel
theorem dX8_note_31 : decode cX8_note 31 = .ok (.invokevirtual 88, 3) := by decide +kernel
theorem dX8_note_34 : decode cX8_note 34 = .ok (.ireturn, 1) := by decide +kernel
theorem dX8_note_35 : decode cX8_note 35 = .ok (.aload_n 0, 1) := by decide +kernel
theorem dX8_note_36 : decode cX8_note 36 = .ok (.getfield 10, 3) := by decide +kernel
theorem dX8_note_39 : decode cX8_note 39 = .ok (.getfield 222, 3) := by decide +kernel
theorem dX8_note_42 : decode cX8_note 42 = .ok (.bipush 6, 2) := by decide +kernel
theorem dX8_note_44 : decode cX8_note 44 = .ok (.if_icmp .lt 8, 3) := by decide +kernel
theorem dX8_note_47 : decode cX8_note 47 = .ok (.aload_n 0, 1) := by decide +kernel
theorem dX8_note_48 : decode cX8_note 48 = .ok (.invokevirtual 92, 3) := by decide +kernel
theorem dX8_note_51 : decode cX8_note 51 = .ok (.ireturn, 1) := by decide +kernel
theorem dX8_note_52 : decode cX8_note 52 = .ok (.aload_n 0, 1) := by decide +kernel
theorem dX8_note_53 : decode cX8_note 53 = .ok (.getfield 10, 3) := by decide +kernel
theorem dX8_note_56 : decode cX8_note 56 = .ok (.iload_n 1, 1) := by decide +kernel
theorem dX8_note_57 : decode cX8_note 57 = .ok (.iload_n 2, 1) := by decide +kernel
theorem dX8_note_58 : decode cX8_note 58 = .ok (.iload_n 3, 1) := by decide +kernel
theorem dX8_note_59 : decode cX8_note 59 = .ok (.invokevirtual 225, 3) := by decide +kernel
theorem dX8_note_62 : decode cX8_note 62 = .ok (.ireturn, 1) := by decide +kernel
theorem dX8_forget_0 : decode cX8_forget 0 = .ok (.aload_n 0, 1) := by decide +kernel
theorem dX8_forget_1 : decode cX8_forget 1 = .ok (.getfield 10, 3) := by decide +kernel
theorem dX8_forget_4 : decode cX8_forget 4 = .ok (.getfield 222, 3) := by decide +kernel
theorem dX8_forget_7 : decode cX8_forget 7 = .ok (.istore_n 1, 1) := by decide +kernel
theorem dX8_forget_8 : decode cX8_forget 8 = .ok (.aload_n 0, 1) := by decide +kernel
theorem dX8_forget_9 : decode cX8_forget 9 = .ok (.getfield 10, 3) := by decide +kernel
theorem dX8_forget_12 : decode cX8_forget 12 = .ok (.iconst 0, 1) := by decide +kernel
theorem dX8_forget_13 : decode cX8_forget 13 = .ok (.putfield 222, 3) := by decide +kernel
theorem dX8_forget_16 : decode cX8_forget 16 = .ok (.iload_n 1, 1) := by decide +kernel
theorem dX8_forget_17 : decode cX8_forget 17 = .ok (.ireturn, 1) := by decide +kernel
theorem dX8_is_0 : decode cX8_is 0 = .ok (.aload_n 0, 1) := by decide +kernel
theorem dX8_is_1 : decode cX8_is 1 = .ok (.iload_n 1, 1) := by decide +kernel
theorem dX8_is_2 : decode cX8_is 2 = .ok (.invokevirtual 154, 3) := by decide +kernel
theorem dX8_is_5 : decode cX8_is 5 = .ok (.ifCond .eq 11, 3) := by decide +kernel
theorem dX8_is_8 : decode cX8_is 8 = .ok (.aload_n 0, 1) := by decide +kernel
theorem dX8_is_9 : decode cX8_is 9 = .ok (.iload_n 1, 1) := by decide +kernel
theorem dX8_is_10 : decode cX8_is 10 = .ok (.invokevirtual 228, 3) := by decide +kernel
theorem dX8_is_13 : decode cX8_is 13 = .ok (.goto 9, 3) := by decide +kernel
theorem dX8_is_16 : decode cX8_is 16 = .ok (.aload_n 0, 1) := by decide +kernel
theorem dX8_is_17 : decode cX8_is 17 = .ok (.bipush (-2), 2) := by decide +kernel
theorem dX8_is_19 : decode cX8_is 19 = .ok (.invokevirtual 88, 3) := by decide +kernel
theorem dX8_is_22 : decode cX8_is 22 = .ok (.ireturn, 1) := by decide +kernel
theorem dX8_feel_0 : decode cX8_feel 0 = .ok (.aload_n 0, 1) := by decide +kernel
theorem dX8_feel_1 : decode cX8_feel 1 = .ok (.iload_n 1, 1) := by decide +kernel
theorem dX8_feel_2 : decode cX8_feel 2 = .ok (.invokevirtual 154, 3) := by decide +kernel
theorem dX8_feel_5 : decode cX8_feel 5 = .ok (.ifCond .ne 10, 3) := by decide +kernel
theorem dX8_feel_8 : decode cX8_feel 8 = .ok (.aload_n 0, 1) := by decide +kernel
theorem dX8_feel_9 : decode cX8_feel 9 = .ok (.bipush (-2), 2) := by decide +kernel
theorem dX8_feel_11 : decode cX8_feel 11 = .ok (.invokevirtual 88, 3) := by decide +kernel
theorem dX8_feel_14 : decode cX8_feel 14 = .ok (.ireturn, 1) := by decide +kernel
theorem dX8_feel_15 : decode cX8_feel 15 = .ok (.aload_n 0, 1) := by decide +kernel
theorem dX8_feel_16 : decode cX8_feel 16 = .ok (.iload_n 1, 1) := by decide +kernel
theorem dX8_feel_17 : decode cX8_feel 17 = .ok (.invokevirtual 228, 3) := by decide +kernel
theorem dX8_feel_20 : decode cX8_feel 20 = .ok (.istore_n 2, 1) := by decide +kernel
theorem dX8_feel_21 : decode cX8_feel 21 = .ok (.iconst (-1), 1) := by decide +kernel
theorem dX8_feel_22 : decode cX8_feel 22 = .ok (.istore_n 3, 1) := by decide +kernel
theorem dX8_feel_23 : decode cX8_feel 23 = .ok (.bipush 7, 2) := by decide +kernel
theorem dX8_feel_25 : decode cX8_feel 25 = .ok (.istore 4, 2) := by decide +kernel
theorem dX8_feel_27 : decode cX8_feel 27 = .ok (.iconst 0, 1) := by decide +kernel
theorem dX8_feel_28 : decode cX8_feel 28 = .ok (.istore 5, 2) := by decide +kernel
theorem dX8_feel_30 : decode cX8_feel 30 = .ok (.iload 5, 2) := by decide +kernel
theorem dX8_feel_32 : decode cX8_feel 32 = .ok (.bipush 40, 2) := by decide +kernel
theorem dX8_feel_34 : decode cX8_feel 34 = .ok (.if_icmp .gt 37, 3) := by decide +kernel
theorem dX8_feel_37 : decode cX8_feel 37 = .ok (.iload_n 2, 1) := by decide +kernel
theorem dX8_feel_38 : decode cX8_feel 38 = .ok (.ifCond .eq 33, 3) := by decide +kernel
theorem dX8_feel_41 : decode cX8_feel 41 = .ok (.aload_n 0, 1) := by decide +kernel
theorem dX8_feel_42 : decode cX8_feel 42 = .ok (.iload_n 2, 1) := by decide +kernel
theorem dX8_feel_43 : decode cX8_feel 43 = .ok (.iload_n 1, 1) := by decide +kernel
theorem dX8_feel_44 : decode cX8_feel 44 = .ok (.iload 5, 2) := by decide +kernel
theorem dX8_feel_46 : decode cX8_feel 46 = .ok (.invokevirtual 231, 3) := by decide +kernel
theorem dX8_feel_49 : decode cX8_feel 49 = .ok (.istore 6, 2) := by decide +kernel
theorem dX8_feel_51 : decode cX8_feel 51 = .ok (.iload 6, 2) := by decide +kernel
theorem dX8_feel_53 : decode cX8_feel 53 = .ok (.iload 4, 2) := by decide +kernel
theorem dX8_feel_55 : decode cX8_feel 55 = .ok (.if_icmp .ge 10, 3) := by decide +kernel
theorem dX8_feel_58 : decode cX8_feel 58 = .ok (.iload 5, 2) := by decide +kernel
theorem dX8_feel_60 : decode cX8_feel 60 = .ok (.istore_n 3, 1) := by decide +kernel
theorem dX8_feel_61 : decode cX8_feel 61 = .ok (.iload 6, 2) := by decide +kernel
theorem dX8_feel_63 : decode cX8_feel 63 = .ok (.istore 4, 2) := by decide +kernel
theorem dX8_feel_65 : decode cX8_feel 65 = .ok (.iinc 5 1, 3) := by decide +kernel
theorem dX8_feel_68 : decode cX8_feel 68 = .ok (.goto (-38), 3) := by decide +kernel
theorem dX8_feel_71 : decode cX8_feel 71 = .ok (.iload_n 3, 1) := by decide +kernel
theorem dX8_feel_72 : decode cX8_feel 72 = .ok (.ireturn, 1) := by decide +kernel
theorem dX8_inside_0 : decode cX8_inside 0 = .ok (.aload_n 0, 1) := by decide +kernel
theorem dX8_inside_1 : decode cX8_inside 1 = .ok (.iload_n 1, 1) := by decide +kernel
theorem dX8_inside_2 : decode cX8_inside 2 = .ok (.invokevirtual 154, 3) := by decide +kernel
theorem dX8_inside_5 : decode cX8_inside 5 = .ok (.ifCond .eq 22, 3) := by decide +kernel
theorem dX8_inside_8 : decode cX8_inside 8 = .ok (.iload_n 2, 1) := by decide +kernel
theorem dX8_inside_9 : decode cX8_inside 9 = .ok (.iconst 0, 1) := by decide +kernel
theorem dX8_inside_10 : decode cX8_inside 10 = .ok (.bipush 8, 2) := by decide +kernel
theorem dX8_inside_12 : decode cX8_inside 12 = .ok (.invokestatic 80, 3) := by decide +kernel
theorem dX8_inside_15 : decode cX8_inside 15 = .ok (.ifCond .eq 12, 3) := by decide +kernel
theorem dX8_inside_18 : decode cX8_inside 18 = .ok (.iload_n 3, 1) := by decide +kernel
theorem dX8_inside_19 : decode cX8_inside 19 = .ok (.iconst 0, 1) := by decide +kernel
theorem dX8_inside_20 : decode cX8_inside 20 = .ok (.iconst 1, 1) := by decide +kernel
theorem dX8_inside_21 : decode cX8_inside 21 = .ok (.invokestatic 80, 3) := by decide +kernel
theorem dX8_inside_24 : decode cX8_inside 24 = .ok (.ifCond .ne 10, 3) := by decide +kernel
theorem dX8_inside_27 : decode cX8_inside 27 = .ok (.aload_n 0, 1) := by decide +kernel
theorem dX8_inside_28 : decode cX8_inside 28 = .ok (.bipush (-2), 2) := by decide +kernel
theorem dX8_inside_30 : decode cX8_inside 30 = .ok (.invokevirtual 88, 3) := by decide +kernel
theorem dX8_inside_33 : decode cX8_inside 33 = .ok (.ireturn, 1) := by decide +kernel
theorem dX8_inside_34 : decode cX8_inside 34 = .ok (.aload_n 0, 1) := by decide +kernel
theorem dX8_inside_35 : decode cX8_inside 35 = .ok (.getfield 10, 3) := by decide +kernel
theorem dX8_inside_38 : decode cX8_inside 38 = .ok (.getfield 71, 3) := by decide +kernel
theorem dX8_inside_41 : decode cX8_inside 41 = .ok (.aload_n 0, 1) := by decide +kernel
theorem dX8_inside_42 : decode cX8_inside 42 = .ok (.getfield 10, 3) := by decide +kernel
theorem dX8_inside_45 : decode cX8_inside 45 = .ok (.getfield 71, 3) := by decide +kernel
theorem dX8_inside_48 : decode cX8_inside 48 = .ok (.getfield 170, 3) := by decide +kernel
theorem dX8_inside_51 : decode cX8_inside 51 = .ok (.iload_n 1, 1) := by decide +kernel
theorem dX8_inside_52 : decode cX8_inside 52 = .ok (.iaload, 1) := by decide +kernel
theorem dX8_inside_53 : decode cX8_inside 53 = .ok (.iload_n 2, 1) := by decide +kernel
theorem dX8_inside_54 : decode cX8_inside 54 = .ok (.invokevirtual 234, 3) := by decide +kernel
theorem dX8_inside_57 : decode cX8_inside 57 = .ok (.istore 4, 2) := by decide +kernel
theorem dX8_inside_59 : decode cX8_inside 59 = .ok (.aload_n 0, 1) := by decide +kernel
theorem dX8_inside_60 : decode cX8_inside 60 = .ok (.getfield 10, 3) := by decide +kernel
theorem dX8_inside_63 : decode cX8_inside 63 = .ok (.getfield 71, 3) := by decide +kernel
theorem dX8_inside_66 : decode cX8_inside 66 = .ok (.iload_n 1, 1) := by decide +kernel
theorem dX8_inside_67 : decode cX8_inside 67 = .ok (.invokevirtual 188, 3) := by decide +kernel
theorem dX8_inside_70 : decode cX8_inside 70 = .ok (.istore 5, 2) := by decide +kernel
theorem dX8_inside_72 : decode cX8_inside 72 = .ok (.iconst 0, 1) := by decide +kernel
theorem dX8_inside_73 : decode cX8_inside 73 = .ok (.istore 6, 2) := by decide +kernel
theorem dX8_inside_75 : decode cX8_inside 75 = .ok (.iconst 0, 1) := by decide +kernel
theorem dX8_inside_76 : decode cX8_inside 76 = .ok (.istore 7, 2) := by decide +kernel
theorem dX8_inside_78 : decode cX8_inside 78 = .ok (.iconst 0, 1) := by decide +kernel
theorem dX8_inside_79 : decode cX8_inside 79 = .ok (.istore 8, 2) := by decide +kernel
theorem dX8_inside_81 : decode cX8_inside 81 = .ok (.iload 8, 2) := by decide +kernel
theorem dX8_inside_83 : decode cX8_inside 83 = .ok (.bipush 64, 2) := by decide +kernel
theorem dX8_inside_85 : decode cX8_inside 85 = .ok (.if_icmp .ge 39, 3) := by decide +kernel
theorem dX8_inside_88 : decode cX8_inside 88 = .ok (.iload 8, 2) := by decide +kernel
theorem dX8_inside_90 : decode cX8_inside 90 = .ok (.iload 4, 2) := by decide +kernel
theorem dX8_inside_92 : decode cX8_inside 92 = .ok (.iconst (-1), 1) := by decide +kernel
theorem dX8_inside_93 : decode cX8_inside 93 = .ok (.ixor, 1) := by decide +kernel
theorem dX8_inside_94 : decode cX8_inside 94 = .ok (.iand, 1) := by decide +kernel
theorem dX8_inside_95 : decode cX8_inside 95 = .ok (.ifCond .ne 23, 3) := by decide +kernel
theorem dX8_inside_98 : decode cX8_inside 98 = .ok (.iload 8, 2) := by decide +kernel
theorem dX8_inside_100 : decode cX8_inside 100 = .ok (.invokestatic 237, 3) := by decide +kernel
theorem dX8_inside_103 : decode cX8_inside 103 = .ok (.iload 5, 2) := by decide +kernel
theorem dX8_inside_105 : decode cX8_inside 105 = .ok (.if_icmp .gt 13, 3) := by decide +kernel
theorem dX8_inside_108 : decode cX8_inside 108 = .ok (.iinc 6 1, 3) := by decide +kernel
theorem dX8_inside_111 : decode cX8_inside 111 = .ok (.iload 7, 2) := by decide +kernel
theorem dX8_inside_113 : decode cX8_inside 113 = .ok (.iload 8, 2) := by decide +kernel
theorem dX8_inside_115 : decode cX8_inside 115 = .ok (.ior, 1) := by decide +kernel
theorem dX8_inside_116 : decode cX8_inside 116 = .ok (.istore 7, 2) := by decide +kernel
theorem dX8_inside_118 : decode cX8_inside 118 = .ok (.iinc 8 1, 3) := by decide +kernel
theorem dX8_inside_121 : decode cX8_inside 121 = .ok (.goto (-40), 3) := by decide +kernel
theorem dX8_inside_124 : decode cX8_inside 124 = .ok (.iload_n 3, 1) := by decide +kernel
theorem dX8_inside_125 : decode cX8_inside 125 = .ok (.ifCond .ne 8, 3) := by decide +kernel
theorem dX8_inside_128 : decode cX8_inside 128 = .ok (.iload 6, 2) := by decide +kernel
theorem dX8_inside_130 : decode cX8_inside 130 = .ok (.goto 5, 3) := by decide +kernel
theorem dX8_inside_133 : decode cX8_inside 133 = .ok (.iload 7, 2) := by decide +kernel
theorem dX8_inside_135 : decode cX8_inside 135 = .ok (.ireturn, 1) := by decide +kernel
theorem dX8_two_0 : decode cX8_two 0 = .ok (.aload_n 0, 1) := by decide +kernel
theorem dX8_two_1 : decode cX8_two 1 = .ok (.iload_n 1, 1) := by decide +kernel
theorem dX8_two_2 : decode cX8_two 2 = .ok (.invokevirtual 194, 3) := by decide +kernel
theorem dX8_two_5 : decode cX8_two 5 = .ok (.ifCond .eq 21, 3) := by decide +kernel
theorem dX8_two_8 : decode cX8_two 8 = .ok (.aload_n 0, 1) := by decide +kernel
theorem dX8_two_9 : decode cX8_two 9 = .ok (.iload_n 2, 1) := by decide +kernel
theorem dX8_two_10 : decode cX8_two 10 = .ok (.invokevirtual 194, 3) := by decide +kernel
theorem dX8_two_13 : decode cX8_two 13 = .ok (.ifCond .eq 13, 3) := by decide +kernel
theorem dX8_two_16 : decode cX8_two 16 = .ok (.iload_n 1, 1) := by decide +kernel
theorem dX8_two_17 : decode cX8_two 17 = .ok (.iload_n 2, 1) := by decide +kernel
theorem dX8_two_18 : decode cX8_two 18 = .ok (.if_icmp .eq 8, 3) := by decide +kernel
theorem dX8_two_21 : decode cX8_two 21 = .ok (.iload_n 3, 1) := by decide +kernel
theorem dX8_two_22 : decode cX8_two 22 = .ok (.iconst (-1), 1) := by decide +kernel
theorem dX8_two_23 : decode cX8_two 23 = .ok (.if_icmp .ge 10, 3) := by decide +kernel
theorem dX8_two_26 : decode cX8_two 26 = .ok (.aload_n 0, 1) := by decide +kernel
theorem dX8_two_27 : decode cX8_two 27 = .ok (.bipush (-10), 2) := by decide +kernel
theorem dX8_two_29 : decode cX8_two 29 = .ok (.invokevirtual 88, 3) := by decide +kernel
theorem dX8_two_32 : decode cX8_two 32 = .ok (.ireturn, 1) := by decide +kernel
theorem dX8_two_33 : decode cX8_two 33 = .ok (.aload_n 0, 1) := by decide +kernel
theorem dX8_two_34 : decode cX8_two 34 = .ok (.getfield 10, 3) := by decide +kernel
theorem dX8_two_37 : decode cX8_two 37 = .ok (.getfield 71, 3) := by decide +kernel
theorem dX8_two_40 : decode cX8_two 40 = .ok (.getfield 209, 3) := by decide +kernel
theorem dX8_two_43 : decode cX8_two 43 = .ok (.iload_n 1, 1) := by decide +kernel
theorem dX8_two_44 : decode cX8_two 44 = .ok (.iaload, 1) := by decide +kernel
theorem dX8_two_45 : decode cX8_two 45 = .ok (.iconst (-1), 1) := by decide +kernel
theorem dX8_two_46 : decode cX8_two 46 = .ok (.if_icmp .ne 19, 3) := by decide +kernel
theorem dX8_two_49 : decode cX8_two 49 = .ok (.aload_n 0, 1) := by decide +kernel
theorem dX8_two_50 : decode cX8_two 50 = .ok (.getfield 10, 3) := by decide +kernel
theorem dX8_two_53 : decode cX8_two 53 = .ok (.getfield 71, 3) := by decide +kernel
theorem dX8_two_56 : decode cX8_two 56 = .ok (.getfield 209, 3) := by decide +kernel
theorem dX8_two_59 : decode cX8_two 59 = .ok (.iload_n 2, 1) := by decide +kernel
theorem dX8_two_60 : decode cX8_two 60 = .ok (.iaload, 1) := by decide +kernel
theorem dX8_two_61 : decode cX8_two 61 = .ok (.iconst (-1), 1) := by decide +kernel
theorem dX8_two_62 : decode cX8_two 62 = .ok (.if_icmp .eq 8, 3) := by decide +kernel
theorem dX8_two_65 : decode cX8_two 65 = .ok (.aload_n 0, 1) := by decide +kernel
theorem dX8_two_66 : decode cX8_two 66 = .ok (.invokevirtual 176, 3) := by decide +kernel
theorem dX8_two_69 : decode cX8_two 69 = .ok (.ireturn, 1) := by decide +kernel
theorem dX8_two_70 : decode cX8_two 70 = .ok (.iconst 0, 1) := by decide +kernel
theorem dX8_two_71 : decode cX8_two 71 = .ok (.istore 4, 2) := by decide +kernel
theorem dX8_two_73 : decode cX8_two 73 = .ok (.iconst 0, 1) := by decide +kernel
theorem dX8_two_74 : decode cX8_two 74 = .ok (.istore 5, 2) := by decide +kernel
theorem dX8_two_76 : decode cX8_two 76 = .ok (.iload 5, 2) := by decide +kernel
theorem dX8_two_78 : decode cX8_two 78 = .ok (.aload_n 0, 1) := by decide +kernel
theorem dX8_two_79 : decode cX8_two 79 = .ok (.getfield 10, 3) := by decide +kernel
theorem dX8_two_82 : decode cX8_two 82 = .ok (.getfield 71, 3) := by decide +kernel
theorem dX8_two_85 : decode cX8_two 85 = .ok (.getfield 74, 3) := by decide +kernel
theorem dX8_two_88 : decode cX8_two 88 = .ok (.if_icmp .ge 76, 3) := by decide +kernel
theorem dX8_two_91 : decode cX8_two 91 = .ok (.iconst 0, 1) := by decide +kernel
theorem dX8_two_92 : decode cX8_two 92 = .ok (.istore 6, 2) := by decide +kernel
theorem dX8_two_94 : decode cX8_two 94 = .ok (.iload 6, 2) := by decide +kernel
theorem dX8_two_96 : decode cX8_two 96 = .ok (.aload_n 0, 1) := by decide +kernel
theorem dX8_two_97 : decode cX8_two 97 = .ok (.getfield 10, 3) := by decide +kernel
theorem dX8_two_100 : decode cX8_two 100 = .ok (.getfield 71, 3) := by decide +kernel
theorem dX8_two_103 : decode cX8_two 103 = .ok (.getfield 74, 3) := by decide +kernel
theorem dX8_two_106 : decode cX8_two 106 = .ok (.if_icmp .ge 52, 3) := by decide +kernel
theorem dX8_two_109 : decode cX8_two 109 = .ok (.aload_n 0, 1) := by decide +kernel
theorem dX8_two_110 : decode cX8_two 110 = .ok (.iload_n 1, 1) := by decide +kernel
theorem dX8_two_111 : decode cX8_two 111 = .ok (.iload 5, 2) := by decide +kernel
theorem dX8_two_113 : decode cX8_two 113 = .ok (.iload_n 2, 1) := by decide +kernel
theorem dX8_two_114 : decode cX8_two 114 = .ok (.iload 6, 2) := by decide +kernel
theorem dX8_two_116 : decode cX8_two 116 = .ok (.invokevirtual 242, 3) := by decide +kernel
theorem dX8_two_119 : decode cX8_two 119 = .ok (.ifCond .eq 33, 3) := by decide +kernel
theorem dX8_two_122 : decode cX8_two 122 = .ok (.aload_n 0, 1) := by decide +kernel
theorem dX8_two_123 : decode cX8_two 123 = .ok (.iload_n 2, 1) := by decide +kernel
theorem dX8_two_124 : decode cX8_two 124 = .ok (.iload 6, 2) := by decide +kernel
theorem dX8_two_126 : decode cX8_two 126 = .ok (.iload_n 1, 1) := by decide +kernel
theorem dX8_two_127 : decode cX8_two 127 = .ok (.iload 5, 2) := by decide +kernel
theorem dX8_two_129 : decode cX8_two 129 = .ok (.invokevirtual 242, 3) := by decide +kernel
theorem dX8_two_132 : decode cX8_two 132 = .ok (.ifCond .eq 20, 3) := by decide +kernel
theorem dX8_two_135 : decode cX8_two 135 = .ok (.iload 4, 2) := by decide +kernel
theorem dX8_two_137 : decode cX8_two 137 = .ok (.iload_n 3, 1) := by decide +kernel
theorem dX8_two_138 : decode cX8_two 138 = .ok (.if_icmp .ne 11, 3) := by decide +kernel
theorem dX8_two_141 : decode cX8_two 141 = .ok (.iconst 5, 1) := by decide +kernel
theorem dX8_two_142 : decode cX8_two 142 = .ok (.iload 5, 2) := by decide +kernel
theorem dX8_two_144 : decode cX8_two 144 = .ok (.imul, 1) := by decide +kernel
theorem dX8_two_145 : decode cX8_two 145 = .ok (.iload 6, 2) := by decide +kernel
theorem dX8_two_147 : decode cX8_two 147 = .ok (.iadd, 1) := by decide +kernel
theorem dX8_two_148 : decode cX8_two 148 = .ok (.ireturn, 1) := by decide +kernel
theorem dX8_two_149 : decode cX8_two 149 = .ok (.iinc 4 1, 3) := by decide +kernel
theorem dX8_two_152 : decode cX8_two 152 = .ok (.iinc 6 1, 3) := by decide +kernel
theorem dX8_two_155 : decode cX8_two 155 = .ok (.goto (-61), 3) := by decide +kernel
theorem dX8_two_158 : decode cX8_two 158 = .ok (.iinc 5 1, 3) := by decide +kernel
theorem dX8_two_161 : decode cX8_two 161 = .ok (.goto (-85), 3) := by decide +kernel
theorem dX8_two_164 : decode cX8_two 164 = .ok (.iload_n 3, 1) := by decide +kernel
theorem dX8_two_165 : decode cX8_two 165 = .ok (.iconst (-1), 1) := by decide +kernel
theorem dX8_two_166 : decode cX8_two 166 = .ok (.if_icmp .ne 8, 3) := by decide +kernel
theorem dX8_two_169 : decode cX8_two 169 = .ok (.iload 4, 2) := by decide +kernel
theorem dX8_two_171 : decode cX8_two 171 = .ok (.goto 5, 3) := by decide +kernel
theorem dX8_two_174 : decode cX8_two 174 = .ok (.bipush (-5), 2) := by decide +kernel
theorem dX8_two_176 : decode cX8_two 176 = .ok (.ireturn, 1) := by decide +kernel
theorem dX8_rain_0 : decode cX8_rain 0 = .ok (.iload_n 1, 1) := by decide +kernel
theorem dX8_rain_1 : decode cX8_rain 1 = .ok (.iconst 0, 1) := by decide +kernel
theorem dX8_rain_2 : decode cX8_rain 2 = .ok (.bipush 10, 2) := by decide +kernel
theorem dX8_rain_4 : decode cX8_rain 4 = .ok (.invokestatic 80, 3) := by decide +kernel
theorem dX8_rain_7 : decode cX8_rain 7 = .ok (.ifCond .ne 10, 3) := by decide +kernel
theorem dX8_rain_10 : decode cX8_rain 10 = .ok (.aload_n 0, 1) := by decide +kernel
theorem dX8_rain_11 : decode cX8_rain 11 = .ok (.bipush (-2), 2) := by decide +kernel
theorem dX8_rain_13 : decode cX8_rain 13 = .ok (.invokevirtual 88, 3) := by decide +kernel
theorem dX8_rain_16 : decode cX8_rain 16 = .ok (.ireturn, 1) := by decide +kernel
theorem dX8_rain_17 : decode cX8_rain 17 = .ok (.aload_n 0, 1) := by decide +kernel
theorem dX8_rain_18 : decode cX8_rain 18 = .ok (.getfield 10, 3) := by decide +kernel
theorem dX8_rain_21 : decode cX8_rain 21 = .ok (.getfield 71, 3) := by decide +kernel
theorem dX8_rain_24 : decode cX8_rain 24 = .ok (.invokevirtual 206, 3) := by decide +kernel
theorem dX8_rain_27 : decode cX8_rain 27 = .ok (.bipush 10, 2) := by decide +kernel
theorem dX8_rain_29 : decode cX8_rain 29 = .ok (.iload_n 1, 1) := by decide +kernel
theorem dX8_rain_30 : decode cX8_rain 30 = .ok (.isub, 1) := by decide +kernel
theorem dX8_rain_31 : decode cX8_rain 31 = .ok (.imul, 1) := by decide +kernel
theorem dX8_rain_32 : decode cX8_rain 32 = .ok (.istore_n 2, 1) := by decide +kernel
theorem dX8_rain_33 : decode cX8_rain 33 = .ok (.iload_n 2, 1) := by decide +kernel
theorem dX8_rain_34 : decode cX8_rain 34 = .ok (.bipush 10, 2) := by decide +kernel
theorem dX8_rain_36 : decode cX8_rain 36 = .ok (.irem, 1) := by decide +kernel
theorem dX8_rain_37 : decode cX8_rain 37 = .ok (.ifCond .ne 8, 3) := by decide +kernel
theorem dX8_rain_40 : decode cX8_rain 40 = .ok (.bipush 10, 2) := by decide +kernel
theorem dX8_rain_42 : decode cX8_rain 42 = .ok (.goto 24, 3) := by decide +kernel
theorem dX8_rain_45 : decode cX8_rain 45 = .ok (.iload_n 2, 1) := by decide +kernel
theorem dX8_rain_46 : decode cX8_rain 46 = .ok (.iconst 5, 1) := by decide +kernel
theorem dX8_rain_47 : decode cX8_rain 47 = .ok (.irem, 1) := by decide +kernel
theorem dX8_rain_48 : decode cX8_rain 48 = .ok (.ifCond .ne 7, 3) := by decide +kernel
theorem dX8_rain_51 : decode cX8_rain 51 = .ok (.iconst 5, 1) := by decide +kernel
theorem dX8_rain_52 : decode cX8_rain 52 = .ok (.goto 14, 3) := by decide +kernel
theorem dX8_rain_55 : decode cX8_rain 55 = .ok (.iload_n 2, 1) := by decide +kernel
theorem dX8_rain_56 : decode cX8_rain 56 = .ok (.iconst 2, 1) := by decide +kernel
theorem dX8_rain_57 : decode cX8_rain 57 = .ok (.irem, 1) := by decide +kernel
theorem dX8_rain_58 : decode cX8_rain 58 = .ok (.ifCond .ne 7, 3) := by decide +kernel
theorem dX8_rain_61 : decode cX8_rain 61 = .ok (.iconst 2, 1) := by decide +kernel
theorem dX8_rain_62 : decode cX8_rain 62 = .ok (.goto 4, 3) := by decide +kernel
theorem dX8_rain_65 : decode cX8_rain 65 = .ok (.iconst 1, 1) := by decide +kernel
theorem dX8_rain_66 : decode cX8_rain 66 = .ok (.istore_n 3, 1) := by decide +kernel
theorem dX8_rain_67 : decode cX8_rain 67 = .ok (.aload_n 0, 1) := by decide +kernel
theorem dX8_rain_68 : decode cX8_rain 68 = .ok (.iload_n 2, 1) := by decide +kernel
theorem dX8_rain_69 : decode cX8_rain 69 = .ok (.iload_n 3, 1) := by decide +kernel
theorem dX8_rain_70 : decode cX8_rain 70 = .ok (.idiv, 1) := by decide +kernel
theorem dX8_rain_71 : decode cX8_rain 71 = .ok (.i2l, 1) := by decide +kernel
theorem dX8_rain_72 : decode cX8_rain 72 = .ok (.putfield 54, 3) := by decide +kernel
theorem dX8_rain_75 : decode cX8_rain 75 = .ok (.aload_n 0, 1) := by decide +kernel
theorem dX8_rain_76 : decode cX8_rain 76 = .ok (.bipush 10, 2) := by decide +kernel
theorem dX8_rain_78 : decode cX8_rain 78 = .ok (.iload_n 3, 1) := by decide +kernel
theorem dX8_rain_79 : decode cX8_rain 79 = .ok (.idiv, 1) := by decide +kernel
theorem dX8_rain_80 : decode cX8_rain 80 = .ok (.i2l, 1) := by decide +kernel
theorem dX8_rain_81 : decode cX8_rain 81 = .ok (.putfield 58, 3) := by decide +kernel
theorem dX8_rain_84 : decode cX8_rain 84 = .ok (.iconst 1, 1) := by decide +kernel
theorem dX8_rain_85 : decode cX8_rain 85 = .ok (.ireturn, 1) := by decide +kernel
theorem dX8_years_0 : decode cX8_years 0 = .ok (.iload_n 1, 1) := by decide +kernel
theorem dX8_years_1 : decode cX8_years 1 = .ok (.iconst 0, 1) := by decide +kernel
theorem dX8_years_2 : decode cX8_years 2 = .ok (.ldc 246, 2) := by decide +kernel
theorem dX8_years_4 : decode cX8_years 4 = .ok (.invokestatic 80, 3) := by decide +kernel
theorem dX8_years_7 : decode cX8_years 7 = .ok (.ifCond .eq 13, 3) := by decide +kernel
theorem dX8_years_10 : decode cX8_years 10 = .ok (.iload_n 2, 1) := by decide +kernel
theorem dX8_years_11 : decode cX8_years 11 = .ok (.iconst 0, 1) := by decide +kernel
theorem dX8_years_12 : decode cX8_years 12 = .ok (.bipush 30, 2) := by decide +kernel
theorem dX8_years_14 : decode cX8_years 14 = .ok (.invokestatic 80, 3) := by decide +kernel
theorem dX8_years_17 : decode cX8_years 17 = .ok (.ifCond .ne 10, 3) := by decide +kernel
theorem dX8_years_20 : decode cX8_years 20 = .ok (.aload_n 0, 1) := by decide +kernel
theorem dX8_years_21 : decode cX8_years 21 = .ok (.bipush (-2), 2) := by decide +kernel
theorem dX8_years_23 : decode cX8_years 23 = .ok (.invokevirtual 88, 3) := by decide +kernel
theorem dX8_years_26 : decode cX8_years 26 = .ok (.ireturn, 1) := by decide +kernel
theorem dX8_years_27 : decode cX8_years 27 = .ok (.iload_n 1, 1) := by decide +kernel
theorem dX8_years_28 : decode cX8_years 28 = .ok (.i2l, 1) := by decide +kernel
theorem dX8_years_29 : decode cX8_years 29 = .ok (.lstore_n 3, 1) := by decide +kernel
theorem dX8_years_30 : decode cX8_years 30 = .ok (.iconst 0, 1) := by decide +kernel
theorem dX8_years_31 : decode cX8_years 31 = .ok (.istore 5, 2) := by decide +kernel
theorem dX8_years_33 : decode cX8_years 33 = .ok (.iconst 0, 1) := by decide +kernel
theorem dX8_years_34 : decode cX8_years 34 = .ok (.istore 6, 2) := by decide +kernel
theorem dX8_years_36 : decode cX8_years 36 = .ok (.iload 6, 2) := by decide +kernel
theorem dX8_years_38 : decode cX8_years 38 = .ok (.iload_n 2, 1) := by decide +kernel
theorem dX8_years_39 : decode cX8_years 39 = .ok (.if_icmp .ge 98, 3) := by decide +kernel
theorem dX8_years_42 : decode cX8_years 42 = .ok (.aload_n 0, 1) := by decide +kernel
theorem dX8_years_43 : decode cX8_years 43 = .ok (.getfield 32, 3) := by decide +kernel
theorem dX8_years_46 : decode cX8_years 46 = .ok (.aload_n 0, 1) := by decide +kernel
theorem dX8_years_47 : decode cX8_years 47 = .ok (.getfield 10, 3) := by decide +kernel
theorem dX8_years_50 : decode cX8_years 50 = .ok (.getfield 71, 3) := by decide +kernel
theorem dX8_years_53 : decode cX8_years 53 = .ok (.invokevirtual 135, 3) := by decide +kernel
theorem dX8_years_56 : decode cX8_years 56 = .ok (.iconst 0, 1) := by decide +kernel
theorem dX8_years_57 : decode cX8_years 57 = .ok (.istore 7, 2) := by decide +kernel
theorem dX8_years_59 : decode cX8_years 59 = .ok (.iload 7, 2) := by decide +kernel
theorem dX8_years_61 : decode cX8_years 61 = .ok (.aload_n 0, 1) := by decide +kernel
theorem dX8_years_62 : decode cX8_years 62 = .ok (.getfield 32, 3) := by decide +kernel
theorem dX8_years_65 : decode cX8_years 65 = .ok (.getfield 109, 3) := by decide +kernel
theorem dX8_years_68 : decode cX8_years 68 = .ok (.if_icmp .ge 42, 3) := by decide +kernel
theorem dX8_years_71 : decode cX8_years 71 = .ok (.lload_n 3, 1) := by decide +kernel
theorem dX8_years_72 : decode cX8_years 72 = .ok (.ldc2_w 247, 3) := by decide +kernel
theorem dX8_years_75 : decode cX8_years 75 = .ok (.lmul, 1) := by decide +kernel
theorem dX8_years_76 : decode cX8_years 76 = .ok (.ldc2_w 249, 3) := by decide +kernel
theorem dX8_years_79 : decode cX8_years 79 = .ok (.ladd, 1) := by decide +kernel
theorem dX8_years_80 : decode cX8_years 80 = .ok (.ldc2_w 251, 3) := by decide +kernel
theorem dX8_years_83 : decode cX8_years 83 = .ok (.lrem, 1) := by decide +kernel
theorem dX8_years_84 : decode cX8_years 84 = .ok (.lstore_n 3, 1) := by decide +kernel
theorem dX8_years_85 : decode cX8_years 85 = .ok (.aload_n 0, 1) := by decide +kernel
theorem dX8_years_86 : decode cX8_years 86 = .ok (.getfield 32, 3) := by decide +kernel
theorem dX8_years_89 : decode cX8_years 89 = .ok (.iload 7, 2) := by decide +kernel
theorem dX8_years_91 : decode cX8_years 91 = .ok (.lload_n 3, 1) := by decide +kernel
theorem dX8_years_92 : decode cX8_years 92 = .ok (.ldc2_w 253, 3) := by decide +kernel
theorem dX8_years_95 : decode cX8_years 95 = .ok (.ldiv, 1) := by decide +kernel
theorem dX8_years_96 : decode cX8_years 96 = .ok (.ldc2_w 255, 3) := by decide +kernel
theorem dX8_years_99 : decode cX8_years 99 = .ok (.lrem, 1) := by decide +kernel
theorem dX8_years_100 : decode cX8_years 100 = .ok (.l2i, 1) := by decide +kernel
theorem dX8_years_101 : decode cX8_years 101 = .ok (.invokevirtual 257, 3) := by decide +kernel
theorem dX8_years_104 : decode cX8_years 104 = .ok (.iinc 7 1, 3) := by decide +kernel
theorem dX8_years_107 : decode cX8_years 107 = .ok (.goto (-48), 3) := by decide +kernel
theorem dX8_years_110 : decode cX8_years 110 = .ok (.aload_n 0, 1) := by decide +kernel
theorem dX8_years_111 : decode cX8_years 111 = .ok (.getfield 32, 3) := by decide +kernel
theorem dX8_years_114 : decode cX8_years 114 = .ok (.bipush 9, 2) := by decide +kernel
theorem dX8_years_116 : decode cX8_years 116 = .ok (.invokevirtual 148, 3) := by decide +kernel
theorem dX8_years_119 : decode cX8_years 119 = .ok (.iload 5, 2) := by decide +kernel
theorem dX8_years_121 : decode cX8_years 121 = .ok (.aload_n 0, 1) := by decide +kernel
theorem dX8_years_122 : decode cX8_years 122 = .ok (.getfield 32, 3) := by decide +kernel
theorem dX8_years_125 : decode cX8_years 125 = .ok (.invokevirtual 151, 3) := by decide +kernel
theorem dX8_years_128 : decode cX8_years 128 = .ok (.iadd, 1) := by decide +kernel
theorem dX8_years_129 : decode cX8_years 129 = .ok (.istore 5, 2) := by decide +kernel
theorem dX8_years_131 : decode cX8_years 131 = .ok (.iinc 6 1, 3) := by decide +kernel
theorem dX8_years_134 : decode cX8_years 134 = .ok (.goto (-98), 3) := by decide +kernel
theorem dX8_years_137 : decode cX8_years 137 = .ok (.iload 5, 2) := by decide +kernel
theorem dX8_years_139 : decode cX8_years 139 = .ok (.ireturn, 1) := by decide +kernel
theorem dX8_part_0 : decode cX8_part 0 = .ok (.iload_n 1, 1) := by decide +kernel
theorem dX8_part_1 : decode cX8_part 1 = .ok (.lookupswitch 37 #[(0, 27), (1, 32)], 27) := by decide +kernel
theorem dX8_part_28 : decode cX8_part 28 = .ok (.aload_n 0, 1) := by decide +kernel
theorem dX8_part_29 : decode cX8_part 29 = .ok (.getfield 54, 3) := by decide +kernel
theorem dX8_part_32 : decode cX8_part 32 = .ok (.lreturn, 1) := by decide +kernel
theorem dX8_part_33 : decode cX8_part 33 = .ok (.aload_n 0, 1) := by decide +kernel
theorem dX8_part_34 : decode cX8_part 34 = .ok (.getfield 58, 3) := by decide +kernel
theorem dX8_part_37 : decode cX8_part 37 = .ok (.lreturn, 1) := by decide +kernel
theorem dX8_part_38 : decode cX8_part 38 = .ok (.aload_n 0, 1) := by decide +kernel
theorem dX8_part_39 : decode cX8_part 39 = .ok (.bipush (-2), 2) := by decide +kernel
theorem dX8_part_41 : decode cX8_part 41 = .ok (.invokevirtual 88, 3) := by decide +kernel
theorem dX8_part_44 : decode cX8_part 44 = .ok (.i2l, 1) := by decide +kernel
theorem dX8_part_45 : decode cX8_part 45 = .ok (.lreturn, 1) := by decide +kernel
theorem dX8_image_0 : decode cX8_image 0 = .ok (.aload_n 0, 1) := by decide +kernel
theorem dX8_image_1 : decode cX8_image 1 = .ok (.iload_n 1, 1) := by decide +kernel
theorem dX8_image_2 : decode cX8_image 2 = .ok (.invokevirtual 260, 3) := by decide +kernel
theorem dX8_image_5 : decode cX8_image 5 = .ok (.astore_n 2, 1) := by decide +kernel
theorem dX8_image_6 : decode cX8_image 6 = .ok (.aload_n 2, 1) := by decide +kernel
theorem dX8_image_7 : decode cX8_image 7 = .ok (.ifnonnull 10, 3) := by decide +kernel
theorem dX8_image_10 : decode cX8_image 10 = .ok (.aload_n 0, 1) := by decide +kernel
theorem dX8_image_11 : decode cX8_image 11 = .ok (.bipush (-2), 2) := by decide +kernel
theorem dX8_image_13 : decode cX8_image 13 = .ok (.invokevirtual 88, 3) := by decide +kernel
theorem dX8_image_16 : decode cX8_image 16 = .ok (.ireturn, 1) := by decide +kernel
theorem dX8_image_17 : decode cX8_image 17 = .ok (.aload_n 2, 1) := by decide +kernel
theorem dX8_image_18 : decode cX8_image 18 = .ok (.aload_n 0, 1) := by decide +kernel
theorem dX8_image_19 : decode cX8_image 19 = .ok (.getfield 10, 3) := by decide +kernel
theorem dX8_image_22 : decode cX8_image 22 = .ok (.invokevirtual 264, 3) := by decide +kernel
theorem dX8_image_25 : decode cX8_image 25 = .ok (.aload_n 2, 1) := by decide +kernel
theorem dX8_image_26 : decode cX8_image 26 = .ok (.iconst 1, 1) := by decide +kernel
theorem dX8_image_27 : decode cX8_image 27 = .ok (.putfield 267, 3) := by decide +kernel
theorem dX8_image_30 : decode cX8_image 30 = .ok (.iconst 1, 1) := by decide +kernel
theorem dX8_image_31 : decode cX8_image 31 = .ok (.ireturn, 1) := by decide +kernel
theorem dX8_from_0 : decode cX8_from 0 = .ok (.aload_n 0, 1) := by decide +kernel
theorem dX8_from_1 : decode cX8_from 1 = .ok (.iload_n 1, 1) := by decide +kernel
theorem dX8_from_2 : decode cX8_from 2 = .ok (.invokevirtual 260, 3) := by decide +kernel
theorem dX8_from_5 : decode cX8_from 5 = .ok (.astore_n 2, 1) := by decide +kernel
theorem dX8_from_6 : decode cX8_from 6 = .ok (.aload_n 2, 1) := by decide +kernel
theorem dX8_from_7 : decode cX8_from 7 = .ok (.ifnonnull 10, 3) := by decide +kernel
theorem dX8_from_10 : decode cX8_from 10 = .ok (.aload_n 0, 1) := by decide +kernel
theorem dX8_from_11 : decode cX8_from 11 = .ok (.bipush (-2), 2) := by decide +kernel
theorem dX8_from_13 : decode cX8_from 13 = .ok (.invokevirtual 88, 3) := by decide +kernel
theorem dX8_from_16 : decode cX8_from 16 = .ok (.ireturn, 1) := by decide +kernel
theorem dX8_from_17 : decode cX8_from 17 = .ok (.aload_n 2, 1) := by decide +kernel
theorem dX8_from_18 : decode cX8_from 18 = .ok (.getfield 267, 3) := by decide +kernel
theorem dX8_from_21 : decode cX8_from 21 = .ok (.ifCond .ne 8, 3) := by decide +kernel
theorem dX8_from_24 : decode cX8_from 24 = .ok (.aload_n 0, 1) := by decide +kernel
theorem dX8_from_25 : decode cX8_from 25 = .ok (.invokevirtual 176, 3) := by decide +kernel
theorem dX8_from_28 : decode cX8_from 28 = .ok (.ireturn, 1) := by decide +kernel
theorem dX8_from_29 : decode cX8_from 29 = .ok (.aload_n 0, 1) := by decide +kernel
theorem dX8_from_30 : decode cX8_from 30 = .ok (.getfield 10, 3) := by decide +kernel
theorem dX8_from_33 : decode cX8_from 33 = .ok (.aload_n 2, 1) := by decide +kernel
theorem dX8_from_34 : decode cX8_from 34 = .ok (.invokevirtual 264, 3) := by decide +kernel
theorem dX8_from_37 : decode cX8_from 37 = .ok (.iconst 1, 1) := by decide +kernel
theorem dX8_from_38 : decode cX8_from 38 = .ok (.ireturn, 1) := by decide +kernel
theorem dX8_status_0 : decode cX8_status 0 = .ok (.iload_n 1, 1) := by decide +kernel
theorem dX8_status_1 : decode cX8_status 1 = .ok (.tableswitch 42 0 2 #[27, 32, 37], 27) := by decide +kernel
theorem dX8_status_28 : decode cX8_status 28 = .ok (.aload_n 0, 1) := by decide +kernel
theorem dX8_status_29 : decode cX8_status 29 = .ok (.getfield 61, 3) := by decide +kernel
theorem dX8_status_32 : decode cX8_status 32 = .ok (.ireturn, 1) := by decide +kernel
theorem dX8_status_33 : decode cX8_status 33 = .ok (.aload_n 0, 1) := by decide +kernel
theorem dX8_status_34 : decode cX8_status 34 = .ok (.getfield 65, 3) := by decide +kernel
theorem dX8_status_37 : decode cX8_status 37 = .ok (.ireturn, 1) := by decide +kernel
theorem dX8_status_38 : decode cX8_status 38 = .ok (.aload_n 0, 1) := by decide +kernel
theorem dX8_status_39 : decode cX8_status 39 = .ok (.getfield 68, 3) := by decide +kernel
theorem dX8_status_42 : decode cX8_status 42 = .ok (.ireturn, 1) := by decide +kernel
theorem dX8_status_43 : decode cX8_status 43 = .ok (.aload_n 0, 1) := by decide +kernel
theorem dX8_status_44 : decode cX8_status 44 = .ok (.iconst (-1), 1) := by decide +kernel
theorem dX8_status_45 : decode cX8_status 45 = .ok (.invokevirtual 88, 3) := by decide +kernel
theorem dX8_status_48 : decode cX8_status 48 = .ok (.ireturn, 1) := by decide +kernel
theorem dX8_count_0 : decode cX8_count 0 = .ok (.iload_n 1, 1) := by decide +kernel
theorem dX8_count_1 : decode cX8_count 1 = .ok (.iconst 0, 1) := by decide +kernel
theorem dX8_count_2 : decode cX8_count 2 = .ok (.bipush 8, 2) := by decide +kernel
theorem dX8_count_4 : decode cX8_count 4 = .ok (.invokestatic 80, 3) := by decide +kernel
theorem dX8_count_7 : decode cX8_count 7 = .ok (.ifCond .eq 11, 3) := by decide +kernel
theorem dX8_count_10 : decode cX8_count 10 = .ok (.aload_n 0, 1) := by decide +kernel
theorem dX8_count_11 : decode cX8_count 11 = .ok (.iload_n 1, 1) := by decide +kernel
theorem dX8_count_12 : decode cX8_count 12 = .ok (.invokevirtual 271, 3) := by decide +kernel
theorem dX8_count_15 : decode cX8_count 15 = .ok (.goto 9, 3) := by decide +kernel
theorem dX8_count_18 : decode cX8_count 18 = .ok (.aload_n 0, 1) := by decide +kernel
theorem dX8_count_19 : decode cX8_count 19 = .ok (.bipush (-2), 2) := by decide +kernel
theorem dX8_count_21 : decode cX8_count 21 = .ok (.invokevirtual 88, 3) := by decide +kernel
theorem dX8_count_24 : decode cX8_count 24 = .ok (.ireturn, 1) := by decide +kernel
theorem dX8_digest_0 : decode cX8_digest 0 = .ok (.ldc2_w 274, 3) := by decide +kernel
theorem dX8_digest_3 : decode cX8_digest 3 = .ok (.lstore_n 1, 1) := by decide +kernel
theorem dX8_digest_4 : decode cX8_digest 4 = .ok (.iconst 0, 1) := by decide +kernel
theorem dX8_digest_5 : decode cX8_digest 5 = .ok (.istore_n 3, 1) := by decide +kernel
theorem dX8_digest_6 : decode cX8_digest 6 = .ok (.iload_n 3, 1) := by decide +kernel
theorem dX8_digest_7 : decode cX8_digest 7 = .ok (.bipush 8, 2) := by decide +kernel
theorem dX8_digest_9 : decode cX8_digest 9 = .ok (.if_icmp .gt 22, 3) := by decide +kernel
theorem dX8_digest_12 : decode cX8_digest 12 = .ok (.ldc2_w 276, 3) := by decide +kernel
theorem dX8_digest_15 : decode cX8_digest 15 = .ok (.lload_n 1, 1) := by decide +kernel
theorem dX8_digest_16 : decode cX8_digest 16 = .ok (.lmul, 1) := by decide +kernel
theorem dX8_digest_17 : decode cX8_digest 17 = .ok (.aload_n 0, 1) := by decide +kernel
theorem dX8_digest_18 : decode cX8_digest 18 = .ok (.iload_n 3, 1) := by decide +kernel
theorem dX8_digest_19 : decode cX8_digest 19 = .ok (.invokevirtual 271, 3) := by decide +kernel
theorem dX8_digest_22 : decode cX8_digest 22 = .ok (.i2l, 1) := by decide +kernel
theorem dX8_digest_23 : decode cX8_digest 23 = .ok (.ladd, 1) := by decide +kernel
theorem dX8_digest_24 : decode cX8_digest 24 = .ok (.lstore_n 1, 1) := by decide +kernel
theorem dX8_digest_25 : decode cX8_digest 25 = .ok (.iinc 3 1, 3) := by decide +kernel
theorem dX8_digest_28 : decode cX8_digest 28 = .ok (.goto (-22), 3) := by decide +kernel
theorem dX8_digest_31 : decode cX8_digest 31 = .ok (.aload_n 0, 1) := by decide +kernel
theorem dX8_digest_32 : decode cX8_digest 32 = .ok (.getfield 10, 3) := by decide +kernel
theorem dX8_digest_35 : decode cX8_digest 35 = .ok (.getfield 71, 3) := by decide +kernel
theorem dX8_digest_38 : decode cX8_digest 38 = .ok (.lload_n 1, 1) := by decide +kernel
theorem dX8_digest_39 : decode cX8_digest 39 = .ok (.invokevirtual 278, 3) := by decide +kernel
theorem dX8_digest_42 : decode cX8_digest 42 = .ok (.lstore_n 1, 1) := by decide +kernel
theorem dX8_digest_43 : decode cX8_digest 43 = .ok (.aload_n 0, 1) := by decide +kernel
theorem dX8_digest_44 : decode cX8_digest 44 = .ok (.getfield 10, 3) := by decide +kernel
theorem dX8_digest_47 : decode cX8_digest 47 = .ok (.lload_n 1, 1) := by decide +kernel
theorem dX8_digest_48 : decode cX8_digest 48 = .ok (.invokevirtual 282, 3) := by decide +kernel
theorem dX8_digest_51 : decode cX8_digest 51 = .ok (.lstore_n 1, 1) := by decide +kernel
theorem dX8_digest_52 : decode cX8_digest 52 = .ok (.ldc2_w 276, 3) := by decide +kernel
theorem dX8_digest_55 : decode cX8_digest 55 = .ok (.lload_n 1, 1) := by decide +kernel
theorem dX8_digest_56 : decode cX8_digest 56 = .ok (.lmul, 1) := by decide +kernel
theorem dX8_digest_57 : decode cX8_digest 57 = .ok (.aload_n 0, 1) := by decide +kernel
theorem dX8_digest_58 : decode cX8_digest 58 = .ok (.getfield 54, 3) := by decide +kernel
theorem dX8_digest_61 : decode cX8_digest 61 = .ok (.ladd, 1) := by decide +kernel
theorem dX8_digest_62 : decode cX8_digest 62 = .ok (.lstore_n 1, 1) := by decide +kernel
theorem dX8_digest_63 : decode cX8_digest 63 = .ok (.ldc2_w 276, 3) := by decide +kernel
theorem dX8_digest_66 : decode cX8_digest 66 = .ok (.lload_n 1, 1) := by decide +kernel
theorem dX8_digest_67 : decode cX8_digest 67 = .ok (.lmul, 1) := by decide +kernel
theorem dX8_digest_68 : decode cX8_digest 68 = .ok (.aload_n 0, 1) := by decide +kernel
theorem dX8_digest_69 : decode cX8_digest 69 = .ok (.getfield 58, 3) := by decide +kernel
theorem dX8_digest_72 : decode cX8_digest 72 = .ok (.ladd, 1) := by decide +kernel
theorem dX8_digest_73 : decode cX8_digest 73 = .ok (.lreturn, 1) := by decide +kernel
theorem dX8_isIn_0 : decode cX8_isIn 0 = .ok (.iload_n 0, 1) := by decide +kernel
theorem dX8_isIn_1 : decode cX8_isIn 1 = .ok (.iload_n 1, 1) := by decide +kernel
theorem dX8_isIn_2 : decode cX8_isIn 2 = .ok (.if_icmp .lt 12, 3) := by decide +kernel
theorem dX8_isIn_5 : decode cX8_isIn 5 = .ok (.iload_n 0, 1) := by decide +kernel
theorem dX8_isIn_6 : decode cX8_isIn 6 = .ok (.iload_n 2, 1) := by decide +kernel
theorem dX8_isIn_7 : decode cX8_isIn 7 = .ok (.if_icmp .gt 7, 3) := by decide +kernel
theorem dX8_isIn_10 : decode cX8_isIn 10 = .ok (.iconst 1, 1) := by decide +kernel
theorem dX8_isIn_11 : decode cX8_isIn 11 = .ok (.goto 4, 3) := by decide +kernel
theorem dX8_isIn_14 : decode cX8_isIn 14 = .ok (.iconst 0, 1) := by decide +kernel
theorem dX8_isIn_15 : decode cX8_isIn 15 = .ok (.ireturn, 1) := by decide +kernel
theorem dX8_isCell_0 : decode cX8_isCell 0 = .ok (.iload_n 0, 1) := by decide +kernel
theorem dX8_isCell_1 : decode cX8_isCell 1 = .ok (.iconst 0, 1) := by decide +kernel
theorem dX8_isCell_2 : decode cX8_isCell 2 = .ok (.bipush 23, 2) := by decide +kernel
theorem dX8_isCell_4 : decode cX8_isCell 4 = .ok (.invokestatic 80, 3) := by decide +kernel
theorem dX8_isCell_7 : decode cX8_isCell 7 = .ok (.ireturn, 1) := by decide +kernel
theorem dX8_isCosy_0 : decode cX8_isCosy 0 = .ok (.iload_n 1, 1) := by decide +kernel
theorem dX8_isCosy_1 : decode cX8_isCosy 1 = .ok (.iconst 0, 1) := by decide +kernel
theorem dX8_isCosy_2 : decode cX8_isCosy 2 = .ok (.aload_n 0, 1) := by decide +kernel
theorem dX8_isCosy_3 : decode cX8_isCosy 3 = .ok (.getfield 10, 3) := by decide +kernel
theorem dX8_isCosy_6 : decode cX8_isCosy 6 = .ok (.getfield 71, 3) := by decide +kernel
theorem dX8_isCosy_9 : decode cX8_isCosy 9 = .ok (.getfield 74, 3) := by decide +kernel
theorem dX8_isCosy_12 : decode cX8_isCosy 12 = .ok (.iconst 1, 1) := by decide +kernel
theorem dX8_isCosy_13 : decode cX8_isCosy 13 = .ok (.isub, 1) := by decide +kernel
theorem dX8_isCosy_14 : decode cX8_isCosy 14 = .ok (.invokestatic 80, 3) := by decide +kernel
theorem dX8_isCosy_17 : decode cX8_isCosy 17 = .ok (.ireturn, 1) := by decide +kernel
theorem dX8_isOneHunted_0 : decode cX8_isOneHunted 0 = .ok (.iload_n 1, 1) := by decide +kernel
theorem dX8_isOneHunted_1 : decode cX8_isOneHunted 1 = .ok (.iconst 0, 1) := by decide +kernel
theorem dX8_isOneHunted_2 : decode cX8_isOneHunted 2 = .ok (.aload_n 0, 1) := by decide +kernel
theorem dX8_isOneHunted_3 : decode cX8_isOneHunted 3 = .ok (.getfield 10, 3) := by decide +kernel
theorem dX8_isOneHunted_6 : decode cX8_isOneHunted 6 = .ok (.getfield 71, 3) := by decide +kernel
theorem dX8_isOneHunted_9 : decode cX8_isOneHunted 9 = .ok (.getfield 109, 3) := by decide +kernel
theorem dX8_isOneHunted_12 : decode cX8_isOneHunted 12 = .ok (.iconst 1, 1) := by decide +kernel
theorem dX8_isOneHunted_13 : decode cX8_isOneHunted 13 = .ok (.isub, 1) := by decide +kernel
theorem dX8_isOneHunted_14 : decode cX8_isOneHunted 14 = .ok (.invokestatic 80, 3) := by decide +kernel
theorem dX8_isOneHunted_17 : decode cX8_isOneHunted 17 = .ok (.ireturn, 1) := by decide +kernel
theorem dX8_bad_0 : decode cX8_bad 0 = .ok (.aload_n 0, 1) := by decide +kernel
theorem dX8_bad_1 : decode cX8_bad 1 = .ok (.dup, 1) := by decide +kernel
theorem dX8_bad_2 : decode cX8_bad 2 = .ok (.getfield 61, 3) := by decide +kernel
theorem dX8_bad_5 : decode cX8_bad 5 = .ok (.iconst 1, 1) := by decide +kernel
theorem dX8_bad_6 : decode cX8_bad 6 = .ok (.iadd, 1) := by decide +kernel
theorem dX8_bad_7 : decode cX8_bad 7 = .ok (.putfield 61, 3) := by decide +kernel
theorem dX8_bad_10 : decode cX8_bad 10 = .ok (.iload_n 1, 1) := by decide +kernel
theorem dX8_bad_11 : decode cX8_bad 11 = .ok (.ireturn, 1) := by decide +kernel
theorem dX8_no_0 : decode cX8_no 0 = .ok (.aload_n 0, 1) := by decide +kernel
theorem dX8_no_1 : decode cX8_no 1 = .ok (.dup, 1) := by decide +kernel
theorem dX8_no_2 : decode cX8_no 2 = .ok (.getfield 65, 3) := by decide +kernel
theorem dX8_no_5 : decode cX8_no 5 = .ok (.iconst 1, 1) := by decide +kernel
theorem dX8_no_6 : decode cX8_no 6 = .ok (.iadd, 1) := by decide +kernel
theorem dX8_no_7 : decode cX8_no 7 = .ok (.putfield 65, 3) := by decide +kernel
theorem dX8_no_10 : decode cX8_no 10 = .ok (.bipush (-3), 2) := by decide +kernel
theorem dX8_no_12 : decode cX8_no 12 = .ok (.ireturn, 1) := by decide +kernel
theorem dX8_full_0 : decode cX8_full 0 = .ok (.aload_n 0, 1) := by decide +kernel
theorem dX8_full_1 : decode cX8_full 1 = .ok (.dup, 1) := by decide +kernel
theorem dX8_full_2 : decode cX8_full 2 = .ok (.getfield 68, 3) := by decide +kernel
theorem dX8_full_5 : decode cX8_full 5 = .ok (.iconst 1, 1) := by decide +kernel
theorem dX8_full_6 : decode cX8_full 6 = .ok (.iadd, 1) := by decide +kernel
theorem dX8_full_7 : decode cX8_full 7 = .ok (.putfield 68, 3) := by decide +kernel
theorem dX8_full_10 : decode cX8_full 10 = .ok (.bipush (-4), 2) := by decide +kernel
theorem dX8_full_12 : decode cX8_full 12 = .ok (.ireturn, 1) := by decide +kernel
theorem dX8_lookAhead_0 : decode cX8_lookAhead 0 = .ok (.aload_n 0, 1) := by decide +kernel
theorem dX8_lookAhead_1 : decode cX8_lookAhead 1 = .ok (.getfield 32, 3) := by decide +kernel
theorem dX8_lookAhead_4 : decode cX8_lookAhead 4 = .ok (.aload_n 0, 1) := by decide +kernel
theorem dX8_lookAhead_5 : decode cX8_lookAhead 5 = .ok (.getfield 10, 3) := by decide +kernel
theorem dX8_lookAhead_8 : decode cX8_lookAhead 8 = .ok (.getfield 71, 3) := by decide +kernel
theorem dX8_lookAhead_11 : decode cX8_lookAhead 11 = .ok (.invokevirtual 135, 3) := by decide +kernel
theorem dX8_lookAhead_14 : decode cX8_lookAhead 14 = .ok (.aload_n 0, 1) := by decide +kernel
theorem dX8_lookAhead_15 : decode cX8_lookAhead 15 = .ok (.getfield 32, 3) := by decide +kernel
theorem dX8_lookAhead_18 : decode cX8_lookAhead 18 = .ok (.iload_n 1, 1) := by decide +kernel
theorem dX8_lookAhead_19 : decode cX8_lookAhead 19 = .ok (.invokevirtual 148, 3) := by decide +kernel
theorem dX8_lookAhead_22 : decode cX8_lookAhead 22 = .ok (.return_, 1) := by decide +kernel
theorem dX8_imageAt_0 : decode cX8_imageAt 0 = .ok (.iload_n 1, 1) := by decide +kernel
theorem dX8_imageAt_1 : decode cX8_imageAt 1 = .ok (.lookupswitch 37 #[(0, 27), (1, 32)], 27) := by decide +kernel
theorem dX8_imageAt_28 : decode cX8_imageAt 28 = .ok (.aload_n 0, 1) := by decide +kernel
theorem dX8_imageAt_29 : decode cX8_imageAt 29 = .ok (.getfield 16, 3) := by decide +kernel
theorem dX8_imageAt_32 : decode cX8_imageAt 32 = .ok (.areturn, 1) := by decide +kernel
theorem dX8_imageAt_33 : decode cX8_imageAt 33 = .ok (.aload_n 0, 1) := by decide +kernel
theorem dX8_imageAt_34 : decode cX8_imageAt 34 = .ok (.getfield 19, 3) := by decide +kernel
theorem dX8_imageAt_37 : decode cX8_imageAt 37 = .ok (.areturn, 1) := by decide +kernel
theorem dX8_imageAt_38 : decode cX8_imageAt 38 = .ok (.aconst_null, 1) := by decide +kernel
theorem dX8_imageAt_39 : decode cX8_imageAt 39 = .ok (.areturn, 1) := by decide +kernel
theorem dX8_countOf_0 : decode cX8_countOf 0 = .ok (.iload_n 1, 1) := by decide +kernel
theorem dX8_countOf_1 : decode cX8_countOf 1 = .ok (.tableswitch 132 0 7 #[47, 58, 69, 80, 91, 102, 113, 121], 47) := by decide +kernel
theorem dX8_countOf_48 : decode cX8_countOf 48 = .ok (.aload_n 0, 1) := by decide +kernel
theorem dX8_countOf_49 : decode cX8_countOf 49 = .ok (.getfield 10, 3) := by decide +kernel
theorem dX8_countOf_52 : decode cX8_countOf 52 = .ok (.getfield 71, 3) := by decide +kernel
theorem dX8_countOf_55 : decode cX8_countOf 55 = .ok (.getfield 74, 3) := by decide +kernel
theorem dX8_countOf_58 : decode cX8_countOf 58 = .ok (.ireturn, 1) := by decide +kernel
theorem dX8_countOf_59 : decode cX8_countOf 59 = .ok (.aload_n 0, 1) := by decide +kernel
theorem dX8_countOf_60 : decode cX8_countOf 60 = .ok (.getfield 10, 3) := by decide +kernel
theorem dX8_countOf_63 : decode cX8_countOf 63 = .ok (.getfield 71, 3) := by decide +kernel
theorem dX8_countOf_66 : decode cX8_countOf 66 = .ok (.getfield 109, 3) := by decide +kernel
theorem dX8_countOf_69 : decode cX8_countOf 69 = .ok (.ireturn, 1) := by decide +kernel
theorem dX8_countOf_70 : decode cX8_countOf 70 = .ok (.aload_n 0, 1) := by decide +kernel
theorem dX8_countOf_71 : decode cX8_countOf 71 = .ok (.getfield 10, 3) := by decide +kernel
theorem dX8_countOf_74 : decode cX8_countOf 74 = .ok (.getfield 71, 3) := by decide +kernel
theorem dX8_countOf_77 : decode cX8_countOf 77 = .ok (.getfield 115, 3) := by decide +kernel
theorem dX8_countOf_80 : decode cX8_countOf 80 = .ok (.ireturn, 1) := by decide +kernel
theorem dX8_countOf_81 : decode cX8_countOf 81 = .ok (.aload_n 0, 1) := by decide +kernel
theorem dX8_countOf_82 : decode cX8_countOf 82 = .ok (.getfield 10, 3) := by decide +kernel
theorem dX8_countOf_85 : decode cX8_countOf 85 = .ok (.getfield 71, 3) := by decide +kernel
theorem dX8_countOf_88 : decode cX8_countOf 88 = .ok (.getfield 145, 3) := by decide +kernel
theorem dX8_countOf_91 : decode cX8_countOf 91 = .ok (.ireturn, 1) := by decide +kernel
theorem dX8_countOf_92 : decode cX8_countOf 92 = .ok (.aload_n 0, 1) := by decide +kernel
theorem dX8_countOf_93 : decode cX8_countOf 93 = .ok (.getfield 10, 3) := by decide +kernel
theorem dX8_countOf_96 : decode cX8_countOf 96 = .ok (.getfield 71, 3) := by decide +kernel
theorem dX8_countOf_99 : decode cX8_countOf 99 = .ok (.invokevirtual 151, 3) := by decide +kernel
theorem dX8_countOf_102 : decode cX8_countOf 102 = .ok (.ireturn, 1) := by decide +kernel
theorem dX8_countOf_103 : decode cX8_countOf 103 = .ok (.aload_n 0, 1) := by decide +kernel
theorem dX8_countOf_104 : decode cX8_countOf 104 = .ok (.getfield 10, 3) := by decide +kernel
theorem dX8_countOf_107 : decode cX8_countOf 107 = .ok (.getfield 71, 3) := by decide +kernel
theorem dX8_countOf_110 : decode cX8_countOf 110 = .ok (.invokevirtual 206, 3) := by decide +kernel
theorem dX8_countOf_113 : decode cX8_countOf 113 = .ok (.ireturn, 1) := by decide +kernel
theorem dX8_countOf_114 : decode cX8_countOf 114 = .ok (.aload_n 0, 1) := by decide +kernel
theorem dX8_countOf_115 : decode cX8_countOf 115 = .ok (.getfield 10, 3) := by decide +kernel
theorem dX8_countOf_118 : decode cX8_countOf 118 = .ok (.getfield 222, 3) := by decide +kernel
theorem dX8_countOf_121 : decode cX8_countOf 121 = .ok (.ireturn, 1) := by decide +kernel
theorem dX8_countOf_122 : decode cX8_countOf 122 = .ok (.aload_n 0, 1) := by decide +kernel
theorem dX8_countOf_123 : decode cX8_countOf 123 = .ok (.getfield 10, 3) := by decide +kernel
theorem dX8_countOf_126 : decode cX8_countOf 126 = .ok (.getfield 96, 3) := by decide +kernel
theorem dX8_countOf_129 : decode cX8_countOf 129 = .ok (.getfield 100, 3) := by decide +kernel
theorem dX8_countOf_132 : decode cX8_countOf 132 = .ok (.ireturn, 1) := by decide +kernel
theorem dX8_countOf_133 : decode cX8_countOf 133 = .ok (.aload_n 0, 1) := by decide +kernel
theorem dX8_countOf_134 : decode cX8_countOf 134 = .ok (.getfield 25, 3) := by decide +kernel
theorem dX8_countOf_137 : decode cX8_countOf 137 = .ok (.getfield 121, 3) := by decide +kernel
theorem dX8_countOf_140 : decode cX8_countOf 140 = .ok (.ireturn, 1) := by decide +kernel
theorem dX8_holdsAs_0 : decode cX8_holdsAs 0 = .ok (.iload_n 1, 1) := by decide +kernel
theorem dX8_holdsAs_1 : decode cX8_holdsAs 1 = .ok (.aload_n 0, 1) := by decide +kernel
theorem dX8_holdsAs_2 : decode cX8_holdsAs 2 = .ok (.getfield 10, 3) := by decide +kernel
theorem dX8_holdsAs_5 : decode cX8_holdsAs 5 = .ok (.getfield 71, 3) := by decide +kernel
theorem dX8_holdsAs_8 : decode cX8_holdsAs 8 = .ok (.getfield 185, 3) := by decide +kernel
theorem dX8_holdsAs_11 : decode cX8_holdsAs 11 = .ok (.iload_n 2, 1) := by decide +kernel
theorem dX8_holdsAs_12 : decode cX8_holdsAs 12 = .ok (.iaload, 1) := by decide +kernel
theorem dX8_holdsAs_13 : decode cX8_holdsAs 13 = .ok (.iload_n 3, 1) := by decide +kernel
theorem dX8_holdsAs_14 : decode cX8_holdsAs 14 = .ok (.invokestatic 285, 3) := by decide +kernel
theorem dX8_holdsAs_17 : decode cX8_holdsAs 17 = .ok (.ireturn, 1) := by decide +kernel
theorem dX8_fittingKinds_0 : decode cX8_fittingKinds 0 = .ok (.iconst 0, 1) := by decide +kernel
theorem dX8_fittingKinds_1 : decode cX8_fittingKinds 1 = .ok (.istore_n 2, 1) := by decide +kernel
theorem dX8_fittingKinds_2 : decode cX8_fittingKinds 2 = .ok (.iconst 0, 1) := by decide +kernel
theorem dX8_fittingKinds_3 : decode cX8_fittingKinds 3 = .ok (.istore_n 3, 1) := by decide +kernel
theorem dX8_fittingKinds_4 : decode cX8_fittingKinds 4 = .ok (.iload_n 3, 1) := by decide +kernel
theorem dX8_fittingKinds_5 : decode cX8_fittingKinds 5 = .ok (.bipush 6, 2) := by decide +kernel
theorem dX8_fittingKinds_7 : decode cX8_fittingKinds 7 = .ok (.if_icmp .ge 24, 3) := by decide +kernel
theorem dX8_fittingKinds_10 : decode cX8_fittingKinds 10 = .ok (.aload_n 0, 1) := by decide +kernel
theorem dX8_fittingKinds_11 : decode cX8_fittingKinds 11 = .ok (.iload_n 3, 1) := by decide +kernel
theorem dX8_fittingKinds_12 : decode cX8_fittingKinds 12 = .ok (.iload_n 1, 1) := by decide +kernel
theorem dX8_fittingKinds_13 : decode cX8_fittingKinds 13 = .ok (.invokevirtual 289, 3) := by decide +kernel
theorem dX8_fittingKinds_16 : decode cX8_fittingKinds 16 = .ok (.ifCond .eq 9, 3) := by decide +kernel
theorem dX8_fittingKinds_19 : decode cX8_fittingKinds 19 = .ok (.iload_n 2, 1) := by decide +kernel
theorem dX8_fittingKinds_20 : decode cX8_fittingKinds 20 = .ok (.iconst 1, 1) := by decide +kernel
theorem dX8_fittingKinds_21 : decode cX8_fittingKinds 21 = .ok (.iload_n 3, 1) := by decide +kernel
theorem dX8_fittingKinds_22 : decode cX8_fittingKinds 22 = .ok (.ishl, 1) := by decide +kernel
theorem dX8_fittingKinds_23 : decode cX8_fittingKinds 23 = .ok (.ior, 1) := by decide +kernel
theorem dX8_fittingKinds_24 : decode cX8_fittingKinds 24 = .ok (.istore_n 2, 1) := by decide +kernel
theorem dX8_fittingKinds_25 : decode cX8_fittingKinds 25 = .ok (.iinc 3 1, 3) := by decide +kernel
theorem dX8_fittingKinds_28 : decode cX8_fittingKinds 28 = .ok (.goto (-24), 3) := by decide +kernel
theorem dX8_fittingKinds_31 : decode cX8_fittingKinds 31 = .ok (.iload_n 2, 1) := by decide +kernel
theorem dX8_fittingKinds_32 : decode cX8_fittingKinds 32 = .ok (.ireturn, 1) := by decide +kernel
theorem dX8_fitsNotes_0 : decode cX8_fitsNotes 0 = .ok (.iconst 0, 1) := by decide +kernel
theorem dX8_fitsNotes_1 : decode cX8_fitsNotes 1 = .ok (.istore_n 3, 1) := by decide +kernel
theorem dX8_fitsNotes_2 : decode cX8_fitsNotes 2 = .ok (.iload_n 3, 1) := by decide +kernel
theorem dX8_fitsNotes_3 : decode cX8_fitsNotes 3 = .ok (.aload_n 0, 1) := by decide +kernel
theorem dX8_fitsNotes_4 : decode cX8_fitsNotes 4 = .ok (.getfield 10, 3) := by decide +kernel
theorem dX8_fitsNotes_7 : decode cX8_fitsNotes 7 = .ok (.getfield 222, 3) := by decide +kernel
theorem dX8_fitsNotes_10 : decode cX8_fitsNotes 10 = .ok (.if_icmp .ge 51, 3) := by decide +kernel
theorem dX8_fitsNotes_13 : decode cX8_fitsNotes 13 = .ok (.aload_n 0, 1) := by decide +kernel
theorem dX8_fitsNotes_14 : decode cX8_fitsNotes 14 = .ok (.getfield 10, 3) := by decide +kernel
theorem dX8_fitsNotes_17 : decode cX8_fitsNotes 17 = .ok (.getfield 293, 3) := by decide +kernel
theorem dX8_fitsNotes_20 : decode cX8_fitsNotes 20 = .ok (.iload_n 3, 1) := by decide +kernel
theorem dX8_fitsNotes_21 : decode cX8_fitsNotes 21 = .ok (.iaload, 1) := by decide +kernel
theorem dX8_fitsNotes_22 : decode cX8_fitsNotes 22 = .ok (.iload_n 2, 1) := by decide +kernel
theorem dX8_fitsNotes_23 : decode cX8_fitsNotes 23 = .ok (.if_icmp .ne 32, 3) := by decide +kernel
theorem dX8_fitsNotes_26 : decode cX8_fitsNotes 26 = .ok (.aload_n 0, 1) := by decide +kernel
theorem dX8_fitsNotes_27 : decode cX8_fitsNotes 27 = .ok (.iload_n 1, 1) := by decide +kernel
theorem dX8_fitsNotes_28 : decode cX8_fitsNotes 28 = .ok (.iload_n 2, 1) := by decide +kernel
theorem dX8_fitsNotes_29 : decode cX8_fitsNotes 29 = .ok (.aload_n 0, 1) := by decide +kernel
theorem dX8_fitsNotes_30 : decode cX8_fitsNotes 30 = .ok (.getfield 10, 3) := by decide +kernel
theorem dX8_fitsNotes_33 : decode cX8_fitsNotes 33 = .ok (.getfield 296, 3) := by decide +kernel
theorem dX8_fitsNotes_36 : decode cX8_fitsNotes 36 = .ok (.iload_n 3, 1) := by decide +kernel
theorem dX8_fitsNotes_37 : decode cX8_fitsNotes 37 = .ok (.iaload, 1) := by decide +kernel
theorem dX8_fitsNotes_38 : decode cX8_fitsNotes 38 = .ok (.invokevirtual 219, 3) := by decide +kernel
theorem dX8_fitsNotes_41 : decode cX8_fitsNotes 41 = .ok (.aload_n 0, 1) := by decide +kernel
theorem dX8_fitsNotes_42 : decode cX8_fitsNotes 42 = .ok (.getfield 10, 3) := by decide +kernel
theorem dX8_fitsNotes_45 : decode cX8_fitsNotes 45 = .ok (.getfield 299, 3) := by decide +kernel
theorem dX8_fitsNotes_48 : decode cX8_fitsNotes 48 = .ok (.iload_n 3, 1) := by decide +kernel
theorem dX8_fitsNotes_49 : decode cX8_fitsNotes 49 = .ok (.iaload, 1) := by decide +kernel
theorem dX8_fitsNotes_50 : decode cX8_fitsNotes 50 = .ok (.if_icmp .eq 5, 3) := by decide +kernel
theorem dX8_fitsNotes_53 : decode cX8_fitsNotes 53 = .ok (.iconst 0, 1) := by decide +kernel
theorem dX8_fitsNotes_54 : decode cX8_fitsNotes 54 = .ok (.ireturn, 1) := by decide +kernel
theorem dX8_fitsNotes_55 : decode cX8_fitsNotes 55 = .ok (.iinc 3 1, 3) := by decide +kernel
theorem dX8_fitsNotes_58 : decode cX8_fitsNotes 58 = .ok (.goto (-56), 3) := by decide +kernel
theorem dX8_fitsNotes_61 : decode cX8_fitsNotes 61 = .ok (.iconst 1, 1) := by decide +kernel
theorem dX8_fitsNotes_62 : decode cX8_fitsNotes 62 = .ok (.ireturn, 1) := by decide +kernel
theorem dX8_mostAlike_0 : decode cX8_mostAlike 0 = .ok (.iconst 0, 1) := by decide +kernel
theorem dX8_mostAlike_1 : decode cX8_mostAlike 1 = .ok (.istore 4, 2) := by decide +kernel
theorem dX8_mostAlike_3 : decode cX8_mostAlike 3 = .ok (.iload 4, 2) := by decide +kernel
theorem dX8_mostAlike_5 : decode cX8_mostAlike 5 = .ok (.bipush 6, 2) := by decide +kernel
theorem dX8_mostAlike_7 : decode cX8_mostAlike 7 = .ok (.if_icmp .ge 24, 3) := by decide +kernel
theorem dX8_mostAlike_10 : decode cX8_mostAlike 10 = .ok (.aload_n 0, 1) := by decide +kernel
theorem dX8_mostAlike_11 : decode cX8_mostAlike 11 = .ok (.getfield 50, 3) := by decide +kernel
theorem dX8_mostAlike_14 : decode cX8_mostAlike 14 = .ok (.iload 4, 2) := by decide +kernel
theorem dX8_mostAlike_16 : decode cX8_mostAlike 16 = .ok (.aload_n 0, 1) := by decide +kernel
theorem dX8_mostAlike_17 : decode cX8_mostAlike 17 = .ok (.iload 4, 2) := by decide +kernel
theorem dX8_mostAlike_19 : decode cX8_mostAlike 19 = .ok (.iload_n 2, 1) := by decide +kernel
theorem dX8_mostAlike_20 : decode cX8_mostAlike 20 = .ok (.iload_n 3, 1) := by decide +kernel
theorem dX8_mostAlike_21 : decode cX8_mostAlike 21 = .ok (.invokevirtual 219, 3) := by decide +kernel
theorem dX8_mostAlike_24 : decode cX8_mostAlike 24 = .ok (.iastore, 1) := by decide +kernel
theorem dX8_mostAlike_25 : decode cX8_mostAlike 25 = .ok (.iinc 4 1, 3) := by decide +kernel
theorem dX8_mostAlike_28 : decode cX8_mostAlike 28 = .ok (.goto (-25), 3) := by decide +kernel
theorem dX8_mostAlike_31 : decode cX8_mostAlike 31 = .ok (.iconst 0, 1) := by decide +kernel
theorem dX8_mostAlike_32 : decode cX8_mostAlike 32 = .ok (.istore 4, 2) := by decide +kernel
theorem dX8_mostAlike_34 : decode cX8_mostAlike 34 = .ok (.iconst 0, 1) := by decide +kernel
theorem dX8_mostAlike_35 : decode cX8_mostAlike 35 = .ok (.istore 5, 2) := by decide +kernel
theorem dX8_mostAlike_37 : decode cX8_mostAlike 37 = .ok (.iload 5, 2) := by decide +kernel
theorem dX8_mostAlike_39 : decode cX8_mostAlike 39 = .ok (.bipush 6, 2) := by decide +kernel
theorem dX8_mostAlike_41 : decode cX8_mostAlike 41 = .ok (.if_icmp .ge 67, 3) := by decide +kernel
theorem dX8_mostAlike_44 : decode cX8_mostAlike 44 = .ok (.iconst 0, 1) := by decide +kernel
theorem dX8_mostAlike_45 : decode cX8_mostAlike 45 = .ok (.istore 6, 2) := by decide +kernel
theorem dX8_mostAlike_47 : decode cX8_mostAlike 47 = .ok (.iconst 0, 1) := by decide +kernel
theorem dX8_mostAlike_48 : decode cX8_mostAlike 48 = .ok (.istore 7, 2) := by decide +kernel
theorem dX8_mostAlike_50 : decode cX8_mostAlike 50 = .ok (.iload 7, 2) := by decide +kernel
theorem dX8_mostAlike_52 : decode cX8_mostAlike 52 = .ok (.bipush 6, 2) := by decide +kernel
theorem dX8_mostAlike_54 : decode cX8_mostAlike 54 = .ok (.if_icmp .ge 39, 3) := by decide +kernel
theorem dX8_mostAlike_57 : decode cX8_mostAlike 57 = .ok (.iload_n 1, 1) := by decide +kernel
theorem dX8_mostAlike_58 : decode cX8_mostAlike 58 = .ok (.iload 7, 2) := by decide +kernel
theorem dX8_mostAlike_60 : decode cX8_mostAlike 60 = .ok (.ishr, 1) := by decide +kernel
theorem dX8_mostAlike_61 : decode cX8_mostAlike 61 = .ok (.iconst 1, 1) := by decide +kernel
theorem dX8_mostAlike_62 : decode cX8_mostAlike 62 = .ok (.iand, 1) := by decide +kernel
theorem dX8_mostAlike_63 : decode cX8_mostAlike 63 = .ok (.iconst 1, 1) := by decide +kernel
theorem dX8_mostAlike_64 : decode cX8_mostAlike 64 = .ok (.if_icmp .ne 23, 3) := by decide +kernel
theorem dX8_mostAlike_67 : decode cX8_mostAlike 67 = .ok (.aload_n 0, 1) := by decide +kernel
theorem dX8_mostAlike_68 : decode cX8_mostAlike 68 = .ok (.getfield 50, 3) := by decide +kernel
theorem dX8_mostAlike_71 : decode cX8_mostAlike 71 = .ok (.iload 7, 2) := by decide +kernel
theorem dX8_mostAlike_73 : decode cX8_mostAlike 73 = .ok (.iaload, 1) := by decide +kernel
theorem dX8_mostAlike_74 : decode cX8_mostAlike 74 = .ok (.aload_n 0, 1) := by decide +kernel
theorem dX8_mostAlike_75 : decode cX8_mostAlike 75 = .ok (.getfield 50, 3) := by decide +kernel
theorem dX8_mostAlike_78 : decode cX8_mostAlike 78 = .ok (.iload 5, 2) := by decide +kernel
theorem dX8_mostAlike_80 : decode cX8_mostAlike 80 = .ok (.iaload, 1) := by decide +kernel
theorem dX8_mostAlike_81 : decode cX8_mostAlike 81 = .ok (.if_icmp .ne 6, 3) := by decide +kernel
theorem dX8_mostAlike_84 : decode cX8_mostAlike 84 = .ok (.iinc 6 1, 3) := by decide +kernel
theorem dX8_mostAlike_87 : decode cX8_mostAlike 87 = .ok (.iinc 7 1, 3) := by decide +kernel
theorem dX8_mostAlike_90 : decode cX8_mostAlike 90 = .ok (.goto (-40), 3) := by decide +kernel
theorem dX8_mostAlike_93 : decode cX8_mostAlike 93 = .ok (.iload 4, 2) := by decide +kernel
theorem dX8_mostAlike_95 : decode cX8_mostAlike 95 = .ok (.iload 6, 2) := by decide +kernel
theorem dX8_mostAlike_97 : decode cX8_mostAlike 97 = .ok (.invokestatic 160, 3) := by decide +kernel
theorem dX8_mostAlike_100 : decode cX8_mostAlike 100 = .ok (.istore 4, 2) := by decide +kernel
theorem dX8_mostAlike_102 : decode cX8_mostAlike 102 = .ok (.iinc 5 1, 3) := by decide +kernel
theorem dX8_mostAlike_105 : decode cX8_mostAlike 105 = .ok (.goto (-68), 3) := by decide +kernel
theorem dX8_mostAlike_108 : decode cX8_mostAlike 108 = .ok (.iload 4, 2) := by decide +kernel
theorem dX8_mostAlike_110 : decode cX8_mostAlike 110 = .ok (.ireturn, 1) := by decide +kernel
theorem dX8_rests_0 : decode cX8_rests 0 = .ok (.aload_n 0, 1) := by decide +kernel
theorem dX8_rests_1 : decode cX8_rests 1 = .ok (.iload_n 1, 1) := by decide +kernel
theorem dX8_rests_2 : decode cX8_rests 2 = .ok (.iload_n 2, 1) := by decide +kernel
theorem dX8_rests_3 : decode cX8_rests 3 = .ok (.iload_n 3, 1) := by decide +kernel
theorem dX8_rests_4 : decode cX8_rests 4 = .ok (.iload 4, 2) := by decide +kernel
theorem dX8_rests_6 : decode cX8_rests 6 = .ok (.invokevirtual 302, 3) := by decide +kernel
theorem dX8_rests_9 : decode cX8_rests 9 = .ok (.istore 5, 2) := by decide +kernel
theorem dX8_rests_11 : decode cX8_rests 11 = .ok (.iconst 0, 1) := by decide +kernel
theorem dX8_rests_12 : decode cX8_rests 12 = .ok (.istore 6, 2) := by decide +kernel
theorem dX8_rests_14 : decode cX8_rests 14 = .ok (.iload 6, 2) := by decide +kernel
theorem dX8_rests_16 : decode cX8_rests 16 = .ok (.aload_n 0, 1) := by decide +kernel
theorem dX8_rests_17 : decode cX8_rests 17 = .ok (.getfield 10, 3) := by decide +kernel
theorem dX8_rests_20 : decode cX8_rests 20 = .ok (.getfield 71, 3) := by decide +kernel
theorem dX8_rests_23 : decode cX8_rests 23 = .ok (.getfield 74, 3) := by decide +kernel
theorem dX8_rests_26 : decode cX8_rests 26 = .ok (.if_icmp .ge 26, 3) := by decide +kernel
theorem dX8_rests_29 : decode cX8_rests 29 = .ok (.aload_n 0, 1) := by decide +kernel
theorem dX8_rests_30 : decode cX8_rests 30 = .ok (.iload_n 1, 1) := by decide +kernel
theorem dX8_rests_31 : decode cX8_rests 31 = .ok (.iload 6, 2) := by decide +kernel
theorem dX8_rests_33 : decode cX8_rests 33 = .ok (.iload_n 3, 1) := by decide +kernel
theorem dX8_rests_34 : decode cX8_rests 34 = .ok (.iload 4, 2) := by decide +kernel
theorem dX8_rests_36 : decode cX8_rests 36 = .ok (.invokevirtual 302, 3) := by decide +kernel
theorem dX8_rests_39 : decode cX8_rests 39 = .ok (.iload 5, 2) := by decide +kernel
theorem dX8_rests_41 : decode cX8_rests 41 = .ok (.if_icmp .le 5, 3) := by decide +kernel
theorem dX8_rests_44 : decode cX8_rests 44 = .ok (.iconst 0, 1) := by decide +kernel
theorem dX8_rests_45 : decode cX8_rests 45 = .ok (.ireturn, 1) := by decide +kernel
theorem dX8_rests_46 : decode cX8_rests 46 = .ok (.iinc 6 1, 3) := by decide +kernel
theorem dX8_rests_49 : decode cX8_rests 49 = .ok (.goto (-35), 3) := by decide +kernel
theorem dX8_rests_52 : decode cX8_rests 52 = .ok (.iconst 1, 1) := by decide +kernel
theorem dX8_rests_53 : decode cX8_rests 53 = .ok (.ireturn, 1) := by decide +kernel
theorem dX8_getsBy_0 : decode cX8_getsBy 0 = .ok (.bipush 9, 2) := by decide +kernel
theorem dX8_getsBy_2 : decode cX8_getsBy 2 = .ok (.aload_n 0, 1) := by decide +kernel
theorem dX8_getsBy_3 : decode cX8_getsBy 3 = .ok (.getfield 10, 3) := by decide +kernel
theorem dX8_getsBy_6 : decode cX8_getsBy 6 = .ok (.getfield 71, 3) := by decide +kernel
theorem dX8_getsBy_9 : decode cX8_getsBy 9 = .ok (.getfield 306, 3) := by decide +kernel
theorem dX8_getsBy_12 : decode cX8_getsBy 12 = .ok (.iload_n 1, 1) := by decide +kernel
theorem dX8_getsBy_13 : decode cX8_getsBy 13 = .ok (.iaload, 1) := by decide +kernel
theorem dX8_getsBy_14 : decode cX8_getsBy 14 = .ok (.aload_n 0, 1) := by decide +kernel
theorem dX8_getsBy_15 : decode cX8_getsBy 15 = .ok (.getfield 10, 3) := by decide +kernel
theorem dX8_getsBy_18 : decode cX8_getsBy 18 = .ok (.getfield 71, 3) := by decide +kernel
theorem dX8_getsBy_21 : decode cX8_getsBy 21 = .ok (.getfield 170, 3) := by decide +kernel
theorem dX8_getsBy_24 : decode cX8_getsBy 24 = .ok (.iload_n 2, 1) := by decide +kernel
theorem dX8_getsBy_25 : decode cX8_getsBy 25 = .ok (.iaload, 1) := by decide +kernel
theorem dX8_getsBy_26 : decode cX8_getsBy 26 = .ok (.invokestatic 309, 3) := by decide +kernel
theorem dX8_getsBy_29 : decode cX8_getsBy 29 = .ok (.isub, 1) := by decide +kernel
theorem dX8_getsBy_30 : decode cX8_getsBy 30 = .ok (.istore 5, 2) := by decide +kernel
theorem dX8_getsBy_32 : decode cX8_getsBy 32 = .ok (.aload_n 0, 1) := by decide +kernel
theorem dX8_getsBy_33 : decode cX8_getsBy 33 = .ok (.getfield 10, 3) := by decide +kernel
theorem dX8_getsBy_36 : decode cX8_getsBy 36 = .ok (.getfield 71, 3) := by decide +kernel
theorem dX8_getsBy_39 : decode cX8_getsBy 39 = .ok (.iload_n 2, 1) := by decide +kernel
theorem dX8_getsBy_40 : decode cX8_getsBy 40 = .ok (.invokevirtual 188, 3) := by decide +kernel
theorem dX8_getsBy_43 : decode cX8_getsBy 43 = .ok (.aload_n 0, 1) := by decide +kernel
theorem dX8_getsBy_44 : decode cX8_getsBy 44 = .ok (.getfield 10, 3) := by decide +kernel
theorem dX8_getsBy_47 : decode cX8_getsBy 47 = .ok (.getfield 71, 3) := by decide +kernel
theorem dX8_getsBy_50 : decode cX8_getsBy 50 = .ok (.iload_n 2, 1) := by decide +kernel
theorem dX8_getsBy_51 : decode cX8_getsBy 51 = .ok (.invokevirtual 314, 3) := by decide +kernel
theorem dX8_getsBy_54 : decode cX8_getsBy 54 = .ok (.isub, 1) := by decide +kernel
theorem dX8_getsBy_55 : decode cX8_getsBy 55 = .ok (.istore 6, 2) := by decide +kernel
theorem dX8_getsBy_57 : decode cX8_getsBy 57 = .ok (.iload 6, 2) := by decide +kernel
theorem dX8_getsBy_59 : decode cX8_getsBy 59 = .ok (.iconst 1, 1) := by decide +kernel
theorem dX8_getsBy_60 : decode cX8_getsBy 60 = .ok (.if_icmp .ne 18, 3) := by decide +kernel
theorem dX8_getsBy_63 : decode cX8_getsBy 63 = .ok (.iload_n 2, 1) := by decide +kernel
theorem dX8_getsBy_64 : decode cX8_getsBy 64 = .ok (.iload 4, 2) := by decide +kernel
theorem dX8_getsBy_66 : decode cX8_getsBy 66 = .ok (.if_icmp .ne 12, 3) := by decide +kernel
theorem dX8_getsBy_69 : decode cX8_getsBy 69 = .ok (.iload_n 1, 1) := by decide +kernel
theorem dX8_getsBy_70 : decode cX8_getsBy 70 = .ok (.iload_n 3, 1) := by decide +kernel
theorem dX8_getsBy_71 : decode cX8_getsBy 71 = .ok (.if_icmp .le 7, 3) := by decide +kernel
theorem dX8_getsBy_74 : decode cX8_getsBy 74 = .ok (.iconst 1, 1) := by decide +kernel
theorem dX8_getsBy_75 : decode cX8_getsBy 75 = .ok (.goto 4, 3) := by decide +kernel
theorem dX8_getsBy_78 : decode cX8_getsBy 78 = .ok (.iconst 0, 1) := by decide +kernel
theorem dX8_getsBy_79 : decode cX8_getsBy 79 = .ok (.istore 7, 2) := by decide +kernel
theorem dX8_getsBy_81 : decode cX8_getsBy 81 = .ok (.iload 6, 2) := by decide +kernel
theorem dX8_getsBy_83 : decode cX8_getsBy 83 = .ok (.ifCond .le 8, 3) := by decide +kernel
theorem dX8_getsBy_86 : decode cX8_getsBy 86 = .ok (.iload 7, 2) := by decide +kernel
theorem dX8_getsBy_88 : decode cX8_getsBy 88 = .ok (.ifCond .eq 9, 3) := by decide +kernel
theorem dX8_getsBy_91 : decode cX8_getsBy 91 = .ok (.iload 5, 2) := by decide +kernel
theorem dX8_getsBy_93 : decode cX8_getsBy 93 = .ok (.ineg, 1) := by decide +kernel
theorem dX8_getsBy_94 : decode cX8_getsBy 94 = .ok (.goto 5, 3) := by decide +kernel
theorem dX8_getsBy_97 : decode cX8_getsBy 97 = .ok (.iload 5, 2) := by decide +kernel
theorem dX8_getsBy_99 : decode cX8_getsBy 99 = .ok (.ireturn, 1) := by decide +kernel
theorem dX9_init_0 : decode cX9_init 0 = .ok (.aload_n 0, 1) := by decide +kernel
theorem dX9_init_1 : decode cX9_init 1 = .ok (.invokespecial 1, 3) := by decide +kernel
theorem dX9_init_4 : decode cX9_init 4 = .ok (.aload_n 0, 1) := by decide +kernel
theorem dX9_init_5 : decode cX9_init 5 = .ok (.sipush 267, 3) := by decide +kernel
theorem dX9_init_8 : decode cX9_init 8 = .ok (.newarray .int, 2) := by decide +kernel
theorem dX9_init_10 : decode cX9_init 10 = .ok (.putfield 7, 3) := by decide +kernel
theorem dX9_init_13 : decode cX9_init 13 = .ok (.aload_n 0, 1) := by decide +kernel
theorem dX9_init_14 : decode cX9_init 14 = .ok (.sipush 267, 3) := by decide +kernel
theorem dX9_init_17 : decode cX9_init 17 = .ok (.newarray .int, 2) := by decide +kernel
theorem dX9_init_19 : decode cX9_init 19 = .ok (.putfield 13, 3) := by decide +kernel
theorem dX9_init_22 : decode cX9_init 22 = .ok (.aload_n 0, 1) := by decide +kernel
theorem dX9_init_23 : decode cX9_init 23 = .ok (.sipush 267, 3) := by decide +kernel
theorem dX9_init_26 : decode cX9_init 26 = .ok (.newarray .int, 2) := by decide +kernel
theorem dX9_init_28 : decode cX9_init 28 = .ok (.putfield 16, 3) := by decide +kernel
theorem dX9_init_31 : decode cX9_init 31 = .ok (.aload_n 0, 1) := by decide +kernel
theorem dX9_init_32 : decode cX9_init 32 = .ok (.sipush 534, 3) := by decide +kernel
theorem dX9_init_35 : decode cX9_init 35 = .ok (.newarray .int, 2) := by decide +kernel
theorem dX9_init_37 : decode cX9_init 37 = .ok (.putfield 19, 3) := by decide +kernel
theorem dX9_init_40 : decode cX9_init 40 = .ok (.aload_n 0, 1) := by decide +kernel
theorem dX9_init_41 : decode cX9_init 41 = .ok (.iconst 2, 1) := by decide +kernel
theorem dX9_init_42 : decode cX9_init 42 = .ok (.newarray .boolean, 2) := by decide +kernel
theorem dX9_init_44 : decode cX9_init 44 = .ok (.putfield 22, 3) := by decide +kernel
theorem dX9_init_47 : decode cX9_init 47 = .ok (.aload_n 0, 1) := by decide +kernel
theorem dX9_init_48 : decode cX9_init 48 = .ok (.iconst 3, 1) := by decide +kernel
theorem dX9_init_49 : decode cX9_init 49 = .ok (.newarray .int, 2) := by decide +kernel
theorem dX9_init_51 : decode cX9_init 51 = .ok (.putfield 26, 3) := by decide +kernel
theorem dX9_init_54 : decode cX9_init 54 = .ok (.aload_n 0, 1) := by decide +kernel
theorem dX9_init_55 : decode cX9_init 55 = .ok (.lconst 1, 1) := by decide +kernel
theorem dX9_init_56 : decode cX9_init 56 = .ok (.putfield 29, 3) := by decide +kernel
theorem dX9_init_59 : decode cX9_init 59 = .ok (.aload_n 0, 1) := by decide +kernel
theorem dX9_init_60 : decode cX9_init 60 = .ok (.sipush 150, 3) := by decide +kernel
theorem dX9_init_63 : decode cX9_init 63 = .ok (.newarray .int, 2) := by decide +kernel
theorem dX9_init_65 : decode cX9_init 65 = .ok (.putfield 33, 3) := by decide +kernel
theorem dX9_init_68 : decode cX9_init 68 = .ok (.aload_n 0, 1) := by decide +kernel
theorem dX9_init_69 : decode cX9_init 69 = .ok (.iconst 4, 1) := by decide +kernel
theorem dX9_init_70 : decode cX9_init 70 = .ok (.newarray .int, 2) := by decide +kernel
theorem dX9_init_72 : decode cX9_init 72 = .ok (.putfield 36, 3) := by decide +kernel
theorem dX9_init_75 : decode cX9_init 75 = .ok (.return_, 1) := by decide +kernel
theorem dX9_in_0 : decode cX9_in 0 = .ok (.iload_n 0, 1) := by decide +kernel
theorem dX9_in_1 : decode cX9_in 1 = .ok (.iload_n 1, 1) := by decide +kernel
theorem dX9_in_2 : decode cX9_in 2 = .ok (.if_icmp .lt 12, 3) := by decide +kernel
theorem dX9_in_5 : decode cX9_in 5 = .ok (.iload_n 0, 1) := by decide +kernel
theorem dX9_in_6 : decode cX9_in 6 = .ok (.iload_n 2, 1) := by decide +kernel
theorem dX9_in_7 : decode cX9_in 7 = .ok (.if_icmp .gt 7, 3) := by decide +kernel
theorem dX9_in_10 : decode cX9_in 10 = .ok (.iconst 1, 1) := by decide +kernel
theorem dX9_in_11 : decode cX9_in 11 = .ok (.goto 4, 3) := by decide +kernel
theorem dX9_in_14 : decode cX9_in 14 = .ok (.iconst 0, 1) := by decide +kernel
theorem dX9_in_15 : decode cX9_in 15 = .ok (.ireturn, 1) := by decide +kernel
theorem dX9_bits_0 : decode cX9_bits 0 = .ok (.iconst 0, 1) := by decide +kernel
theorem dX9_bits_1 : decode cX9_bits 1 = .ok (.istore_n 1, 1) := by decide +kernel
theorem dX9_bits_2 : decode cX9_bits 2 = .ok (.iconst 0, 1) := by decide +kernel
theorem dX9_bits_3 : decode cX9_bits 3 = .ok (.istore_n 2, 1) := by decide +kernel
theorem dX9_bits_4 : decode cX9_bits 4 = .ok (.iload_n 2, 1) := by decide +kernel
theorem dX9_bits_5 : decode cX9_bits 5 = .ok (.bipush 8, 2) := by decide +kernel
theorem dX9_bits_7 : decode cX9_bits 7 = .ok (.if_icmp .ge 17, 3) := by decide +kernel
theorem dX9_bits_10 : decode cX9_bits 10 = .ok (.iload_n 1, 1) := by decide +kernel
theorem dX9_bits_11 : decode cX9_bits 11 = .ok (.iload_n 0, 1) := by decide +kernel
theorem dX9_bits_12 : decode cX9_bits 12 = .ok (.iload_n 2, 1) := by decide +kernel
theorem dX9_bits_13 : decode cX9_bits 13 = .ok (.ishr, 1) := by decide +kernel
theorem dX9_bits_14 : decode cX9_bits 14 = .ok (.iconst 1, 1) := by decide +kernel
theorem dX9_bits_15 : decode cX9_bits 15 = .ok (.iand, 1) := by decide +kernel
theorem dX9_bits_16 : decode cX9_bits 16 = .ok (.iadd, 1) := by decide +kernel
theorem dX9_bits_17 : decode cX9_bits 17 = .ok (.istore_n 1, 1) := by decide +kernel
theorem dX9_bits_18 : decode cX9_bits 18 = .ok (.iinc 2 1, 3) := by decide +kernel
theorem dX9_bits_21 : decode cX9_bits 21 = .ok (.goto (-17), 3) := by decide +kernel
theorem dX9_bits_24 : decode cX9_bits 24 = .ok (.iload_n 1, 1) := by decide +kernel
theorem dX9_bits_25 : decode cX9_bits 25 = .ok (.ireturn, 1) := by decide +kernel
theorem dX9_badBy_0 : decode cX9_badBy 0 = .ok (.aload_n 0, 1) := by decide +kernel
theorem dX9_badBy_1 : decode cX9_badBy 1 = .ok (.getfield 26, 3) := by decide +kernel
theorem dX9_badBy_4 : decode cX9_badBy 4 = .ok (.iconst 0, 1) := by decide +kernel
theorem dX9_badBy_5 : decode cX9_badBy 5 = .ok (.dup2, 1) := by decide +kernel
theorem dX9_badBy_6 : decode cX9_badBy 6 = .ok (.iaload, 1) := by decide +kernel
theorem dX9_badBy_7 : decode cX9_badBy 7 = .ok (.iconst 1, 1) := by decide +kernel
theorem dX9_badBy_8 : decode cX9_badBy 8 = .ok (.iadd, 1) := by decide +kernel
theorem dX9_badBy_9 : decode cX9_badBy 9 = .ok (.iastore, 1) := by decide +kernel
theorem dX9_badBy_10 : decode cX9_badBy 10 = .ok (.iload_n 1, 1) := by decide +kernel
theorem dX9_badBy_11 : decode cX9_badBy 11 = .ok (.ireturn, 1) := by decide +kernel
theorem dX9_bad_0 : decode cX9_bad 0 = .ok (.aload_n 0, 1) := by decide +kernel
theorem dX9_bad_1 : decode cX9_bad 1 = .ok (.bipush (-2), 2) := by decide +kernel
theorem dX9_bad_3 : decode cX9_bad 3 = .ok (.invokevirtual 39, 3) := by decide +kernel
theorem dX9_bad_6 : decode cX9_bad 6 = .ok (.ireturn, 1) := by decide +kernel
theorem dX9_no_0 : decode cX9_no 0 = .ok (.aload_n 0, 1) := by decide +kernel
theorem dX9_no_1 : decode cX9_no 1 = .ok (.getfield 26, 3) := by decide +kernel
theorem dX9_no_4 : decode cX9_no 4 = .ok (.iconst 1, 1) := by decide +kernel
theorem dX9_no_5 : decode cX9_no 5 = .ok (.dup2, 1) := by decide +kernel
theorem dX9_no_6 : decode cX9_no 6 = .ok (.iaload, 1) := by decide +kernel
theorem dX9_no_7 : decode cX9_no 7 = .ok (.iconst 1, 1) := by decide +kernel
theorem dX9_no_8 : decode cX9_no 8 = .ok (.iadd, 1) := by decide +kernel
theorem dX9_no_9 : decode cX9_no 9 = .ok (.iastore, 1) := by decide +kernel
theorem dX9_no_10 : decode cX9_no 10 = .ok (.bipush (-3), 2) := by decide +kernel
theorem dX9_no_12 : decode cX9_no 12 = .ok (.ireturn, 1) := by decide +kernel
theorem dX9_full_0 : decode cX9_full 0 = .ok (.aload_n 0, 1) := by decide +kernel
theorem dX9_full_1 : decode cX9_full 1 = .ok (.getfield 26, 3) := by decide +kernel
theorem dX9_full_4 : decode cX9_full 4 = .ok (.iconst 2, 1) := by decide +kernel
theorem dX9_full_5 : decode cX9_full 5 = .ok (.dup2, 1) := by decide +kernel
theorem dX9_full_6 : decode cX9_full 6 = .ok (.iaload, 1) := by decide +kernel
theorem dX9_full_7 : decode cX9_full 7 = .ok (.iconst 1, 1) := by decide +kernel
theorem dX9_full_8 : decode cX9_full 8 = .ok (.iadd, 1) := by decide +kernel
theorem dX9_full_9 : decode cX9_full 9 = .ok (.iastore, 1) := by decide +kernel
theorem dX9_full_10 : decode cX9_full 10 = .ok (.bipush (-4), 2) := by decide +kernel
theorem dX9_full_12 : decode cX9_full 12 = .ok (.ireturn, 1) := by decide +kernel
theorem dX9_isCosy_0 : decode cX9_isCosy 0 = .ok (.iload_n 1, 1) := by decide +kernel
theorem dX9_isCosy_1 : decode cX9_isCosy 1 = .ok (.iconst 0, 1) := by decide +kernel
theorem dX9_isCosy_2 : decode cX9_isCosy 2 = .ok (.aload_n 0, 1) := by decide +kernel
theorem dX9_isCosy_3 : decode cX9_isCosy 3 = .ok (.getfield 7, 3) := by decide +kernel
theorem dX9_isCosy_6 : decode cX9_isCosy 6 = .ok (.bipush 26, 2) := by decide +kernel
theorem dX9_isCosy_8 : decode cX9_isCosy 8 = .ok (.iaload, 1) := by decide +kernel
theorem dX9_isCosy_9 : decode cX9_isCosy 9 = .ok (.iconst 1, 1) := by decide +kernel
theorem dX9_isCosy_10 : decode cX9_isCosy 10 = .ok (.isub, 1) := by decide +kernel
theorem dX9_isCosy_11 : decode cX9_isCosy 11 = .ok (.invokestatic 43, 3) := by decide +kernel
theorem dX9_isCosy_14 : decode cX9_isCosy 14 = .ok (.ireturn, 1) := by decide +kernel
theorem dX9_isHunted_0 : decode cX9_isHunted 0 = .ok (.iload_n 1, 1) := by decide +kernel
theorem dX9_isHunted_1 : decode cX9_isHunted 1 = .ok (.iconst 0, 1) := by decide +kernel
theorem dX9_isHunted_2 : decode cX9_isHunted 2 = .ok (.aload_n 0, 1) := by decide +kernel
theorem dX9_isHunted_3 : decode cX9_isHunted 3 = .ok (.getfield 7, 3) := by decide +kernel
theorem dX9_isHunted_6 : decode cX9_isHunted 6 = .ok (.bipush 37, 2) := by decide +kernel
theorem dX9_isHunted_8 : decode cX9_isHunted 8 = .ok (.iaload, 1) := by decide +kernel
theorem dX9_isHunted_9 : decode cX9_isHunted 9 = .ok (.iconst 1, 1) := by decide +kernel
theorem dX9_isHunted_10 : decode cX9_isHunted 10 = .ok (.isub, 1) := by decide +kernel
theorem dX9_isHunted_11 : decode cX9_isHunted 11 = .ok (.invokestatic 43, 3) := by decide +kernel
theorem dX9_isHunted_14 : decode cX9_isHunted 14 = .ok (.ireturn, 1) := by decide +kernel
theorem dX9_isCell_0 : decode cX9_isCell 0 = .ok (.iload_n 0, 1) := by decide +kernel
theorem dX9_isCell_1 : decode cX9_isCell 1 = .ok (.iconst 0, 1) := by decide +kernel
theorem dX9_isCell_2 : decode cX9_isCell 2 = .ok (.bipush 23, 2) := by decide +kernel
theorem dX9_isCell_4 : decode cX9_isCell 4 = .ok (.invokestatic 43, 3) := by decide +kernel
theorem dX9_isCell_7 : decode cX9_isCell 7 = .ok (.ireturn, 1) := by decide +kernel
theorem dX9_bring_0 : decode cX9_bring 0 = .ok (.iconst 0, 1) := by decide +kernel
theorem dX9_bring_1 : decode cX9_bring 1 = .ok (.istore 5, 2) := by decide +kernel
theorem dX9_bring_3 : decode cX9_bring 3 = .ok (.iload 5, 2) := by decide +kernel
theorem dX9_bring_5 : decode cX9_bring 5 = .ok (.iload 4, 2) := by decide +kernel
theorem dX9_bring_7 : decode cX9_bring 7 = .ok (.if_icmp .ge 21, 3) := by decide +kernel
theorem dX9_bring_10 : decode cX9_bring 10 = .ok (.aload_n 2, 1) := by decide +kernel
theorem dX9_bring_11 : decode cX9_bring 11 = .ok (.iload_n 3, 1) := by decide +kernel
theorem dX9_bring_12 : decode cX9_bring 12 = .ok (.iload 5, 2) := by decide +kernel
theorem dX9_bring_14 : decode cX9_bring 14 = .ok (.iadd, 1) := by decide +kernel
theorem dX9_bring_15 : decode cX9_bring 15 = .ok (.aload_n 0, 1) := by decide +kernel
theorem dX9_bring_16 : decode cX9_bring 16 = .ok (.iload_n 1, 1) := by decide +kernel
theorem dX9_bring_17 : decode cX9_bring 17 = .ok (.iload 5, 2) := by decide +kernel
theorem dX9_bring_19 : decode cX9_bring 19 = .ok (.iadd, 1) := by decide +kernel
theorem dX9_bring_20 : decode cX9_bring 20 = .ok (.iaload, 1) := by decide +kernel
theorem dX9_bring_21 : decode cX9_bring 21 = .ok (.iastore, 1) := by decide +kernel
theorem dX9_bring_22 : decode cX9_bring 22 = .ok (.iinc 5 1, 3) := by decide +kernel
theorem dX9_bring_25 : decode cX9_bring 25 = .ok (.goto (-22), 3) := by decide +kernel
theorem dX9_bring_28 : decode cX9_bring 28 = .ok (.return_, 1) := by decide +kernel
theorem dX9_begin_0 : decode cX9_begin 0 = .ok (.iconst 0, 1) := by decide +kernel
theorem dX9_begin_1 : decode cX9_begin 1 = .ok (.istore_n 1, 1) := by decide +kernel
theorem dX9_begin_2 : decode cX9_begin 2 = .ok (.iload_n 1, 1) := by decide +kernel
theorem dX9_begin_3 : decode cX9_begin 3 = .ok (.sipush 267, 3) := by decide +kernel
theorem dX9_begin_6 : decode cX9_begin 6 = .ok (.if_icmp .ge 13, 3) := by decide +kernel
theorem dX9_begin_9 : decode cX9_begin 9 = .ok (.aload_n 0, 1) := by decide +kernel
theorem dX9_begin_10 : decode cX9_begin 10 = .ok (.iload_n 1, 1) := by decide +kernel
theorem dX9_begin_11 : decode cX9_begin 11 = .ok (.iconst 0, 1) := by decide +kernel
theorem dX9_begin_12 : decode cX9_begin 12 = .ok (.iastore, 1) := by decide +kernel
theorem dX9_begin_13 : decode cX9_begin 13 = .ok (.iinc 1 1, 3) := by decide +kernel
theorem dX9_begin_16 : decode cX9_begin 16 = .ok (.goto (-14), 3) := by decide +kernel
theorem dX9_begin_19 : decode cX9_begin 19 = .ok (.return_, 1) := by decide +kernel
theorem dX9_common_0 : decode cX9_common 0 = .ok (.aload_n 0, 1) := by decide +kernel
theorem dX9_common_1 : decode cX9_common 1 = .ok (.getfield 7, 3) := by decide +kernel
theorem dX9_common_4 : decode cX9_common 4 = .ok (.bipush 26, 2) := by decide +kernel
theorem dX9_common_6 : decode cX9_common 6 = .ok (.iaload, 1) := by decide +kernel
theorem dX9_common_7 : decode cX9_common 7 = .ok (.istore_n 1, 1) := by decide +kernel
theorem dX9_common_8 : decode cX9_common 8 = .ok (.aload_n 0, 1) := by decide +kernel
theorem dX9_common_9 : decode cX9_common 9 = .ok (.getfield 7, 3) := by decide +kernel
theorem dX9_common_12 : decode cX9_common 12 = .ok (.invokestatic 47, 3) := by decide +kernel
theorem dX9_common_15 : decode cX9_common 15 = .ok (.iload_n 1, 1) := by decide +kernel
theorem dX9_common_16 : decode cX9_common 16 = .ok (.ireturn, 1) := by decide +kernel
theorem dX9_addCosy_0 : decode cX9_addCosy 0 = .ok (.aload_n 0, 1) := by decide +kernel
theorem dX9_addCosy_1 : decode cX9_addCosy 1 = .ok (.bipush 26, 2) := by decide +kernel
theorem dX9_addCosy_3 : decode cX9_addCosy 3 = .ok (.iaload, 1) := by decide +kernel
theorem dX9_addCosy_4 : decode cX9_addCosy 4 = .ok (.istore 4, 2) := by decide +kernel
theorem dX9_addCosy_6 : decode cX9_addCosy 6 = .ok (.aload_n 0, 1) := by decide +kernel
theorem dX9_addCosy_7 : decode cX9_addCosy 7 = .ok (.bipush 27, 2) := by decide +kernel
theorem dX9_addCosy_9 : decode cX9_addCosy 9 = .ok (.iload 4, 2) := by decide +kernel
theorem dX9_addCosy_11 : decode cX9_addCosy 11 = .ok (.iadd, 1) := by decide +kernel
theorem dX9_addCosy_12 : decode cX9_addCosy 12 = .ok (.iload_n 1, 1) := by decide +kernel
theorem dX9_addCosy_13 : decode cX9_addCosy 13 = .ok (.iastore, 1) := by decide +kernel
theorem dX9_addCosy_14 : decode cX9_addCosy 14 = .ok (.aload_n 0, 1) := by decide +kernel
theorem dX9_addCosy_15 : decode cX9_addCosy 15 = .ok (.iconst 1, 1) := by decide +kernel
theorem dX9_addCosy_16 : decode cX9_addCosy 16 = .ok (.iload 4, 2) := by decide +kernel
theorem dX9_addCosy_18 : decode cX9_addCosy 18 = .ok (.iadd, 1) := by decide +kernel
theorem dX9_addCosy_19 : decode cX9_addCosy 19 = .ok (.iload_n 2, 1) := by decide +kernel
theorem dX9_addCosy_20 : decode cX9_addCosy 20 = .ok (.iastore, 1) := by decide +kernel
theorem dX9_addCosy_21 : decode cX9_addCosy 21 = .ok (.aload_n 0, 1) := by decide +kernel
theorem dX9_addCosy_22 : decode cX9_addCosy 22 = .ok (.bipush 32, 2) := by decide +kernel
theorem dX9_addCosy_24 : decode cX9_addCosy 24 = .ok (.iload 4, 2) := by decide +kernel
theorem dX9_addCosy_26 : decode cX9_addCosy 26 = .ok (.iadd, 1) := by decide +kernel
theorem dX9_addCosy_27 : decode cX9_addCosy 27 = .ok (.iload_n 3, 1) := by decide +kernel
theorem dX9_addCosy_28 : decode cX9_addCosy 28 = .ok (.iastore, 1) := by decide +kernel
theorem dX9_addCosy_29 : decode cX9_addCosy 29 = .ok (.aload_n 0, 1) := by decide +kernel
theorem dX9_addCosy_30 : decode cX9_addCosy 30 = .ok (.bipush 26, 2) := by decide +kernel
theorem dX9_addCosy_32 : decode cX9_addCosy 32 = .ok (.dup2, 1) := by decide +kernel
theorem dX9_addCosy_33 : decode cX9_addCosy 33 = .ok (.iaload, 1) := by decide +kernel
theorem dX9_addCosy_34 : decode cX9_addCosy 34 = .ok (.iconst 1, 1) := by decide +kernel
theorem dX9_addCosy_35 : decode cX9_addCosy 35 = .ok (.iadd, 1) := by decide +kernel
theorem dX9_addCosy_36 : decode cX9_addCosy 36 = .ok (.iastore, 1) := by decide +kernel
theorem dX9_addCosy_37 : decode cX9_addCosy 37 = .ok (.iload 4, 2) := by decide +kernel
theorem dX9_addCosy_39 : decode cX9_addCosy 39 = .ok (.ireturn, 1) := by decide +kernel
theorem dX9_cosy_0 : decode cX9_cosy 0 = .ok (.iload_n 1, 1) := by decide +kernel
theorem dX9_cosy_1 : decode cX9_cosy 1 = .ok (.iconst 0, 1) := by decide +kernel
theorem dX9_cosy_2 : decode cX9_cosy 2 = .ok (.iconst 5, 1) := by decide +kernel
theorem dX9_cosy_3 : decode cX9_cosy 3 = .ok (.invokestatic 43, 3) := by decide +kernel
theorem dX9_cosy_6 : decode cX9_cosy 6 = .ok (.ifCond .eq 19, 3) := by decide +kernel
theorem dX9_cosy_9 : decode cX9_cosy 9 = .ok (.iload_n 2, 1) := by decide +kernel
theorem dX9_cosy_10 : decode cX9_cosy 10 = .ok (.invokestatic 51, 3) := by decide +kernel
theorem dX9_cosy_13 : decode cX9_cosy 13 = .ok (.ifCond .eq 12, 3) := by decide +kernel
theorem dX9_cosy_16 : decode cX9_cosy 16 = .ok (.iload_n 3, 1) := by decide +kernel
theorem dX9_cosy_17 : decode cX9_cosy 17 = .ok (.iconst 1, 1) := by decide +kernel
theorem dX9_cosy_18 : decode cX9_cosy 18 = .ok (.iconst 4, 1) := by decide +kernel
theorem dX9_cosy_19 : decode cX9_cosy 19 = .ok (.invokestatic 43, 3) := by decide +kernel
theorem dX9_cosy_22 : decode cX9_cosy 22 = .ok (.ifCond .ne 8, 3) := by decide +kernel
theorem dX9_cosy_25 : decode cX9_cosy 25 = .ok (.aload_n 0, 1) := by decide +kernel
theorem dX9_cosy_26 : decode cX9_cosy 26 = .ok (.invokevirtual 55, 3) := by decide +kernel
theorem dX9_cosy_29 : decode cX9_cosy 29 = .ok (.ireturn, 1) := by decide +kernel
theorem dX9_cosy_30 : decode cX9_cosy 30 = .ok (.aload_n 0, 1) := by decide +kernel
theorem dX9_cosy_31 : decode cX9_cosy 31 = .ok (.getfield 7, 3) := by decide +kernel
theorem dX9_cosy_34 : decode cX9_cosy 34 = .ok (.bipush 26, 2) := by decide +kernel
theorem dX9_cosy_36 : decode cX9_cosy 36 = .ok (.iaload, 1) := by decide +kernel
theorem dX9_cosy_37 : decode cX9_cosy 37 = .ok (.iconst 5, 1) := by decide +kernel
theorem dX9_cosy_38 : decode cX9_cosy 38 = .ok (.if_icmp .ne 8, 3) := by decide +kernel
theorem dX9_cosy_41 : decode cX9_cosy 41 = .ok (.aload_n 0, 1) := by decide +kernel
theorem dX9_cosy_42 : decode cX9_cosy 42 = .ok (.invokevirtual 59, 3) := by decide +kernel
theorem dX9_cosy_45 : decode cX9_cosy 45 = .ok (.ireturn, 1) := by decide +kernel
theorem dX9_cosy_46 : decode cX9_cosy 46 = .ok (.aload_n 0, 1) := by decide +kernel
theorem dX9_cosy_47 : decode cX9_cosy 47 = .ok (.getfield 7, 3) := by decide +kernel
theorem dX9_cosy_50 : decode cX9_cosy 50 = .ok (.bipush 58, 2) := by decide +kernel
theorem dX9_cosy_52 : decode cX9_cosy 52 = .ok (.iconst 0, 1) := by decide +kernel
theorem dX9_cosy_53 : decode cX9_cosy 53 = .ok (.iastore, 1) := by decide +kernel
theorem dX9_cosy_54 : decode cX9_cosy 54 = .ok (.aload_n 0, 1) := by decide +kernel
theorem dX9_cosy_55 : decode cX9_cosy 55 = .ok (.getfield 7, 3) := by decide +kernel
theorem dX9_cosy_58 : decode cX9_cosy 58 = .ok (.iload_n 1, 1) := by decide +kernel
theorem dX9_cosy_59 : decode cX9_cosy 59 = .ok (.iload_n 2, 1) := by decide +kernel
theorem dX9_cosy_60 : decode cX9_cosy 60 = .ok (.iload_n 3, 1) := by decide +kernel
theorem dX9_cosy_61 : decode cX9_cosy 61 = .ok (.invokestatic 62, 3) := by decide +kernel
theorem dX9_cosy_64 : decode cX9_cosy 64 = .ok (.ireturn, 1) := by decide +kernel
theorem dX9_addHunted_0 : decode cX9_addHunted 0 = .ok (.aload_n 0, 1) := by decide +kernel
theorem dX9_addHunted_1 : decode cX9_addHunted 1 = .ok (.bipush 37, 2) := by decide +kernel
theorem dX9_addHunted_3 : decode cX9_addHunted 3 = .ok (.iaload, 1) := by decide +kernel
theorem dX9_addHunted_4 : decode cX9_addHunted 4 = .ok (.istore_n 2, 1) := by decide +kernel
theorem dX9_addHunted_5 : decode cX9_addHunted 5 = .ok (.aload_n 0, 1) := by decide +kernel
theorem dX9_addHunted_6 : decode cX9_addHunted 6 = .ok (.bipush 11, 2) := by decide +kernel
theorem dX9_addHunted_8 : decode cX9_addHunted 8 = .ok (.iload_n 2, 1) := by decide +kernel
theorem dX9_addHunted_9 : decode cX9_addHunted 9 = .ok (.iadd, 1) := by decide +kernel
theorem dX9_addHunted_10 : decode cX9_addHunted 10 = .ok (.iload_n 1, 1) := by decide +kernel
theorem dX9_addHunted_11 : decode cX9_addHunted 11 = .ok (.iastore, 1) := by decide +kernel
theorem dX9_addHunted_12 : decode cX9_addHunted 12 = .ok (.aload_n 0, 1) := by decide +kernel
theorem dX9_addHunted_13 : decode cX9_addHunted 13 = .ok (.bipush 37, 2) := by decide +kernel
theorem dX9_addHunted_15 : decode cX9_addHunted 15 = .ok (.dup2, 1) := by decide +kernel
theorem dX9_addHunted_16 : decode cX9_addHunted 16 = .ok (.iaload, 1) := by decide +kernel
theorem dX9_addHunted_17 : decode cX9_addHunted 17 = .ok (.iconst 1, 1) := by decide +kernel
theorem dX9_addHunted_18 : decode cX9_addHunted 18 = .ok (.iadd, 1) := by decide +kernel
theorem dX9_addHunted_19 : decode cX9_addHunted 19 = .ok (.iastore, 1) := by decide +kernel
theorem dX9_addHunted_20 : decode cX9_addHunted 20 = .ok (.iload_n 2, 1) := by decide +kernel
theorem dX9_addHunted_21 : decode cX9_addHunted 21 = .ok (.ireturn, 1) := by decide +kernel
theorem dX9_hunted_0 : decode cX9_hunted 0 = .ok (.iload_n 1, 1) := by decide +kernel
theorem dX9_hunted_1 : decode cX9_hunted 1 = .ok (.invokestatic 51, 3) := by decide +kernel
theorem dX9_hunted_4 : decode cX9_hunted 4 = .ok (.ifCond .ne 8, 3) := by decide +kernel
theorem dX9_hunted_7 : decode cX9_hunted 7 = .ok (.aload_n 0, 1) := by decide +kernel
theorem dX9_hunted_8 : decode cX9_hunted 8 = .ok (.invokevirtual 55, 3) := by decide +kernel
theorem dX9_hunted_11 : decode cX9_hunted 11 = .ok (.ireturn, 1) := by decide +kernel
theorem dX9_hunted_12 : decode cX9_hunted 12 = .ok (.aload_n 0, 1) := by decide +kernel
theorem dX9_hunted_13 : decode cX9_hunted 13 = .ok (.getfield 7, 3) := by decide +kernel
theorem dX9_hunted_16 : decode cX9_hunted 16 = .ok (.bipush 37, 2) := by decide +kernel
theorem dX9_hunted_18 : decode cX9_hunted 18 = .ok (.iaload, 1) := by decide +kernel
theorem dX9_hunted_19 : decode cX9_hunted 19 = .ok (.bipush 6, 2) := by decide +kernel
theorem dX9_hunted_21 : decode cX9_hunted 21 = .ok (.if_icmp .ne 8, 3) := by decide +kernel
theorem dX9_hunted_24 : decode cX9_hunted 24 = .ok (.aload_n 0, 1) := by decide +kernel
theorem dX9_hunted_25 : decode cX9_hunted 25 = .ok (.invokevirtual 59, 3) := by decide +kernel
theorem dX9_hunted_28 : decode cX9_hunted 28 = .ok (.ireturn, 1) := by decide +kernel
theorem dX9_hunted_29 : decode cX9_hunted 29 = .ok (.aload_n 0, 1) := by decide +kernel
theorem dX9_hunted_30 : decode cX9_hunted 30 = .ok (.getfield 7, 3) := by decide +kernel
theorem dX9_hunted_33 : decode cX9_hunted 33 = .ok (.bipush 58, 2) := by decide +kernel
theorem dX9_hunted_35 : decode cX9_hunted 35 = .ok (.iconst 0, 1) := by decide +kernel
theorem dX9_hunted_36 : decode cX9_hunted 36 = .ok (.iastore, 1) := by decide +kernel
theorem dX9_hunted_37 : decode cX9_hunted 37 = .ok (.aload_n 0, 1) := by decide +kernel
theorem dX9_hunted_38 : decode cX9_hunted 38 = .ok (.getfield 7, 3) := by decide +kernel
theorem dX9_hunted_41 : decode cX9_hunted 41 = .ok (.iload_n 1, 1) := by decide +kernel
theorem dX9_hunted_42 : decode cX9_hunted 42 = .ok (.invokestatic 66, 3) := by decide +kernel
theorem dX9_hunted_45 : decode cX9_hunted 45 = .ok (.ireturn, 1) := by decide +kernel
theorem dX9_addSheriff_0 : decode cX9_addSheriff 0 = .ok (.aload_n 0, 1) := by decide +kernel
theorem dX9_addSheriff_1 : decode cX9_addSheriff 1 = .ok (.bipush 38, 2) := by decide +kernel
theorem dX9_addSheriff_3 : decode cX9_addSheriff 3 = .ok (.iaload, 1) := by decide +kernel
theorem dX9_addSheriff_4 : decode cX9_addSheriff 4 = .ok (.istore_n 2, 1) := by decide +kernel
theorem dX9_addSheriff_5 : decode cX9_addSheriff 5 = .ok (.aload_n 0, 1) := by decide +kernel
theorem dX9_addSheriff_6 : decode cX9_addSheriff 6 = .ok (.bipush 23, 2) := by decide +kernel
theorem dX9_addSheriff_8 : decode cX9_addSheriff 8 = .ok (.iload_n 2, 1) := by decide +kernel
theorem dX9_addSheriff_9 : decode cX9_addSheriff 9 = .ok (.iadd, 1) := by decide +kernel
theorem dX9_addSheriff_10 : decode cX9_addSheriff 10 = .ok (.iload_n 1, 1) := by decide +kernel
theorem dX9_addSheriff_11 : decode cX9_addSheriff 11 = .ok (.iastore, 1) := by decide +kernel
theorem dX9_addSheriff_12 : decode cX9_addSheriff 12 = .ok (.aload_n 0, 1) := by decide +kernel
theorem dX9_addSheriff_13 : decode cX9_addSheriff 13 = .ok (.bipush 38, 2) := by decide +kernel
theorem dX9_addSheriff_15 : decode cX9_addSheriff 15 = .ok (.dup2, 1) := by decide +kernel
theorem dX9_addSheriff_16 : decode cX9_addSheriff 16 = .ok (.iaload, 1) := by decide +kernel
theorem dX9_addSheriff_17 : decode cX9_addSheriff 17 = .ok (.iconst 1, 1) := by decide +kernel
theorem dX9_addSheriff_18 : decode cX9_addSheriff 18 = .ok (.iadd, 1) := by decide +kernel
theorem dX9_addSheriff_19 : decode cX9_addSheriff 19 = .ok (.iastore, 1) := by decide +kernel
theorem dX9_addSheriff_20 : decode cX9_addSheriff 20 = .ok (.iload_n 2, 1) := by decide +kernel
theorem dX9_addSheriff_21 : decode cX9_addSheriff 21 = .ok (.ireturn, 1) := by decide +kernel
theorem dX9_sheriff_0 : decode cX9_sheriff 0 = .ok (.iload_n 1, 1) := by decide +kernel
theorem dX9_sheriff_1 : decode cX9_sheriff 1 = .ok (.invokestatic 51, 3) := by decide +kernel
theorem dX9_sheriff_4 : decode cX9_sheriff 4 = .ok (.ifCond .ne 8, 3) := by decide +kernel
theorem dX9_sheriff_7 : decode cX9_sheriff 7 = .ok (.aload_n 0, 1) := by decide +kernel
theorem dX9_sheriff_8 : decode cX9_sheriff 8 = .ok (.invokevirtual 55, 3) := by decide +kernel
theorem dX9_sheriff_11 : decode cX9_sheriff 11 = .ok (.ireturn, 1) := by decide +kernel
theorem dX9_sheriff_12 : decode cX9_sheriff 12 = .ok (.aload_n 0, 1) := by decide +kernel
theorem dX9_sheriff_13 : decode cX9_sheriff 13 = .ok (.getfield 7, 3) := by decide +kernel
theorem dX9_sheriff_16 : decode cX9_sheriff 16 = .ok (.bipush 38, 2) := by decide +kernel
theorem dX9_sheriff_18 : decode cX9_sheriff 18 = .ok (.iaload, 1) := by decide +kernel
theorem dX9_sheriff_19 : decode cX9_sheriff 19 = .ok (.iconst 3, 1) := by decide +kernel
theorem dX9_sheriff_20 : decode cX9_sheriff 20 = .ok (.if_icmp .ne 8, 3) := by decide +kernel
theorem dX9_sheriff_23 : decode cX9_sheriff 23 = .ok (.aload_n 0, 1) := by decide +kernel
theorem dX9_sheriff_24 : decode cX9_sheriff 24 = .ok (.invokevirtual 59, 3) := by decide +kernel
theorem dX9_sheriff_27 : decode cX9_sheriff 27 = .ok (.ireturn, 1) := by decide +kernel
theorem dX9_sheriff_28 : decode cX9_sheriff 28 = .ok (.aload_n 0, 1) := by decide +kernel
theorem dX9_sheriff_29 : decode cX9_sheriff 29 = .ok (.getfield 7, 3) := by decide +kernel
theorem dX9_sheriff_32 : decode cX9_sheriff 32 = .ok (.bipush 58, 2) := by decide +kernel
theorem dX9_sheriff_34 : decode cX9_sheriff 34 = .ok (.iconst 0, 1) := by decide +kernel
theorem dX9_sheriff_35 : decode cX9_sheriff 35 = .ok (.iastore, 1) := by decide +kernel
theorem dX9_sheriff_36 : decode cX9_sheriff 36 = .ok (.aload_n 0, 1) := by decide +kernel
theorem dX9_sheriff_37 : decode cX9_sheriff 37 = .ok (.getfield 7, 3) := by decide +kernel
theorem dX9_sheriff_40 : decode cX9_sheriff 40 = .ok (.iload_n 1, 1) := by decide +kernel
theorem dX9_sheriff_41 : decode cX9_sheriff 41 = .ok (.invokestatic 70, 3) := by decide +kernel
theorem dX9_sheriff_44 : decode cX9_sheriff 44 = .ok (.ireturn, 1) := by decide +kernel
theorem dX9_type_0 : decode cX9_type 0 = .ok (.iload_n 1, 1) := by decide +kernel
theorem dX9_type_1 : decode cX9_type 1 = .ok (.iconst 0, 1) := by decide +kernel
theorem dX9_type_2 : decode cX9_type 2 = .ok (.bipush 127, 2) := by decide +kernel
theorem dX9_type_4 : decode cX9_type 4 = .ok (.invokestatic 43, 3) := by decide +kernel
theorem dX9_type_7 : decode cX9_type 7 = .ok (.ifCond .ne 8, 3) := by decide +kernel
theorem dX9_type_10 : decode cX9_type 10 = .ok (.aload_n 0, 1) := by decide +kernel
theorem dX9_type_11 : decode cX9_type 11 = .ok (.invokevirtual 55, 3) := by decide +kernel
theorem dX9_type_14 : decode cX9_type 14 = .ok (.ireturn, 1) := by decide +kernel
theorem dX9_type_15 : decode cX9_type 15 = .ok (.aload_n 0, 1) := by decide +kernel
theorem dX9_type_16 : decode cX9_type 16 = .ok (.getfield 73, 3) := by decide +kernel
theorem dX9_type_19 : decode cX9_type 19 = .ok (.sipush 150, 3) := by decide +kernel
theorem dX9_type_22 : decode cX9_type 22 = .ok (.if_icmp .ne 8, 3) := by decide +kernel
theorem dX9_type_25 : decode cX9_type 25 = .ok (.aload_n 0, 1) := by decide +kernel
theorem dX9_type_26 : decode cX9_type 26 = .ok (.invokevirtual 59, 3) := by decide +kernel
theorem dX9_type_29 : decode cX9_type 29 = .ok (.ireturn, 1) := by decide +kernel
theorem dX9_type_30 : decode cX9_type 30 = .ok (.aload_n 0, 1) := by decide +kernel
theorem dX9_type_31 : decode cX9_type 31 = .ok (.getfield 33, 3) := by decide +kernel
theorem dX9_type_34 : decode cX9_type 34 = .ok (.aload_n 0, 1) := by decide +kernel
theorem dX9_type_35 : decode cX9_type 35 = .ok (.getfield 73, 3) := by decide +kernel
theorem dX9_type_38 : decode cX9_type 38 = .ok (.iload_n 1, 1) := by decide +kernel
theorem dX9_type_39 : decode cX9_type 39 = .ok (.iastore, 1) := by decide +kernel
theorem dX9_type_40 : decode cX9_type 40 = .ok (.aload_n 0, 1) := by decide +kernel
theorem dX9_type_41 : decode cX9_type 41 = .ok (.dup, 1) := by decide +kernel
theorem dX9_type_42 : decode cX9_type 42 = .ok (.getfield 73, 3) := by decide +kernel
theorem dX9_type_45 : decode cX9_type 45 = .ok (.iconst 1, 1) := by decide +kernel
theorem dX9_type_46 : decode cX9_type 46 = .ok (.iadd, 1) := by decide +kernel
theorem dX9_type_47 : decode cX9_type 47 = .ok (.putfield 73, 3) := by decide +kernel
theorem dX9_type_50 : decode cX9_type 50 = .ok (.aload_n 0, 1) := by decide +kernel
theorem dX9_type_51 : decode cX9_type 51 = .ok (.getfield 73, 3) := by decide +kernel
theorem dX9_type_54 : decode cX9_type 54 = .ok (.ireturn, 1) := by decide +kernel
theorem dX9_clear_0 : decode cX9_clear 0 = .ok (.aload_n 0, 1) := by decide +kernel
theorem dX9_clear_1 : decode cX9_clear 1 = .ok (.getfield 73, 3) := by decide +kernel
theorem dX9_clear_4 : decode cX9_clear 4 = .ok (.istore_n 1, 1) := by decide +kernel
theorem dX9_clear_5 : decode cX9_clear 5 = .ok (.aload_n 0, 1) := by decide +kernel
theorem dX9_clear_6 : decode cX9_clear 6 = .ok (.iconst 0, 1) := by decide +kernel
theorem dX9_clear_7 : decode cX9_clear 7 = .ok (.putfield 73, 3) := by decide +kernel
theorem dX9_clear_10 : decode cX9_clear 10 = .ok (.iload_n 1, 1) := by decide +kernel
theorem dX9_clear_11 : decode cX9_clear 11 = .ok (.ireturn, 1) := by decide +kernel
theorem dX9_kindAt_0 : decode cX9_kindAt 0 = .ok (.iload_n 1, 1) := by decide +kernel
theorem dX9_kindAt_1 : decode cX9_kindAt 1 = .ok (.aload_n 0, 1) := by decide +kernel
theorem dX9_kindAt_2 : decode cX9_kindAt 2 = .ok (.getfield 73, 3) := by decide +kernel
theorem dX9_kindAt_5 : decode cX9_kindAt 5 = .ok (.if_icmp .ge 12, 3) := by decide +kernel
theorem dX9_kindAt_8 : decode cX9_kindAt 8 = .ok (.aload_n 0, 1) := by decide +kernel
theorem dX9_kindAt_9 : decode cX9_kindAt 9 = .ok (.getfield 33, 3) := by decide +kernel
theorem dX9_kindAt_12 : decode cX9_kindAt 12 = .ok (.iload_n 1, 1) := by decide +kernel
theorem dX9_kindAt_13 : decode cX9_kindAt 13 = .ok (.iaload, 1) := by decide +kernel
theorem dX9_kindAt_14 : decode cX9_kindAt 14 = .ok (.goto 4, 3) := by decide +kernel
theorem dX9_kindAt_17 : decode cX9_kindAt 17 = .ok (.iconst 0, 1) := by decide +kernel
theorem dX9_kindAt_18 : decode cX9_kindAt 18 = .ok (.istore_n 2, 1) := by decide +kernel
theorem dX9_kindAt_19 : decode cX9_kindAt 19 = .ok (.iload_n 2, 1) := by decide +kernel
theorem dX9_kindAt_20 : decode cX9_kindAt 20 = .ok (.bipush 97, 2) := by decide +kernel
theorem dX9_kindAt_22 : decode cX9_kindAt 22 = .ok (.bipush 122, 2) := by decide +kernel
theorem dX9_kindAt_24 : decode cX9_kindAt 24 = .ok (.invokestatic 43, 3) := by decide +kernel
theorem dX9_kindAt_27 : decode cX9_kindAt 27 = .ok (.ifCond .eq 7, 3) := by decide +kernel
theorem dX9_kindAt_30 : decode cX9_kindAt 30 = .ok (.iconst 1, 1) := by decide +kernel
theorem dX9_kindAt_31 : decode cX9_kindAt 31 = .ok (.goto 19, 3) := by decide +kernel
theorem dX9_kindAt_34 : decode cX9_kindAt 34 = .ok (.iload_n 2, 1) := by decide +kernel
theorem dX9_kindAt_35 : decode cX9_kindAt 35 = .ok (.bipush 48, 2) := by decide +kernel
theorem dX9_kindAt_37 : decode cX9_kindAt 37 = .ok (.bipush 57, 2) := by decide +kernel
theorem dX9_kindAt_39 : decode cX9_kindAt 39 = .ok (.invokestatic 43, 3) := by decide +kernel
theorem dX9_kindAt_42 : decode cX9_kindAt 42 = .ok (.ifCond .eq 7, 3) := by decide +kernel
theorem dX9_kindAt_45 : decode cX9_kindAt 45 = .ok (.iconst 2, 1) := by decide +kernel
theorem dX9_kindAt_46 : decode cX9_kindAt 46 = .ok (.goto 4, 3) := by decide +kernel
theorem dX9_kindAt_49 : decode cX9_kindAt 49 = .ok (.iconst 0, 1) := by decide +kernel
theorem dX9_kindAt_50 : decode cX9_kindAt 50 = .ok (.ireturn, 1) := by decide +kernel
theorem dX9_nextToken_0 : decode cX9_nextToken 0 = .ok (.aload_n 0, 1) := by decide +kernel
theorem dX9_nextToken_1 : decode cX9_nextToken 1 = .ok (.getfield 77, 3) := by decide +kernel
theorem dX9_nextToken_4 : decode cX9_nextToken 4 = .ok (.aload_n 0, 1) := by decide +kernel
theorem dX9_nextToken_5 : decode cX9_nextToken 5 = .ok (.getfield 73, 3) := by decide +kernel
theorem dX9_nextToken_8 : decode cX9_nextToken 8 = .ok (.if_icmp .ge 30, 3) := by decide +kernel
theorem dX9_nextToken_11 : decode cX9_nextToken 11 = .ok (.aload_n 0, 1) := by decide +kernel
theorem dX9_nextToken_12 : decode cX9_nextToken 12 = .ok (.getfield 33, 3) := by decide +kernel
theorem dX9_nextToken_15 : decode cX9_nextToken 15 = .ok (.aload_n 0, 1) := by decide +kernel
theorem dX9_nextToken_16 : decode cX9_nextToken 16 = .ok (.getfield 77, 3) := by decide +kernel
theorem dX9_nextToken_19 : decode cX9_nextToken 19 = .ok (.iaload, 1) := by decide +kernel
theorem dX9_nextToken_20 : decode cX9_nextToken 20 = .ok (.bipush 32, 2) := by decide +kernel
theorem dX9_nextToken_22 : decode cX9_nextToken 22 = .ok (.if_icmp .ne 16, 3) := by decide +kernel
theorem dX9_nextToken_25 : decode cX9_nextToken 25 = .ok (.aload_n 0, 1) := by decide +kernel
theorem dX9_nextToken_26 : decode cX9_nextToken 26 = .ok (.dup, 1) := by decide +kernel
theorem dX9_nextToken_27 : decode cX9_nextToken 27 = .ok (.getfield 77, 3) := by decide +kernel
theorem dX9_nextToken_30 : decode cX9_nextToken 30 = .ok (.iconst 1, 1) := by decide +kernel
theorem dX9_nextToken_31 : decode cX9_nextToken 31 = .ok (.iadd, 1) := by decide +kernel
theorem dX9_nextToken_32 : decode cX9_nextToken 32 = .ok (.putfield 77, 3) := by decide +kernel
theorem dX9_nextToken_35 : decode cX9_nextToken 35 = .ok (.goto (-35), 3) := by decide +kernel
theorem dX9_nextToken_38 : decode cX9_nextToken 38 = .ok (.aload_n 0, 1) := by decide +kernel
theorem dX9_nextToken_39 : decode cX9_nextToken 39 = .ok (.aload_n 0, 1) := by decide +kernel
theorem dX9_nextToken_40 : decode cX9_nextToken 40 = .ok (.getfield 77, 3) := by decide +kernel
theorem dX9_nextToken_43 : decode cX9_nextToken 43 = .ok (.putfield 80, 3) := by decide +kernel
theorem dX9_nextToken_46 : decode cX9_nextToken 46 = .ok (.aload_n 0, 1) := by decide +kernel
theorem dX9_nextToken_47 : decode cX9_nextToken 47 = .ok (.lconst 0, 1) := by decide +kernel
theorem dX9_nextToken_48 : decode cX9_nextToken 48 = .ok (.putfield 83, 3) := by decide +kernel
theorem dX9_nextToken_51 : decode cX9_nextToken 51 = .ok (.aload_n 0, 1) := by decide +kernel
theorem dX9_nextToken_52 : decode cX9_nextToken 52 = .ok (.iconst 0, 1) := by decide +kernel
theorem dX9_nextToken_53 : decode cX9_nextToken 53 = .ok (.putfield 86, 3) := by decide +kernel
theorem dX9_nextToken_56 : decode cX9_nextToken 56 = .ok (.aload_n 0, 1) := by decide +kernel
theorem dX9_nextToken_57 : decode cX9_nextToken 57 = .ok (.getfield 77, 3) := by decide +kernel
theorem dX9_nextToken_60 : decode cX9_nextToken 60 = .ok (.aload_n 0, 1) := by decide +kernel
theorem dX9_nextToken_61 : decode cX9_nextToken 61 = .ok (.getfield 73, 3) := by decide +kernel
theorem dX9_nextToken_64 : decode cX9_nextToken 64 = .ok (.if_icmp .ne 9, 3) := by decide +kernel
theorem dX9_nextToken_67 : decode cX9_nextToken 67 = .ok (.aload_n 0, 1) := by decide +kernel
theorem dX9_nextToken_68 : decode cX9_nextToken 68 = .ok (.iconst 0, 1) := by decide +kernel
theorem dX9_nextToken_69 : decode cX9_nextToken 69 = .ok (.putfield 89, 3) := by decide +kernel
theorem dX9_nextToken_72 : decode cX9_nextToken 72 = .ok (.return_, 1) := by decide +kernel
theorem dX9_nextToken_73 : decode cX9_nextToken 73 = .ok (.aload_n 0, 1) := by decide +kernel
theorem dX9_nextToken_74 : decode cX9_nextToken 74 = .ok (.aload_n 0, 1) := by decide +kernel
theorem dX9_nextToken_75 : decode cX9_nextToken 75 = .ok (.aload_n 0, 1) := by decide +kernel
theorem dX9_nextToken_76 : decode cX9_nextToken 76 = .ok (.getfield 77, 3) := by decide +kernel
theorem dX9_nextToken_79 : decode cX9_nextToken 79 = .ok (.invokevirtual 92, 3) := by decide +kernel
theorem dX9_nextToken_82 : decode cX9_nextToken 82 = .ok (.putfield 89, 3) := by decide +kernel
theorem dX9_nextToken_85 : decode cX9_nextToken 85 = .ok (.aload_n 0, 1) := by decide +kernel
theorem dX9_nextToken_86 : decode cX9_nextToken 86 = .ok (.getfield 89, 3) := by decide +kernel
theorem dX9_nextToken_89 : decode cX9_nextToken 89 = .ok (.ifCond .ne 37, 3) := by decide +kernel
theorem dX9_nextToken_92 : decode cX9_nextToken 92 = .ok (.aload_n 0, 1) := by decide +kernel
theorem dX9_nextToken_93 : decode cX9_nextToken 93 = .ok (.aload_n 0, 1) := by decide +kernel
theorem dX9_nextToken_94 : decode cX9_nextToken 94 = .ok (.getfield 33, 3) := by decide +kernel
theorem dX9_nextToken_97 : decode cX9_nextToken 97 = .ok (.aload_n 0, 1) := by decide +kernel
theorem dX9_nextToken_98 : decode cX9_nextToken 98 = .ok (.getfield 77, 3) := by decide +kernel
theorem dX9_nextToken_101 : decode cX9_nextToken 101 = .ok (.iaload, 1) := by decide +kernel
theorem dX9_nextToken_102 : decode cX9_nextToken 102 = .ok (.bipush 59, 2) := by decide +kernel
theorem dX9_nextToken_104 : decode cX9_nextToken 104 = .ok (.if_icmp .ne 7, 3) := by decide +kernel
theorem dX9_nextToken_107 : decode cX9_nextToken 107 = .ok (.iconst 3, 1) := by decide +kernel
theorem dX9_nextToken_108 : decode cX9_nextToken 108 = .ok (.goto 4, 3) := by decide +kernel
theorem dX9_nextToken_111 : decode cX9_nextToken 111 = .ok (.iconst 4, 1) := by decide +kernel
theorem dX9_nextToken_112 : decode cX9_nextToken 112 = .ok (.putfield 89, 3) := by decide +kernel
theorem dX9_nextToken_115 : decode cX9_nextToken 115 = .ok (.aload_n 0, 1) := by decide +kernel
theorem dX9_nextToken_116 : decode cX9_nextToken 116 = .ok (.dup, 1) := by decide +kernel
theorem dX9_nextToken_117 : decode cX9_nextToken 117 = .ok (.getfield 77, 3) := by decide +kernel
theorem dX9_nextToken_120 : decode cX9_nextToken 120 = .ok (.iconst 1, 1) := by decide +kernel
theorem dX9_nextToken_121 : decode cX9_nextToken 121 = .ok (.iadd, 1) := by decide +kernel
theorem dX9_nextToken_122 : decode cX9_nextToken 122 = .ok (.putfield 77, 3) := by decide +kernel
theorem dX9_nextToken_125 : decode cX9_nextToken 125 = .ok (.return_, 1) := by decide +kernel
theorem dX9_nextToken_126 : decode cX9_nextToken 126 = .ok (.aload_n 0, 1) := by decide +kernel
theorem dX9_nextToken_127 : decode cX9_nextToken 127 = .ok (.aload_n 0, 1) := by decide +kernel
theorem dX9_nextToken_128 : decode cX9_nextToken 128 = .ok (.getfield 77, 3) := by decide +kernel
theorem dX9_nextToken_131 : decode cX9_nextToken 131 = .ok (.invokevirtual 92, 3) := by decide +kernel
theorem dX9_nextToken_134 : decode cX9_nextToken 134 = .ok (.aload_n 0, 1) := by decide +kernel
theorem dX9_nextToken_135 : decode cX9_nextToken 135 = .ok (.getfield 89, 3) := by decide +kernel
theorem dX9_nextToken_138 : decode cX9_nextToken 138 = .ok (.if_icmp .ne 97, 3) := by decide +kernel
theorem dX9_nextToken_141 : decode cX9_nextToken 141 = .ok (.aload_n 0, 1) := by decide +kernel
theorem dX9_nextToken_142 : decode cX9_nextToken 142 = .ok (.getfield 77, 3) := by decide +kernel
theorem dX9_nextToken_145 : decode cX9_nextToken 145 = .ok (.aload_n 0, 1) := by decide +kernel
theorem dX9_nextToken_146 : decode cX9_nextToken 146 = .ok (.getfield 80, 3) := by decide +kernel
theorem dX9_nextToken_149 : decode cX9_nextToken 149 = .ok (.isub, 1) := by decide +kernel
theorem dX9_nextToken_150 : decode cX9_nextToken 150 = .ok (.istore_n 1, 1) := by decide +kernel
theorem dX9_nextToken_151 : decode cX9_nextToken 151 = .ok (.aload_n 0, 1) := by decide +kernel
theorem dX9_nextToken_152 : decode cX9_nextToken 152 = .ok (.iload_n 1, 1) := by decide +kernel
theorem dX9_nextToken_153 : decode cX9_nextToken 153 = .ok (.bipush 7, 2) := by decide +kernel
theorem dX9_nextToken_155 : decode cX9_nextToken 155 = .ok (.if_icmp .ge 25, 3) := by decide +kernel
theorem dX9_nextToken_158 : decode cX9_nextToken 158 = .ok (.ldc2_w 95, 3) := by decide +kernel
theorem dX9_nextToken_161 : decode cX9_nextToken 161 = .ok (.aload_n 0, 1) := by decide +kernel
theorem dX9_nextToken_162 : decode cX9_nextToken 162 = .ok (.getfield 83, 3) := by decide +kernel
theorem dX9_nextToken_165 : decode cX9_nextToken 165 = .ok (.lmul, 1) := by decide +kernel
theorem dX9_nextToken_166 : decode cX9_nextToken 166 = .ok (.aload_n 0, 1) := by decide +kernel
theorem dX9_nextToken_167 : decode cX9_nextToken 167 = .ok (.getfield 33, 3) := by decide +kernel
theorem dX9_nextToken_170 : decode cX9_nextToken 170 = .ok (.aload_n 0, 1) := by decide +kernel
theorem dX9_nextToken_171 : decode cX9_nextToken 171 = .ok (.getfield 77, 3) := by decide +kernel
theorem dX9_nextToken_174 : decode cX9_nextToken 174 = .ok (.iaload, 1) := by decide +kernel
theorem dX9_nextToken_175 : decode cX9_nextToken 175 = .ok (.i2l, 1) := by decide +kernel
theorem dX9_nextToken_176 : decode cX9_nextToken 176 = .ok (.ladd, 1) := by decide +kernel
theorem dX9_nextToken_177 : decode cX9_nextToken 177 = .ok (.goto 6, 3) := by decide +kernel
theorem dX9_nextToken_180 : decode cX9_nextToken 180 = .ok (.ldc2_w 97, 3) := by decide +kernel
theorem dX9_nextToken_183 : decode cX9_nextToken 183 = .ok (.putfield 83, 3) := by decide +kernel
theorem dX9_nextToken_186 : decode cX9_nextToken 186 = .ok (.aload_n 0, 1) := by decide +kernel
theorem dX9_nextToken_187 : decode cX9_nextToken 187 = .ok (.iload_n 1, 1) := by decide +kernel
theorem dX9_nextToken_188 : decode cX9_nextToken 188 = .ok (.iconst 2, 1) := by decide +kernel
theorem dX9_nextToken_189 : decode cX9_nextToken 189 = .ok (.if_icmp .ge 26, 3) := by decide +kernel
theorem dX9_nextToken_192 : decode cX9_nextToken 192 = .ok (.bipush 10, 2) := by decide +kernel
theorem dX9_nextToken_194 : decode cX9_nextToken 194 = .ok (.aload_n 0, 1) := by decide +kernel
theorem dX9_nextToken_195 : decode cX9_nextToken 195 = .ok (.getfield 86, 3) := by decide +kernel
theorem dX9_nextToken_198 : decode cX9_nextToken 198 = .ok (.imul, 1) := by decide +kernel
theorem dX9_nextToken_199 : decode cX9_nextToken 199 = .ok (.aload_n 0, 1) := by decide +kernel
theorem dX9_nextToken_200 : decode cX9_nextToken 200 = .ok (.getfield 33, 3) := by decide +kernel
theorem dX9_nextToken_203 : decode cX9_nextToken 203 = .ok (.aload_n 0, 1) := by decide +kernel
theorem dX9_nextToken_204 : decode cX9_nextToken 204 = .ok (.getfield 77, 3) := by decide +kernel
theorem dX9_nextToken_207 : decode cX9_nextToken 207 = .ok (.iaload, 1) := by decide +kernel
theorem dX9_nextToken_208 : decode cX9_nextToken 208 = .ok (.iadd, 1) := by decide +kernel
theorem dX9_nextToken_209 : decode cX9_nextToken 209 = .ok (.bipush 48, 2) := by decide +kernel
theorem dX9_nextToken_211 : decode cX9_nextToken 211 = .ok (.isub, 1) := by decide +kernel
theorem dX9_nextToken_212 : decode cX9_nextToken 212 = .ok (.goto 7, 3) := by decide +kernel
theorem dX9_nextToken_215 : decode cX9_nextToken 215 = .ok (.aload_n 0, 1) := by decide +kernel
theorem dX9_nextToken_216 : decode cX9_nextToken 216 = .ok (.getfield 86, 3) := by decide +kernel
theorem dX9_nextToken_219 : decode cX9_nextToken 219 = .ok (.putfield 86, 3) := by decide +kernel
theorem dX9_nextToken_222 : decode cX9_nextToken 222 = .ok (.aload_n 0, 1) := by decide +kernel
theorem dX9_nextToken_223 : decode cX9_nextToken 223 = .ok (.dup, 1) := by decide +kernel
theorem dX9_nextToken_224 : decode cX9_nextToken 224 = .ok (.getfield 77, 3) := by decide +kernel
theorem dX9_nextToken_227 : decode cX9_nextToken 227 = .ok (.iconst 1, 1) := by decide +kernel
theorem dX9_nextToken_228 : decode cX9_nextToken 228 = .ok (.iadd, 1) := by decide +kernel
theorem dX9_nextToken_229 : decode cX9_nextToken 229 = .ok (.putfield 77, 3) := by decide +kernel
theorem dX9_nextToken_232 : decode cX9_nextToken 232 = .ok (.goto (-106), 3) := by decide +kernel
theorem dX9_nextToken_235 : decode cX9_nextToken 235 = .ok (.aload_n 0, 1) := by decide +kernel
theorem dX9_nextToken_236 : decode cX9_nextToken 236 = .ok (.aload_n 0, 1) := by decide +kernel
theorem dX9_nextToken_237 : decode cX9_nextToken 237 = .ok (.getfield 89, 3) := by decide +kernel
theorem dX9_nextToken_240 : decode cX9_nextToken 240 = .ok (.iconst 2, 1) := by decide +kernel
theorem dX9_nextToken_241 : decode cX9_nextToken 241 = .ok (.if_icmp .ne 20, 3) := by decide +kernel
theorem dX9_nextToken_244 : decode cX9_nextToken 244 = .ok (.aload_n 0, 1) := by decide +kernel
theorem dX9_nextToken_245 : decode cX9_nextToken 245 = .ok (.getfield 77, 3) := by decide +kernel
theorem dX9_nextToken_248 : decode cX9_nextToken 248 = .ok (.aload_n 0, 1) := by decide +kernel
theorem dX9_nextToken_249 : decode cX9_nextToken 249 = .ok (.getfield 80, 3) := by decide +kernel
theorem dX9_nextToken_252 : decode cX9_nextToken 252 = .ok (.isub, 1) := by decide +kernel
theorem dX9_nextToken_253 : decode cX9_nextToken 253 = .ok (.iconst 2, 1) := by decide +kernel
theorem dX9_nextToken_254 : decode cX9_nextToken 254 = .ok (.if_icmp .le 7, 3) := by decide +kernel
theorem dX9_nextToken_257 : decode cX9_nextToken 257 = .ok (.iconst 4, 1) := by decide +kernel
theorem dX9_nextToken_258 : decode cX9_nextToken 258 = .ok (.goto 7, 3) := by decide +kernel
theorem dX9_nextToken_261 : decode cX9_nextToken 261 = .ok (.aload_n 0, 1) := by decide +kernel
theorem dX9_nextToken_262 : decode cX9_nextToken 262 = .ok (.getfield 89, 3) := by decide +kernel
theorem dX9_nextToken_265 : decode cX9_nextToken 265 = .ok (.putfield 89, 3) := by decide +kernel
theorem dX9_nextToken_268 : decode cX9_nextToken 268 = .ok (.return_, 1) := by decide +kernel
theorem dX9_isNumber_0 : decode cX9_isNumber 0 = .ok (.aload_n 0, 1) := by decide +kernel
theorem dX9_isNumber_1 : decode cX9_isNumber 1 = .ok (.invokevirtual 99, 3) := by decide +kernel
theorem dX9_isNumber_4 : decode cX9_isNumber 4 = .ok (.aload_n 0, 1) := by decide +kernel
theorem dX9_isNumber_5 : decode cX9_isNumber 5 = .ok (.getfield 89, 3) := by decide +kernel
theorem dX9_isNumber_8 : decode cX9_isNumber 8 = .ok (.iconst 2, 1) := by decide +kernel
theorem dX9_isNumber_9 : decode cX9_isNumber 9 = .ok (.if_icmp .ne 19, 3) := by decide +kernel
theorem dX9_isNumber_12 : decode cX9_isNumber 12 = .ok (.aload_n 0, 1) := by decide +kernel
theorem dX9_isNumber_13 : decode cX9_isNumber 13 = .ok (.getfield 86, 3) := by decide +kernel
theorem dX9_isNumber_16 : decode cX9_isNumber 16 = .ok (.iload_n 1, 1) := by decide +kernel
theorem dX9_isNumber_17 : decode cX9_isNumber 17 = .ok (.iload_n 2, 1) := by decide +kernel
theorem dX9_isNumber_18 : decode cX9_isNumber 18 = .ok (.invokestatic 43, 3) := by decide +kernel
theorem dX9_isNumber_21 : decode cX9_isNumber 21 = .ok (.ifCond .eq 7, 3) := by decide +kernel
theorem dX9_isNumber_24 : decode cX9_isNumber 24 = .ok (.iconst 1, 1) := by decide +kernel
theorem dX9_isNumber_25 : decode cX9_isNumber 25 = .ok (.goto 4, 3) := by decide +kernel
theorem dX9_isNumber_28 : decode cX9_isNumber 28 = .ok (.iconst 0, 1) := by decide +kernel
theorem dX9_isNumber_29 : decode cX9_isNumber 29 = .ok (.ireturn, 1) := by decide +kernel
theorem dX9_isCosyItem_0 : decode cX9_isCosyItem 0 = .ok (.aload_n 0, 1) := by decide +kernel
theorem dX9_isCosyItem_1 : decode cX9_isCosyItem 1 = .ok (.getfield 16, 3) := by decide +kernel
theorem dX9_isCosyItem_4 : decode cX9_isCosyItem 4 = .ok (.bipush 26, 2) := by decide +kernel
theorem dX9_isCosyItem_6 : decode cX9_isCosyItem 6 = .ok (.iaload, 1) := by decide +kernel
theorem dX9_isCosyItem_7 : decode cX9_isCosyItem 7 = .ok (.iconst 5, 1) := by decide +kernel
theorem dX9_isCosyItem_8 : decode cX9_isCosyItem 8 = .ok (.if_icmp .eq 12, 3) := by decide +kernel
theorem dX9_isCosyItem_11 : decode cX9_isCosyItem 11 = .ok (.aload_n 0, 1) := by decide +kernel
theorem dX9_isCosyItem_12 : decode cX9_isCosyItem 12 = .ok (.iconst 0, 1) := by decide +kernel
theorem dX9_isCosyItem_13 : decode cX9_isCosyItem 13 = .ok (.iconst 5, 1) := by decide +kernel
theorem dX9_isCosyItem_14 : decode cX9_isCosyItem 14 = .ok (.invokevirtual 102, 3) := by decide +kernel
theorem dX9_isCosyItem_17 : decode cX9_isCosyItem 17 = .ok (.ifCond .ne 5, 3) := by decide +kernel
theorem dX9_isCosyItem_20 : decode cX9_isCosyItem 20 = .ok (.iconst 0, 1) := by decide +kernel
theorem dX9_isCosyItem_21 : decode cX9_isCosyItem 21 = .ok (.ireturn, 1) := by decide +kernel
theorem dX9_isCosyItem_22 : decode cX9_isCosyItem 22 = .ok (.aload_n 0, 1) := by decide +kernel
theorem dX9_isCosyItem_23 : decode cX9_isCosyItem 23 = .ok (.getfield 86, 3) := by decide +kernel
theorem dX9_isCosyItem_26 : decode cX9_isCosyItem 26 = .ok (.istore_n 1, 1) := by decide +kernel
theorem dX9_isCosyItem_27 : decode cX9_isCosyItem 27 = .ok (.aload_n 0, 1) := by decide +kernel
theorem dX9_isCosyItem_28 : decode cX9_isCosyItem 28 = .ok (.iconst 0, 1) := by decide +kernel
theorem dX9_isCosyItem_29 : decode cX9_isCosyItem 29 = .ok (.bipush 23, 2) := by decide +kernel
theorem dX9_isCosyItem_31 : decode cX9_isCosyItem 31 = .ok (.invokevirtual 102, 3) := by decide +kernel
theorem dX9_isCosyItem_34 : decode cX9_isCosyItem 34 = .ok (.ifCond .ne 5, 3) := by decide +kernel
theorem dX9_isCosyItem_37 : decode cX9_isCosyItem 37 = .ok (.iconst 0, 1) := by decide +kernel
theorem dX9_isCosyItem_38 : decode cX9_isCosyItem 38 = .ok (.ireturn, 1) := by decide +kernel
theorem dX9_isCosyItem_39 : decode cX9_isCosyItem 39 = .ok (.aload_n 0, 1) := by decide +kernel
theorem dX9_isCosyItem_40 : decode cX9_isCosyItem 40 = .ok (.getfield 86, 3) := by decide +kernel
theorem dX9_isCosyItem_43 : decode cX9_isCosyItem 43 = .ok (.istore_n 2, 1) := by decide +kernel
theorem dX9_isCosyItem_44 : decode cX9_isCosyItem 44 = .ok (.aload_n 0, 1) := by decide +kernel
theorem dX9_isCosyItem_45 : decode cX9_isCosyItem 45 = .ok (.iconst 1, 1) := by decide +kernel
theorem dX9_isCosyItem_46 : decode cX9_isCosyItem 46 = .ok (.iconst 4, 1) := by decide +kernel
theorem dX9_isCosyItem_47 : decode cX9_isCosyItem 47 = .ok (.invokevirtual 102, 3) := by decide +kernel
theorem dX9_isCosyItem_50 : decode cX9_isCosyItem 50 = .ok (.ifCond .ne 5, 3) := by decide +kernel
theorem dX9_isCosyItem_53 : decode cX9_isCosyItem 53 = .ok (.iconst 0, 1) := by decide +kernel
theorem dX9_isCosyItem_54 : decode cX9_isCosyItem 54 = .ok (.ireturn, 1) := by decide +kernel
theorem dX9_isCosyItem_55 : decode cX9_isCosyItem 55 = .ok (.aload_n 0, 1) := by decide +kernel
theorem dX9_isCosyItem_56 : decode cX9_isCosyItem 56 = .ok (.getfield 16, 3) := by decide +kernel
theorem dX9_isCosyItem_59 : decode cX9_isCosyItem 59 = .ok (.iload_n 1, 1) := by decide +kernel
theorem dX9_isCosyItem_60 : decode cX9_isCosyItem 60 = .ok (.iload_n 2, 1) := by decide +kernel
theorem dX9_isCosyItem_61 : decode cX9_isCosyItem 61 = .ok (.aload_n 0, 1) := by decide +kernel
theorem dX9_isCosyItem_62 : decode cX9_isCosyItem 62 = .ok (.getfield 86, 3) := by decide +kernel
theorem dX9_isCosyItem_65 : decode cX9_isCosyItem 65 = .ok (.invokestatic 62, 3) := by decide +kernel
theorem dX9_isCosyItem_68 : decode cX9_isCosyItem 68 = .ok (.pop, 1) := by decide +kernel
theorem dX9_isCosyItem_69 : decode cX9_isCosyItem 69 = .ok (.iconst 1, 1) := by decide +kernel
theorem dX9_isCosyItem_70 : decode cX9_isCosyItem 70 = .ok (.ireturn, 1) := by decide +kernel
theorem dX9_isHuntedItem_0 : decode cX9_isHuntedItem 0 = .ok (.aload_n 0, 1) := by decide +kernel
theorem dX9_isHuntedItem_1 : decode cX9_isHuntedItem 1 = .ok (.getfield 16, 3) := by decide +kernel
theorem dX9_isHuntedItem_4 : decode cX9_isHuntedItem 4 = .ok (.bipush 37, 2) := by decide +kernel
theorem dX9_isHuntedItem_6 : decode cX9_isHuntedItem 6 = .ok (.iaload, 1) := by decide +kernel
theorem dX9_isHuntedItem_7 : decode cX9_isHuntedItem 7 = .ok (.bipush 6, 2) := by decide +kernel
theorem dX9_isHuntedItem_9 : decode cX9_isHuntedItem 9 = .ok (.if_icmp .eq 13, 3) := by decide +kernel
theorem dX9_isHuntedItem_12 : decode cX9_isHuntedItem 12 = .ok (.aload_n 0, 1) := by decide +kernel
theorem dX9_isHuntedItem_13 : decode cX9_isHuntedItem 13 = .ok (.iconst 0, 1) := by decide +kernel
theorem dX9_isHuntedItem_14 : decode cX9_isHuntedItem 14 = .ok (.bipush 23, 2) := by decide +kernel
theorem dX9_isHuntedItem_16 : decode cX9_isHuntedItem 16 = .ok (.invokevirtual 102, 3) := by decide +kernel
theorem dX9_isHuntedItem_19 : decode cX9_isHuntedItem 19 = .ok (.ifCond .ne 5, 3) := by decide +kernel
theorem dX9_isHuntedItem_22 : decode cX9_isHuntedItem 22 = .ok (.iconst 0, 1) := by decide +kernel
theorem dX9_isHuntedItem_23 : decode cX9_isHuntedItem 23 = .ok (.ireturn, 1) := by decide +kernel
theorem dX9_isHuntedItem_24 : decode cX9_isHuntedItem 24 = .ok (.aload_n 0, 1) := by decide +kernel
theorem dX9_isHuntedItem_25 : decode cX9_isHuntedItem 25 = .ok (.getfield 16, 3) := by decide +kernel
theorem dX9_isHuntedItem_28 : decode cX9_isHuntedItem 28 = .ok (.aload_n 0, 1) := by decide +kernel
theorem dX9_isHuntedItem_29 : decode cX9_isHuntedItem 29 = .ok (.getfield 86, 3) := by decide +kernel
theorem dX9_isHuntedItem_32 : decode cX9_isHuntedItem 32 = .ok (.invokestatic 66, 3) := by decide +kernel
theorem dX9_isHuntedItem_35 : decode cX9_isHuntedItem 35 = .ok (.pop, 1) := by decide +kernel
theorem dX9_isHuntedItem_36 : decode cX9_isHuntedItem 36 = .ok (.iconst 1, 1) := by decide +kernel
theorem dX9_isHuntedItem_37 : decode cX9_isHuntedItem 37 = .ok (.ireturn, 1) := by decide +kernel
theorem dX9_isSheriffItem_0 : decode cX9_isSheriffItem 0 = .ok (.aload_n 0, 1) := by decide +kernel
theorem dX9_isSheriffItem_1 : decode cX9_isSheriffItem 1 = .ok (.getfield 16, 3) := by decide +kernel
theorem dX9_isSheriffItem_4 : decode cX9_isSheriffItem 4 = .ok (.bipush 38, 2) := by decide +kernel
theorem dX9_isSheriffItem_6 : decode cX9_isSheriffItem 6 = .ok (.iaload, 1) := by decide +kernel
theorem dX9_isSheriffItem_7 : decode cX9_isSheriffItem 7 = .ok (.iconst 3, 1) := by decide +kernel
theorem dX9_isSheriffItem_8 : decode cX9_isSheriffItem 8 = .ok (.if_icmp .eq 13, 3) := by decide +kernel
theorem dX9_isSheriffItem_11 : decode cX9_isSheriffItem 11 = .ok (.aload_n 0, 1) := by decide +kernel
theorem dX9_isSheriffItem_12 : decode cX9_isSheriffItem 12 = .ok (.iconst 0, 1) := by decide +kernel
theorem dX9_isSheriffItem_13 : decode cX9_isSheriffItem 13 = .ok (.bipush 23, 2) := by decide +kernel
theorem dX9_isSheriffItem_15 : decode cX9_isSheriffItem 15 = .ok (.invokevirtual 102, 3) := by decide +kernel
theorem dX9_isSheriffItem_18 : decode cX9_isSheriffItem 18 = .ok (.ifCond .ne 5, 3) := by decide +kernel
theorem dX9_isSheriffItem_21 : decode cX9_isSheriffItem 21 = .ok (.iconst 0, 1) := by decide +kernel
theorem dX9_isSheriffItem_22 : decode cX9_isSheriffItem 22 = .ok (.ireturn, 1) := by decide +kernel
theorem dX9_isSheriffItem_23 : decode cX9_isSheriffItem 23 = .ok (.aload_n 0, 1) := by decide +kernel
theorem dX9_isSheriffItem_24 : decode cX9_isSheriffItem 24 = .ok (.getfield 16, 3) := by decide +kernel
theorem dX9_isSheriffItem_27 : decode cX9_isSheriffItem 27 = .ok (.aload_n 0, 1) := by decide +kernel
theorem dX9_isSheriffItem_28 : decode cX9_isSheriffItem 28 = .ok (.getfield 86, 3) := by decide +kernel
theorem dX9_isSheriffItem_31 : decode cX9_isSheriffItem 31 = .ok (.invokestatic 70, 3) := by decide +kernel
theorem dX9_isSheriffItem_34 : decode cX9_isSheriffItem 34 = .ok (.pop, 1) := by decide +kernel
theorem dX9_isSheriffItem_35 : decode cX9_isSheriffItem 35 = .ok (.iconst 1, 1) := by decide +kernel
theorem dX9_isSheriffItem_36 : decode cX9_isSheriffItem 36 = .ok (.ireturn, 1) := by decide +kernel
theorem dX9_isWearItem_0 : decode cX9_isWearItem 0 = .ok (.aload_n 0, 1) := by decide +kernel
theorem dX9_isWearItem_1 : decode cX9_isWearItem 1 = .ok (.iconst 0, 1) := by decide +kernel
theorem dX9_isWearItem_2 : decode cX9_isWearItem 2 = .ok (.aload_n 0, 1) := by decide +kernel
theorem dX9_isWearItem_3 : decode cX9_isWearItem 3 = .ok (.getfield 16, 3) := by decide +kernel
theorem dX9_isWearItem_6 : decode cX9_isWearItem 6 = .ok (.bipush 26, 2) := by decide +kernel
theorem dX9_isWearItem_8 : decode cX9_isWearItem 8 = .ok (.iaload, 1) := by decide +kernel
theorem dX9_isWearItem_9 : decode cX9_isWearItem 9 = .ok (.iconst 1, 1) := by decide +kernel
theorem dX9_isWearItem_10 : decode cX9_isWearItem 10 = .ok (.isub, 1) := by decide +kernel
theorem dX9_isWearItem_11 : decode cX9_isWearItem 11 = .ok (.invokevirtual 102, 3) := by decide +kernel
theorem dX9_isWearItem_14 : decode cX9_isWearItem 14 = .ok (.ifCond .ne 5, 3) := by decide +kernel
theorem dX9_isWearItem_17 : decode cX9_isWearItem 17 = .ok (.iconst 0, 1) := by decide +kernel
theorem dX9_isWearItem_18 : decode cX9_isWearItem 18 = .ok (.ireturn, 1) := by decide +kernel
theorem dX9_isWearItem_19 : decode cX9_isWearItem 19 = .ok (.aload_n 0, 1) := by decide +kernel
theorem dX9_isWearItem_20 : decode cX9_isWearItem 20 = .ok (.getfield 86, 3) := by decide +kernel
theorem dX9_isWearItem_23 : decode cX9_isWearItem 23 = .ok (.istore_n 1, 1) := by decide +kernel
theorem dX9_isWearItem_24 : decode cX9_isWearItem 24 = .ok (.aload_n 0, 1) := by decide +kernel
theorem dX9_isWearItem_25 : decode cX9_isWearItem 25 = .ok (.iconst 0, 1) := by decide +kernel
theorem dX9_isWearItem_26 : decode cX9_isWearItem 26 = .ok (.bipush 40, 2) := by decide +kernel
theorem dX9_isWearItem_28 : decode cX9_isWearItem 28 = .ok (.invokevirtual 102, 3) := by decide +kernel
theorem dX9_isWearItem_31 : decode cX9_isWearItem 31 = .ok (.ifCond .ne 5, 3) := by decide +kernel
theorem dX9_isWearItem_34 : decode cX9_isWearItem 34 = .ok (.iconst 0, 1) := by decide +kernel
theorem dX9_isWearItem_35 : decode cX9_isWearItem 35 = .ok (.ireturn, 1) := by decide +kernel
theorem dX9_isWearItem_36 : decode cX9_isWearItem 36 = .ok (.aload_n 0, 1) := by decide +kernel
theorem dX9_isWearItem_37 : decode cX9_isWearItem 37 = .ok (.getfield 16, 3) := by decide +kernel
theorem dX9_isWearItem_40 : decode cX9_isWearItem 40 = .ok (.bipush 6, 2) := by decide +kernel
theorem dX9_isWearItem_42 : decode cX9_isWearItem 42 = .ok (.iload_n 1, 1) := by decide +kernel
theorem dX9_isWearItem_43 : decode cX9_isWearItem 43 = .ok (.iadd, 1) := by decide +kernel
theorem dX9_isWearItem_44 : decode cX9_isWearItem 44 = .ok (.aload_n 0, 1) := by decide +kernel
theorem dX9_isWearItem_45 : decode cX9_isWearItem 45 = .ok (.getfield 86, 3) := by decide +kernel
theorem dX9_isWearItem_48 : decode cX9_isWearItem 48 = .ok (.iastore, 1) := by decide +kernel
theorem dX9_isWearItem_49 : decode cX9_isWearItem 49 = .ok (.iconst 1, 1) := by decide +kernel
theorem dX9_isWearItem_50 : decode cX9_isWearItem 50 = .ok (.ireturn, 1) := by decide +kernel
theorem dX9_isItem_0 : decode cX9_isItem 0 = .ok (.aload_n 0, 1) := by decide +kernel
theorem dX9_isItem_1 : decode cX9_isItem 1 = .ok (.getfield 106, 3) := by decide +kernel
theorem dX9_isItem_4 : decode cX9_isItem 4 = .ok (.ifCond .ne 7, 3) := by decide +kernel
theorem dX9_isItem_7 : decode cX9_isItem 7 = .ok (.iconst 1, 1) := by decide +kernel
theorem dX9_isItem_8 : decode cX9_isItem 8 = .ok (.goto 4, 3) := by decide +kernel
theorem dX9_isItem_11 : decode cX9_isItem 11 = .ok (.iconst 0, 1) := by decide +kernel
theorem dX9_isItem_12 : decode cX9_isItem 12 = .ok (.istore_n 1, 1) := by decide +kernel
theorem dX9_isItem_13 : decode cX9_isItem 13 = .ok (.aload_n 0, 1) := by decide +kernel
theorem dX9_isItem_14 : decode cX9_isItem 14 = .ok (.getfield 89, 3) := by decide +kernel
theorem dX9_isItem_17 : decode cX9_isItem 17 = .ok (.iconst 1, 1) := by decide +kernel
theorem dX9_isItem_18 : decode cX9_isItem 18 = .ok (.if_icmp .ne 23, 3) := by decide +kernel
theorem dX9_isItem_21 : decode cX9_isItem 21 = .ok (.iload_n 1, 1) := by decide +kernel
theorem dX9_isItem_22 : decode cX9_isItem 22 = .ok (.aload_n 0, 1) := by decide +kernel
theorem dX9_isItem_23 : decode cX9_isItem 23 = .ok (.getfield 83, 3) := by decide +kernel
theorem dX9_isItem_26 : decode cX9_isItem 26 = .ok (.ldc2_w 109, 3) := by decide +kernel
theorem dX9_isItem_29 : decode cX9_isItem 29 = .ok (.lcmp, 1) := by decide +kernel
theorem dX9_isItem_30 : decode cX9_isItem 30 = .ok (.ifCond .ne 7, 3) := by decide +kernel
theorem dX9_isItem_33 : decode cX9_isItem 33 = .ok (.iconst 1, 1) := by decide +kernel
theorem dX9_isItem_34 : decode cX9_isItem 34 = .ok (.goto 4, 3) := by decide +kernel
theorem dX9_isItem_37 : decode cX9_isItem 37 = .ok (.iconst 0, 1) := by decide +kernel
theorem dX9_isItem_38 : decode cX9_isItem 38 = .ok (.if_icmp .eq 5, 3) := by decide +kernel
theorem dX9_isItem_41 : decode cX9_isItem 41 = .ok (.iconst 0, 1) := by decide +kernel
theorem dX9_isItem_42 : decode cX9_isItem 42 = .ok (.ireturn, 1) := by decide +kernel
theorem dX9_isItem_43 : decode cX9_isItem 43 = .ok (.iload_n 1, 1) := by decide +kernel
theorem dX9_isItem_44 : decode cX9_isItem 44 = .ok (.ifCond .eq 5, 3) := by decide +kernel
theorem dX9_isItem_47 : decode cX9_isItem 47 = .ok (.iconst 1, 1) := by decide +kernel
theorem dX9_isItem_48 : decode cX9_isItem 48 = .ok (.ireturn, 1) := by decide +kernel
theorem dX9_isItem_49 : decode cX9_isItem 49 = .ok (.aload_n 0, 1) := by decide +kernel
theorem dX9_isItem_50 : decode cX9_isItem 50 = .ok (.getfield 83, 3) := by decide +kernel
theorem dX9_isItem_53 : decode cX9_isItem 53 = .ok (.ldc2_w 111, 3) := by decide +kernel
theorem dX9_isItem_56 : decode cX9_isItem 56 = .ok (.lcmp, 1) := by decide +kernel
theorem dX9_isItem_57 : decode cX9_isItem 57 = .ok (.ifCond .ne 8, 3) := by decide +kernel
theorem dX9_isItem_60 : decode cX9_isItem 60 = .ok (.aload_n 0, 1) := by decide +kernel
theorem dX9_isItem_61 : decode cX9_isItem 61 = .ok (.invokevirtual 113, 3) := by decide +kernel
theorem dX9_isItem_64 : decode cX9_isItem 64 = .ok (.ireturn, 1) := by decide +kernel
theorem dX9_isItem_65 : decode cX9_isItem 65 = .ok (.aload_n 0, 1) := by decide +kernel
theorem dX9_isItem_66 : decode cX9_isItem 66 = .ok (.getfield 83, 3) := by decide +kernel
theorem dX9_isItem_69 : decode cX9_isItem 69 = .ok (.ldc2_w 117, 3) := by decide +kernel
theorem dX9_isItem_72 : decode cX9_isItem 72 = .ok (.lcmp, 1) := by decide +kernel
theorem dX9_isItem_73 : decode cX9_isItem 73 = .ok (.ifCond .ne 8, 3) := by decide +kernel
theorem dX9_isItem_76 : decode cX9_isItem 76 = .ok (.aload_n 0, 1) := by decide +kernel
theorem dX9_isItem_77 : decode cX9_isItem 77 = .ok (.invokevirtual 119, 3) := by decide +kernel
theorem dX9_isItem_80 : decode cX9_isItem 80 = .ok (.ireturn, 1) := by decide +kernel
theorem dX9_isItem_81 : decode cX9_isItem 81 = .ok (.aload_n 0, 1) := by decide +kernel
theorem dX9_isItem_82 : decode cX9_isItem 82 = .ok (.getfield 83, 3) := by decide +kernel
theorem dX9_isItem_85 : decode cX9_isItem 85 = .ok (.ldc2_w 122, 3) := by decide +kernel
theorem dX9_isItem_88 : decode cX9_isItem 88 = .ok (.lcmp, 1) := by decide +kernel
theorem dX9_isItem_89 : decode cX9_isItem 89 = .ok (.ifCond .ne 10, 3) := by decide +kernel
theorem dX9_isItem_92 : decode cX9_isItem 92 = .ok (.aload_n 0, 1) := by decide +kernel
theorem dX9_isItem_93 : decode cX9_isItem 93 = .ok (.invokevirtual 124, 3) := by decide +kernel
theorem dX9_isItem_96 : decode cX9_isItem 96 = .ok (.goto 26, 3) := by decide +kernel
theorem dX9_isItem_99 : decode cX9_isItem 99 = .ok (.aload_n 0, 1) := by decide +kernel
theorem dX9_isItem_100 : decode cX9_isItem 100 = .ok (.getfield 83, 3) := by decide +kernel
theorem dX9_isItem_103 : decode cX9_isItem 103 = .ok (.ldc2_w 127, 3) := by decide +kernel
theorem dX9_isItem_106 : decode cX9_isItem 106 = .ok (.lcmp, 1) := by decide +kernel
theorem dX9_isItem_107 : decode cX9_isItem 107 = .ok (.ifCond .ne 14, 3) := by decide +kernel
theorem dX9_isItem_110 : decode cX9_isItem 110 = .ok (.aload_n 0, 1) := by decide +kernel
theorem dX9_isItem_111 : decode cX9_isItem 111 = .ok (.invokevirtual 129, 3) := by decide +kernel
theorem dX9_isItem_114 : decode cX9_isItem 114 = .ok (.ifCond .eq 7, 3) := by decide +kernel
theorem dX9_isItem_117 : decode cX9_isItem 117 = .ok (.iconst 1, 1) := by decide +kernel
theorem dX9_isItem_118 : decode cX9_isItem 118 = .ok (.goto 4, 3) := by decide +kernel
theorem dX9_isItem_121 : decode cX9_isItem 121 = .ok (.iconst 0, 1) := by decide +kernel
theorem dX9_isItem_122 : decode cX9_isItem 122 = .ok (.ireturn, 1) := by decide +kernel
theorem dX9_isRead_0 : decode cX9_isRead 0 = .ok (.aload_n 0, 1) := by decide +kernel
theorem dX9_isRead_1 : decode cX9_isRead 1 = .ok (.getfield 16, 3) := by decide +kernel
theorem dX9_isRead_4 : decode cX9_isRead 4 = .ok (.invokestatic 47, 3) := by decide +kernel
theorem dX9_isRead_7 : decode cX9_isRead 7 = .ok (.aload_n 0, 1) := by decide +kernel
theorem dX9_isRead_8 : decode cX9_isRead 8 = .ok (.iconst 0, 1) := by decide +kernel
theorem dX9_isRead_9 : decode cX9_isRead 9 = .ok (.putfield 77, 3) := by decide +kernel
theorem dX9_isRead_12 : decode cX9_isRead 12 = .ok (.aload_n 0, 1) := by decide +kernel
theorem dX9_isRead_13 : decode cX9_isRead 13 = .ok (.iconst 0, 1) := by decide +kernel
theorem dX9_isRead_14 : decode cX9_isRead 14 = .ok (.putfield 106, 3) := by decide +kernel
theorem dX9_isRead_17 : decode cX9_isRead 17 = .ok (.aload_n 0, 1) := by decide +kernel
theorem dX9_isRead_18 : decode cX9_isRead 18 = .ok (.invokevirtual 99, 3) := by decide +kernel
theorem dX9_isRead_21 : decode cX9_isRead 21 = .ok (.aload_n 0, 1) := by decide +kernel
theorem dX9_isRead_22 : decode cX9_isRead 22 = .ok (.getfield 89, 3) := by decide +kernel
theorem dX9_isRead_25 : decode cX9_isRead 25 = .ok (.ifCond .ne 10, 3) := by decide +kernel
theorem dX9_isRead_28 : decode cX9_isRead 28 = .ok (.aload_n 0, 1) := by decide +kernel
theorem dX9_isRead_29 : decode cX9_isRead 29 = .ok (.getfield 106, 3) := by decide +kernel
theorem dX9_isRead_32 : decode cX9_isRead 32 = .ok (.ifCond .ne 43, 3) := by decide +kernel
theorem dX9_isRead_35 : decode cX9_isRead 35 = .ok (.aload_n 0, 1) := by decide +kernel
theorem dX9_isRead_36 : decode cX9_isRead 36 = .ok (.invokevirtual 132, 3) := by decide +kernel
theorem dX9_isRead_39 : decode cX9_isRead 39 = .ok (.ifCond .ne 5, 3) := by decide +kernel
theorem dX9_isRead_42 : decode cX9_isRead 42 = .ok (.iconst 0, 1) := by decide +kernel
theorem dX9_isRead_43 : decode cX9_isRead 43 = .ok (.ireturn, 1) := by decide +kernel
theorem dX9_isRead_44 : decode cX9_isRead 44 = .ok (.aload_n 0, 1) := by decide +kernel
theorem dX9_isRead_45 : decode cX9_isRead 45 = .ok (.invokevirtual 99, 3) := by decide +kernel
theorem dX9_isRead_48 : decode cX9_isRead 48 = .ok (.aload_n 0, 1) := by decide +kernel
theorem dX9_isRead_49 : decode cX9_isRead 49 = .ok (.getfield 89, 3) := by decide +kernel
theorem dX9_isRead_52 : decode cX9_isRead 52 = .ok (.iconst 3, 1) := by decide +kernel
theorem dX9_isRead_53 : decode cX9_isRead 53 = .ok (.if_icmp .eq 5, 3) := by decide +kernel
theorem dX9_isRead_56 : decode cX9_isRead 56 = .ok (.iconst 0, 1) := by decide +kernel
theorem dX9_isRead_57 : decode cX9_isRead 57 = .ok (.ireturn, 1) := by decide +kernel
theorem dX9_isRead_58 : decode cX9_isRead 58 = .ok (.aload_n 0, 1) := by decide +kernel
theorem dX9_isRead_59 : decode cX9_isRead 59 = .ok (.dup, 1) := by decide +kernel
theorem dX9_isRead_60 : decode cX9_isRead 60 = .ok (.getfield 106, 3) := by decide +kernel
theorem dX9_isRead_63 : decode cX9_isRead 63 = .ok (.iconst 1, 1) := by decide +kernel
theorem dX9_isRead_64 : decode cX9_isRead 64 = .ok (.iadd, 1) := by decide +kernel
theorem dX9_isRead_65 : decode cX9_isRead 65 = .ok (.putfield 106, 3) := by decide +kernel
theorem dX9_isRead_68 : decode cX9_isRead 68 = .ok (.aload_n 0, 1) := by decide +kernel
theorem dX9_isRead_69 : decode cX9_isRead 69 = .ok (.invokevirtual 99, 3) := by decide +kernel
theorem dX9_isRead_72 : decode cX9_isRead 72 = .ok (.goto (-51), 3) := by decide +kernel
theorem dX9_isRead_75 : decode cX9_isRead 75 = .ok (.iconst 1, 1) := by decide +kernel
theorem dX9_isRead_76 : decode cX9_isRead 76 = .ok (.ireturn, 1) := by decide +kernel
theorem dX9_read_0 : decode cX9_read 0 = .ok (.aload_n 0, 1) := by decide +kernel
theorem dX9_read_1 : decode cX9_read 1 = .ok (.invokevirtual 135, 3) := by decide +kernel
theorem dX9_read_4 : decode cX9_read 4 = .ok (.ifCond .ne 11, 3) := by decide +kernel
theorem dX9_read_7 : decode cX9_read 7 = .ok (.bipush (-10), 2) := by decide +kernel
theorem dX9_read_9 : decode cX9_read 9 = .ok (.aload_n 0, 1) := by decide +kernel
theorem dX9_read_10 : decode cX9_read 10 = .ok (.getfield 80, 3) := by decide +kernel
theorem dX9_read_13 : decode cX9_read 13 = .ok (.isub, 1) := by decide +kernel
theorem dX9_read_14 : decode cX9_read 14 = .ok (.ireturn, 1) := by decide +kernel
theorem dX9_read_15 : decode cX9_read 15 = .ok (.aload_n 0, 1) := by decide +kernel
theorem dX9_read_16 : decode cX9_read 16 = .ok (.getfield 16, 3) := by decide +kernel
theorem dX9_read_19 : decode cX9_read 19 = .ok (.iconst 0, 1) := by decide +kernel
theorem dX9_read_20 : decode cX9_read 20 = .ok (.aload_n 0, 1) := by decide +kernel
theorem dX9_read_21 : decode cX9_read 21 = .ok (.getfield 7, 3) := by decide +kernel
theorem dX9_read_24 : decode cX9_read 24 = .ok (.iconst 0, 1) := by decide +kernel
theorem dX9_read_25 : decode cX9_read 25 = .ok (.sipush 267, 3) := by decide +kernel
theorem dX9_read_28 : decode cX9_read 28 = .ok (.invokestatic 138, 3) := by decide +kernel
theorem dX9_read_31 : decode cX9_read 31 = .ok (.aload_n 0, 1) := by decide +kernel
theorem dX9_read_32 : decode cX9_read 32 = .ok (.getfield 106, 3) := by decide +kernel
theorem dX9_read_35 : decode cX9_read 35 = .ok (.ireturn, 1) := by decide +kernel
theorem dX9_holdsBy_0 : decode cX9_holdsBy 0 = .ok (.iload_n 1, 1) := by decide +kernel
theorem dX9_holdsBy_1 : decode cX9_holdsBy 1 = .ok (.iload_n 2, 1) := by decide +kernel
theorem dX9_holdsBy_2 : decode cX9_holdsBy 2 = .ok (.bipush 10, 2) := by decide +kernel
theorem dX9_holdsBy_4 : decode cX9_holdsBy 4 = .ok (.idiv, 1) := by decide +kernel
theorem dX9_holdsBy_5 : decode cX9_holdsBy 5 = .ok (.if_icmp .le 12, 3) := by decide +kernel
theorem dX9_holdsBy_8 : decode cX9_holdsBy 8 = .ok (.iload_n 1, 1) := by decide +kernel
theorem dX9_holdsBy_9 : decode cX9_holdsBy 9 = .ok (.iload_n 2, 1) := by decide +kernel
theorem dX9_holdsBy_10 : decode cX9_holdsBy 10 = .ok (.bipush 10, 2) := by decide +kernel
theorem dX9_holdsBy_12 : decode cX9_holdsBy 12 = .ok (.idiv, 1) := by decide +kernel
theorem dX9_holdsBy_13 : decode cX9_holdsBy 13 = .ok (.isub, 1) := by decide +kernel
theorem dX9_holdsBy_14 : decode cX9_holdsBy 14 = .ok (.goto 4, 3) := by decide +kernel
theorem dX9_holdsBy_17 : decode cX9_holdsBy 17 = .ok (.iconst 0, 1) := by decide +kernel
theorem dX9_holdsBy_18 : decode cX9_holdsBy 18 = .ok (.istore_n 3, 1) := by decide +kernel
theorem dX9_holdsBy_19 : decode cX9_holdsBy 19 = .ok (.iload_n 1, 1) := by decide +kernel
theorem dX9_holdsBy_20 : decode cX9_holdsBy 20 = .ok (.iload_n 2, 1) := by decide +kernel
theorem dX9_holdsBy_21 : decode cX9_holdsBy 21 = .ok (.bipush 20, 2) := by decide +kernel
theorem dX9_holdsBy_23 : decode cX9_holdsBy 23 = .ok (.idiv, 1) := by decide +kernel
theorem dX9_holdsBy_24 : decode cX9_holdsBy 24 = .ok (.if_icmp .le 12, 3) := by decide +kernel
theorem dX9_holdsBy_27 : decode cX9_holdsBy 27 = .ok (.iload_n 1, 1) := by decide +kernel
theorem dX9_holdsBy_28 : decode cX9_holdsBy 28 = .ok (.iload_n 2, 1) := by decide +kernel
theorem dX9_holdsBy_29 : decode cX9_holdsBy 29 = .ok (.bipush 20, 2) := by decide +kernel
theorem dX9_holdsBy_31 : decode cX9_holdsBy 31 = .ok (.idiv, 1) := by decide +kernel
theorem dX9_holdsBy_32 : decode cX9_holdsBy 32 = .ok (.isub, 1) := by decide +kernel
theorem dX9_holdsBy_33 : decode cX9_holdsBy 33 = .ok (.goto 4, 3) := by decide +kernel
theorem dX9_holdsBy_36 : decode cX9_holdsBy 36 = .ok (.iconst 0, 1) := by decide +kernel
theorem dX9_holdsBy_37 : decode cX9_holdsBy 37 = .ok (.istore 4, 2) := by decide +kernel
theorem dX9_holdsBy_39 : decode cX9_holdsBy 39 = .ok (.iload_n 0, 1) := by decide +kernel
theorem dX9_holdsBy_40 : decode cX9_holdsBy 40 = .ok (.tableswitch 61 0 4 #[36, 38, 42, 45, 47], 36) := by decide +kernel
theorem dX9_holdsBy_76 : decode cX9_holdsBy 76 = .ok (.iload_n 3, 1) := by decide +kernel
theorem dX9_holdsBy_77 : decode cX9_holdsBy 77 = .ok (.ireturn, 1) := by decide +kernel
theorem dX9_holdsBy_78 : decode cX9_holdsBy 78 = .ok (.iload_n 3, 1) := by decide +kernel
theorem dX9_holdsBy_79 : decode cX9_holdsBy 79 = .ok (.iconst 1, 1) := by decide +kernel
theorem dX9_holdsBy_80 : decode cX9_holdsBy 80 = .ok (.iadd, 1) := by decide +kernel
theorem dX9_holdsBy_81 : decode cX9_holdsBy 81 = .ok (.ireturn, 1) := by decide +kernel
theorem dX9_holdsBy_82 : decode cX9_holdsBy 82 = .ok (.iload 4, 2) := by decide +kernel
theorem dX9_holdsBy_84 : decode cX9_holdsBy 84 = .ok (.ireturn, 1) := by decide +kernel
theorem dX9_holdsBy_85 : decode cX9_holdsBy 85 = .ok (.iconst 0, 1) := by decide +kernel
theorem dX9_holdsBy_86 : decode cX9_holdsBy 86 = .ok (.ireturn, 1) := by decide +kernel
theorem dX9_holdsBy_87 : decode cX9_holdsBy 87 = .ok (.iload_n 2, 1) := by decide +kernel
theorem dX9_holdsBy_88 : decode cX9_holdsBy 88 = .ok (.ifCond .ne 9, 3) := by decide +kernel
theorem dX9_holdsBy_91 : decode cX9_holdsBy 91 = .ok (.iload_n 3, 1) := by decide +kernel
theorem dX9_holdsBy_92 : decode cX9_holdsBy 92 = .ok (.iconst 3, 1) := by decide +kernel
theorem dX9_holdsBy_93 : decode cX9_holdsBy 93 = .ok (.iadd, 1) := by decide +kernel
theorem dX9_holdsBy_94 : decode cX9_holdsBy 94 = .ok (.goto 6, 3) := by decide +kernel
theorem dX9_holdsBy_97 : decode cX9_holdsBy 97 = .ok (.iload_n 3, 1) := by decide +kernel
theorem dX9_holdsBy_98 : decode cX9_holdsBy 98 = .ok (.iconst 1, 1) := by decide +kernel
theorem dX9_holdsBy_99 : decode cX9_holdsBy 99 = .ok (.iadd, 1) := by decide +kernel
theorem dX9_holdsBy_100 : decode cX9_holdsBy 100 = .ok (.ireturn, 1) := by decide +kernel
theorem dX9_holdsBy_101 : decode cX9_holdsBy 101 = .ok (.iload 4, 2) := by decide +kernel
theorem dX9_holdsBy_103 : decode cX9_holdsBy 103 = .ok (.ifCond .le 10, 3) := by decide +kernel
theorem dX9_holdsBy_106 : decode cX9_holdsBy 106 = .ok (.iload 4, 2) := by decide +kernel
theorem dX9_holdsBy_108 : decode cX9_holdsBy 108 = .ok (.iconst 1, 1) := by decide +kernel
theorem dX9_holdsBy_109 : decode cX9_holdsBy 109 = .ok (.isub, 1) := by decide +kernel
theorem dX9_holdsBy_110 : decode cX9_holdsBy 110 = .ok (.goto 4, 3) := by decide +kernel
theorem dX9_holdsBy_113 : decode cX9_holdsBy 113 = .ok (.iconst 0, 1) := by decide +kernel
theorem dX9_holdsBy_114 : decode cX9_holdsBy 114 = .ok (.ireturn, 1) := by decide +kernel
theorem dX9_wearsBy_0 : decode cX9_wearsBy 0 = .ok (.iload_n 0, 1) := by decide +kernel
theorem dX9_wearsBy_1 : decode cX9_wearsBy 1 = .ok (.iconst 3, 1) := by decide +kernel
theorem dX9_wearsBy_2 : decode cX9_wearsBy 2 = .ok (.if_icmp .ne 7, 3) := by decide +kernel
theorem dX9_wearsBy_5 : decode cX9_wearsBy 5 = .ok (.iconst 0, 1) := by decide +kernel
theorem dX9_wearsBy_6 : decode cX9_wearsBy 6 = .ok (.goto 26, 3) := by decide +kernel
theorem dX9_wearsBy_9 : decode cX9_wearsBy 9 = .ok (.iload_n 0, 1) := by decide +kernel
theorem dX9_wearsBy_10 : decode cX9_wearsBy 10 = .ok (.iconst 4, 1) := by decide +kernel
theorem dX9_wearsBy_11 : decode cX9_wearsBy 11 = .ok (.if_icmp .ne 9, 3) := by decide +kernel
theorem dX9_wearsBy_14 : decode cX9_wearsBy 14 = .ok (.iconst 2, 1) := by decide +kernel
theorem dX9_wearsBy_15 : decode cX9_wearsBy 15 = .ok (.iload_n 1, 1) := by decide +kernel
theorem dX9_wearsBy_16 : decode cX9_wearsBy 16 = .ok (.imul, 1) := by decide +kernel
theorem dX9_wearsBy_17 : decode cX9_wearsBy 17 = .ok (.goto 15, 3) := by decide +kernel
theorem dX9_wearsBy_20 : decode cX9_wearsBy 20 = .ok (.iload_n 0, 1) := by decide +kernel
theorem dX9_wearsBy_21 : decode cX9_wearsBy 21 = .ok (.iconst 5, 1) := by decide +kernel
theorem dX9_wearsBy_22 : decode cX9_wearsBy 22 = .ok (.if_icmp .ne 9, 3) := by decide +kernel
theorem dX9_wearsBy_25 : decode cX9_wearsBy 25 = .ok (.iload_n 1, 1) := by decide +kernel
theorem dX9_wearsBy_26 : decode cX9_wearsBy 26 = .ok (.iconst 1, 1) := by decide +kernel
theorem dX9_wearsBy_27 : decode cX9_wearsBy 27 = .ok (.iadd, 1) := by decide +kernel
theorem dX9_wearsBy_28 : decode cX9_wearsBy 28 = .ok (.goto 4, 3) := by decide +kernel
theorem dX9_wearsBy_31 : decode cX9_wearsBy 31 = .ok (.iload_n 1, 1) := by decide +kernel
theorem dX9_wearsBy_32 : decode cX9_wearsBy 32 = .ok (.ireturn, 1) := by decide +kernel
theorem dX9_holds_0 : decode cX9_holds 0 = .ok (.aload_n 0, 1) := by decide +kernel
theorem dX9_holds_1 : decode cX9_holds 1 = .ok (.bipush 27, 2) := by decide +kernel
theorem dX9_holds_3 : decode cX9_holds 3 = .ok (.iload_n 1, 1) := by decide +kernel
theorem dX9_holds_4 : decode cX9_holds 4 = .ok (.iadd, 1) := by decide +kernel
theorem dX9_holds_5 : decode cX9_holds 5 = .ok (.iaload, 1) := by decide +kernel
theorem dX9_holds_6 : decode cX9_holds 6 = .ok (.aload_n 0, 1) := by decide +kernel
theorem dX9_holds_7 : decode cX9_holds 7 = .ok (.bipush 32, 2) := by decide +kernel
theorem dX9_holds_9 : decode cX9_holds 9 = .ok (.iload_n 1, 1) := by decide +kernel
theorem dX9_holds_10 : decode cX9_holds 10 = .ok (.iadd, 1) := by decide +kernel
theorem dX9_holds_11 : decode cX9_holds 11 = .ok (.iaload, 1) := by decide +kernel
theorem dX9_holds_12 : decode cX9_holds 12 = .ok (.aload_n 0, 1) := by decide +kernel
theorem dX9_holds_13 : decode cX9_holds 13 = .ok (.bipush 6, 2) := by decide +kernel
theorem dX9_holds_15 : decode cX9_holds 15 = .ok (.iload_n 1, 1) := by decide +kernel
theorem dX9_holds_16 : decode cX9_holds 16 = .ok (.iadd, 1) := by decide +kernel
theorem dX9_holds_17 : decode cX9_holds 17 = .ok (.iaload, 1) := by decide +kernel
theorem dX9_holds_18 : decode cX9_holds 18 = .ok (.invokestatic 142, 3) := by decide +kernel
theorem dX9_holds_21 : decode cX9_holds 21 = .ok (.ireturn, 1) := by decide +kernel
theorem dX9_underIn_0 : decode cX9_underIn 0 = .ok (.iconst 0, 1) := by decide +kernel
theorem dX9_underIn_1 : decode cX9_underIn 1 = .ok (.istore_n 2, 1) := by decide +kernel
theorem dX9_underIn_2 : decode cX9_underIn 2 = .ok (.iconst 0, 1) := by decide +kernel
theorem dX9_underIn_3 : decode cX9_underIn 3 = .ok (.istore_n 3, 1) := by decide +kernel
theorem dX9_underIn_4 : decode cX9_underIn 4 = .ok (.iload_n 3, 1) := by decide +kernel
theorem dX9_underIn_5 : decode cX9_underIn 5 = .ok (.aload_n 0, 1) := by decide +kernel
theorem dX9_underIn_6 : decode cX9_underIn 6 = .ok (.bipush 37, 2) := by decide +kernel
theorem dX9_underIn_8 : decode cX9_underIn 8 = .ok (.iaload, 1) := by decide +kernel
theorem dX9_underIn_9 : decode cX9_underIn 9 = .ok (.if_icmp .ge 31, 3) := by decide +kernel
theorem dX9_underIn_12 : decode cX9_underIn 12 = .ok (.iload_n 2, 1) := by decide +kernel
theorem dX9_underIn_13 : decode cX9_underIn 13 = .ok (.aload_n 0, 1) := by decide +kernel
theorem dX9_underIn_14 : decode cX9_underIn 14 = .ok (.bipush 17, 2) := by decide +kernel
theorem dX9_underIn_16 : decode cX9_underIn 16 = .ok (.iload_n 3, 1) := by decide +kernel
theorem dX9_underIn_17 : decode cX9_underIn 17 = .ok (.iadd, 1) := by decide +kernel
theorem dX9_underIn_18 : decode cX9_underIn 18 = .ok (.iaload, 1) := by decide +kernel
theorem dX9_underIn_19 : decode cX9_underIn 19 = .ok (.iconst 1, 1) := by decide +kernel
theorem dX9_underIn_20 : decode cX9_underIn 20 = .ok (.iload_n 1, 1) := by decide +kernel
theorem dX9_underIn_21 : decode cX9_underIn 21 = .ok (.iadd, 1) := by decide +kernel
theorem dX9_underIn_22 : decode cX9_underIn 22 = .ok (.if_icmp .ne 9, 3) := by decide +kernel
theorem dX9_underIn_25 : decode cX9_underIn 25 = .ok (.iconst 1, 1) := by decide +kernel
theorem dX9_underIn_26 : decode cX9_underIn 26 = .ok (.iload_n 3, 1) := by decide +kernel
theorem dX9_underIn_27 : decode cX9_underIn 27 = .ok (.ishl, 1) := by decide +kernel
theorem dX9_underIn_28 : decode cX9_underIn 28 = .ok (.goto 4, 3) := by decide +kernel
theorem dX9_underIn_31 : decode cX9_underIn 31 = .ok (.iconst 0, 1) := by decide +kernel
theorem dX9_underIn_32 : decode cX9_underIn 32 = .ok (.ior, 1) := by decide +kernel
theorem dX9_underIn_33 : decode cX9_underIn 33 = .ok (.istore_n 2, 1) := by decide +kernel
theorem dX9_underIn_34 : decode cX9_underIn 34 = .ok (.iinc 3 1, 3) := by decide +kernel
theorem dX9_underIn_37 : decode cX9_underIn 37 = .ok (.goto (-33), 3) := by decide +kernel
theorem dX9_underIn_40 : decode cX9_underIn 40 = .ok (.iload_n 2, 1) := by decide +kernel
theorem dX9_underIn_41 : decode cX9_underIn 41 = .ok (.ireturn, 1) := by decide +kernel
theorem dX9_away_0 : decode cX9_away 0 = .ok (.iload_n 0, 1) := by decide +kernel
theorem dX9_away_1 : decode cX9_away 1 = .ok (.ifCond .ge 8, 3) := by decide +kernel
theorem dX9_away_4 : decode cX9_away 4 = .ok (.iload_n 0, 1) := by decide +kernel
theorem dX9_away_5 : decode cX9_away 5 = .ok (.ineg, 1) := by decide +kernel
theorem dX9_away_6 : decode cX9_away 6 = .ok (.goto 4, 3) := by decide +kernel
theorem dX9_away_9 : decode cX9_away 9 = .ok (.iload_n 0, 1) := by decide +kernel
theorem dX9_away_10 : decode cX9_away 10 = .ok (.ireturn, 1) := by decide +kernel
theorem dX9_far_0 : decode cX9_far 0 = .ok (.iload_n 0, 1) := by decide +kernel
theorem dX9_far_1 : decode cX9_far 1 = .ok (.bipush 6, 2) := by decide +kernel
theorem dX9_far_3 : decode cX9_far 3 = .ok (.idiv, 1) := by decide +kernel
theorem dX9_far_4 : decode cX9_far 4 = .ok (.iload_n 1, 1) := by decide +kernel
theorem dX9_far_5 : decode cX9_far 5 = .ok (.bipush 6, 2) := by decide +kernel
theorem dX9_far_7 : decode cX9_far 7 = .ok (.idiv, 1) := by decide +kernel
theorem dX9_far_8 : decode cX9_far 8 = .ok (.isub, 1) := by decide +kernel
theorem dX9_far_9 : decode cX9_far 9 = .ok (.invokestatic 146, 3) := by decide +kernel
theorem dX9_far_12 : decode cX9_far 12 = .ok (.iload_n 0, 1) := by decide +kernel
theorem dX9_far_13 : decode cX9_far 13 = .ok (.bipush 6, 2) := by decide +kernel
theorem dX9_far_15 : decode cX9_far 15 = .ok (.irem, 1) := by decide +kernel
theorem dX9_far_16 : decode cX9_far 16 = .ok (.iload_n 1, 1) := by decide +kernel
theorem dX9_far_17 : decode cX9_far 17 = .ok (.bipush 6, 2) := by decide +kernel
theorem dX9_far_19 : decode cX9_far 19 = .ok (.irem, 1) := by decide +kernel
theorem dX9_far_20 : decode cX9_far 20 = .ok (.isub, 1) := by decide +kernel
theorem dX9_far_21 : decode cX9_far 21 = .ok (.invokestatic 146, 3) := by decide +kernel
theorem dX9_far_24 : decode cX9_far 24 = .ok (.iadd, 1) := by decide +kernel
theorem dX9_far_25 : decode cX9_far 25 = .ok (.ireturn, 1) := by decide +kernel
theorem dX9_step_0 : decode cX9_step 0 = .ok (.iload_n 1, 1) := by decide +kernel
theorem dX9_step_1 : decode cX9_step 1 = .ok (.bipush 6, 2) := by decide +kernel
theorem dX9_step_3 : decode cX9_step 3 = .ok (.idiv, 1) := by decide +kernel
theorem dX9_step_4 : decode cX9_step 4 = .ok (.iload_n 0, 1) := by decide +kernel
theorem dX9_step_5 : decode cX9_step 5 = .ok (.bipush 6, 2) := by decide +kernel
theorem dX9_step_7 : decode cX9_step 7 = .ok (.idiv, 1) := by decide +kernel
theorem dX9_step_8 : decode cX9_step 8 = .ok (.isub, 1) := by decide +kernel
theorem dX9_step_9 : decode cX9_step 9 = .ok (.istore_n 2, 1) := by decide +kernel
theorem dX9_step_10 : decode cX9_step 10 = .ok (.iload_n 1, 1) := by decide +kernel
theorem dX9_step_11 : decode cX9_step 11 = .ok (.bipush 6, 2) := by decide +kernel
theorem dX9_step_13 : decode cX9_step 13 = .ok (.irem, 1) := by decide +kernel
theorem dX9_step_14 : decode cX9_step 14 = .ok (.iload_n 0, 1) := by decide +kernel
theorem dX9_step_15 : decode cX9_step 15 = .ok (.bipush 6, 2) := by decide +kernel
theorem dX9_step_17 : decode cX9_step 17 = .ok (.irem, 1) := by decide +kernel
theorem dX9_step_18 : decode cX9_step 18 = .ok (.isub, 1) := by decide +kernel
theorem dX9_step_19 : decode cX9_step 19 = .ok (.istore_n 3, 1) := by decide +kernel
theorem dX9_step_20 : decode cX9_step 20 = .ok (.iload_n 2, 1) := by decide +kernel
theorem dX9_step_21 : decode cX9_step 21 = .ok (.ifCond .ne 9, 3) := by decide +kernel
theorem dX9_step_24 : decode cX9_step 24 = .ok (.iload_n 3, 1) := by decide +kernel
theorem dX9_step_25 : decode cX9_step 25 = .ok (.ifCond .ne 5, 3) := by decide +kernel
theorem dX9_step_28 : decode cX9_step 28 = .ok (.iload_n 0, 1) := by decide +kernel
theorem dX9_step_29 : decode cX9_step 29 = .ok (.ireturn, 1) := by decide +kernel
theorem dX9_step_30 : decode cX9_step 30 = .ok (.iload_n 3, 1) := by decide +kernel
theorem dX9_step_31 : decode cX9_step 31 = .ok (.invokestatic 146, 3) := by decide +kernel
theorem dX9_step_34 : decode cX9_step 34 = .ok (.iload_n 2, 1) := by decide +kernel
theorem dX9_step_35 : decode cX9_step 35 = .ok (.invokestatic 146, 3) := by decide +kernel
theorem dX9_step_38 : decode cX9_step 38 = .ok (.if_icmp .lt 17, 3) := by decide +kernel
theorem dX9_step_41 : decode cX9_step 41 = .ok (.iload_n 3, 1) := by decide +kernel
theorem dX9_step_42 : decode cX9_step 42 = .ok (.ifCond .le 9, 3) := by decide +kernel
theorem dX9_step_45 : decode cX9_step 45 = .ok (.iload_n 0, 1) := by decide +kernel
theorem dX9_step_46 : decode cX9_step 46 = .ok (.iconst 1, 1) := by decide +kernel
theorem dX9_step_47 : decode cX9_step 47 = .ok (.iadd, 1) := by decide +kernel
theorem dX9_step_48 : decode cX9_step 48 = .ok (.goto 6, 3) := by decide +kernel
theorem dX9_step_51 : decode cX9_step 51 = .ok (.iload_n 0, 1) := by decide +kernel
theorem dX9_step_52 : decode cX9_step 52 = .ok (.iconst 1, 1) := by decide +kernel
theorem dX9_step_53 : decode cX9_step 53 = .ok (.isub, 1) := by decide +kernel
theorem dX9_step_54 : decode cX9_step 54 = .ok (.ireturn, 1) := by decide +kernel
theorem dX9_step_55 : decode cX9_step 55 = .ok (.iload_n 2, 1) := by decide +kernel
theorem dX9_step_56 : decode cX9_step 56 = .ok (.ifCond .le 10, 3) := by decide +kernel
theorem dX9_step_59 : decode cX9_step 59 = .ok (.iload_n 0, 1) := by decide +kernel
theorem dX9_step_60 : decode cX9_step 60 = .ok (.bipush 6, 2) := by decide +kernel
theorem dX9_step_62 : decode cX9_step 62 = .ok (.iadd, 1) := by decide +kernel
theorem dX9_step_63 : decode cX9_step 63 = .ok (.goto 7, 3) := by decide +kernel
theorem dX9_step_66 : decode cX9_step 66 = .ok (.iload_n 0, 1) := by decide +kernel
theorem dX9_step_67 : decode cX9_step 67 = .ok (.bipush 6, 2) := by decide +kernel
theorem dX9_step_69 : decode cX9_step 69 = .ok (.isub, 1) := by decide +kernel
theorem dX9_step_70 : decode cX9_step 70 = .ok (.ireturn, 1) := by decide +kernel
theorem dX9_goal_0 : decode cX9_goal 0 = .ok (.iconst (-1), 1) := by decide +kernel
theorem dX9_goal_1 : decode cX9_goal 1 = .ok (.istore_n 2, 1) := by decide +kernel
theorem dX9_goal_2 : decode cX9_goal 2 = .ok (.iconst 0, 1) := by decide +kernel
theorem dX9_goal_3 : decode cX9_goal 3 = .ok (.istore_n 3, 1) := by decide +kernel
theorem dX9_goal_4 : decode cX9_goal 4 = .ok (.iload_n 3, 1) := by decide +kernel
theorem dX9_goal_5 : decode cX9_goal 5 = .ok (.aload_n 0, 1) := by decide +kernel
theorem dX9_goal_6 : decode cX9_goal 6 = .ok (.bipush 26, 2) := by decide +kernel
theorem dX9_goal_8 : decode cX9_goal 8 = .ok (.iaload, 1) := by decide +kernel
theorem dX9_goal_9 : decode cX9_goal 9 = .ok (.if_icmp .ge 91, 3) := by decide +kernel
theorem dX9_goal_12 : decode cX9_goal 12 = .ok (.aload_n 0, 1) := by decide +kernel
theorem dX9_goal_13 : decode cX9_goal 13 = .ok (.iload_n 3, 1) := by decide +kernel
theorem dX9_goal_14 : decode cX9_goal 14 = .ok (.invokestatic 149, 3) := by decide +kernel
theorem dX9_goal_17 : decode cX9_goal 17 = .ok (.aload_n 0, 1) := by decide +kernel
theorem dX9_goal_18 : decode cX9_goal 18 = .ok (.iload_n 3, 1) := by decide +kernel
theorem dX9_goal_19 : decode cX9_goal 19 = .ok (.invokestatic 152, 3) := by decide +kernel
theorem dX9_goal_22 : decode cX9_goal 22 = .ok (.invokestatic 155, 3) := by decide +kernel
theorem dX9_goal_25 : decode cX9_goal 25 = .ok (.if_icmp .le 7, 3) := by decide +kernel
theorem dX9_goal_28 : decode cX9_goal 28 = .ok (.iconst 1, 1) := by decide +kernel
theorem dX9_goal_29 : decode cX9_goal 29 = .ok (.goto 4, 3) := by decide +kernel
theorem dX9_goal_32 : decode cX9_goal 32 = .ok (.iconst 0, 1) := by decide +kernel
theorem dX9_goal_33 : decode cX9_goal 33 = .ok (.istore 4, 2) := by decide +kernel
theorem dX9_goal_35 : decode cX9_goal 35 = .ok (.iload_n 2, 1) := by decide +kernel
theorem dX9_goal_36 : decode cX9_goal 36 = .ok (.iconst (-1), 1) := by decide +kernel
theorem dX9_goal_37 : decode cX9_goal 37 = .ok (.if_icmp .eq 34, 3) := by decide +kernel
theorem dX9_goal_40 : decode cX9_goal 40 = .ok (.aload_n 0, 1) := by decide +kernel
theorem dX9_goal_41 : decode cX9_goal 41 = .ok (.iconst 1, 1) := by decide +kernel
theorem dX9_goal_42 : decode cX9_goal 42 = .ok (.iload_n 3, 1) := by decide +kernel
theorem dX9_goal_43 : decode cX9_goal 43 = .ok (.iadd, 1) := by decide +kernel
theorem dX9_goal_44 : decode cX9_goal 44 = .ok (.iaload, 1) := by decide +kernel
theorem dX9_goal_45 : decode cX9_goal 45 = .ok (.aload_n 0, 1) := by decide +kernel
theorem dX9_goal_46 : decode cX9_goal 46 = .ok (.bipush 11, 2) := by decide +kernel
theorem dX9_goal_48 : decode cX9_goal 48 = .ok (.iload_n 1, 1) := by decide +kernel
theorem dX9_goal_49 : decode cX9_goal 49 = .ok (.iadd, 1) := by decide +kernel
theorem dX9_goal_50 : decode cX9_goal 50 = .ok (.iaload, 1) := by decide +kernel
theorem dX9_goal_51 : decode cX9_goal 51 = .ok (.invokestatic 158, 3) := by decide +kernel
theorem dX9_goal_54 : decode cX9_goal 54 = .ok (.aload_n 0, 1) := by decide +kernel
theorem dX9_goal_55 : decode cX9_goal 55 = .ok (.iconst 1, 1) := by decide +kernel
theorem dX9_goal_56 : decode cX9_goal 56 = .ok (.iload_n 2, 1) := by decide +kernel
theorem dX9_goal_57 : decode cX9_goal 57 = .ok (.iadd, 1) := by decide +kernel
theorem dX9_goal_58 : decode cX9_goal 58 = .ok (.iaload, 1) := by decide +kernel
theorem dX9_goal_59 : decode cX9_goal 59 = .ok (.aload_n 0, 1) := by decide +kernel
theorem dX9_goal_60 : decode cX9_goal 60 = .ok (.bipush 11, 2) := by decide +kernel
theorem dX9_goal_62 : decode cX9_goal 62 = .ok (.iload_n 1, 1) := by decide +kernel
theorem dX9_goal_63 : decode cX9_goal 63 = .ok (.iadd, 1) := by decide +kernel
theorem dX9_goal_64 : decode cX9_goal 64 = .ok (.iaload, 1) := by decide +kernel
theorem dX9_goal_65 : decode cX9_goal 65 = .ok (.invokestatic 158, 3) := by decide +kernel
theorem dX9_goal_68 : decode cX9_goal 68 = .ok (.if_icmp .ge 7, 3) := by decide +kernel
theorem dX9_goal_71 : decode cX9_goal 71 = .ok (.iconst 1, 1) := by decide +kernel
theorem dX9_goal_72 : decode cX9_goal 72 = .ok (.goto 4, 3) := by decide +kernel
theorem dX9_goal_75 : decode cX9_goal 75 = .ok (.iconst 0, 1) := by decide +kernel
theorem dX9_goal_76 : decode cX9_goal 76 = .ok (.istore 5, 2) := by decide +kernel
theorem dX9_goal_78 : decode cX9_goal 78 = .ok (.iload 4, 2) := by decide +kernel
theorem dX9_goal_80 : decode cX9_goal 80 = .ok (.ifCond .eq 12, 3) := by decide +kernel
theorem dX9_goal_83 : decode cX9_goal 83 = .ok (.iload 5, 2) := by decide +kernel
theorem dX9_goal_85 : decode cX9_goal 85 = .ok (.ifCond .eq 7, 3) := by decide +kernel
theorem dX9_goal_88 : decode cX9_goal 88 = .ok (.iload_n 3, 1) := by decide +kernel
theorem dX9_goal_89 : decode cX9_goal 89 = .ok (.goto 4, 3) := by decide +kernel
theorem dX9_goal_92 : decode cX9_goal 92 = .ok (.iload_n 2, 1) := by decide +kernel
theorem dX9_goal_93 : decode cX9_goal 93 = .ok (.istore_n 2, 1) := by decide +kernel
theorem dX9_goal_94 : decode cX9_goal 94 = .ok (.iinc 3 1, 3) := by decide +kernel
theorem dX9_goal_97 : decode cX9_goal 97 = .ok (.goto (-93), 3) := by decide +kernel
theorem dX9_goal_100 : decode cX9_goal 100 = .ok (.iload_n 2, 1) := by decide +kernel
theorem dX9_goal_101 : decode cX9_goal 101 = .ok (.ireturn, 1) := by decide +kernel
theorem dX9_goes_0 : decode cX9_goes 0 = .ok (.aload_n 0, 1) := by decide +kernel
theorem dX9_goes_1 : decode cX9_goes 1 = .ok (.iload_n 1, 1) := by decide +kernel
theorem dX9_goes_2 : decode cX9_goes 2 = .ok (.invokestatic 162, 3) := by decide +kernel
theorem dX9_goes_5 : decode cX9_goes 5 = .ok (.istore_n 2, 1) := by decide +kernel
theorem dX9_goes_6 : decode cX9_goes 6 = .ok (.iload_n 2, 1) := by decide +kernel
theorem dX9_goes_7 : decode cX9_goes 7 = .ok (.iconst (-1), 1) := by decide +kernel
theorem dX9_goes_8 : decode cX9_goes 8 = .ok (.if_icmp .eq 49, 3) := by decide +kernel
theorem dX9_goes_11 : decode cX9_goes 11 = .ok (.aload_n 0, 1) := by decide +kernel
theorem dX9_goes_12 : decode cX9_goes 12 = .ok (.iconst 1, 1) := by decide +kernel
theorem dX9_goes_13 : decode cX9_goes 13 = .ok (.iload_n 2, 1) := by decide +kernel
theorem dX9_goes_14 : decode cX9_goes 14 = .ok (.iadd, 1) := by decide +kernel
theorem dX9_goes_15 : decode cX9_goes 15 = .ok (.iaload, 1) := by decide +kernel
theorem dX9_goes_16 : decode cX9_goes 16 = .ok (.aload_n 0, 1) := by decide +kernel
theorem dX9_goes_17 : decode cX9_goes 17 = .ok (.bipush 11, 2) := by decide +kernel
theorem dX9_goes_19 : decode cX9_goes 19 = .ok (.iload_n 1, 1) := by decide +kernel
theorem dX9_goes_20 : decode cX9_goes 20 = .ok (.iadd, 1) := by decide +kernel
theorem dX9_goes_21 : decode cX9_goes 21 = .ok (.iaload, 1) := by decide +kernel
theorem dX9_goes_22 : decode cX9_goes 22 = .ok (.if_icmp .ne 15, 3) := by decide +kernel
theorem dX9_goes_25 : decode cX9_goes 25 = .ok (.aload_n 0, 1) := by decide +kernel
theorem dX9_goes_26 : decode cX9_goes 26 = .ok (.bipush 17, 2) := by decide +kernel
theorem dX9_goes_28 : decode cX9_goes 28 = .ok (.iload_n 1, 1) := by decide +kernel
theorem dX9_goes_29 : decode cX9_goes 29 = .ok (.iadd, 1) := by decide +kernel
theorem dX9_goes_30 : decode cX9_goes 30 = .ok (.iconst 1, 1) := by decide +kernel
theorem dX9_goes_31 : decode cX9_goes 31 = .ok (.iload_n 2, 1) := by decide +kernel
theorem dX9_goes_32 : decode cX9_goes 32 = .ok (.iadd, 1) := by decide +kernel
theorem dX9_goes_33 : decode cX9_goes 33 = .ok (.iastore, 1) := by decide +kernel
theorem dX9_goes_34 : decode cX9_goes 34 = .ok (.goto 23, 3) := by decide +kernel
theorem dX9_goes_37 : decode cX9_goes 37 = .ok (.aload_n 0, 1) := by decide +kernel
theorem dX9_goes_38 : decode cX9_goes 38 = .ok (.bipush 11, 2) := by decide +kernel
theorem dX9_goes_40 : decode cX9_goes 40 = .ok (.iload_n 1, 1) := by decide +kernel
theorem dX9_goes_41 : decode cX9_goes 41 = .ok (.iadd, 1) := by decide +kernel
theorem dX9_goes_42 : decode cX9_goes 42 = .ok (.aload_n 0, 1) := by decide +kernel
theorem dX9_goes_43 : decode cX9_goes 43 = .ok (.bipush 11, 2) := by decide +kernel
theorem dX9_goes_45 : decode cX9_goes 45 = .ok (.iload_n 1, 1) := by decide +kernel
theorem dX9_goes_46 : decode cX9_goes 46 = .ok (.iadd, 1) := by decide +kernel
theorem dX9_goes_47 : decode cX9_goes 47 = .ok (.iaload, 1) := by decide +kernel
theorem dX9_goes_48 : decode cX9_goes 48 = .ok (.aload_n 0, 1) := by decide +kernel
theorem dX9_goes_49 : decode cX9_goes 49 = .ok (.iconst 1, 1) := by decide +kernel
theorem dX9_goes_50 : decode cX9_goes 50 = .ok (.iload_n 2, 1) := by decide +kernel
theorem dX9_goes_51 : decode cX9_goes 51 = .ok (.iadd, 1) := by decide +kernel
theorem dX9_goes_52 : decode cX9_goes 52 = .ok (.iaload, 1) := by decide +kernel
theorem dX9_goes_53 : decode cX9_goes 53 = .ok (.invokestatic 165, 3) := by decide +kernel
theorem dX9_goes_56 : decode cX9_goes 56 = .ok (.iastore, 1) := by decide +kernel
theorem dX9_goes_57 : decode cX9_goes 57 = .ok (.return_, 1) := by decide +kernel
theorem dX9_hunts_0 : decode cX9_hunts 0 = .ok (.iconst (-1), 1) := by decide +kernel
theorem dX9_hunts_1 : decode cX9_hunts 1 = .ok (.istore_n 2, 1) := by decide +kernel
theorem dX9_hunts_2 : decode cX9_hunts 2 = .ok (.iconst 0, 1) := by decide +kernel
theorem dX9_hunts_3 : decode cX9_hunts 3 = .ok (.istore_n 3, 1) := by decide +kernel
theorem dX9_hunts_4 : decode cX9_hunts 4 = .ok (.iload_n 3, 1) := by decide +kernel
theorem dX9_hunts_5 : decode cX9_hunts 5 = .ok (.aload_n 0, 1) := by decide +kernel
theorem dX9_hunts_6 : decode cX9_hunts 6 = .ok (.bipush 37, 2) := by decide +kernel
theorem dX9_hunts_8 : decode cX9_hunts 8 = .ok (.iaload, 1) := by decide +kernel
theorem dX9_hunts_9 : decode cX9_hunts 9 = .ok (.if_icmp .ge 74, 3) := by decide +kernel
theorem dX9_hunts_12 : decode cX9_hunts 12 = .ok (.iload_n 2, 1) := by decide +kernel
theorem dX9_hunts_13 : decode cX9_hunts 13 = .ok (.iconst (-1), 1) := by decide +kernel
theorem dX9_hunts_14 : decode cX9_hunts 14 = .ok (.if_icmp .eq 36, 3) := by decide +kernel
theorem dX9_hunts_17 : decode cX9_hunts 17 = .ok (.aload_n 0, 1) := by decide +kernel
theorem dX9_hunts_18 : decode cX9_hunts 18 = .ok (.bipush 11, 2) := by decide +kernel
theorem dX9_hunts_20 : decode cX9_hunts 20 = .ok (.iload_n 3, 1) := by decide +kernel
theorem dX9_hunts_21 : decode cX9_hunts 21 = .ok (.iadd, 1) := by decide +kernel
theorem dX9_hunts_22 : decode cX9_hunts 22 = .ok (.iaload, 1) := by decide +kernel
theorem dX9_hunts_23 : decode cX9_hunts 23 = .ok (.aload_n 0, 1) := by decide +kernel
theorem dX9_hunts_24 : decode cX9_hunts 24 = .ok (.bipush 23, 2) := by decide +kernel
theorem dX9_hunts_26 : decode cX9_hunts 26 = .ok (.iload_n 1, 1) := by decide +kernel
theorem dX9_hunts_27 : decode cX9_hunts 27 = .ok (.iadd, 1) := by decide +kernel
theorem dX9_hunts_28 : decode cX9_hunts 28 = .ok (.iaload, 1) := by decide +kernel
theorem dX9_hunts_29 : decode cX9_hunts 29 = .ok (.invokestatic 158, 3) := by decide +kernel
theorem dX9_hunts_32 : decode cX9_hunts 32 = .ok (.aload_n 0, 1) := by decide +kernel
theorem dX9_hunts_33 : decode cX9_hunts 33 = .ok (.bipush 11, 2) := by decide +kernel
theorem dX9_hunts_35 : decode cX9_hunts 35 = .ok (.iload_n 2, 1) := by decide +kernel
theorem dX9_hunts_36 : decode cX9_hunts 36 = .ok (.iadd, 1) := by decide +kernel
theorem dX9_hunts_37 : decode cX9_hunts 37 = .ok (.iaload, 1) := by decide +kernel
theorem dX9_hunts_38 : decode cX9_hunts 38 = .ok (.aload_n 0, 1) := by decide +kernel
theorem dX9_hunts_39 : decode cX9_hunts 39 = .ok (.bipush 23, 2) := by decide +kernel
theorem dX9_hunts_41 : decode cX9_hunts 41 = .ok (.iload_n 1, 1) := by decide +kernel
theorem dX9_hunts_42 : decode cX9_hunts 42 = .ok (.iadd, 1) := by decide +kernel
theorem dX9_hunts_43 : decode cX9_hunts 43 = .ok (.iaload, 1) := by decide +kernel
theorem dX9_hunts_44 : decode cX9_hunts 44 = .ok (.invokestatic 158, 3) := by decide +kernel
theorem dX9_hunts_47 : decode cX9_hunts 47 = .ok (.if_icmp .ge 7, 3) := by decide +kernel
theorem dX9_hunts_50 : decode cX9_hunts 50 = .ok (.iconst 1, 1) := by decide +kernel
theorem dX9_hunts_51 : decode cX9_hunts 51 = .ok (.goto 4, 3) := by decide +kernel
theorem dX9_hunts_54 : decode cX9_hunts 54 = .ok (.iconst 0, 1) := by decide +kernel
theorem dX9_hunts_55 : decode cX9_hunts 55 = .ok (.istore 4, 2) := by decide +kernel
theorem dX9_hunts_57 : decode cX9_hunts 57 = .ok (.aload_n 0, 1) := by decide +kernel
theorem dX9_hunts_58 : decode cX9_hunts 58 = .ok (.bipush 17, 2) := by decide +kernel
theorem dX9_hunts_60 : decode cX9_hunts 60 = .ok (.iload_n 3, 1) := by decide +kernel
theorem dX9_hunts_61 : decode cX9_hunts 61 = .ok (.iadd, 1) := by decide +kernel
theorem dX9_hunts_62 : decode cX9_hunts 62 = .ok (.iaload, 1) := by decide +kernel
theorem dX9_hunts_63 : decode cX9_hunts 63 = .ok (.ifCond .ne 12, 3) := by decide +kernel
theorem dX9_hunts_66 : decode cX9_hunts 66 = .ok (.iload 4, 2) := by decide +kernel
theorem dX9_hunts_68 : decode cX9_hunts 68 = .ok (.ifCond .eq 7, 3) := by decide +kernel
theorem dX9_hunts_71 : decode cX9_hunts 71 = .ok (.iload_n 3, 1) := by decide +kernel
theorem dX9_hunts_72 : decode cX9_hunts 72 = .ok (.goto 4, 3) := by decide +kernel
theorem dX9_hunts_75 : decode cX9_hunts 75 = .ok (.iload_n 2, 1) := by decide +kernel
theorem dX9_hunts_76 : decode cX9_hunts 76 = .ok (.istore_n 2, 1) := by decide +kernel
theorem dX9_hunts_77 : decode cX9_hunts 77 = .ok (.iinc 3 1, 3) := by decide +kernel
theorem dX9_hunts_80 : decode cX9_hunts 80 = .ok (.goto (-76), 3) := by decide +kernel
theorem dX9_hunts_83 : decode cX9_hunts 83 = .ok (.iload_n 2, 1) := by decide +kernel
theorem dX9_hunts_84 : decode cX9_hunts 84 = .ok (.iconst (-1), 1) := by decide +kernel
theorem dX9_hunts_85 : decode cX9_hunts 85 = .ok (.if_icmp .eq 24, 3) := by decide +kernel
theorem dX9_hunts_88 : decode cX9_hunts 88 = .ok (.aload_n 0, 1) := by decide +kernel
theorem dX9_hunts_89 : decode cX9_hunts 89 = .ok (.bipush 23, 2) := by decide +kernel
theorem dX9_hunts_91 : decode cX9_hunts 91 = .ok (.iload_n 1, 1) := by decide +kernel
theorem dX9_hunts_92 : decode cX9_hunts 92 = .ok (.iadd, 1) := by decide +kernel
theorem dX9_hunts_93 : decode cX9_hunts 93 = .ok (.aload_n 0, 1) := by decide +kernel
theorem dX9_hunts_94 : decode cX9_hunts 94 = .ok (.bipush 23, 2) := by decide +kernel
theorem dX9_hunts_96 : decode cX9_hunts 96 = .ok (.iload_n 1, 1) := by decide +kernel
theorem dX9_hunts_97 : decode cX9_hunts 97 = .ok (.iadd, 1) := by decide +kernel
theorem dX9_hunts_98 : decode cX9_hunts 98 = .ok (.iaload, 1) := by decide +kernel
theorem dX9_hunts_99 : decode cX9_hunts 99 = .ok (.aload_n 0, 1) := by decide +kernel
theorem dX9_hunts_100 : decode cX9_hunts 100 = .ok (.bipush 11, 2) := by decide +kernel
theorem dX9_hunts_102 : decode cX9_hunts 102 = .ok (.iload_n 2, 1) := by decide +kernel
theorem dX9_hunts_103 : decode cX9_hunts 103 = .ok (.iadd, 1) := by decide +kernel
theorem dX9_hunts_104 : decode cX9_hunts 104 = .ok (.iaload, 1) := by decide +kernel
theorem dX9_hunts_105 : decode cX9_hunts 105 = .ok (.invokestatic 165, 3) := by decide +kernel
theorem dX9_hunts_108 : decode cX9_hunts 108 = .ok (.iastore, 1) := by decide +kernel
theorem dX9_hunts_109 : decode cX9_hunts 109 = .ok (.iconst 0, 1) := by decide +kernel
theorem dX9_hunts_110 : decode cX9_hunts 110 = .ok (.istore_n 3, 1) := by decide +kernel
theorem dX9_hunts_111 : decode cX9_hunts 111 = .ok (.iload_n 3, 1) := by decide +kernel
theorem dX9_hunts_112 : decode cX9_hunts 112 = .ok (.aload_n 0, 1) := by decide +kernel
theorem dX9_hunts_113 : decode cX9_hunts 113 = .ok (.bipush 37, 2) := by decide +kernel
theorem dX9_hunts_115 : decode cX9_hunts 115 = .ok (.iaload, 1) := by decide +kernel
theorem dX9_hunts_116 : decode cX9_hunts 116 = .ok (.if_icmp .ge 50, 3) := by decide +kernel
theorem dX9_hunts_119 : decode cX9_hunts 119 = .ok (.aload_n 0, 1) := by decide +kernel
theorem dX9_hunts_120 : decode cX9_hunts 120 = .ok (.bipush 17, 2) := by decide +kernel
theorem dX9_hunts_122 : decode cX9_hunts 122 = .ok (.iload_n 3, 1) := by decide +kernel
theorem dX9_hunts_123 : decode cX9_hunts 123 = .ok (.iadd, 1) := by decide +kernel
theorem dX9_hunts_124 : decode cX9_hunts 124 = .ok (.aload_n 0, 1) := by decide +kernel
theorem dX9_hunts_125 : decode cX9_hunts 125 = .ok (.bipush 17, 2) := by decide +kernel
theorem dX9_hunts_127 : decode cX9_hunts 127 = .ok (.iload_n 3, 1) := by decide +kernel
theorem dX9_hunts_128 : decode cX9_hunts 128 = .ok (.iadd, 1) := by decide +kernel
theorem dX9_hunts_129 : decode cX9_hunts 129 = .ok (.iaload, 1) := by decide +kernel
theorem dX9_hunts_130 : decode cX9_hunts 130 = .ok (.ifCond .ne 23, 3) := by decide +kernel
theorem dX9_hunts_133 : decode cX9_hunts 133 = .ok (.aload_n 0, 1) := by decide +kernel
theorem dX9_hunts_134 : decode cX9_hunts 134 = .ok (.bipush 11, 2) := by decide +kernel
theorem dX9_hunts_136 : decode cX9_hunts 136 = .ok (.iload_n 3, 1) := by decide +kernel
theorem dX9_hunts_137 : decode cX9_hunts 137 = .ok (.iadd, 1) := by decide +kernel
theorem dX9_hunts_138 : decode cX9_hunts 138 = .ok (.iaload, 1) := by decide +kernel
theorem dX9_hunts_139 : decode cX9_hunts 139 = .ok (.aload_n 0, 1) := by decide +kernel
theorem dX9_hunts_140 : decode cX9_hunts 140 = .ok (.bipush 23, 2) := by decide +kernel
theorem dX9_hunts_142 : decode cX9_hunts 142 = .ok (.iload_n 1, 1) := by decide +kernel
theorem dX9_hunts_143 : decode cX9_hunts 143 = .ok (.iadd, 1) := by decide +kernel
theorem dX9_hunts_144 : decode cX9_hunts 144 = .ok (.iaload, 1) := by decide +kernel
theorem dX9_hunts_145 : decode cX9_hunts 145 = .ok (.if_icmp .ne 8, 3) := by decide +kernel
theorem dX9_hunts_148 : decode cX9_hunts 148 = .ok (.bipush 6, 2) := by decide +kernel
theorem dX9_hunts_150 : decode cX9_hunts 150 = .ok (.goto 9, 3) := by decide +kernel
theorem dX9_hunts_153 : decode cX9_hunts 153 = .ok (.aload_n 0, 1) := by decide +kernel
theorem dX9_hunts_154 : decode cX9_hunts 154 = .ok (.bipush 17, 2) := by decide +kernel
theorem dX9_hunts_156 : decode cX9_hunts 156 = .ok (.iload_n 3, 1) := by decide +kernel
theorem dX9_hunts_157 : decode cX9_hunts 157 = .ok (.iadd, 1) := by decide +kernel
theorem dX9_hunts_158 : decode cX9_hunts 158 = .ok (.iaload, 1) := by decide +kernel
theorem dX9_hunts_159 : decode cX9_hunts 159 = .ok (.iastore, 1) := by decide +kernel
theorem dX9_hunts_160 : decode cX9_hunts 160 = .ok (.iinc 3 1, 3) := by decide +kernel
theorem dX9_hunts_163 : decode cX9_hunts 163 = .ok (.goto (-52), 3) := by decide +kernel
theorem dX9_hunts_166 : decode cX9_hunts 166 = .ok (.return_, 1) := by decide +kernel
theorem dX9_wears_0 : decode cX9_wears 0 = .ok (.aload_n 0, 1) := by decide +kernel
theorem dX9_wears_1 : decode cX9_wears 1 = .ok (.bipush 6, 2) := by decide +kernel
theorem dX9_wears_3 : decode cX9_wears 3 = .ok (.iload_n 1, 1) := by decide +kernel
theorem dX9_wears_4 : decode cX9_wears 4 = .ok (.iadd, 1) := by decide +kernel
theorem dX9_wears_5 : decode cX9_wears 5 = .ok (.iaload, 1) := by decide +kernel
theorem dX9_wears_6 : decode cX9_wears 6 = .ok (.aload_n 0, 1) := by decide +kernel
theorem dX9_wears_7 : decode cX9_wears 7 = .ok (.bipush 27, 2) := by decide +kernel
theorem dX9_wears_9 : decode cX9_wears 9 = .ok (.iload_n 1, 1) := by decide +kernel
theorem dX9_wears_10 : decode cX9_wears 10 = .ok (.iadd, 1) := by decide +kernel
theorem dX9_wears_11 : decode cX9_wears 11 = .ok (.iaload, 1) := by decide +kernel
theorem dX9_wears_12 : decode cX9_wears 12 = .ok (.aload_n 0, 1) := by decide +kernel
theorem dX9_wears_13 : decode cX9_wears 13 = .ok (.iload_n 1, 1) := by decide +kernel
theorem dX9_wears_14 : decode cX9_wears 14 = .ok (.invokestatic 152, 3) := by decide +kernel
theorem dX9_wears_17 : decode cX9_wears 17 = .ok (.invokestatic 155, 3) := by decide +kernel
theorem dX9_wears_20 : decode cX9_wears 20 = .ok (.invokestatic 168, 3) := by decide +kernel
theorem dX9_wears_23 : decode cX9_wears 23 = .ok (.iadd, 1) := by decide +kernel
theorem dX9_wears_24 : decode cX9_wears 24 = .ok (.istore_n 2, 1) := by decide +kernel
theorem dX9_wears_25 : decode cX9_wears 25 = .ok (.aload_n 0, 1) := by decide +kernel
theorem dX9_wears_26 : decode cX9_wears 26 = .ok (.bipush 6, 2) := by decide +kernel
theorem dX9_wears_28 : decode cX9_wears 28 = .ok (.iload_n 1, 1) := by decide +kernel
theorem dX9_wears_29 : decode cX9_wears 29 = .ok (.iadd, 1) := by decide +kernel
theorem dX9_wears_30 : decode cX9_wears 30 = .ok (.iload_n 2, 1) := by decide +kernel
theorem dX9_wears_31 : decode cX9_wears 31 = .ok (.bipush 40, 2) := by decide +kernel
theorem dX9_wears_33 : decode cX9_wears 33 = .ok (.if_icmp .le 8, 3) := by decide +kernel
theorem dX9_wears_36 : decode cX9_wears 36 = .ok (.bipush 40, 2) := by decide +kernel
theorem dX9_wears_38 : decode cX9_wears 38 = .ok (.goto 4, 3) := by decide +kernel
theorem dX9_wears_41 : decode cX9_wears 41 = .ok (.iload_n 2, 1) := by decide +kernel
theorem dX9_wears_42 : decode cX9_wears 42 = .ok (.iastore, 1) := by decide +kernel
theorem dX9_wears_43 : decode cX9_wears 43 = .ok (.aload_n 0, 1) := by decide +kernel
theorem dX9_wears_44 : decode cX9_wears 44 = .ok (.bipush 37, 2) := by decide +kernel
theorem dX9_wears_46 : decode cX9_wears 46 = .ok (.iaload, 1) := by decide +kernel
theorem dX9_wears_47 : decode cX9_wears 47 = .ok (.iconst 1, 1) := by decide +kernel
theorem dX9_wears_48 : decode cX9_wears 48 = .ok (.isub, 1) := by decide +kernel
theorem dX9_wears_49 : decode cX9_wears 49 = .ok (.istore_n 3, 1) := by decide +kernel
theorem dX9_wears_50 : decode cX9_wears 50 = .ok (.iload_n 3, 1) := by decide +kernel
theorem dX9_wears_51 : decode cX9_wears 51 = .ok (.ifCond .lt 65, 3) := by decide +kernel
theorem dX9_wears_54 : decode cX9_wears 54 = .ok (.aload_n 0, 1) := by decide +kernel
theorem dX9_wears_55 : decode cX9_wears 55 = .ok (.bipush 17, 2) := by decide +kernel
theorem dX9_wears_57 : decode cX9_wears 57 = .ok (.iload_n 3, 1) := by decide +kernel
theorem dX9_wears_58 : decode cX9_wears 58 = .ok (.iadd, 1) := by decide +kernel
theorem dX9_wears_59 : decode cX9_wears 59 = .ok (.iaload, 1) := by decide +kernel
theorem dX9_wears_60 : decode cX9_wears 60 = .ok (.iconst 1, 1) := by decide +kernel
theorem dX9_wears_61 : decode cX9_wears 61 = .ok (.iload_n 1, 1) := by decide +kernel
theorem dX9_wears_62 : decode cX9_wears 62 = .ok (.iadd, 1) := by decide +kernel
theorem dX9_wears_63 : decode cX9_wears 63 = .ok (.if_icmp .ne 23, 3) := by decide +kernel
theorem dX9_wears_66 : decode cX9_wears 66 = .ok (.aload_n 0, 1) := by decide +kernel
theorem dX9_wears_67 : decode cX9_wears 67 = .ok (.iload_n 1, 1) := by decide +kernel
theorem dX9_wears_68 : decode cX9_wears 68 = .ok (.invokestatic 152, 3) := by decide +kernel
theorem dX9_wears_71 : decode cX9_wears 71 = .ok (.invokestatic 155, 3) := by decide +kernel
theorem dX9_wears_74 : decode cX9_wears 74 = .ok (.aload_n 0, 1) := by decide +kernel
theorem dX9_wears_75 : decode cX9_wears 75 = .ok (.iload_n 1, 1) := by decide +kernel
theorem dX9_wears_76 : decode cX9_wears 76 = .ok (.invokestatic 149, 3) := by decide +kernel
theorem dX9_wears_79 : decode cX9_wears 79 = .ok (.if_icmp .le 7, 3) := by decide +kernel
theorem dX9_wears_82 : decode cX9_wears 82 = .ok (.iconst 1, 1) := by decide +kernel
theorem dX9_wears_83 : decode cX9_wears 83 = .ok (.goto 4, 3) := by decide +kernel
theorem dX9_wears_86 : decode cX9_wears 86 = .ok (.iconst 0, 1) := by decide +kernel
theorem dX9_wears_87 : decode cX9_wears 87 = .ok (.istore 4, 2) := by decide +kernel
theorem dX9_wears_89 : decode cX9_wears 89 = .ok (.aload_n 0, 1) := by decide +kernel
theorem dX9_wears_90 : decode cX9_wears 90 = .ok (.bipush 17, 2) := by decide +kernel
theorem dX9_wears_92 : decode cX9_wears 92 = .ok (.iload_n 3, 1) := by decide +kernel
theorem dX9_wears_93 : decode cX9_wears 93 = .ok (.iadd, 1) := by decide +kernel
theorem dX9_wears_94 : decode cX9_wears 94 = .ok (.iload 4, 2) := by decide +kernel
theorem dX9_wears_96 : decode cX9_wears 96 = .ok (.ifCond .eq 7, 3) := by decide +kernel
theorem dX9_wears_99 : decode cX9_wears 99 = .ok (.iconst 0, 1) := by decide +kernel
theorem dX9_wears_100 : decode cX9_wears 100 = .ok (.goto 9, 3) := by decide +kernel
theorem dX9_wears_103 : decode cX9_wears 103 = .ok (.aload_n 0, 1) := by decide +kernel
theorem dX9_wears_104 : decode cX9_wears 104 = .ok (.bipush 17, 2) := by decide +kernel
theorem dX9_wears_106 : decode cX9_wears 106 = .ok (.iload_n 3, 1) := by decide +kernel
theorem dX9_wears_107 : decode cX9_wears 107 = .ok (.iadd, 1) := by decide +kernel
theorem dX9_wears_108 : decode cX9_wears 108 = .ok (.iaload, 1) := by decide +kernel
theorem dX9_wears_109 : decode cX9_wears 109 = .ok (.iastore, 1) := by decide +kernel
theorem dX9_wears_110 : decode cX9_wears 110 = .ok (.iinc 3 (-1), 3) := by decide +kernel
theorem dX9_wears_113 : decode cX9_wears 113 = .ok (.goto (-63), 3) := by decide +kernel
theorem dX9_wears_116 : decode cX9_wears 116 = .ok (.return_, 1) := by decide +kernel
theorem dX9_endHour_0 : decode cX9_endHour 0 = .ok (.iconst 0, 1) := by decide +kernel
theorem dX9_endHour_1 : decode cX9_endHour 1 = .ok (.istore_n 1, 1) := by decide +kernel
theorem dX9_endHour_2 : decode cX9_endHour 2 = .ok (.iload_n 1, 1) := by decide +kernel
theorem dX9_endHour_3 : decode cX9_endHour 3 = .ok (.aload_n 0, 1) := by decide +kernel
theorem dX9_endHour_4 : decode cX9_endHour 4 = .ok (.bipush 38, 2) := by decide +kernel
theorem dX9_endHour_6 : decode cX9_endHour 6 = .ok (.iaload, 1) := by decide +kernel
theorem dX9_endHour_7 : decode cX9_endHour 7 = .ok (.if_icmp .ge 14, 3) := by decide +kernel
theorem dX9_endHour_10 : decode cX9_endHour 10 = .ok (.aload_n 0, 1) := by decide +kernel
theorem dX9_endHour_11 : decode cX9_endHour 11 = .ok (.iload_n 1, 1) := by decide +kernel
theorem dX9_endHour_12 : decode cX9_endHour 12 = .ok (.invokestatic 171, 3) := by decide +kernel
theorem dX9_endHour_15 : decode cX9_endHour 15 = .ok (.iinc 1 1, 3) := by decide +kernel
theorem dX9_endHour_18 : decode cX9_endHour 18 = .ok (.goto (-16), 3) := by decide +kernel
theorem dX9_endHour_21 : decode cX9_endHour 21 = .ok (.iconst 0, 1) := by decide +kernel
theorem dX9_endHour_22 : decode cX9_endHour 22 = .ok (.istore_n 1, 1) := by decide +kernel
theorem dX9_endHour_23 : decode cX9_endHour 23 = .ok (.iload_n 1, 1) := by decide +kernel
theorem dX9_endHour_24 : decode cX9_endHour 24 = .ok (.aload_n 0, 1) := by decide +kernel
theorem dX9_endHour_25 : decode cX9_endHour 25 = .ok (.bipush 26, 2) := by decide +kernel
theorem dX9_endHour_27 : decode cX9_endHour 27 = .ok (.iaload, 1) := by decide +kernel
theorem dX9_endHour_28 : decode cX9_endHour 28 = .ok (.if_icmp .ge 14, 3) := by decide +kernel
theorem dX9_endHour_31 : decode cX9_endHour 31 = .ok (.aload_n 0, 1) := by decide +kernel
theorem dX9_endHour_32 : decode cX9_endHour 32 = .ok (.iload_n 1, 1) := by decide +kernel
theorem dX9_endHour_33 : decode cX9_endHour 33 = .ok (.invokestatic 175, 3) := by decide +kernel
theorem dX9_endHour_36 : decode cX9_endHour 36 = .ok (.iinc 1 1, 3) := by decide +kernel
theorem dX9_endHour_39 : decode cX9_endHour 39 = .ok (.goto (-16), 3) := by decide +kernel
theorem dX9_endHour_42 : decode cX9_endHour 42 = .ok (.aload_n 0, 1) := by decide +kernel
theorem dX9_endHour_43 : decode cX9_endHour 43 = .ok (.iconst 0, 1) := by decide +kernel
theorem dX9_endHour_44 : decode cX9_endHour 44 = .ok (.dup2, 1) := by decide +kernel
theorem dX9_endHour_45 : decode cX9_endHour 45 = .ok (.iaload, 1) := by decide +kernel
theorem dX9_endHour_46 : decode cX9_endHour 46 = .ok (.iconst 1, 1) := by decide +kernel
theorem dX9_endHour_47 : decode cX9_endHour 47 = .ok (.iadd, 1) := by decide +kernel
theorem dX9_endHour_48 : decode cX9_endHour 48 = .ok (.iastore, 1) := by decide +kernel
theorem dX9_endHour_49 : decode cX9_endHour 49 = .ok (.return_, 1) := by decide +kernel
theorem dX9_goBy_0 : decode cX9_goBy 0 = .ok (.iconst 0, 1) := by decide +kernel
theorem dX9_goBy_1 : decode cX9_goBy 1 = .ok (.istore_n 1, 1) := by decide +kernel
theorem dX9_goBy_2 : decode cX9_goBy 2 = .ok (.iload_n 1, 1) := by decide +kernel
theorem dX9_goBy_3 : decode cX9_goBy 3 = .ok (.aload_n 0, 1) := by decide +kernel
theorem dX9_goBy_4 : decode cX9_goBy 4 = .ok (.bipush 37, 2) := by decide +kernel
theorem dX9_goBy_6 : decode cX9_goBy 6 = .ok (.iaload, 1) := by decide +kernel
theorem dX9_goBy_7 : decode cX9_goBy 7 = .ok (.if_icmp .ge 23, 3) := by decide +kernel
theorem dX9_goBy_10 : decode cX9_goBy 10 = .ok (.aload_n 0, 1) := by decide +kernel
theorem dX9_goBy_11 : decode cX9_goBy 11 = .ok (.bipush 17, 2) := by decide +kernel
theorem dX9_goBy_13 : decode cX9_goBy 13 = .ok (.iload_n 1, 1) := by decide +kernel
theorem dX9_goBy_14 : decode cX9_goBy 14 = .ok (.iadd, 1) := by decide +kernel
theorem dX9_goBy_15 : decode cX9_goBy 15 = .ok (.iaload, 1) := by decide +kernel
theorem dX9_goBy_16 : decode cX9_goBy 16 = .ok (.ifCond .ne 8, 3) := by decide +kernel
theorem dX9_goBy_19 : decode cX9_goBy 19 = .ok (.aload_n 0, 1) := by decide +kernel
theorem dX9_goBy_20 : decode cX9_goBy 20 = .ok (.iload_n 1, 1) := by decide +kernel
theorem dX9_goBy_21 : decode cX9_goBy 21 = .ok (.invokestatic 178, 3) := by decide +kernel
theorem dX9_goBy_24 : decode cX9_goBy 24 = .ok (.iinc 1 1, 3) := by decide +kernel
theorem dX9_goBy_27 : decode cX9_goBy 27 = .ok (.goto (-25), 3) := by decide +kernel
theorem dX9_goBy_30 : decode cX9_goBy 30 = .ok (.aload_n 0, 1) := by decide +kernel
theorem dX9_goBy_31 : decode cX9_goBy 31 = .ok (.invokestatic 181, 3) := by decide +kernel
theorem dX9_goBy_34 : decode cX9_goBy 34 = .ok (.return_, 1) := by decide +kernel
theorem dX9_takenIn_0 : decode cX9_takenIn 0 = .ok (.iconst 0, 1) := by decide +kernel
theorem dX9_takenIn_1 : decode cX9_takenIn 1 = .ok (.istore_n 1, 1) := by decide +kernel
theorem dX9_takenIn_2 : decode cX9_takenIn 2 = .ok (.iconst 0, 1) := by decide +kernel
theorem dX9_takenIn_3 : decode cX9_takenIn 3 = .ok (.istore_n 2, 1) := by decide +kernel
theorem dX9_takenIn_4 : decode cX9_takenIn 4 = .ok (.iload_n 2, 1) := by decide +kernel
theorem dX9_takenIn_5 : decode cX9_takenIn 5 = .ok (.aload_n 0, 1) := by decide +kernel
theorem dX9_takenIn_6 : decode cX9_takenIn 6 = .ok (.bipush 37, 2) := by decide +kernel
theorem dX9_takenIn_8 : decode cX9_takenIn 8 = .ok (.iaload, 1) := by decide +kernel
theorem dX9_takenIn_9 : decode cX9_takenIn 9 = .ok (.if_icmp .ge 30, 3) := by decide +kernel
theorem dX9_takenIn_12 : decode cX9_takenIn 12 = .ok (.iload_n 1, 1) := by decide +kernel
theorem dX9_takenIn_13 : decode cX9_takenIn 13 = .ok (.aload_n 0, 1) := by decide +kernel
theorem dX9_takenIn_14 : decode cX9_takenIn 14 = .ok (.bipush 17, 2) := by decide +kernel
theorem dX9_takenIn_16 : decode cX9_takenIn 16 = .ok (.iload_n 2, 1) := by decide +kernel
theorem dX9_takenIn_17 : decode cX9_takenIn 17 = .ok (.iadd, 1) := by decide +kernel
theorem dX9_takenIn_18 : decode cX9_takenIn 18 = .ok (.iaload, 1) := by decide +kernel
theorem dX9_takenIn_19 : decode cX9_takenIn 19 = .ok (.bipush 6, 2) := by decide +kernel
theorem dX9_takenIn_21 : decode cX9_takenIn 21 = .ok (.if_icmp .ne 9, 3) := by decide +kernel
theorem dX9_takenIn_24 : decode cX9_takenIn 24 = .ok (.iconst 1, 1) := by decide +kernel
theorem dX9_takenIn_25 : decode cX9_takenIn 25 = .ok (.iload_n 2, 1) := by decide +kernel
theorem dX9_takenIn_26 : decode cX9_takenIn 26 = .ok (.ishl, 1) := by decide +kernel
theorem dX9_takenIn_27 : decode cX9_takenIn 27 = .ok (.goto 4, 3) := by decide +kernel
theorem dX9_takenIn_30 : decode cX9_takenIn 30 = .ok (.iconst 0, 1) := by decide +kernel
theorem dX9_takenIn_31 : decode cX9_takenIn 31 = .ok (.ior, 1) := by decide +kernel
theorem dX9_takenIn_32 : decode cX9_takenIn 32 = .ok (.istore_n 1, 1) := by decide +kernel
theorem dX9_takenIn_33 : decode cX9_takenIn 33 = .ok (.iinc 2 1, 3) := by decide +kernel
theorem dX9_takenIn_36 : decode cX9_takenIn 36 = .ok (.goto (-32), 3) := by decide +kernel
theorem dX9_takenIn_39 : decode cX9_takenIn 39 = .ok (.iload_n 1, 1) := by decide +kernel
theorem dX9_takenIn_40 : decode cX9_takenIn 40 = .ok (.ireturn, 1) := by decide +kernel
theorem dX9_underAll_0 : decode cX9_underAll 0 = .ok (.iconst 0, 1) := by decide +kernel
theorem dX9_underAll_1 : decode cX9_underAll 1 = .ok (.istore_n 1, 1) := by decide +kernel
theorem dX9_underAll_2 : decode cX9_underAll 2 = .ok (.iconst 0, 1) := by decide +kernel
theorem dX9_underAll_3 : decode cX9_underAll 3 = .ok (.istore_n 2, 1) := by decide +kernel
theorem dX9_underAll_4 : decode cX9_underAll 4 = .ok (.iload_n 2, 1) := by decide +kernel
theorem dX9_underAll_5 : decode cX9_underAll 5 = .ok (.aload_n 0, 1) := by decide +kernel
theorem dX9_underAll_6 : decode cX9_underAll 6 = .ok (.bipush 37, 2) := by decide +kernel
theorem dX9_underAll_8 : decode cX9_underAll 8 = .ok (.iaload, 1) := by decide +kernel
theorem dX9_underAll_9 : decode cX9_underAll 9 = .ok (.if_icmp .ge 37, 3) := by decide +kernel
theorem dX9_underAll_12 : decode cX9_underAll 12 = .ok (.iload_n 1, 1) := by decide +kernel
theorem dX9_underAll_13 : decode cX9_underAll 13 = .ok (.aload_n 0, 1) := by decide +kernel
theorem dX9_underAll_14 : decode cX9_underAll 14 = .ok (.bipush 17, 2) := by decide +kernel
theorem dX9_underAll_16 : decode cX9_underAll 16 = .ok (.iload_n 2, 1) := by decide +kernel
theorem dX9_underAll_17 : decode cX9_underAll 17 = .ok (.iadd, 1) := by decide +kernel
theorem dX9_underAll_18 : decode cX9_underAll 18 = .ok (.iaload, 1) := by decide +kernel
theorem dX9_underAll_19 : decode cX9_underAll 19 = .ok (.ifCond .eq 18, 3) := by decide +kernel
theorem dX9_underAll_22 : decode cX9_underAll 22 = .ok (.aload_n 0, 1) := by decide +kernel
theorem dX9_underAll_23 : decode cX9_underAll 23 = .ok (.bipush 17, 2) := by decide +kernel
theorem dX9_underAll_25 : decode cX9_underAll 25 = .ok (.iload_n 2, 1) := by decide +kernel
theorem dX9_underAll_26 : decode cX9_underAll 26 = .ok (.iadd, 1) := by decide +kernel
theorem dX9_underAll_27 : decode cX9_underAll 27 = .ok (.iaload, 1) := by decide +kernel
theorem dX9_underAll_28 : decode cX9_underAll 28 = .ok (.bipush 6, 2) := by decide +kernel
theorem dX9_underAll_30 : decode cX9_underAll 30 = .ok (.if_icmp .eq 7, 3) := by decide +kernel
theorem dX9_underAll_33 : decode cX9_underAll 33 = .ok (.iconst 1, 1) := by decide +kernel
theorem dX9_underAll_34 : decode cX9_underAll 34 = .ok (.goto 4, 3) := by decide +kernel
theorem dX9_underAll_37 : decode cX9_underAll 37 = .ok (.iconst 0, 1) := by decide +kernel
theorem dX9_underAll_38 : decode cX9_underAll 38 = .ok (.iadd, 1) := by decide +kernel
theorem dX9_underAll_39 : decode cX9_underAll 39 = .ok (.istore_n 1, 1) := by decide +kernel
theorem dX9_underAll_40 : decode cX9_underAll 40 = .ok (.iinc 2 1, 3) := by decide +kernel
theorem dX9_underAll_43 : decode cX9_underAll 43 = .ok (.goto (-39), 3) := by decide +kernel
theorem dX9_underAll_46 : decode cX9_underAll 46 = .ok (.iload_n 1, 1) := by decide +kernel
theorem dX9_underAll_47 : decode cX9_underAll 47 = .ok (.ireturn, 1) := by decide +kernel
theorem dX9_keepBack_0 : decode cX9_keepBack 0 = .ok (.aload_n 0, 1) := by decide +kernel
theorem dX9_keepBack_1 : decode cX9_keepBack 1 = .ok (.getfield 7, 3) := by decide +kernel
theorem dX9_keepBack_4 : decode cX9_keepBack 4 = .ok (.bipush 58, 2) := by decide +kernel
theorem dX9_keepBack_6 : decode cX9_keepBack 6 = .ok (.iaload, 1) := by decide +kernel
theorem dX9_keepBack_7 : decode cX9_keepBack 7 = .ok (.bipush 8, 2) := by decide +kernel
theorem dX9_keepBack_9 : decode cX9_keepBack 9 = .ok (.if_icmp .ne 32, 3) := by decide +kernel
theorem dX9_keepBack_12 : decode cX9_keepBack 12 = .ok (.aload_n 0, 1) := by decide +kernel
theorem dX9_keepBack_13 : decode cX9_keepBack 13 = .ok (.getfield 7, 3) := by decide +kernel
theorem dX9_keepBack_16 : decode cX9_keepBack 16 = .ok (.bipush 85, 2) := by decide +kernel
theorem dX9_keepBack_18 : decode cX9_keepBack 18 = .ok (.aload_n 0, 1) := by decide +kernel
theorem dX9_keepBack_19 : decode cX9_keepBack 19 = .ok (.getfield 7, 3) := by decide +kernel
theorem dX9_keepBack_22 : decode cX9_keepBack 22 = .ok (.bipush 59, 2) := by decide +kernel
theorem dX9_keepBack_24 : decode cX9_keepBack 24 = .ok (.sipush 182, 3) := by decide +kernel
theorem dX9_keepBack_27 : decode cX9_keepBack 27 = .ok (.invokestatic 138, 3) := by decide +kernel
theorem dX9_keepBack_30 : decode cX9_keepBack 30 = .ok (.aload_n 0, 1) := by decide +kernel
theorem dX9_keepBack_31 : decode cX9_keepBack 31 = .ok (.getfield 7, 3) := by decide +kernel
theorem dX9_keepBack_34 : decode cX9_keepBack 34 = .ok (.bipush 58, 2) := by decide +kernel
theorem dX9_keepBack_36 : decode cX9_keepBack 36 = .ok (.dup2, 1) := by decide +kernel
theorem dX9_keepBack_37 : decode cX9_keepBack 37 = .ok (.iaload, 1) := by decide +kernel
theorem dX9_keepBack_38 : decode cX9_keepBack 38 = .ok (.iconst 1, 1) := by decide +kernel
theorem dX9_keepBack_39 : decode cX9_keepBack 39 = .ok (.isub, 1) := by decide +kernel
theorem dX9_keepBack_40 : decode cX9_keepBack 40 = .ok (.iastore, 1) := by decide +kernel
theorem dX9_keepBack_41 : decode cX9_keepBack 41 = .ok (.aload_n 0, 1) := by decide +kernel
theorem dX9_keepBack_42 : decode cX9_keepBack 42 = .ok (.getfield 7, 3) := by decide +kernel
theorem dX9_keepBack_45 : decode cX9_keepBack 45 = .ok (.iconst 0, 1) := by decide +kernel
theorem dX9_keepBack_46 : decode cX9_keepBack 46 = .ok (.aload_n 0, 1) := by decide +kernel
theorem dX9_keepBack_47 : decode cX9_keepBack 47 = .ok (.getfield 7, 3) := by decide +kernel
theorem dX9_keepBack_50 : decode cX9_keepBack 50 = .ok (.bipush 59, 2) := by decide +kernel
theorem dX9_keepBack_52 : decode cX9_keepBack 52 = .ok (.bipush 26, 2) := by decide +kernel
theorem dX9_keepBack_54 : decode cX9_keepBack 54 = .ok (.aload_n 0, 1) := by decide +kernel
theorem dX9_keepBack_55 : decode cX9_keepBack 55 = .ok (.getfield 7, 3) := by decide +kernel
theorem dX9_keepBack_58 : decode cX9_keepBack 58 = .ok (.bipush 58, 2) := by decide +kernel
theorem dX9_keepBack_60 : decode cX9_keepBack 60 = .ok (.iaload, 1) := by decide +kernel
theorem dX9_keepBack_61 : decode cX9_keepBack 61 = .ok (.imul, 1) := by decide +kernel
theorem dX9_keepBack_62 : decode cX9_keepBack 62 = .ok (.iadd, 1) := by decide +kernel
theorem dX9_keepBack_63 : decode cX9_keepBack 63 = .ok (.bipush 26, 2) := by decide +kernel
theorem dX9_keepBack_65 : decode cX9_keepBack 65 = .ok (.invokestatic 138, 3) := by decide +kernel
theorem dX9_keepBack_68 : decode cX9_keepBack 68 = .ok (.aload_n 0, 1) := by decide +kernel
theorem dX9_keepBack_69 : decode cX9_keepBack 69 = .ok (.getfield 7, 3) := by decide +kernel
theorem dX9_keepBack_72 : decode cX9_keepBack 72 = .ok (.bipush 58, 2) := by decide +kernel
theorem dX9_keepBack_74 : decode cX9_keepBack 74 = .ok (.dup2, 1) := by decide +kernel
theorem dX9_keepBack_75 : decode cX9_keepBack 75 = .ok (.iaload, 1) := by decide +kernel
theorem dX9_keepBack_76 : decode cX9_keepBack 76 = .ok (.iconst 1, 1) := by decide +kernel
theorem dX9_keepBack_77 : decode cX9_keepBack 77 = .ok (.iadd, 1) := by decide +kernel
theorem dX9_keepBack_78 : decode cX9_keepBack 78 = .ok (.iastore, 1) := by decide +kernel
theorem dX9_keepBack_79 : decode cX9_keepBack 79 = .ok (.return_, 1) := by decide +kernel
theorem dX9_hour_0 : decode cX9_hour 0 = .ok (.iload_n 1, 1) := by decide +kernel
theorem dX9_hour_1 : decode cX9_hour 1 = .ok (.iconst 1, 1) := by decide +kernel
theorem dX9_hour_2 : decode cX9_hour 2 = .ok (.bipush 30, 2) := by decide +kernel
theorem dX9_hour_4 : decode cX9_hour 4 = .ok (.invokestatic 43, 3) := by decide +kernel
theorem dX9_hour_7 : decode cX9_hour 7 = .ok (.ifCond .ne 8, 3) := by decide +kernel
theorem dX9_hour_10 : decode cX9_hour 10 = .ok (.aload_n 0, 1) := by decide +kernel
theorem dX9_hour_11 : decode cX9_hour 11 = .ok (.invokevirtual 55, 3) := by decide +kernel
theorem dX9_hour_14 : decode cX9_hour 14 = .ok (.ireturn, 1) := by decide +kernel
theorem dX9_hour_15 : decode cX9_hour 15 = .ok (.aload_n 0, 1) := by decide +kernel
theorem dX9_hour_16 : decode cX9_hour 16 = .ok (.invokevirtual 184, 3) := by decide +kernel
theorem dX9_hour_19 : decode cX9_hour 19 = .ok (.iconst 0, 1) := by decide +kernel
theorem dX9_hour_20 : decode cX9_hour 20 = .ok (.istore_n 2, 1) := by decide +kernel
theorem dX9_hour_21 : decode cX9_hour 21 = .ok (.iload_n 2, 1) := by decide +kernel
theorem dX9_hour_22 : decode cX9_hour 22 = .ok (.iload_n 1, 1) := by decide +kernel
theorem dX9_hour_23 : decode cX9_hour 23 = .ok (.if_icmp .ge 28, 3) := by decide +kernel
theorem dX9_hour_26 : decode cX9_hour 26 = .ok (.aload_n 0, 1) := by decide +kernel
theorem dX9_hour_27 : decode cX9_hour 27 = .ok (.getfield 7, 3) := by decide +kernel
theorem dX9_hour_30 : decode cX9_hour 30 = .ok (.iconst 0, 1) := by decide +kernel
theorem dX9_hour_31 : decode cX9_hour 31 = .ok (.iaload, 1) := by decide +kernel
theorem dX9_hour_32 : decode cX9_hour 32 = .ok (.sipush 999, 3) := by decide +kernel
theorem dX9_hour_35 : decode cX9_hour 35 = .ok (.if_icmp .ge 16, 3) := by decide +kernel
theorem dX9_hour_38 : decode cX9_hour 38 = .ok (.aload_n 0, 1) := by decide +kernel
theorem dX9_hour_39 : decode cX9_hour 39 = .ok (.getfield 7, 3) := by decide +kernel
theorem dX9_hour_42 : decode cX9_hour 42 = .ok (.invokestatic 187, 3) := by decide +kernel
theorem dX9_hour_45 : decode cX9_hour 45 = .ok (.iinc 2 1, 3) := by decide +kernel
theorem dX9_hour_48 : decode cX9_hour 48 = .ok (.goto (-27), 3) := by decide +kernel
theorem dX9_hour_51 : decode cX9_hour 51 = .ok (.aload_n 0, 1) := by decide +kernel
theorem dX9_hour_52 : decode cX9_hour 52 = .ok (.getfield 7, 3) := by decide +kernel
theorem dX9_hour_55 : decode cX9_hour 55 = .ok (.invokestatic 190, 3) := by decide +kernel
theorem dX9_hour_58 : decode cX9_hour 58 = .ok (.invokestatic 155, 3) := by decide +kernel
theorem dX9_hour_61 : decode cX9_hour 61 = .ok (.ireturn, 1) := by decide +kernel
theorem dX9_darn_0 : decode cX9_darn 0 = .ok (.aload_n 0, 1) := by decide +kernel
theorem dX9_darn_1 : decode cX9_darn 1 = .ok (.iload_n 1, 1) := by decide +kernel
theorem dX9_darn_2 : decode cX9_darn 2 = .ok (.invokevirtual 194, 3) := by decide +kernel
theorem dX9_darn_5 : decode cX9_darn 5 = .ok (.ifCond .eq 13, 3) := by decide +kernel
theorem dX9_darn_8 : decode cX9_darn 8 = .ok (.iload_n 2, 1) := by decide +kernel
theorem dX9_darn_9 : decode cX9_darn 9 = .ok (.iconst 1, 1) := by decide +kernel
theorem dX9_darn_10 : decode cX9_darn 10 = .ok (.bipush 40, 2) := by decide +kernel
theorem dX9_darn_12 : decode cX9_darn 12 = .ok (.invokestatic 43, 3) := by decide +kernel
theorem dX9_darn_15 : decode cX9_darn 15 = .ok (.ifCond .ne 8, 3) := by decide +kernel
theorem dX9_darn_18 : decode cX9_darn 18 = .ok (.aload_n 0, 1) := by decide +kernel
theorem dX9_darn_19 : decode cX9_darn 19 = .ok (.invokevirtual 55, 3) := by decide +kernel
theorem dX9_darn_22 : decode cX9_darn 22 = .ok (.ireturn, 1) := by decide +kernel
theorem dX9_darn_23 : decode cX9_darn 23 = .ok (.aload_n 0, 1) := by decide +kernel
theorem dX9_darn_24 : decode cX9_darn 24 = .ok (.invokevirtual 184, 3) := by decide +kernel
theorem dX9_darn_27 : decode cX9_darn 27 = .ok (.aload_n 0, 1) := by decide +kernel
theorem dX9_darn_28 : decode cX9_darn 28 = .ok (.getfield 7, 3) := by decide +kernel
theorem dX9_darn_31 : decode cX9_darn 31 = .ok (.bipush 6, 2) := by decide +kernel
theorem dX9_darn_33 : decode cX9_darn 33 = .ok (.iload_n 1, 1) := by decide +kernel
theorem dX9_darn_34 : decode cX9_darn 34 = .ok (.iadd, 1) := by decide +kernel
theorem dX9_darn_35 : decode cX9_darn 35 = .ok (.aload_n 0, 1) := by decide +kernel
theorem dX9_darn_36 : decode cX9_darn 36 = .ok (.getfield 7, 3) := by decide +kernel
theorem dX9_darn_39 : decode cX9_darn 39 = .ok (.bipush 6, 2) := by decide +kernel
theorem dX9_darn_41 : decode cX9_darn 41 = .ok (.iload_n 1, 1) := by decide +kernel
theorem dX9_darn_42 : decode cX9_darn 42 = .ok (.iadd, 1) := by decide +kernel
theorem dX9_darn_43 : decode cX9_darn 43 = .ok (.iaload, 1) := by decide +kernel
theorem dX9_darn_44 : decode cX9_darn 44 = .ok (.iload_n 2, 1) := by decide +kernel
theorem dX9_darn_45 : decode cX9_darn 45 = .ok (.if_icmp .le 17, 3) := by decide +kernel
theorem dX9_darn_48 : decode cX9_darn 48 = .ok (.aload_n 0, 1) := by decide +kernel
theorem dX9_darn_49 : decode cX9_darn 49 = .ok (.getfield 7, 3) := by decide +kernel
theorem dX9_darn_52 : decode cX9_darn 52 = .ok (.bipush 6, 2) := by decide +kernel
theorem dX9_darn_54 : decode cX9_darn 54 = .ok (.iload_n 1, 1) := by decide +kernel
theorem dX9_darn_55 : decode cX9_darn 55 = .ok (.iadd, 1) := by decide +kernel
theorem dX9_darn_56 : decode cX9_darn 56 = .ok (.iaload, 1) := by decide +kernel
theorem dX9_darn_57 : decode cX9_darn 57 = .ok (.iload_n 2, 1) := by decide +kernel
theorem dX9_darn_58 : decode cX9_darn 58 = .ok (.isub, 1) := by decide +kernel
theorem dX9_darn_59 : decode cX9_darn 59 = .ok (.goto 4, 3) := by decide +kernel
theorem dX9_darn_62 : decode cX9_darn 62 = .ok (.iconst 0, 1) := by decide +kernel
theorem dX9_darn_63 : decode cX9_darn 63 = .ok (.iastore, 1) := by decide +kernel
theorem dX9_darn_64 : decode cX9_darn 64 = .ok (.aload_n 0, 1) := by decide +kernel
theorem dX9_darn_65 : decode cX9_darn 65 = .ok (.getfield 7, 3) := by decide +kernel
theorem dX9_darn_68 : decode cX9_darn 68 = .ok (.bipush 6, 2) := by decide +kernel
theorem dX9_darn_70 : decode cX9_darn 70 = .ok (.iload_n 1, 1) := by decide +kernel
theorem dX9_darn_71 : decode cX9_darn 71 = .ok (.iadd, 1) := by decide +kernel
theorem dX9_darn_72 : decode cX9_darn 72 = .ok (.iaload, 1) := by decide +kernel
theorem dX9_darn_73 : decode cX9_darn 73 = .ok (.ireturn, 1) := by decide +kernel
theorem dX9_bringTo_0 : decode cX9_bringTo 0 = .ok (.aload_n 0, 1) := by decide +kernel
theorem dX9_bringTo_1 : decode cX9_bringTo 1 = .ok (.iconst 1, 1) := by decide +kernel
theorem dX9_bringTo_2 : decode cX9_bringTo 2 = .ok (.iload_n 1, 1) := by decide +kernel
theorem dX9_bringTo_3 : decode cX9_bringTo 3 = .ok (.iadd, 1) := by decide +kernel
theorem dX9_bringTo_4 : decode cX9_bringTo 4 = .ok (.iload_n 2, 1) := by decide +kernel
theorem dX9_bringTo_5 : decode cX9_bringTo 5 = .ok (.iastore, 1) := by decide +kernel
theorem dX9_bringTo_6 : decode cX9_bringTo 6 = .ok (.iconst 0, 1) := by decide +kernel
theorem dX9_bringTo_7 : decode cX9_bringTo 7 = .ok (.istore_n 3, 1) := by decide +kernel
theorem dX9_bringTo_8 : decode cX9_bringTo 8 = .ok (.iload_n 3, 1) := by decide +kernel
theorem dX9_bringTo_9 : decode cX9_bringTo 9 = .ok (.aload_n 0, 1) := by decide +kernel
theorem dX9_bringTo_10 : decode cX9_bringTo 10 = .ok (.bipush 37, 2) := by decide +kernel
theorem dX9_bringTo_12 : decode cX9_bringTo 12 = .ok (.iaload, 1) := by decide +kernel
theorem dX9_bringTo_13 : decode cX9_bringTo 13 = .ok (.if_icmp .ge 37, 3) := by decide +kernel
theorem dX9_bringTo_16 : decode cX9_bringTo 16 = .ok (.aload_n 0, 1) := by decide +kernel
theorem dX9_bringTo_17 : decode cX9_bringTo 17 = .ok (.bipush 11, 2) := by decide +kernel
theorem dX9_bringTo_19 : decode cX9_bringTo 19 = .ok (.iload_n 3, 1) := by decide +kernel
theorem dX9_bringTo_20 : decode cX9_bringTo 20 = .ok (.iadd, 1) := by decide +kernel
theorem dX9_bringTo_21 : decode cX9_bringTo 21 = .ok (.aload_n 0, 1) := by decide +kernel
theorem dX9_bringTo_22 : decode cX9_bringTo 22 = .ok (.bipush 17, 2) := by decide +kernel
theorem dX9_bringTo_24 : decode cX9_bringTo 24 = .ok (.iload_n 3, 1) := by decide +kernel
theorem dX9_bringTo_25 : decode cX9_bringTo 25 = .ok (.iadd, 1) := by decide +kernel
theorem dX9_bringTo_26 : decode cX9_bringTo 26 = .ok (.iaload, 1) := by decide +kernel
theorem dX9_bringTo_27 : decode cX9_bringTo 27 = .ok (.iconst 1, 1) := by decide +kernel
theorem dX9_bringTo_28 : decode cX9_bringTo 28 = .ok (.iload_n 1, 1) := by decide +kernel
theorem dX9_bringTo_29 : decode cX9_bringTo 29 = .ok (.iadd, 1) := by decide +kernel
theorem dX9_bringTo_30 : decode cX9_bringTo 30 = .ok (.if_icmp .ne 7, 3) := by decide +kernel
theorem dX9_bringTo_33 : decode cX9_bringTo 33 = .ok (.iload_n 2, 1) := by decide +kernel
theorem dX9_bringTo_34 : decode cX9_bringTo 34 = .ok (.goto 9, 3) := by decide +kernel
theorem dX9_bringTo_37 : decode cX9_bringTo 37 = .ok (.aload_n 0, 1) := by decide +kernel
theorem dX9_bringTo_38 : decode cX9_bringTo 38 = .ok (.bipush 11, 2) := by decide +kernel
theorem dX9_bringTo_40 : decode cX9_bringTo 40 = .ok (.iload_n 3, 1) := by decide +kernel
theorem dX9_bringTo_41 : decode cX9_bringTo 41 = .ok (.iadd, 1) := by decide +kernel
theorem dX9_bringTo_42 : decode cX9_bringTo 42 = .ok (.iaload, 1) := by decide +kernel
theorem dX9_bringTo_43 : decode cX9_bringTo 43 = .ok (.iastore, 1) := by decide +kernel
theorem dX9_bringTo_44 : decode cX9_bringTo 44 = .ok (.iinc 3 1, 3) := by decide +kernel
theorem dX9_bringTo_47 : decode cX9_bringTo 47 = .ok (.goto (-39), 3) := by decide +kernel
theorem dX9_bringTo_50 : decode cX9_bringTo 50 = .ok (.return_, 1) := by decide +kernel
theorem dX9_carry_0 : decode cX9_carry 0 = .ok (.aload_n 0, 1) := by decide +kernel
theorem dX9_carry_1 : decode cX9_carry 1 = .ok (.iload_n 1, 1) := by decide +kernel
theorem dX9_carry_2 : decode cX9_carry 2 = .ok (.invokevirtual 194, 3) := by decide +kernel
theorem dX9_carry_5 : decode cX9_carry 5 = .ok (.ifCond .eq 10, 3) := by decide +kernel
theorem dX9_carry_8 : decode cX9_carry 8 = .ok (.iload_n 2, 1) := by decide +kernel
theorem dX9_carry_9 : decode cX9_carry 9 = .ok (.invokestatic 51, 3) := by decide +kernel
theorem dX9_carry_12 : decode cX9_carry 12 = .ok (.ifCond .ne 8, 3) := by decide +kernel
theorem dX9_carry_15 : decode cX9_carry 15 = .ok (.aload_n 0, 1) := by decide +kernel
theorem dX9_carry_16 : decode cX9_carry 16 = .ok (.invokevirtual 55, 3) := by decide +kernel
theorem dX9_carry_19 : decode cX9_carry 19 = .ok (.ireturn, 1) := by decide +kernel
theorem dX9_carry_20 : decode cX9_carry 20 = .ok (.aload_n 0, 1) := by decide +kernel
theorem dX9_carry_21 : decode cX9_carry 21 = .ok (.invokevirtual 184, 3) := by decide +kernel
theorem dX9_carry_24 : decode cX9_carry 24 = .ok (.aload_n 0, 1) := by decide +kernel
theorem dX9_carry_25 : decode cX9_carry 25 = .ok (.getfield 7, 3) := by decide +kernel
theorem dX9_carry_28 : decode cX9_carry 28 = .ok (.iconst 1, 1) := by decide +kernel
theorem dX9_carry_29 : decode cX9_carry 29 = .ok (.iload_n 1, 1) := by decide +kernel
theorem dX9_carry_30 : decode cX9_carry 30 = .ok (.iadd, 1) := by decide +kernel
theorem dX9_carry_31 : decode cX9_carry 31 = .ok (.iaload, 1) := by decide +kernel
theorem dX9_carry_32 : decode cX9_carry 32 = .ok (.istore_n 3, 1) := by decide +kernel
theorem dX9_carry_33 : decode cX9_carry 33 = .ok (.aload_n 0, 1) := by decide +kernel
theorem dX9_carry_34 : decode cX9_carry 34 = .ok (.getfield 7, 3) := by decide +kernel
theorem dX9_carry_37 : decode cX9_carry 37 = .ok (.iload_n 1, 1) := by decide +kernel
theorem dX9_carry_38 : decode cX9_carry 38 = .ok (.iload_n 2, 1) := by decide +kernel
theorem dX9_carry_39 : decode cX9_carry 39 = .ok (.invokestatic 197, 3) := by decide +kernel
theorem dX9_carry_42 : decode cX9_carry 42 = .ok (.iload_n 3, 1) := by decide +kernel
theorem dX9_carry_43 : decode cX9_carry 43 = .ok (.ireturn, 1) := by decide +kernel
theorem dX9_undo_0 : decode cX9_undo 0 = .ok (.aload_n 0, 1) := by decide +kernel
theorem dX9_undo_1 : decode cX9_undo 1 = .ok (.getfield 7, 3) := by decide +kernel
theorem dX9_undo_4 : decode cX9_undo 4 = .ok (.bipush 58, 2) := by decide +kernel
theorem dX9_undo_6 : decode cX9_undo 6 = .ok (.iaload, 1) := by decide +kernel
theorem dX9_undo_7 : decode cX9_undo 7 = .ok (.ifCond .ne 8, 3) := by decide +kernel
theorem dX9_undo_10 : decode cX9_undo 10 = .ok (.aload_n 0, 1) := by decide +kernel
theorem dX9_undo_11 : decode cX9_undo 11 = .ok (.invokevirtual 201, 3) := by decide +kernel
theorem dX9_undo_14 : decode cX9_undo 14 = .ok (.ireturn, 1) := by decide +kernel
theorem dX9_undo_15 : decode cX9_undo 15 = .ok (.aload_n 0, 1) := by decide +kernel
theorem dX9_undo_16 : decode cX9_undo 16 = .ok (.getfield 7, 3) := by decide +kernel
theorem dX9_undo_19 : decode cX9_undo 19 = .ok (.bipush 58, 2) := by decide +kernel
theorem dX9_undo_21 : decode cX9_undo 21 = .ok (.dup2, 1) := by decide +kernel
theorem dX9_undo_22 : decode cX9_undo 22 = .ok (.iaload, 1) := by decide +kernel
theorem dX9_undo_23 : decode cX9_undo 23 = .ok (.iconst 1, 1) := by decide +kernel
theorem dX9_undo_24 : decode cX9_undo 24 = .ok (.isub, 1) := by decide +kernel
theorem dX9_undo_25 : decode cX9_undo 25 = .ok (.iastore, 1) := by decide +kernel
theorem dX9_undo_26 : decode cX9_undo 26 = .ok (.aload_n 0, 1) := by decide +kernel
theorem dX9_undo_27 : decode cX9_undo 27 = .ok (.getfield 7, 3) := by decide +kernel
theorem dX9_undo_30 : decode cX9_undo 30 = .ok (.bipush 59, 2) := by decide +kernel
theorem dX9_undo_32 : decode cX9_undo 32 = .ok (.bipush 26, 2) := by decide +kernel
theorem dX9_undo_34 : decode cX9_undo 34 = .ok (.aload_n 0, 1) := by decide +kernel
theorem dX9_undo_35 : decode cX9_undo 35 = .ok (.getfield 7, 3) := by decide +kernel
theorem dX9_undo_38 : decode cX9_undo 38 = .ok (.bipush 58, 2) := by decide +kernel
theorem dX9_undo_40 : decode cX9_undo 40 = .ok (.iaload, 1) := by decide +kernel
theorem dX9_undo_41 : decode cX9_undo 41 = .ok (.imul, 1) := by decide +kernel
theorem dX9_undo_42 : decode cX9_undo 42 = .ok (.iadd, 1) := by decide +kernel
theorem dX9_undo_43 : decode cX9_undo 43 = .ok (.aload_n 0, 1) := by decide +kernel
theorem dX9_undo_44 : decode cX9_undo 44 = .ok (.getfield 7, 3) := by decide +kernel
theorem dX9_undo_47 : decode cX9_undo 47 = .ok (.iconst 0, 1) := by decide +kernel
theorem dX9_undo_48 : decode cX9_undo 48 = .ok (.bipush 26, 2) := by decide +kernel
theorem dX9_undo_50 : decode cX9_undo 50 = .ok (.invokestatic 138, 3) := by decide +kernel
theorem dX9_undo_53 : decode cX9_undo 53 = .ok (.aload_n 0, 1) := by decide +kernel
theorem dX9_undo_54 : decode cX9_undo 54 = .ok (.getfield 7, 3) := by decide +kernel
theorem dX9_undo_57 : decode cX9_undo 57 = .ok (.iconst 0, 1) := by decide +kernel
theorem dX9_undo_58 : decode cX9_undo 58 = .ok (.iaload, 1) := by decide +kernel
theorem dX9_undo_59 : decode cX9_undo 59 = .ok (.ireturn, 1) := by decide +kernel
theorem dX9_of_0 : decode cX9_of 0 = .ok (.aload_n 0, 1) := by decide +kernel
theorem dX9_of_1 : decode cX9_of 1 = .ok (.iload_n 1, 1) := by decide +kernel
theorem dX9_of_2 : decode cX9_of 2 = .ok (.invokevirtual 194, 3) := by decide +kernel
theorem dX9_of_5 : decode cX9_of 5 = .ok (.ifCond .ne 8, 3) := by decide +kernel
theorem dX9_of_8 : decode cX9_of 8 = .ok (.aload_n 0, 1) := by decide +kernel
theorem dX9_of_9 : decode cX9_of 9 = .ok (.invokevirtual 55, 3) := by decide +kernel
theorem dX9_of_12 : decode cX9_of 12 = .ok (.ireturn, 1) := by decide +kernel
theorem dX9_of_13 : decode cX9_of 13 = .ok (.iload_n 2, 1) := by decide +kernel
theorem dX9_of_14 : decode cX9_of 14 = .ok (.tableswitch 95 0 5 #[38, 48, 57, 67, 77, 86], 38) := by decide +kernel
theorem dX9_of_52 : decode cX9_of 52 = .ok (.aload_n 0, 1) := by decide +kernel
theorem dX9_of_53 : decode cX9_of 53 = .ok (.getfield 7, 3) := by decide +kernel
theorem dX9_of_56 : decode cX9_of 56 = .ok (.bipush 27, 2) := by decide +kernel
theorem dX9_of_58 : decode cX9_of 58 = .ok (.iload_n 1, 1) := by decide +kernel
theorem dX9_of_59 : decode cX9_of 59 = .ok (.iadd, 1) := by decide +kernel
theorem dX9_of_60 : decode cX9_of 60 = .ok (.iaload, 1) := by decide +kernel
theorem dX9_of_61 : decode cX9_of 61 = .ok (.ireturn, 1) := by decide +kernel
theorem dX9_of_62 : decode cX9_of 62 = .ok (.aload_n 0, 1) := by decide +kernel
theorem dX9_of_63 : decode cX9_of 63 = .ok (.getfield 7, 3) := by decide +kernel
theorem dX9_of_66 : decode cX9_of 66 = .ok (.iconst 1, 1) := by decide +kernel
theorem dX9_of_67 : decode cX9_of 67 = .ok (.iload_n 1, 1) := by decide +kernel
theorem dX9_of_68 : decode cX9_of 68 = .ok (.iadd, 1) := by decide +kernel
theorem dX9_of_69 : decode cX9_of 69 = .ok (.iaload, 1) := by decide +kernel
theorem dX9_of_70 : decode cX9_of 70 = .ok (.ireturn, 1) := by decide +kernel
theorem dX9_of_71 : decode cX9_of 71 = .ok (.aload_n 0, 1) := by decide +kernel
theorem dX9_of_72 : decode cX9_of 72 = .ok (.getfield 7, 3) := by decide +kernel
theorem dX9_of_75 : decode cX9_of 75 = .ok (.bipush 32, 2) := by decide +kernel
theorem dX9_of_77 : decode cX9_of 77 = .ok (.iload_n 1, 1) := by decide +kernel
theorem dX9_of_78 : decode cX9_of 78 = .ok (.iadd, 1) := by decide +kernel
theorem dX9_of_79 : decode cX9_of 79 = .ok (.iaload, 1) := by decide +kernel
theorem dX9_of_80 : decode cX9_of 80 = .ok (.ireturn, 1) := by decide +kernel
theorem dX9_of_81 : decode cX9_of 81 = .ok (.aload_n 0, 1) := by decide +kernel
theorem dX9_of_82 : decode cX9_of 82 = .ok (.getfield 7, 3) := by decide +kernel
theorem dX9_of_85 : decode cX9_of 85 = .ok (.bipush 6, 2) := by decide +kernel
theorem dX9_of_87 : decode cX9_of 87 = .ok (.iload_n 1, 1) := by decide +kernel
theorem dX9_of_88 : decode cX9_of 88 = .ok (.iadd, 1) := by decide +kernel
theorem dX9_of_89 : decode cX9_of 89 = .ok (.iaload, 1) := by decide +kernel
theorem dX9_of_90 : decode cX9_of 90 = .ok (.ireturn, 1) := by decide +kernel
theorem dX9_of_91 : decode cX9_of 91 = .ok (.aload_n 0, 1) := by decide +kernel
theorem dX9_of_92 : decode cX9_of 92 = .ok (.getfield 7, 3) := by decide +kernel
theorem dX9_of_95 : decode cX9_of 95 = .ok (.iload_n 1, 1) := by decide +kernel
theorem dX9_of_96 : decode cX9_of 96 = .ok (.invokestatic 149, 3) := by decide +kernel
theorem dX9_of_99 : decode cX9_of 99 = .ok (.ireturn, 1) := by decide +kernel
theorem dX9_of_100 : decode cX9_of 100 = .ok (.aload_n 0, 1) := by decide +kernel
theorem dX9_of_101 : decode cX9_of 101 = .ok (.getfield 7, 3) := by decide +kernel
theorem dX9_of_104 : decode cX9_of 104 = .ok (.iload_n 1, 1) := by decide +kernel
theorem dX9_of_105 : decode cX9_of 105 = .ok (.invokestatic 152, 3) := by decide +kernel
theorem dX9_of_108 : decode cX9_of 108 = .ok (.ireturn, 1) := by decide +kernel
theorem dX9_of_109 : decode cX9_of 109 = .ok (.aload_n 0, 1) := by decide +kernel
theorem dX9_of_110 : decode cX9_of 110 = .ok (.invokevirtual 55, 3) := by decide +kernel
theorem dX9_of_113 : decode cX9_of 113 = .ok (.ireturn, 1) := by decide +kernel
theorem dX9_aboutIn_0 : decode cX9_aboutIn 0 = .ok (.aload_n 0, 1) := by decide +kernel
theorem dX9_aboutIn_1 : decode cX9_aboutIn 1 = .ok (.bipush 17, 2) := by decide +kernel
theorem dX9_aboutIn_3 : decode cX9_aboutIn 3 = .ok (.iload_n 1, 1) := by decide +kernel
theorem dX9_aboutIn_4 : decode cX9_aboutIn 4 = .ok (.iadd, 1) := by decide +kernel
theorem dX9_aboutIn_5 : decode cX9_aboutIn 5 = .ok (.iaload, 1) := by decide +kernel
theorem dX9_aboutIn_6 : decode cX9_aboutIn 6 = .ok (.istore_n 3, 1) := by decide +kernel
theorem dX9_aboutIn_7 : decode cX9_aboutIn 7 = .ok (.iload_n 2, 1) := by decide +kernel
theorem dX9_aboutIn_8 : decode cX9_aboutIn 8 = .ok (.ifCond .ne 12, 3) := by decide +kernel
theorem dX9_aboutIn_11 : decode cX9_aboutIn 11 = .ok (.aload_n 0, 1) := by decide +kernel
theorem dX9_aboutIn_12 : decode cX9_aboutIn 12 = .ok (.bipush 11, 2) := by decide +kernel
theorem dX9_aboutIn_14 : decode cX9_aboutIn 14 = .ok (.iload_n 1, 1) := by decide +kernel
theorem dX9_aboutIn_15 : decode cX9_aboutIn 15 = .ok (.iadd, 1) := by decide +kernel
theorem dX9_aboutIn_16 : decode cX9_aboutIn 16 = .ok (.iaload, 1) := by decide +kernel
theorem dX9_aboutIn_17 : decode cX9_aboutIn 17 = .ok (.goto 35, 3) := by decide +kernel
theorem dX9_aboutIn_20 : decode cX9_aboutIn 20 = .ok (.iload_n 2, 1) := by decide +kernel
theorem dX9_aboutIn_21 : decode cX9_aboutIn 21 = .ok (.iconst 2, 1) := by decide +kernel
theorem dX9_aboutIn_22 : decode cX9_aboutIn 22 = .ok (.if_icmp .ne 17, 3) := by decide +kernel
theorem dX9_aboutIn_25 : decode cX9_aboutIn 25 = .ok (.iload_n 3, 1) := by decide +kernel
theorem dX9_aboutIn_26 : decode cX9_aboutIn 26 = .ok (.bipush 6, 2) := by decide +kernel
theorem dX9_aboutIn_28 : decode cX9_aboutIn 28 = .ok (.if_icmp .ne 7, 3) := by decide +kernel
theorem dX9_aboutIn_31 : decode cX9_aboutIn 31 = .ok (.iconst 1, 1) := by decide +kernel
theorem dX9_aboutIn_32 : decode cX9_aboutIn 32 = .ok (.goto 20, 3) := by decide +kernel
theorem dX9_aboutIn_35 : decode cX9_aboutIn 35 = .ok (.iconst 0, 1) := by decide +kernel
theorem dX9_aboutIn_36 : decode cX9_aboutIn 36 = .ok (.goto 16, 3) := by decide +kernel
theorem dX9_aboutIn_39 : decode cX9_aboutIn 39 = .ok (.iload_n 3, 1) := by decide +kernel
theorem dX9_aboutIn_40 : decode cX9_aboutIn 40 = .ok (.bipush 6, 2) := by decide +kernel
theorem dX9_aboutIn_42 : decode cX9_aboutIn 42 = .ok (.if_icmp .ne 7, 3) := by decide +kernel
theorem dX9_aboutIn_45 : decode cX9_aboutIn 45 = .ok (.iconst (-1), 1) := by decide +kernel
theorem dX9_aboutIn_46 : decode cX9_aboutIn 46 = .ok (.goto 6, 3) := by decide +kernel
theorem dX9_aboutIn_49 : decode cX9_aboutIn 49 = .ok (.iload_n 3, 1) := by decide +kernel
theorem dX9_aboutIn_50 : decode cX9_aboutIn 50 = .ok (.iconst 1, 1) := by decide +kernel
theorem dX9_aboutIn_51 : decode cX9_aboutIn 51 = .ok (.isub, 1) := by decide +kernel
theorem dX9_aboutIn_52 : decode cX9_aboutIn 52 = .ok (.ireturn, 1) := by decide +kernel
theorem dX9_about_0 : decode cX9_about 0 = .ok (.aload_n 0, 1) := by decide +kernel
theorem dX9_about_1 : decode cX9_about 1 = .ok (.iload_n 1, 1) := by decide +kernel
theorem dX9_about_2 : decode cX9_about 2 = .ok (.invokevirtual 204, 3) := by decide +kernel
theorem dX9_about_5 : decode cX9_about 5 = .ok (.ifCond .eq 24, 3) := by decide +kernel
theorem dX9_about_8 : decode cX9_about 8 = .ok (.iload_n 2, 1) := by decide +kernel
theorem dX9_about_9 : decode cX9_about 9 = .ok (.iconst 0, 1) := by decide +kernel
theorem dX9_about_10 : decode cX9_about 10 = .ok (.iconst 2, 1) := by decide +kernel
theorem dX9_about_11 : decode cX9_about 11 = .ok (.invokestatic 43, 3) := by decide +kernel
theorem dX9_about_14 : decode cX9_about 14 = .ok (.ifCond .eq 15, 3) := by decide +kernel
theorem dX9_about_17 : decode cX9_about 17 = .ok (.aload_n 0, 1) := by decide +kernel
theorem dX9_about_18 : decode cX9_about 18 = .ok (.getfield 7, 3) := by decide +kernel
theorem dX9_about_21 : decode cX9_about 21 = .ok (.iload_n 1, 1) := by decide +kernel
theorem dX9_about_22 : decode cX9_about 22 = .ok (.iload_n 2, 1) := by decide +kernel
theorem dX9_about_23 : decode cX9_about 23 = .ok (.invokestatic 207, 3) := by decide +kernel
theorem dX9_about_26 : decode cX9_about 26 = .ok (.goto 9, 3) := by decide +kernel
theorem dX9_about_29 : decode cX9_about 29 = .ok (.aload_n 0, 1) := by decide +kernel
theorem dX9_about_30 : decode cX9_about 30 = .ok (.bipush (-10), 2) := by decide +kernel
theorem dX9_about_32 : decode cX9_about 32 = .ok (.invokevirtual 39, 3) := by decide +kernel
theorem dX9_about_35 : decode cX9_about 35 = .ok (.ireturn, 1) := by decide +kernel
theorem dX9_where_0 : decode cX9_where 0 = .ok (.iload_n 1, 1) := by decide +kernel
theorem dX9_where_1 : decode cX9_where 1 = .ok (.iconst 0, 1) := by decide +kernel
theorem dX9_where_2 : decode cX9_where 2 = .ok (.aload_n 0, 1) := by decide +kernel
theorem dX9_where_3 : decode cX9_where 3 = .ok (.getfield 7, 3) := by decide +kernel
theorem dX9_where_6 : decode cX9_where 6 = .ok (.bipush 38, 2) := by decide +kernel
theorem dX9_where_8 : decode cX9_where 8 = .ok (.iaload, 1) := by decide +kernel
theorem dX9_where_9 : decode cX9_where 9 = .ok (.iconst 1, 1) := by decide +kernel
theorem dX9_where_10 : decode cX9_where 10 = .ok (.isub, 1) := by decide +kernel
theorem dX9_where_11 : decode cX9_where 11 = .ok (.invokestatic 43, 3) := by decide +kernel
theorem dX9_where_14 : decode cX9_where 14 = .ok (.ifCond .eq 15, 3) := by decide +kernel
theorem dX9_where_17 : decode cX9_where 17 = .ok (.aload_n 0, 1) := by decide +kernel
theorem dX9_where_18 : decode cX9_where 18 = .ok (.getfield 7, 3) := by decide +kernel
theorem dX9_where_21 : decode cX9_where 21 = .ok (.bipush 23, 2) := by decide +kernel
theorem dX9_where_23 : decode cX9_where 23 = .ok (.iload_n 1, 1) := by decide +kernel
theorem dX9_where_24 : decode cX9_where 24 = .ok (.iadd, 1) := by decide +kernel
theorem dX9_where_25 : decode cX9_where 25 = .ok (.iaload, 1) := by decide +kernel
theorem dX9_where_26 : decode cX9_where 26 = .ok (.goto 7, 3) := by decide +kernel
theorem dX9_where_29 : decode cX9_where 29 = .ok (.aload_n 0, 1) := by decide +kernel
theorem dX9_where_30 : decode cX9_where 30 = .ok (.invokevirtual 55, 3) := by decide +kernel
theorem dX9_where_33 : decode cX9_where 33 = .ok (.ireturn, 1) := by decide +kernel
theorem dX9_copyNow_0 : decode cX9_copyNow 0 = .ok (.aload_n 0, 1) := by decide +kernel
theorem dX9_copyNow_1 : decode cX9_copyNow 1 = .ok (.getfield 7, 3) := by decide +kernel
theorem dX9_copyNow_4 : decode cX9_copyNow 4 = .ok (.iconst 0, 1) := by decide +kernel
theorem dX9_copyNow_5 : decode cX9_copyNow 5 = .ok (.aload_n 0, 1) := by decide +kernel
theorem dX9_copyNow_6 : decode cX9_copyNow 6 = .ok (.getfield 13, 3) := by decide +kernel
theorem dX9_copyNow_9 : decode cX9_copyNow 9 = .ok (.iconst 0, 1) := by decide +kernel
theorem dX9_copyNow_10 : decode cX9_copyNow 10 = .ok (.bipush 58, 2) := by decide +kernel
theorem dX9_copyNow_12 : decode cX9_copyNow 12 = .ok (.invokestatic 138, 3) := by decide +kernel
theorem dX9_copyNow_15 : decode cX9_copyNow 15 = .ok (.return_, 1) := by decide +kernel
theorem dX9_goOn_0 : decode cX9_goOn 0 = .ok (.iconst 0, 1) := by decide +kernel
theorem dX9_goOn_1 : decode cX9_goOn 1 = .ok (.istore_n 2, 1) := by decide +kernel
theorem dX9_goOn_2 : decode cX9_goOn 2 = .ok (.iload_n 2, 1) := by decide +kernel
theorem dX9_goOn_3 : decode cX9_goOn 3 = .ok (.iload_n 1, 1) := by decide +kernel
theorem dX9_goOn_4 : decode cX9_goOn 4 = .ok (.if_icmp .ge 16, 3) := by decide +kernel
theorem dX9_goOn_7 : decode cX9_goOn 7 = .ok (.aload_n 0, 1) := by decide +kernel
theorem dX9_goOn_8 : decode cX9_goOn 8 = .ok (.getfield 13, 3) := by decide +kernel
theorem dX9_goOn_11 : decode cX9_goOn 11 = .ok (.invokestatic 187, 3) := by decide +kernel
theorem dX9_goOn_14 : decode cX9_goOn 14 = .ok (.iinc 2 1, 3) := by decide +kernel
theorem dX9_goOn_17 : decode cX9_goOn 17 = .ok (.goto (-15), 3) := by decide +kernel
theorem dX9_goOn_20 : decode cX9_goOn 20 = .ok (.return_, 1) := by decide +kernel
theorem dX9_then_0 : decode cX9_then 0 = .ok (.aload_n 0, 1) := by decide +kernel
theorem dX9_then_1 : decode cX9_then 1 = .ok (.iload_n 1, 1) := by decide +kernel
theorem dX9_then_2 : decode cX9_then 2 = .ok (.invokevirtual 204, 3) := by decide +kernel
theorem dX9_then_5 : decode cX9_then 5 = .ok (.ifCond .eq 22, 3) := by decide +kernel
theorem dX9_then_8 : decode cX9_then 8 = .ok (.iload_n 2, 1) := by decide +kernel
theorem dX9_then_9 : decode cX9_then 9 = .ok (.iconst 0, 1) := by decide +kernel
theorem dX9_then_10 : decode cX9_then 10 = .ok (.bipush 40, 2) := by decide +kernel
theorem dX9_then_12 : decode cX9_then 12 = .ok (.invokestatic 43, 3) := by decide +kernel
theorem dX9_then_15 : decode cX9_then 15 = .ok (.ifCond .eq 12, 3) := by decide +kernel
theorem dX9_then_18 : decode cX9_then 18 = .ok (.iload_n 3, 1) := by decide +kernel
theorem dX9_then_19 : decode cX9_then 19 = .ok (.iconst 0, 1) := by decide +kernel
theorem dX9_then_20 : decode cX9_then 20 = .ok (.iconst 2, 1) := by decide +kernel
theorem dX9_then_21 : decode cX9_then 21 = .ok (.invokestatic 43, 3) := by decide +kernel
theorem dX9_then_24 : decode cX9_then 24 = .ok (.ifCond .ne 10, 3) := by decide +kernel
theorem dX9_then_27 : decode cX9_then 27 = .ok (.aload_n 0, 1) := by decide +kernel
theorem dX9_then_28 : decode cX9_then 28 = .ok (.bipush (-10), 2) := by decide +kernel
theorem dX9_then_30 : decode cX9_then 30 = .ok (.invokevirtual 39, 3) := by decide +kernel
theorem dX9_then_33 : decode cX9_then 33 = .ok (.ireturn, 1) := by decide +kernel
theorem dX9_then_34 : decode cX9_then 34 = .ok (.aload_n 0, 1) := by decide +kernel
theorem dX9_then_35 : decode cX9_then 35 = .ok (.invokevirtual 211, 3) := by decide +kernel
theorem dX9_then_38 : decode cX9_then 38 = .ok (.aload_n 0, 1) := by decide +kernel
theorem dX9_then_39 : decode cX9_then 39 = .ok (.iload_n 2, 1) := by decide +kernel
theorem dX9_then_40 : decode cX9_then 40 = .ok (.invokevirtual 214, 3) := by decide +kernel
theorem dX9_then_43 : decode cX9_then 43 = .ok (.aload_n 0, 1) := by decide +kernel
theorem dX9_then_44 : decode cX9_then 44 = .ok (.getfield 13, 3) := by decide +kernel
theorem dX9_then_47 : decode cX9_then 47 = .ok (.iload_n 1, 1) := by decide +kernel
theorem dX9_then_48 : decode cX9_then 48 = .ok (.iload_n 3, 1) := by decide +kernel
theorem dX9_then_49 : decode cX9_then 49 = .ok (.invokestatic 207, 3) := by decide +kernel
theorem dX9_then_52 : decode cX9_then 52 = .ok (.ireturn, 1) := by decide +kernel
theorem dX9_fate_0 : decode cX9_fate 0 = .ok (.iload_n 1, 1) := by decide +kernel
theorem dX9_fate_1 : decode cX9_fate 1 = .ok (.iconst 0, 1) := by decide +kernel
theorem dX9_fate_2 : decode cX9_fate 2 = .ok (.bipush 40, 2) := by decide +kernel
theorem dX9_fate_4 : decode cX9_fate 4 = .ok (.invokestatic 43, 3) := by decide +kernel
theorem dX9_fate_7 : decode cX9_fate 7 = .ok (.ifCond .eq 12, 3) := by decide +kernel
theorem dX9_fate_10 : decode cX9_fate 10 = .ok (.iload_n 2, 1) := by decide +kernel
theorem dX9_fate_11 : decode cX9_fate 11 = .ok (.iconst 0, 1) := by decide +kernel
theorem dX9_fate_12 : decode cX9_fate 12 = .ok (.iconst 2, 1) := by decide +kernel
theorem dX9_fate_13 : decode cX9_fate 13 = .ok (.invokestatic 43, 3) := by decide +kernel
theorem dX9_fate_16 : decode cX9_fate 16 = .ok (.ifCond .ne 8, 3) := by decide +kernel
theorem dX9_fate_19 : decode cX9_fate 19 = .ok (.aload_n 0, 1) := by decide +kernel
theorem dX9_fate_20 : decode cX9_fate 20 = .ok (.invokevirtual 55, 3) := by decide +kernel
theorem dX9_fate_23 : decode cX9_fate 23 = .ok (.ireturn, 1) := by decide +kernel
theorem dX9_fate_24 : decode cX9_fate 24 = .ok (.aload_n 0, 1) := by decide +kernel
theorem dX9_fate_25 : decode cX9_fate 25 = .ok (.invokevirtual 211, 3) := by decide +kernel
theorem dX9_fate_28 : decode cX9_fate 28 = .ok (.aload_n 0, 1) := by decide +kernel
theorem dX9_fate_29 : decode cX9_fate 29 = .ok (.iload_n 1, 1) := by decide +kernel
theorem dX9_fate_30 : decode cX9_fate 30 = .ok (.invokevirtual 214, 3) := by decide +kernel
theorem dX9_fate_33 : decode cX9_fate 33 = .ok (.iload_n 2, 1) := by decide +kernel
theorem dX9_fate_34 : decode cX9_fate 34 = .ok (.ifCond .ne 16, 3) := by decide +kernel
theorem dX9_fate_37 : decode cX9_fate 37 = .ok (.aload_n 0, 1) := by decide +kernel
theorem dX9_fate_38 : decode cX9_fate 38 = .ok (.getfield 13, 3) := by decide +kernel
theorem dX9_fate_41 : decode cX9_fate 41 = .ok (.invokestatic 190, 3) := by decide +kernel
theorem dX9_fate_44 : decode cX9_fate 44 = .ok (.invokestatic 155, 3) := by decide +kernel
theorem dX9_fate_47 : decode cX9_fate 47 = .ok (.goto 25, 3) := by decide +kernel
theorem dX9_fate_50 : decode cX9_fate 50 = .ok (.iload_n 2, 1) := by decide +kernel
theorem dX9_fate_51 : decode cX9_fate 51 = .ok (.iconst 1, 1) := by decide +kernel
theorem dX9_fate_52 : decode cX9_fate 52 = .ok (.if_icmp .ne 13, 3) := by decide +kernel
theorem dX9_fate_55 : decode cX9_fate 55 = .ok (.aload_n 0, 1) := by decide +kernel
theorem dX9_fate_56 : decode cX9_fate 56 = .ok (.getfield 13, 3) := by decide +kernel
theorem dX9_fate_59 : decode cX9_fate 59 = .ok (.invokestatic 190, 3) := by decide +kernel
theorem dX9_fate_62 : decode cX9_fate 62 = .ok (.goto 10, 3) := by decide +kernel
theorem dX9_fate_65 : decode cX9_fate 65 = .ok (.aload_n 0, 1) := by decide +kernel
theorem dX9_fate_66 : decode cX9_fate 66 = .ok (.getfield 13, 3) := by decide +kernel
theorem dX9_fate_69 : decode cX9_fate 69 = .ok (.invokestatic 218, 3) := by decide +kernel
theorem dX9_fate_72 : decode cX9_fate 72 = .ok (.ireturn, 1) := by decide +kernel
theorem dX9_when_0 : decode cX9_when 0 = .ok (.aload_n 0, 1) := by decide +kernel
theorem dX9_when_1 : decode cX9_when 1 = .ok (.iload_n 1, 1) := by decide +kernel
theorem dX9_when_2 : decode cX9_when 2 = .ok (.invokevirtual 204, 3) := by decide +kernel
theorem dX9_when_5 : decode cX9_when 5 = .ok (.ifCond .ne 8, 3) := by decide +kernel
theorem dX9_when_8 : decode cX9_when 8 = .ok (.aload_n 0, 1) := by decide +kernel
theorem dX9_when_9 : decode cX9_when 9 = .ok (.invokevirtual 55, 3) := by decide +kernel
theorem dX9_when_12 : decode cX9_when 12 = .ok (.ireturn, 1) := by decide +kernel
theorem dX9_when_13 : decode cX9_when 13 = .ok (.aload_n 0, 1) := by decide +kernel
theorem dX9_when_14 : decode cX9_when 14 = .ok (.invokevirtual 211, 3) := by decide +kernel
theorem dX9_when_17 : decode cX9_when 17 = .ok (.iconst 1, 1) := by decide +kernel
theorem dX9_when_18 : decode cX9_when 18 = .ok (.istore_n 2, 1) := by decide +kernel
theorem dX9_when_19 : decode cX9_when 19 = .ok (.iload_n 2, 1) := by decide +kernel
theorem dX9_when_20 : decode cX9_when 20 = .ok (.bipush 40, 2) := by decide +kernel
theorem dX9_when_22 : decode cX9_when 22 = .ok (.if_icmp .gt 46, 3) := by decide +kernel
theorem dX9_when_25 : decode cX9_when 25 = .ok (.aload_n 0, 1) := by decide +kernel
theorem dX9_when_26 : decode cX9_when 26 = .ok (.getfield 13, 3) := by decide +kernel
theorem dX9_when_29 : decode cX9_when 29 = .ok (.bipush 17, 2) := by decide +kernel
theorem dX9_when_31 : decode cX9_when 31 = .ok (.iload_n 1, 1) := by decide +kernel
theorem dX9_when_32 : decode cX9_when 32 = .ok (.iadd, 1) := by decide +kernel
theorem dX9_when_33 : decode cX9_when 33 = .ok (.iaload, 1) := by decide +kernel
theorem dX9_when_34 : decode cX9_when 34 = .ok (.bipush 6, 2) := by decide +kernel
theorem dX9_when_36 : decode cX9_when 36 = .ok (.if_icmp .eq 32, 3) := by decide +kernel
theorem dX9_when_39 : decode cX9_when 39 = .ok (.aload_n 0, 1) := by decide +kernel
theorem dX9_when_40 : decode cX9_when 40 = .ok (.getfield 13, 3) := by decide +kernel
theorem dX9_when_43 : decode cX9_when 43 = .ok (.invokestatic 187, 3) := by decide +kernel
theorem dX9_when_46 : decode cX9_when 46 = .ok (.aload_n 0, 1) := by decide +kernel
theorem dX9_when_47 : decode cX9_when 47 = .ok (.getfield 13, 3) := by decide +kernel
theorem dX9_when_50 : decode cX9_when 50 = .ok (.bipush 17, 2) := by decide +kernel
theorem dX9_when_52 : decode cX9_when 52 = .ok (.iload_n 1, 1) := by decide +kernel
theorem dX9_when_53 : decode cX9_when 53 = .ok (.iadd, 1) := by decide +kernel
theorem dX9_when_54 : decode cX9_when 54 = .ok (.iaload, 1) := by decide +kernel
theorem dX9_when_55 : decode cX9_when 55 = .ok (.bipush 6, 2) := by decide +kernel
theorem dX9_when_57 : decode cX9_when 57 = .ok (.if_icmp .ne 5, 3) := by decide +kernel
theorem dX9_when_60 : decode cX9_when 60 = .ok (.iload_n 2, 1) := by decide +kernel
theorem dX9_when_61 : decode cX9_when 61 = .ok (.ireturn, 1) := by decide +kernel
theorem dX9_when_62 : decode cX9_when 62 = .ok (.iinc 2 1, 3) := by decide +kernel
theorem dX9_when_65 : decode cX9_when 65 = .ok (.goto (-46), 3) := by decide +kernel
theorem dX9_when_68 : decode cX9_when 68 = .ok (.iconst (-1), 1) := by decide +kernel
theorem dX9_when_69 : decode cX9_when 69 = .ok (.ireturn, 1) := by decide +kernel
theorem dX9_place_0 : decode cX9_place 0 = .ok (.aload_n 0, 1) := by decide +kernel
theorem dX9_place_1 : decode cX9_place 1 = .ok (.iload_n 1, 1) := by decide +kernel
theorem dX9_place_2 : decode cX9_place 2 = .ok (.invokevirtual 194, 3) := by decide +kernel
theorem dX9_place_5 : decode cX9_place 5 = .ok (.ifCond .eq 13, 3) := by decide +kernel
theorem dX9_place_8 : decode cX9_place 8 = .ok (.iload_n 2, 1) := by decide +kernel
theorem dX9_place_9 : decode cX9_place 9 = .ok (.iconst 0, 1) := by decide +kernel
theorem dX9_place_10 : decode cX9_place 10 = .ok (.bipush 20, 2) := by decide +kernel
theorem dX9_place_12 : decode cX9_place 12 = .ok (.invokestatic 43, 3) := by decide +kernel
theorem dX9_place_15 : decode cX9_place 15 = .ok (.ifCond .ne 8, 3) := by decide +kernel
theorem dX9_place_18 : decode cX9_place 18 = .ok (.aload_n 0, 1) := by decide +kernel
theorem dX9_place_19 : decode cX9_place 19 = .ok (.invokevirtual 55, 3) := by decide +kernel
theorem dX9_place_22 : decode cX9_place 22 = .ok (.ireturn, 1) := by decide +kernel
theorem dX9_place_23 : decode cX9_place 23 = .ok (.iconst (-1), 1) := by decide +kernel
theorem dX9_place_24 : decode cX9_place 24 = .ok (.istore_n 3, 1) := by decide +kernel
theorem dX9_place_25 : decode cX9_place 25 = .ok (.iconst 0, 1) := by decide +kernel
theorem dX9_place_26 : decode cX9_place 26 = .ok (.istore 4, 2) := by decide +kernel
theorem dX9_place_28 : decode cX9_place 28 = .ok (.iconst 0, 1) := by decide +kernel
theorem dX9_place_29 : decode cX9_place 29 = .ok (.istore 5, 2) := by decide +kernel
theorem dX9_place_31 : decode cX9_place 31 = .ok (.iload 5, 2) := by decide +kernel
theorem dX9_place_33 : decode cX9_place 33 = .ok (.bipush 24, 2) := by decide +kernel
theorem dX9_place_35 : decode cX9_place 35 = .ok (.if_icmp .ge 96, 3) := by decide +kernel
theorem dX9_place_38 : decode cX9_place 38 = .ok (.aload_n 0, 1) := by decide +kernel
theorem dX9_place_39 : decode cX9_place 39 = .ok (.invokevirtual 211, 3) := by decide +kernel
theorem dX9_place_42 : decode cX9_place 42 = .ok (.aload_n 0, 1) := by decide +kernel
theorem dX9_place_43 : decode cX9_place 43 = .ok (.getfield 13, 3) := by decide +kernel
theorem dX9_place_46 : decode cX9_place 46 = .ok (.iload_n 1, 1) := by decide +kernel
theorem dX9_place_47 : decode cX9_place 47 = .ok (.iload 5, 2) := by decide +kernel
theorem dX9_place_49 : decode cX9_place 49 = .ok (.invokestatic 197, 3) := by decide +kernel
theorem dX9_place_52 : decode cX9_place 52 = .ok (.aload_n 0, 1) := by decide +kernel
theorem dX9_place_53 : decode cX9_place 53 = .ok (.iload_n 2, 1) := by decide +kernel
theorem dX9_place_54 : decode cX9_place 54 = .ok (.invokevirtual 214, 3) := by decide +kernel
theorem dX9_place_57 : decode cX9_place 57 = .ok (.bipush 10, 2) := by decide +kernel
theorem dX9_place_59 : decode cX9_place 59 = .ok (.aload_n 0, 1) := by decide +kernel
theorem dX9_place_60 : decode cX9_place 60 = .ok (.getfield 13, 3) := by decide +kernel
theorem dX9_place_63 : decode cX9_place 63 = .ok (.invokestatic 190, 3) := by decide +kernel
theorem dX9_place_66 : decode cX9_place 66 = .ok (.invokestatic 155, 3) := by decide +kernel
theorem dX9_place_69 : decode cX9_place 69 = .ok (.imul, 1) := by decide +kernel
theorem dX9_place_70 : decode cX9_place 70 = .ok (.aload_n 0, 1) := by decide +kernel
theorem dX9_place_71 : decode cX9_place 71 = .ok (.getfield 13, 3) := by decide +kernel
theorem dX9_place_74 : decode cX9_place 74 = .ok (.invokestatic 218, 3) := by decide +kernel
theorem dX9_place_77 : decode cX9_place 77 = .ok (.isub, 1) := by decide +kernel
theorem dX9_place_78 : decode cX9_place 78 = .ok (.istore 6, 2) := by decide +kernel
theorem dX9_place_80 : decode cX9_place 80 = .ok (.iload_n 3, 1) := by decide +kernel
theorem dX9_place_81 : decode cX9_place 81 = .ok (.iconst (-1), 1) := by decide +kernel
theorem dX9_place_82 : decode cX9_place 82 = .ok (.if_icmp .eq 10, 3) := by decide +kernel
theorem dX9_place_85 : decode cX9_place 85 = .ok (.iload 6, 2) := by decide +kernel
theorem dX9_place_87 : decode cX9_place 87 = .ok (.iload 4, 2) := by decide +kernel
theorem dX9_place_89 : decode cX9_place 89 = .ok (.if_icmp .ge 7, 3) := by decide +kernel
theorem dX9_place_92 : decode cX9_place 92 = .ok (.iconst 1, 1) := by decide +kernel
theorem dX9_place_93 : decode cX9_place 93 = .ok (.goto 4, 3) := by decide +kernel
theorem dX9_place_96 : decode cX9_place 96 = .ok (.iconst 0, 1) := by decide +kernel
theorem dX9_place_97 : decode cX9_place 97 = .ok (.istore 7, 2) := by decide +kernel
theorem dX9_place_99 : decode cX9_place 99 = .ok (.iload 7, 2) := by decide +kernel
theorem dX9_place_101 : decode cX9_place 101 = .ok (.ifCond .eq 8, 3) := by decide +kernel
theorem dX9_place_104 : decode cX9_place 104 = .ok (.iload 5, 2) := by decide +kernel
theorem dX9_place_106 : decode cX9_place 106 = .ok (.goto 4, 3) := by decide +kernel
theorem dX9_place_109 : decode cX9_place 109 = .ok (.iload_n 3, 1) := by decide +kernel
theorem dX9_place_110 : decode cX9_place 110 = .ok (.istore_n 3, 1) := by decide +kernel
theorem dX9_place_111 : decode cX9_place 111 = .ok (.iload 7, 2) := by decide +kernel
theorem dX9_place_113 : decode cX9_place 113 = .ok (.ifCond .eq 8, 3) := by decide +kernel
theorem dX9_place_116 : decode cX9_place 116 = .ok (.iload 6, 2) := by decide +kernel
theorem dX9_place_118 : decode cX9_place 118 = .ok (.goto 5, 3) := by decide +kernel
theorem dX9_place_121 : decode cX9_place 121 = .ok (.iload 4, 2) := by decide +kernel
theorem dX9_place_123 : decode cX9_place 123 = .ok (.istore 4, 2) := by decide +kernel
theorem dX9_place_125 : decode cX9_place 125 = .ok (.iinc 5 1, 3) := by decide +kernel
theorem dX9_place_128 : decode cX9_place 128 = .ok (.goto (-97), 3) := by decide +kernel
theorem dX9_place_131 : decode cX9_place 131 = .ok (.iload_n 3, 1) := by decide +kernel
theorem dX9_place_132 : decode cX9_place 132 = .ok (.ireturn, 1) := by decide +kernel
theorem dX9_chooses_0 : decode cX9_chooses 0 = .ok (.aload_n 0, 1) := by decide +kernel
theorem dX9_chooses_1 : decode cX9_chooses 1 = .ok (.bipush 11, 2) := by decide +kernel
theorem dX9_chooses_3 : decode cX9_chooses 3 = .ok (.iload_n 1, 1) := by decide +kernel
theorem dX9_chooses_4 : decode cX9_chooses 4 = .ok (.iadd, 1) := by decide +kernel
theorem dX9_chooses_5 : decode cX9_chooses 5 = .ok (.iaload, 1) := by decide +kernel
theorem dX9_chooses_6 : decode cX9_chooses 6 = .ok (.istore_n 3, 1) := by decide +kernel
theorem dX9_chooses_7 : decode cX9_chooses 7 = .ok (.iload_n 3, 1) := by decide +kernel
theorem dX9_chooses_8 : decode cX9_chooses 8 = .ok (.bipush 6, 2) := by decide +kernel
theorem dX9_chooses_10 : decode cX9_chooses 10 = .ok (.idiv, 1) := by decide +kernel
theorem dX9_chooses_11 : decode cX9_chooses 11 = .ok (.iload_n 2, 1) := by decide +kernel
theorem dX9_chooses_12 : decode cX9_chooses 12 = .ok (.iconst 1, 1) := by decide +kernel
theorem dX9_chooses_13 : decode cX9_chooses 13 = .ok (.if_icmp .ne 7, 3) := by decide +kernel
theorem dX9_chooses_16 : decode cX9_chooses 16 = .ok (.iconst 1, 1) := by decide +kernel
theorem dX9_chooses_17 : decode cX9_chooses 17 = .ok (.goto 13, 3) := by decide +kernel
theorem dX9_chooses_20 : decode cX9_chooses 20 = .ok (.iload_n 2, 1) := by decide +kernel
theorem dX9_chooses_21 : decode cX9_chooses 21 = .ok (.iconst 3, 1) := by decide +kernel
theorem dX9_chooses_22 : decode cX9_chooses 22 = .ok (.if_icmp .ne 7, 3) := by decide +kernel
theorem dX9_chooses_25 : decode cX9_chooses 25 = .ok (.iconst (-1), 1) := by decide +kernel
theorem dX9_chooses_26 : decode cX9_chooses 26 = .ok (.goto 4, 3) := by decide +kernel
theorem dX9_chooses_29 : decode cX9_chooses 29 = .ok (.iconst 0, 1) := by decide +kernel
theorem dX9_chooses_30 : decode cX9_chooses 30 = .ok (.iadd, 1) := by decide +kernel
theorem dX9_chooses_31 : decode cX9_chooses 31 = .ok (.istore 4, 2) := by decide +kernel
theorem dX9_chooses_33 : decode cX9_chooses 33 = .ok (.iload_n 3, 1) := by decide +kernel
theorem dX9_chooses_34 : decode cX9_chooses 34 = .ok (.bipush 6, 2) := by decide +kernel
theorem dX9_chooses_36 : decode cX9_chooses 36 = .ok (.irem, 1) := by decide +kernel
theorem dX9_chooses_37 : decode cX9_chooses 37 = .ok (.iload_n 2, 1) := by decide +kernel
theorem dX9_chooses_38 : decode cX9_chooses 38 = .ok (.ifCond .ne 7, 3) := by decide +kernel
theorem dX9_chooses_41 : decode cX9_chooses 41 = .ok (.iconst 1, 1) := by decide +kernel
theorem dX9_chooses_42 : decode cX9_chooses 42 = .ok (.goto 13, 3) := by decide +kernel
theorem dX9_chooses_45 : decode cX9_chooses 45 = .ok (.iload_n 2, 1) := by decide +kernel
theorem dX9_chooses_46 : decode cX9_chooses 46 = .ok (.iconst 2, 1) := by decide +kernel
theorem dX9_chooses_47 : decode cX9_chooses 47 = .ok (.if_icmp .ne 7, 3) := by decide +kernel
theorem dX9_chooses_50 : decode cX9_chooses 50 = .ok (.iconst (-1), 1) := by decide +kernel
theorem dX9_chooses_51 : decode cX9_chooses 51 = .ok (.goto 4, 3) := by decide +kernel
theorem dX9_chooses_54 : decode cX9_chooses 54 = .ok (.iconst 0, 1) := by decide +kernel
theorem dX9_chooses_55 : decode cX9_chooses 55 = .ok (.iadd, 1) := by decide +kernel
theorem dX9_chooses_56 : decode cX9_chooses 56 = .ok (.istore 5, 2) := by decide +kernel
theorem dX9_chooses_58 : decode cX9_chooses 58 = .ok (.iload 4, 2) := by decide +kernel
theorem dX9_chooses_60 : decode cX9_chooses 60 = .ok (.iconst 0, 1) := by decide +kernel
theorem dX9_chooses_61 : decode cX9_chooses 61 = .ok (.iconst 3, 1) := by decide +kernel
theorem dX9_chooses_62 : decode cX9_chooses 62 = .ok (.invokestatic 43, 3) := by decide +kernel
theorem dX9_chooses_65 : decode cX9_chooses 65 = .ok (.ifCond .eq 13, 3) := by decide +kernel
theorem dX9_chooses_68 : decode cX9_chooses 68 = .ok (.iload 5, 2) := by decide +kernel
theorem dX9_chooses_70 : decode cX9_chooses 70 = .ok (.iconst 0, 1) := by decide +kernel
theorem dX9_chooses_71 : decode cX9_chooses 71 = .ok (.iconst 5, 1) := by decide +kernel
theorem dX9_chooses_72 : decode cX9_chooses 72 = .ok (.invokestatic 43, 3) := by decide +kernel
theorem dX9_chooses_75 : decode cX9_chooses 75 = .ok (.ifCond .ne 5, 3) := by decide +kernel
theorem dX9_chooses_78 : decode cX9_chooses 78 = .ok (.iconst 0, 1) := by decide +kernel
theorem dX9_chooses_79 : decode cX9_chooses 79 = .ok (.ireturn, 1) := by decide +kernel
theorem dX9_chooses_80 : decode cX9_chooses 80 = .ok (.iload_n 2, 1) := by decide +kernel
theorem dX9_chooses_81 : decode cX9_chooses 81 = .ok (.iconst 4, 1) := by decide +kernel
theorem dX9_chooses_82 : decode cX9_chooses 82 = .ok (.if_icmp .ne 45, 3) := by decide +kernel
theorem dX9_chooses_85 : decode cX9_chooses 85 = .ok (.aload_n 0, 1) := by decide +kernel
theorem dX9_chooses_86 : decode cX9_chooses 86 = .ok (.iload_n 1, 1) := by decide +kernel
theorem dX9_chooses_87 : decode cX9_chooses 87 = .ok (.invokestatic 162, 3) := by decide +kernel
theorem dX9_chooses_90 : decode cX9_chooses 90 = .ok (.istore 6, 2) := by decide +kernel
theorem dX9_chooses_92 : decode cX9_chooses 92 = .ok (.aload_n 0, 1) := by decide +kernel
theorem dX9_chooses_93 : decode cX9_chooses 93 = .ok (.bipush 17, 2) := by decide +kernel
theorem dX9_chooses_95 : decode cX9_chooses 95 = .ok (.iload_n 1, 1) := by decide +kernel
theorem dX9_chooses_96 : decode cX9_chooses 96 = .ok (.iadd, 1) := by decide +kernel
theorem dX9_chooses_97 : decode cX9_chooses 97 = .ok (.iload 6, 2) := by decide +kernel
theorem dX9_chooses_99 : decode cX9_chooses 99 = .ok (.iconst (-1), 1) := by decide +kernel
theorem dX9_chooses_100 : decode cX9_chooses 100 = .ok (.if_icmp .eq 20, 3) := by decide +kernel
theorem dX9_chooses_103 : decode cX9_chooses 103 = .ok (.aload_n 0, 1) := by decide +kernel
theorem dX9_chooses_104 : decode cX9_chooses 104 = .ok (.iconst 1, 1) := by decide +kernel
theorem dX9_chooses_105 : decode cX9_chooses 105 = .ok (.iload 6, 2) := by decide +kernel
theorem dX9_chooses_107 : decode cX9_chooses 107 = .ok (.iadd, 1) := by decide +kernel
theorem dX9_chooses_108 : decode cX9_chooses 108 = .ok (.iaload, 1) := by decide +kernel
theorem dX9_chooses_109 : decode cX9_chooses 109 = .ok (.iload_n 3, 1) := by decide +kernel
theorem dX9_chooses_110 : decode cX9_chooses 110 = .ok (.if_icmp .ne 10, 3) := by decide +kernel
theorem dX9_chooses_113 : decode cX9_chooses 113 = .ok (.iconst 1, 1) := by decide +kernel
theorem dX9_chooses_114 : decode cX9_chooses 114 = .ok (.iload 6, 2) := by decide +kernel
theorem dX9_chooses_116 : decode cX9_chooses 116 = .ok (.iadd, 1) := by decide +kernel
theorem dX9_chooses_117 : decode cX9_chooses 117 = .ok (.goto 9, 3) := by decide +kernel
theorem dX9_chooses_120 : decode cX9_chooses 120 = .ok (.aload_n 0, 1) := by decide +kernel
theorem dX9_chooses_121 : decode cX9_chooses 121 = .ok (.bipush 17, 2) := by decide +kernel
theorem dX9_chooses_123 : decode cX9_chooses 123 = .ok (.iload_n 1, 1) := by decide +kernel
theorem dX9_chooses_124 : decode cX9_chooses 124 = .ok (.iadd, 1) := by decide +kernel
theorem dX9_chooses_125 : decode cX9_chooses 125 = .ok (.iaload, 1) := by decide +kernel
theorem dX9_chooses_126 : decode cX9_chooses 126 = .ok (.iastore, 1) := by decide +kernel
theorem dX9_chooses_127 : decode cX9_chooses 127 = .ok (.aload_n 0, 1) := by decide +kernel
theorem dX9_chooses_128 : decode cX9_chooses 128 = .ok (.bipush 11, 2) := by decide +kernel
theorem dX9_chooses_130 : decode cX9_chooses 130 = .ok (.iload_n 1, 1) := by decide +kernel
theorem dX9_chooses_131 : decode cX9_chooses 131 = .ok (.iadd, 1) := by decide +kernel
theorem dX9_chooses_132 : decode cX9_chooses 132 = .ok (.bipush 6, 2) := by decide +kernel
theorem dX9_chooses_134 : decode cX9_chooses 134 = .ok (.iload 4, 2) := by decide +kernel
theorem dX9_chooses_136 : decode cX9_chooses 136 = .ok (.imul, 1) := by decide +kernel
theorem dX9_chooses_137 : decode cX9_chooses 137 = .ok (.iload 5, 2) := by decide +kernel
theorem dX9_chooses_139 : decode cX9_chooses 139 = .ok (.iadd, 1) := by decide +kernel
theorem dX9_chooses_140 : decode cX9_chooses 140 = .ok (.iastore, 1) := by decide +kernel
theorem dX9_chooses_141 : decode cX9_chooses 141 = .ok (.iconst 1, 1) := by decide +kernel
theorem dX9_chooses_142 : decode cX9_chooses 142 = .ok (.ireturn, 1) := by decide +kernel
theorem dX9_goesBy_0 : decode cX9_goesBy 0 = .ok (.iconst 0, 1) := by decide +kernel
theorem dX9_goesBy_1 : decode cX9_goesBy 1 = .ok (.istore_n 3, 1) := by decide +kernel
theorem dX9_goesBy_2 : decode cX9_goesBy 2 = .ok (.iload_n 3, 1) := by decide +kernel
theorem dX9_goesBy_3 : decode cX9_goesBy 3 = .ok (.aload_n 0, 1) := by decide +kernel
theorem dX9_goesBy_4 : decode cX9_goesBy 4 = .ok (.getfield 13, 3) := by decide +kernel
theorem dX9_goesBy_7 : decode cX9_goesBy 7 = .ok (.bipush 37, 2) := by decide +kernel
theorem dX9_goesBy_9 : decode cX9_goesBy 9 = .ok (.iaload, 1) := by decide +kernel
theorem dX9_goesBy_10 : decode cX9_goesBy 10 = .ok (.if_icmp .ge 65, 3) := by decide +kernel
theorem dX9_goesBy_13 : decode cX9_goesBy 13 = .ok (.aload_n 0, 1) := by decide +kernel
theorem dX9_goesBy_14 : decode cX9_goesBy 14 = .ok (.getfield 13, 3) := by decide +kernel
theorem dX9_goesBy_17 : decode cX9_goesBy 17 = .ok (.bipush 17, 2) := by decide +kernel
theorem dX9_goesBy_19 : decode cX9_goesBy 19 = .ok (.iload_n 3, 1) := by decide +kernel
theorem dX9_goesBy_20 : decode cX9_goesBy 20 = .ok (.iadd, 1) := by decide +kernel
theorem dX9_goesBy_21 : decode cX9_goesBy 21 = .ok (.iaload, 1) := by decide +kernel
theorem dX9_goesBy_22 : decode cX9_goesBy 22 = .ok (.ifCond .ne 16, 3) := by decide +kernel
theorem dX9_goesBy_25 : decode cX9_goesBy 25 = .ok (.iload_n 3, 1) := by decide +kernel
theorem dX9_goesBy_26 : decode cX9_goesBy 26 = .ok (.iload_n 1, 1) := by decide +kernel
theorem dX9_goesBy_27 : decode cX9_goesBy 27 = .ok (.if_icmp .eq 11, 3) := by decide +kernel
theorem dX9_goesBy_30 : decode cX9_goesBy 30 = .ok (.aload_n 0, 1) := by decide +kernel
theorem dX9_goesBy_31 : decode cX9_goesBy 31 = .ok (.getfield 13, 3) := by decide +kernel
theorem dX9_goesBy_34 : decode cX9_goesBy 34 = .ok (.iload_n 3, 1) := by decide +kernel
theorem dX9_goesBy_35 : decode cX9_goesBy 35 = .ok (.invokestatic 178, 3) := by decide +kernel
theorem dX9_goesBy_38 : decode cX9_goesBy 38 = .ok (.iload_n 3, 1) := by decide +kernel
theorem dX9_goesBy_39 : decode cX9_goesBy 39 = .ok (.iload_n 1, 1) := by decide +kernel
theorem dX9_goesBy_40 : decode cX9_goesBy 40 = .ok (.if_icmp .ne 29, 3) := by decide +kernel
theorem dX9_goesBy_43 : decode cX9_goesBy 43 = .ok (.aload_n 0, 1) := by decide +kernel
theorem dX9_goesBy_44 : decode cX9_goesBy 44 = .ok (.getfield 13, 3) := by decide +kernel
theorem dX9_goesBy_47 : decode cX9_goesBy 47 = .ok (.bipush 17, 2) := by decide +kernel
theorem dX9_goesBy_49 : decode cX9_goesBy 49 = .ok (.iload_n 1, 1) := by decide +kernel
theorem dX9_goesBy_50 : decode cX9_goesBy 50 = .ok (.iadd, 1) := by decide +kernel
theorem dX9_goesBy_51 : decode cX9_goesBy 51 = .ok (.iaload, 1) := by decide +kernel
theorem dX9_goesBy_52 : decode cX9_goesBy 52 = .ok (.ifCond .ne 15, 3) := by decide +kernel
theorem dX9_goesBy_55 : decode cX9_goesBy 55 = .ok (.aload_n 0, 1) := by decide +kernel
theorem dX9_goesBy_56 : decode cX9_goesBy 56 = .ok (.getfield 13, 3) := by decide +kernel
theorem dX9_goesBy_59 : decode cX9_goesBy 59 = .ok (.iload_n 1, 1) := by decide +kernel
theorem dX9_goesBy_60 : decode cX9_goesBy 60 = .ok (.iload_n 2, 1) := by decide +kernel
theorem dX9_goesBy_61 : decode cX9_goesBy 61 = .ok (.invokestatic 221, 3) := by decide +kernel
theorem dX9_goesBy_64 : decode cX9_goesBy 64 = .ok (.ifCond .ne 5, 3) := by decide +kernel
theorem dX9_goesBy_67 : decode cX9_goesBy 67 = .ok (.iconst 0, 1) := by decide +kernel
theorem dX9_goesBy_68 : decode cX9_goesBy 68 = .ok (.ireturn, 1) := by decide +kernel
theorem dX9_goesBy_69 : decode cX9_goesBy 69 = .ok (.iinc 3 1, 3) := by decide +kernel
theorem dX9_goesBy_72 : decode cX9_goesBy 72 = .ok (.goto (-70), 3) := by decide +kernel
theorem dX9_goesBy_75 : decode cX9_goesBy 75 = .ok (.aload_n 0, 1) := by decide +kernel
theorem dX9_goesBy_76 : decode cX9_goesBy 76 = .ok (.getfield 13, 3) := by decide +kernel
theorem dX9_goesBy_79 : decode cX9_goesBy 79 = .ok (.invokestatic 181, 3) := by decide +kernel
theorem dX9_goesBy_82 : decode cX9_goesBy 82 = .ok (.iconst 1, 1) := by decide +kernel
theorem dX9_goesBy_83 : decode cX9_goesBy 83 = .ok (.ireturn, 1) := by decide +kernel
theorem dX9_isUnderBy_0 : decode cX9_isUnderBy 0 = .ok (.aload_n 0, 1) := by decide +kernel
theorem dX9_isUnderBy_1 : decode cX9_isUnderBy 1 = .ok (.invokevirtual 211, 3) := by decide +kernel
theorem dX9_isUnderBy_4 : decode cX9_isUnderBy 4 = .ok (.iconst 0, 1) := by decide +kernel
theorem dX9_isUnderBy_5 : decode cX9_isUnderBy 5 = .ok (.istore_n 3, 1) := by decide +kernel
theorem dX9_isUnderBy_6 : decode cX9_isUnderBy 6 = .ok (.iload_n 3, 1) := by decide +kernel
theorem dX9_isUnderBy_7 : decode cX9_isUnderBy 7 = .ok (.iload_n 2, 1) := by decide +kernel
theorem dX9_isUnderBy_8 : decode cX9_isUnderBy 8 = .ok (.if_icmp .ge 25, 3) := by decide +kernel
theorem dX9_isUnderBy_11 : decode cX9_isUnderBy 11 = .ok (.aload_n 0, 1) := by decide +kernel
theorem dX9_isUnderBy_12 : decode cX9_isUnderBy 12 = .ok (.iload_n 1, 1) := by decide +kernel
theorem dX9_isUnderBy_13 : decode cX9_isUnderBy 13 = .ok (.aload_n 0, 1) := by decide +kernel
theorem dX9_isUnderBy_14 : decode cX9_isUnderBy 14 = .ok (.getfield 36, 3) := by decide +kernel
theorem dX9_isUnderBy_17 : decode cX9_isUnderBy 17 = .ok (.iload_n 3, 1) := by decide +kernel
theorem dX9_isUnderBy_18 : decode cX9_isUnderBy 18 = .ok (.iaload, 1) := by decide +kernel
theorem dX9_isUnderBy_19 : decode cX9_isUnderBy 19 = .ok (.invokevirtual 225, 3) := by decide +kernel
theorem dX9_isUnderBy_22 : decode cX9_isUnderBy 22 = .ok (.ifCond .ne 5, 3) := by decide +kernel
theorem dX9_isUnderBy_25 : decode cX9_isUnderBy 25 = .ok (.iconst 0, 1) := by decide +kernel
theorem dX9_isUnderBy_26 : decode cX9_isUnderBy 26 = .ok (.ireturn, 1) := by decide +kernel
theorem dX9_isUnderBy_27 : decode cX9_isUnderBy 27 = .ok (.iinc 3 1, 3) := by decide +kernel
theorem dX9_isUnderBy_30 : decode cX9_isUnderBy 30 = .ok (.goto (-24), 3) := by decide +kernel
theorem dX9_isUnderBy_33 : decode cX9_isUnderBy 33 = .ok (.aload_n 0, 1) := by decide +kernel
theorem dX9_isUnderBy_34 : decode cX9_isUnderBy 34 = .ok (.getfield 13, 3) := by decide +kernel
theorem dX9_isUnderBy_37 : decode cX9_isUnderBy 37 = .ok (.bipush 17, 2) := by decide +kernel
theorem dX9_isUnderBy_39 : decode cX9_isUnderBy 39 = .ok (.iload_n 1, 1) := by decide +kernel
theorem dX9_isUnderBy_40 : decode cX9_isUnderBy 40 = .ok (.iadd, 1) := by decide +kernel
theorem dX9_isUnderBy_41 : decode cX9_isUnderBy 41 = .ok (.iaload, 1) := by decide +kernel
theorem dX9_isUnderBy_42 : decode cX9_isUnderBy 42 = .ok (.iconst 1, 1) := by decide +kernel
theorem dX9_isUnderBy_43 : decode cX9_isUnderBy 43 = .ok (.iconst 5, 1) := by decide +kernel
theorem dX9_isUnderBy_44 : decode cX9_isUnderBy 44 = .ok (.invokestatic 43, 3) := by decide +kernel
theorem dX9_isUnderBy_47 : decode cX9_isUnderBy 47 = .ok (.ireturn, 1) := by decide +kernel
theorem dX9_run_0 : decode cX9_run 0 = .ok (.aload_n 0, 1) := by decide +kernel
theorem dX9_run_1 : decode cX9_run 1 = .ok (.iload_n 1, 1) := by decide +kernel
theorem dX9_run_2 : decode cX9_run 2 = .ok (.invokevirtual 204, 3) := by decide +kernel
theorem dX9_run_5 : decode cX9_run 5 = .ok (.ifCond .eq 8, 3) := by decide +kernel
theorem dX9_run_8 : decode cX9_run 8 = .ok (.iload_n 2, 1) := by decide +kernel
theorem dX9_run_9 : decode cX9_run 9 = .ok (.iconst (-1), 1) := by decide +kernel
theorem dX9_run_10 : decode cX9_run 10 = .ok (.if_icmp .ge 10, 3) := by decide +kernel
theorem dX9_run_13 : decode cX9_run 13 = .ok (.aload_n 0, 1) := by decide +kernel
theorem dX9_run_14 : decode cX9_run 14 = .ok (.bipush (-10), 2) := by decide +kernel
theorem dX9_run_16 : decode cX9_run 16 = .ok (.invokevirtual 39, 3) := by decide +kernel
theorem dX9_run_19 : decode cX9_run 19 = .ok (.ireturn, 1) := by decide +kernel
theorem dX9_run_20 : decode cX9_run 20 = .ok (.aload_n 0, 1) := by decide +kernel
theorem dX9_run_21 : decode cX9_run 21 = .ok (.getfield 7, 3) := by decide +kernel
theorem dX9_run_24 : decode cX9_run 24 = .ok (.bipush 17, 2) := by decide +kernel
theorem dX9_run_26 : decode cX9_run 26 = .ok (.iload_n 1, 1) := by decide +kernel
theorem dX9_run_27 : decode cX9_run 27 = .ok (.iadd, 1) := by decide +kernel
theorem dX9_run_28 : decode cX9_run 28 = .ok (.iaload, 1) := by decide +kernel
theorem dX9_run_29 : decode cX9_run 29 = .ok (.ifCond .eq 8, 3) := by decide +kernel
theorem dX9_run_32 : decode cX9_run 32 = .ok (.aload_n 0, 1) := by decide +kernel
theorem dX9_run_33 : decode cX9_run 33 = .ok (.invokevirtual 201, 3) := by decide +kernel
theorem dX9_run_36 : decode cX9_run 36 = .ok (.ireturn, 1) := by decide +kernel
theorem dX9_run_37 : decode cX9_run 37 = .ok (.iconst 1, 1) := by decide +kernel
theorem dX9_run_38 : decode cX9_run 38 = .ok (.istore_n 3, 1) := by decide +kernel
theorem dX9_run_39 : decode cX9_run 39 = .ok (.iconst 1, 1) := by decide +kernel
theorem dX9_run_40 : decode cX9_run 40 = .ok (.istore 4, 2) := by decide +kernel
theorem dX9_run_42 : decode cX9_run 42 = .ok (.iload 4, 2) := by decide +kernel
theorem dX9_run_44 : decode cX9_run 44 = .ok (.iconst 4, 1) := by decide +kernel
theorem dX9_run_45 : decode cX9_run 45 = .ok (.if_icmp .gt 104, 3) := by decide +kernel
theorem dX9_run_48 : decode cX9_run 48 = .ok (.iload_n 3, 1) := by decide +kernel
theorem dX9_run_49 : decode cX9_run 49 = .ok (.iconst 5, 1) := by decide +kernel
theorem dX9_run_50 : decode cX9_run 50 = .ok (.imul, 1) := by decide +kernel
theorem dX9_run_51 : decode cX9_run 51 = .ok (.istore_n 3, 1) := by decide +kernel
theorem dX9_run_52 : decode cX9_run 52 = .ok (.iconst 0, 1) := by decide +kernel
theorem dX9_run_53 : decode cX9_run 53 = .ok (.istore 5, 2) := by decide +kernel
theorem dX9_run_55 : decode cX9_run 55 = .ok (.iload 5, 2) := by decide +kernel
theorem dX9_run_57 : decode cX9_run 57 = .ok (.iload_n 3, 1) := by decide +kernel
theorem dX9_run_58 : decode cX9_run 58 = .ok (.if_icmp .ge 85, 3) := by decide +kernel
theorem dX9_run_61 : decode cX9_run 61 = .ok (.iload 5, 2) := by decide +kernel
theorem dX9_run_63 : decode cX9_run 63 = .ok (.istore 6, 2) := by decide +kernel
theorem dX9_run_65 : decode cX9_run 65 = .ok (.iload 4, 2) := by decide +kernel
theorem dX9_run_67 : decode cX9_run 67 = .ok (.iconst 1, 1) := by decide +kernel
theorem dX9_run_68 : decode cX9_run 68 = .ok (.isub, 1) := by decide +kernel
theorem dX9_run_69 : decode cX9_run 69 = .ok (.istore 7, 2) := by decide +kernel
theorem dX9_run_71 : decode cX9_run 71 = .ok (.iload 7, 2) := by decide +kernel
theorem dX9_run_73 : decode cX9_run 73 = .ok (.ifCond .lt 26, 3) := by decide +kernel
theorem dX9_run_76 : decode cX9_run 76 = .ok (.aload_n 0, 1) := by decide +kernel
theorem dX9_run_77 : decode cX9_run 77 = .ok (.getfield 36, 3) := by decide +kernel
theorem dX9_run_80 : decode cX9_run 80 = .ok (.iload 7, 2) := by decide +kernel
theorem dX9_run_82 : decode cX9_run 82 = .ok (.iload 6, 2) := by decide +kernel
theorem dX9_run_84 : decode cX9_run 84 = .ok (.iconst 5, 1) := by decide +kernel
theorem dX9_run_85 : decode cX9_run 85 = .ok (.irem, 1) := by decide +kernel
theorem dX9_run_86 : decode cX9_run 86 = .ok (.iastore, 1) := by decide +kernel
theorem dX9_run_87 : decode cX9_run 87 = .ok (.iload 6, 2) := by decide +kernel
theorem dX9_run_89 : decode cX9_run 89 = .ok (.iconst 5, 1) := by decide +kernel
theorem dX9_run_90 : decode cX9_run 90 = .ok (.idiv, 1) := by decide +kernel
theorem dX9_run_91 : decode cX9_run 91 = .ok (.istore 6, 2) := by decide +kernel
theorem dX9_run_93 : decode cX9_run 93 = .ok (.iinc 7 (-1), 3) := by decide +kernel
theorem dX9_run_96 : decode cX9_run 96 = .ok (.goto (-25), 3) := by decide +kernel
theorem dX9_run_99 : decode cX9_run 99 = .ok (.aload_n 0, 1) := by decide +kernel
theorem dX9_run_100 : decode cX9_run 100 = .ok (.iload_n 1, 1) := by decide +kernel
theorem dX9_run_101 : decode cX9_run 101 = .ok (.iload 4, 2) := by decide +kernel
theorem dX9_run_103 : decode cX9_run 103 = .ok (.invokevirtual 228, 3) := by decide +kernel
theorem dX9_run_106 : decode cX9_run 106 = .ok (.ifCond .eq 31, 3) := by decide +kernel
theorem dX9_run_109 : decode cX9_run 109 = .ok (.iload_n 2, 1) := by decide +kernel
theorem dX9_run_110 : decode cX9_run 110 = .ok (.iconst (-1), 1) := by decide +kernel
theorem dX9_run_111 : decode cX9_run 111 = .ok (.if_icmp .ne 8, 3) := by decide +kernel
theorem dX9_run_114 : decode cX9_run 114 = .ok (.iload 4, 2) := by decide +kernel
theorem dX9_run_116 : decode cX9_run 116 = .ok (.goto 20, 3) := by decide +kernel
theorem dX9_run_119 : decode cX9_run 119 = .ok (.iload_n 2, 1) := by decide +kernel
theorem dX9_run_120 : decode cX9_run 120 = .ok (.iload 4, 2) := by decide +kernel
theorem dX9_run_122 : decode cX9_run 122 = .ok (.if_icmp .ge 12, 3) := by decide +kernel
theorem dX9_run_125 : decode cX9_run 125 = .ok (.aload_n 0, 1) := by decide +kernel
theorem dX9_run_126 : decode cX9_run 126 = .ok (.getfield 36, 3) := by decide +kernel
theorem dX9_run_129 : decode cX9_run 129 = .ok (.iload_n 2, 1) := by decide +kernel
theorem dX9_run_130 : decode cX9_run 130 = .ok (.iaload, 1) := by decide +kernel
theorem dX9_run_131 : decode cX9_run 131 = .ok (.goto 5, 3) := by decide +kernel
theorem dX9_run_134 : decode cX9_run 134 = .ok (.bipush (-5), 2) := by decide +kernel
theorem dX9_run_136 : decode cX9_run 136 = .ok (.ireturn, 1) := by decide +kernel
theorem dX9_run_137 : decode cX9_run 137 = .ok (.iinc 5 1, 3) := by decide +kernel
theorem dX9_run_140 : decode cX9_run 140 = .ok (.goto (-85), 3) := by decide +kernel
theorem dX9_run_143 : decode cX9_run 143 = .ok (.iinc 4 1, 3) := by decide +kernel
theorem dX9_run_146 : decode cX9_run 146 = .ok (.goto (-104), 3) := by decide +kernel
theorem dX9_run_149 : decode cX9_run 149 = .ok (.iconst (-1), 1) := by decide +kernel
theorem dX9_run_150 : decode cX9_run 150 = .ok (.ireturn, 1) := by decide +kernel
theorem dX9_stitches_0 : decode cX9_stitches 0 = .ok (.aload_n 0, 1) := by decide +kernel
theorem dX9_stitches_1 : decode cX9_stitches 1 = .ok (.iload_n 1, 1) := by decide +kernel
theorem dX9_stitches_2 : decode cX9_stitches 2 = .ok (.invokevirtual 194, 3) := by decide +kernel
theorem dX9_stitches_5 : decode cX9_stitches 5 = .ok (.ifCond .eq 13, 3) := by decide +kernel
theorem dX9_stitches_8 : decode cX9_stitches 8 = .ok (.iload_n 2, 1) := by decide +kernel
theorem dX9_stitches_9 : decode cX9_stitches 9 = .ok (.iconst 0, 1) := by decide +kernel
theorem dX9_stitches_10 : decode cX9_stitches 10 = .ok (.bipush 9, 2) := by decide +kernel
theorem dX9_stitches_12 : decode cX9_stitches 12 = .ok (.invokestatic 43, 3) := by decide +kernel
theorem dX9_stitches_15 : decode cX9_stitches 15 = .ok (.ifCond .ne 8, 3) := by decide +kernel
theorem dX9_stitches_18 : decode cX9_stitches 18 = .ok (.aload_n 0, 1) := by decide +kernel
theorem dX9_stitches_19 : decode cX9_stitches 19 = .ok (.invokevirtual 55, 3) := by decide +kernel
theorem dX9_stitches_22 : decode cX9_stitches 22 = .ok (.ireturn, 1) := by decide +kernel
theorem dX9_stitches_23 : decode cX9_stitches 23 = .ok (.iconst 0, 1) := by decide +kernel
theorem dX9_stitches_24 : decode cX9_stitches 24 = .ok (.istore_n 3, 1) := by decide +kernel
theorem dX9_stitches_25 : decode cX9_stitches 25 = .ok (.iload_n 3, 1) := by decide +kernel
theorem dX9_stitches_26 : decode cX9_stitches 26 = .ok (.aload_n 0, 1) := by decide +kernel
theorem dX9_stitches_27 : decode cX9_stitches 27 = .ok (.getfield 7, 3) := by decide +kernel
theorem dX9_stitches_30 : decode cX9_stitches 30 = .ok (.bipush 6, 2) := by decide +kernel
theorem dX9_stitches_32 : decode cX9_stitches 32 = .ok (.iload_n 1, 1) := by decide +kernel
theorem dX9_stitches_33 : decode cX9_stitches 33 = .ok (.iadd, 1) := by decide +kernel
theorem dX9_stitches_34 : decode cX9_stitches 34 = .ok (.iaload, 1) := by decide +kernel
theorem dX9_stitches_35 : decode cX9_stitches 35 = .ok (.if_icmp .gt 47, 3) := by decide +kernel
theorem dX9_stitches_38 : decode cX9_stitches 38 = .ok (.aload_n 0, 1) := by decide +kernel
theorem dX9_stitches_39 : decode cX9_stitches 39 = .ok (.getfield 7, 3) := by decide +kernel
theorem dX9_stitches_42 : decode cX9_stitches 42 = .ok (.bipush 27, 2) := by decide +kernel
theorem dX9_stitches_44 : decode cX9_stitches 44 = .ok (.iload_n 1, 1) := by decide +kernel
theorem dX9_stitches_45 : decode cX9_stitches 45 = .ok (.iadd, 1) := by decide +kernel
theorem dX9_stitches_46 : decode cX9_stitches 46 = .ok (.iaload, 1) := by decide +kernel
theorem dX9_stitches_47 : decode cX9_stitches 47 = .ok (.aload_n 0, 1) := by decide +kernel
theorem dX9_stitches_48 : decode cX9_stitches 48 = .ok (.getfield 7, 3) := by decide +kernel
theorem dX9_stitches_51 : decode cX9_stitches 51 = .ok (.bipush 32, 2) := by decide +kernel
theorem dX9_stitches_53 : decode cX9_stitches 53 = .ok (.iload_n 1, 1) := by decide +kernel
theorem dX9_stitches_54 : decode cX9_stitches 54 = .ok (.iadd, 1) := by decide +kernel
theorem dX9_stitches_55 : decode cX9_stitches 55 = .ok (.iaload, 1) := by decide +kernel
theorem dX9_stitches_56 : decode cX9_stitches 56 = .ok (.aload_n 0, 1) := by decide +kernel
theorem dX9_stitches_57 : decode cX9_stitches 57 = .ok (.getfield 7, 3) := by decide +kernel
theorem dX9_stitches_60 : decode cX9_stitches 60 = .ok (.bipush 6, 2) := by decide +kernel
theorem dX9_stitches_62 : decode cX9_stitches 62 = .ok (.iload_n 1, 1) := by decide +kernel
theorem dX9_stitches_63 : decode cX9_stitches 63 = .ok (.iadd, 1) := by decide +kernel
theorem dX9_stitches_64 : decode cX9_stitches 64 = .ok (.iaload, 1) := by decide +kernel
theorem dX9_stitches_65 : decode cX9_stitches 65 = .ok (.iload_n 3, 1) := by decide +kernel
theorem dX9_stitches_66 : decode cX9_stitches 66 = .ok (.isub, 1) := by decide +kernel
theorem dX9_stitches_67 : decode cX9_stitches 67 = .ok (.invokestatic 142, 3) := by decide +kernel
theorem dX9_stitches_70 : decode cX9_stitches 70 = .ok (.iload_n 2, 1) := by decide +kernel
theorem dX9_stitches_71 : decode cX9_stitches 71 = .ok (.if_icmp .lt 5, 3) := by decide +kernel
theorem dX9_stitches_74 : decode cX9_stitches 74 = .ok (.iload_n 3, 1) := by decide +kernel
theorem dX9_stitches_75 : decode cX9_stitches 75 = .ok (.ireturn, 1) := by decide +kernel
theorem dX9_stitches_76 : decode cX9_stitches 76 = .ok (.iinc 3 1, 3) := by decide +kernel
theorem dX9_stitches_79 : decode cX9_stitches 79 = .ok (.goto (-54), 3) := by decide +kernel
theorem dX9_stitches_82 : decode cX9_stitches 82 = .ok (.iconst (-1), 1) := by decide +kernel
theorem dX9_stitches_83 : decode cX9_stitches 83 = .ok (.ireturn, 1) := by decide +kernel
theorem dX9_note_0 : decode cX9_note 0 = .ok (.aload_n 0, 1) := by decide +kernel
theorem dX9_note_1 : decode cX9_note 1 = .ok (.iload_n 1, 1) := by decide +kernel
theorem dX9_note_2 : decode cX9_note 2 = .ok (.invokevirtual 194, 3) := by decide +kernel
theorem dX9_note_5 : decode cX9_note 5 = .ok (.ifCond .eq 23, 3) := by decide +kernel
theorem dX9_note_8 : decode cX9_note 8 = .ok (.iload_n 2, 1) := by decide +kernel
theorem dX9_note_9 : decode cX9_note 9 = .ok (.iconst 0, 1) := by decide +kernel
theorem dX9_note_10 : decode cX9_note 10 = .ok (.bipush 40, 2) := by decide +kernel
theorem dX9_note_12 : decode cX9_note 12 = .ok (.invokestatic 43, 3) := by decide +kernel
theorem dX9_note_15 : decode cX9_note 15 = .ok (.ifCond .eq 13, 3) := by decide +kernel
theorem dX9_note_18 : decode cX9_note 18 = .ok (.iload_n 3, 1) := by decide +kernel
theorem dX9_note_19 : decode cX9_note 19 = .ok (.iconst 0, 1) := by decide +kernel
theorem dX9_note_20 : decode cX9_note 20 = .ok (.bipush 9, 2) := by decide +kernel
theorem dX9_note_22 : decode cX9_note 22 = .ok (.invokestatic 43, 3) := by decide +kernel
theorem dX9_note_25 : decode cX9_note 25 = .ok (.ifCond .ne 8, 3) := by decide +kernel
theorem dX9_note_28 : decode cX9_note 28 = .ok (.aload_n 0, 1) := by decide +kernel
theorem dX9_note_29 : decode cX9_note 29 = .ok (.invokevirtual 55, 3) := by decide +kernel
theorem dX9_note_32 : decode cX9_note 32 = .ok (.ireturn, 1) := by decide +kernel
theorem dX9_note_33 : decode cX9_note 33 = .ok (.aload_n 0, 1) := by decide +kernel
theorem dX9_note_34 : decode cX9_note 34 = .ok (.getfield 7, 3) := by decide +kernel
theorem dX9_note_37 : decode cX9_note 37 = .ok (.bipush 39, 2) := by decide +kernel
theorem dX9_note_39 : decode cX9_note 39 = .ok (.iaload, 1) := by decide +kernel
theorem dX9_note_40 : decode cX9_note 40 = .ok (.bipush 6, 2) := by decide +kernel
theorem dX9_note_42 : decode cX9_note 42 = .ok (.if_icmp .ne 8, 3) := by decide +kernel
theorem dX9_note_45 : decode cX9_note 45 = .ok (.aload_n 0, 1) := by decide +kernel
theorem dX9_note_46 : decode cX9_note 46 = .ok (.invokevirtual 59, 3) := by decide +kernel
theorem dX9_note_49 : decode cX9_note 49 = .ok (.ireturn, 1) := by decide +kernel
theorem dX9_note_50 : decode cX9_note 50 = .ok (.bipush 40, 2) := by decide +kernel
theorem dX9_note_52 : decode cX9_note 52 = .ok (.iconst 3, 1) := by decide +kernel
theorem dX9_note_53 : decode cX9_note 53 = .ok (.aload_n 0, 1) := by decide +kernel
theorem dX9_note_54 : decode cX9_note 54 = .ok (.getfield 7, 3) := by decide +kernel
theorem dX9_note_57 : decode cX9_note 57 = .ok (.bipush 39, 2) := by decide +kernel
theorem dX9_note_59 : decode cX9_note 59 = .ok (.iaload, 1) := by decide +kernel
theorem dX9_note_60 : decode cX9_note 60 = .ok (.imul, 1) := by decide +kernel
theorem dX9_note_61 : decode cX9_note 61 = .ok (.iadd, 1) := by decide +kernel
theorem dX9_note_62 : decode cX9_note 62 = .ok (.istore 4, 2) := by decide +kernel
theorem dX9_note_64 : decode cX9_note 64 = .ok (.aload_n 0, 1) := by decide +kernel
theorem dX9_note_65 : decode cX9_note 65 = .ok (.getfield 7, 3) := by decide +kernel
theorem dX9_note_68 : decode cX9_note 68 = .ok (.iload 4, 2) := by decide +kernel
theorem dX9_note_70 : decode cX9_note 70 = .ok (.iload_n 1, 1) := by decide +kernel
theorem dX9_note_71 : decode cX9_note 71 = .ok (.iastore, 1) := by decide +kernel
theorem dX9_note_72 : decode cX9_note 72 = .ok (.aload_n 0, 1) := by decide +kernel
theorem dX9_note_73 : decode cX9_note 73 = .ok (.getfield 7, 3) := by decide +kernel
theorem dX9_note_76 : decode cX9_note 76 = .ok (.iload 4, 2) := by decide +kernel
theorem dX9_note_78 : decode cX9_note 78 = .ok (.iconst 1, 1) := by decide +kernel
theorem dX9_note_79 : decode cX9_note 79 = .ok (.iadd, 1) := by decide +kernel
theorem dX9_note_80 : decode cX9_note 80 = .ok (.iload_n 2, 1) := by decide +kernel
theorem dX9_note_81 : decode cX9_note 81 = .ok (.iastore, 1) := by decide +kernel
theorem dX9_note_82 : decode cX9_note 82 = .ok (.aload_n 0, 1) := by decide +kernel
theorem dX9_note_83 : decode cX9_note 83 = .ok (.getfield 7, 3) := by decide +kernel
theorem dX9_note_86 : decode cX9_note 86 = .ok (.iload 4, 2) := by decide +kernel
theorem dX9_note_88 : decode cX9_note 88 = .ok (.iconst 2, 1) := by decide +kernel
theorem dX9_note_89 : decode cX9_note 89 = .ok (.iadd, 1) := by decide +kernel
theorem dX9_note_90 : decode cX9_note 90 = .ok (.iload_n 3, 1) := by decide +kernel
theorem dX9_note_91 : decode cX9_note 91 = .ok (.iastore, 1) := by decide +kernel
theorem dX9_note_92 : decode cX9_note 92 = .ok (.aload_n 0, 1) := by decide +kernel
theorem dX9_note_93 : decode cX9_note 93 = .ok (.getfield 7, 3) := by decide +kernel
theorem dX9_note_96 : decode cX9_note 96 = .ok (.bipush 39, 2) := by decide +kernel
theorem dX9_note_98 : decode cX9_note 98 = .ok (.dup2, 1) := by decide +kernel
theorem dX9_note_99 : decode cX9_note 99 = .ok (.iaload, 1) := by decide +kernel
theorem dX9_note_100 : decode cX9_note 100 = .ok (.iconst 1, 1) := by decide +kernel
theorem dX9_note_101 : decode cX9_note 101 = .ok (.iadd, 1) := by decide +kernel
theorem dX9_note_102 : decode cX9_note 102 = .ok (.iastore, 1) := by decide +kernel
theorem dX9_note_103 : decode cX9_note 103 = .ok (.aload_n 0, 1) := by decide +kernel
theorem dX9_note_104 : decode cX9_note 104 = .ok (.getfield 7, 3) := by decide +kernel
theorem dX9_note_107 : decode cX9_note 107 = .ok (.bipush 39, 2) := by decide +kernel
theorem dX9_note_109 : decode cX9_note 109 = .ok (.iaload, 1) := by decide +kernel
theorem dX9_note_110 : decode cX9_note 110 = .ok (.ireturn, 1) := by decide +kernel
theorem dX9_forget_0 : decode cX9_forget 0 = .ok (.aload_n 0, 1) := by decide +kernel
theorem dX9_forget_1 : decode cX9_forget 1 = .ok (.getfield 7, 3) := by decide +kernel
theorem dX9_forget_4 : decode cX9_forget 4 = .ok (.bipush 39, 2) := by decide +kernel
theorem dX9_forget_6 : decode cX9_forget 6 = .ok (.iaload, 1) := by decide +kernel
theorem dX9_forget_7 : decode cX9_forget 7 = .ok (.istore_n 1, 1) := by decide +kernel
theorem dX9_forget_8 : decode cX9_forget 8 = .ok (.aload_n 0, 1) := by decide +kernel
theorem dX9_forget_9 : decode cX9_forget 9 = .ok (.getfield 7, 3) := by decide +kernel
theorem dX9_forget_12 : decode cX9_forget 12 = .ok (.bipush 39, 2) := by decide +kernel
theorem dX9_forget_14 : decode cX9_forget 14 = .ok (.iconst 0, 1) := by decide +kernel
theorem dX9_forget_15 : decode cX9_forget 15 = .ok (.iastore, 1) := by decide +kernel
theorem dX9_forget_16 : decode cX9_forget 16 = .ok (.iload_n 1, 1) := by decide +kernel
theorem dX9_forget_17 : decode cX9_forget 17 = .ok (.ireturn, 1) := by decide +kernel
theorem dX9_kindsOf_0 : decode cX9_kindsOf 0 = .ok (.iconst 0, 1) := by decide +kernel
theorem dX9_kindsOf_1 : decode cX9_kindsOf 1 = .ok (.istore_n 2, 1) := by decide +kernel
theorem dX9_kindsOf_2 : decode cX9_kindsOf 2 = .ok (.iconst 0, 1) := by decide +kernel
theorem dX9_kindsOf_3 : decode cX9_kindsOf 3 = .ok (.istore_n 3, 1) := by decide +kernel
theorem dX9_kindsOf_4 : decode cX9_kindsOf 4 = .ok (.iload_n 3, 1) := by decide +kernel
theorem dX9_kindsOf_5 : decode cX9_kindsOf 5 = .ok (.bipush 6, 2) := by decide +kernel
theorem dX9_kindsOf_7 : decode cX9_kindsOf 7 = .ok (.if_icmp .ge 114, 3) := by decide +kernel
theorem dX9_kindsOf_10 : decode cX9_kindsOf 10 = .ok (.iconst 1, 1) := by decide +kernel
theorem dX9_kindsOf_11 : decode cX9_kindsOf 11 = .ok (.istore 4, 2) := by decide +kernel
theorem dX9_kindsOf_13 : decode cX9_kindsOf 13 = .ok (.iconst 0, 1) := by decide +kernel
theorem dX9_kindsOf_14 : decode cX9_kindsOf 14 = .ok (.istore 5, 2) := by decide +kernel
theorem dX9_kindsOf_16 : decode cX9_kindsOf 16 = .ok (.iload 5, 2) := by decide +kernel
theorem dX9_kindsOf_18 : decode cX9_kindsOf 18 = .ok (.aload_n 0, 1) := by decide +kernel
theorem dX9_kindsOf_19 : decode cX9_kindsOf 19 = .ok (.getfield 7, 3) := by decide +kernel
theorem dX9_kindsOf_22 : decode cX9_kindsOf 22 = .ok (.bipush 39, 2) := by decide +kernel
theorem dX9_kindsOf_24 : decode cX9_kindsOf 24 = .ok (.iaload, 1) := by decide +kernel
theorem dX9_kindsOf_25 : decode cX9_kindsOf 25 = .ok (.if_icmp .ge 75, 3) := by decide +kernel
theorem dX9_kindsOf_28 : decode cX9_kindsOf 28 = .ok (.bipush 40, 2) := by decide +kernel
theorem dX9_kindsOf_30 : decode cX9_kindsOf 30 = .ok (.iconst 3, 1) := by decide +kernel
theorem dX9_kindsOf_31 : decode cX9_kindsOf 31 = .ok (.iload 5, 2) := by decide +kernel
theorem dX9_kindsOf_33 : decode cX9_kindsOf 33 = .ok (.imul, 1) := by decide +kernel
theorem dX9_kindsOf_34 : decode cX9_kindsOf 34 = .ok (.iadd, 1) := by decide +kernel
theorem dX9_kindsOf_35 : decode cX9_kindsOf 35 = .ok (.istore 6, 2) := by decide +kernel
theorem dX9_kindsOf_37 : decode cX9_kindsOf 37 = .ok (.iload 4, 2) := by decide +kernel
theorem dX9_kindsOf_39 : decode cX9_kindsOf 39 = .ok (.ifCond .eq 52, 3) := by decide +kernel
theorem dX9_kindsOf_42 : decode cX9_kindsOf 42 = .ok (.aload_n 0, 1) := by decide +kernel
theorem dX9_kindsOf_43 : decode cX9_kindsOf 43 = .ok (.getfield 7, 3) := by decide +kernel
theorem dX9_kindsOf_46 : decode cX9_kindsOf 46 = .ok (.iload 6, 2) := by decide +kernel
theorem dX9_kindsOf_48 : decode cX9_kindsOf 48 = .ok (.iaload, 1) := by decide +kernel
theorem dX9_kindsOf_49 : decode cX9_kindsOf 49 = .ok (.iload_n 1, 1) := by decide +kernel
theorem dX9_kindsOf_50 : decode cX9_kindsOf 50 = .ok (.if_icmp .ne 37, 3) := by decide +kernel
theorem dX9_kindsOf_53 : decode cX9_kindsOf 53 = .ok (.iload_n 3, 1) := by decide +kernel
theorem dX9_kindsOf_54 : decode cX9_kindsOf 54 = .ok (.aload_n 0, 1) := by decide +kernel
theorem dX9_kindsOf_55 : decode cX9_kindsOf 55 = .ok (.getfield 7, 3) := by decide +kernel
theorem dX9_kindsOf_58 : decode cX9_kindsOf 58 = .ok (.bipush 32, 2) := by decide +kernel
theorem dX9_kindsOf_60 : decode cX9_kindsOf 60 = .ok (.iload_n 1, 1) := by decide +kernel
theorem dX9_kindsOf_61 : decode cX9_kindsOf 61 = .ok (.iadd, 1) := by decide +kernel
theorem dX9_kindsOf_62 : decode cX9_kindsOf 62 = .ok (.iaload, 1) := by decide +kernel
theorem dX9_kindsOf_63 : decode cX9_kindsOf 63 = .ok (.aload_n 0, 1) := by decide +kernel
theorem dX9_kindsOf_64 : decode cX9_kindsOf 64 = .ok (.getfield 7, 3) := by decide +kernel
theorem dX9_kindsOf_67 : decode cX9_kindsOf 67 = .ok (.iload 6, 2) := by decide +kernel
theorem dX9_kindsOf_69 : decode cX9_kindsOf 69 = .ok (.iconst 1, 1) := by decide +kernel
theorem dX9_kindsOf_70 : decode cX9_kindsOf 70 = .ok (.iadd, 1) := by decide +kernel
theorem dX9_kindsOf_71 : decode cX9_kindsOf 71 = .ok (.iaload, 1) := by decide +kernel
theorem dX9_kindsOf_72 : decode cX9_kindsOf 72 = .ok (.invokestatic 142, 3) := by decide +kernel
theorem dX9_kindsOf_75 : decode cX9_kindsOf 75 = .ok (.aload_n 0, 1) := by decide +kernel
theorem dX9_kindsOf_76 : decode cX9_kindsOf 76 = .ok (.getfield 7, 3) := by decide +kernel
theorem dX9_kindsOf_79 : decode cX9_kindsOf 79 = .ok (.iload 6, 2) := by decide +kernel
theorem dX9_kindsOf_81 : decode cX9_kindsOf 81 = .ok (.iconst 2, 1) := by decide +kernel
theorem dX9_kindsOf_82 : decode cX9_kindsOf 82 = .ok (.iadd, 1) := by decide +kernel
theorem dX9_kindsOf_83 : decode cX9_kindsOf 83 = .ok (.iaload, 1) := by decide +kernel
theorem dX9_kindsOf_84 : decode cX9_kindsOf 84 = .ok (.if_icmp .ne 7, 3) := by decide +kernel
theorem dX9_kindsOf_87 : decode cX9_kindsOf 87 = .ok (.iconst 1, 1) := by decide +kernel
theorem dX9_kindsOf_88 : decode cX9_kindsOf 88 = .ok (.goto 4, 3) := by decide +kernel
theorem dX9_kindsOf_91 : decode cX9_kindsOf 91 = .ok (.iconst 0, 1) := by decide +kernel
theorem dX9_kindsOf_92 : decode cX9_kindsOf 92 = .ok (.istore 4, 2) := by decide +kernel
theorem dX9_kindsOf_94 : decode cX9_kindsOf 94 = .ok (.iinc 5 1, 3) := by decide +kernel
theorem dX9_kindsOf_97 : decode cX9_kindsOf 97 = .ok (.goto (-81), 3) := by decide +kernel
theorem dX9_kindsOf_100 : decode cX9_kindsOf 100 = .ok (.iload_n 2, 1) := by decide +kernel
theorem dX9_kindsOf_101 : decode cX9_kindsOf 101 = .ok (.iload 4, 2) := by decide +kernel
theorem dX9_kindsOf_103 : decode cX9_kindsOf 103 = .ok (.ifCond .eq 9, 3) := by decide +kernel
theorem dX9_kindsOf_106 : decode cX9_kindsOf 106 = .ok (.iconst 1, 1) := by decide +kernel
theorem dX9_kindsOf_107 : decode cX9_kindsOf 107 = .ok (.iload_n 3, 1) := by decide +kernel
theorem dX9_kindsOf_108 : decode cX9_kindsOf 108 = .ok (.ishl, 1) := by decide +kernel
theorem dX9_kindsOf_109 : decode cX9_kindsOf 109 = .ok (.goto 4, 3) := by decide +kernel
theorem dX9_kindsOf_112 : decode cX9_kindsOf 112 = .ok (.iconst 0, 1) := by decide +kernel
theorem dX9_kindsOf_113 : decode cX9_kindsOf 113 = .ok (.ior, 1) := by decide +kernel
theorem dX9_kindsOf_114 : decode cX9_kindsOf 114 = .ok (.istore_n 2, 1) := by decide +kernel
theorem dX9_kindsOf_115 : decode cX9_kindsOf 115 = .ok (.iinc 3 1, 3) := by decide +kernel
theorem dX9_kindsOf_118 : decode cX9_kindsOf 118 = .ok (.goto (-114), 3) := by decide +kernel
theorem dX9_kindsOf_121 : decode cX9_kindsOf 121 = .ok (.iload_n 2, 1) := by decide +kernel
theorem dX9_kindsOf_122 : decode cX9_kindsOf 122 = .ok (.ireturn, 1) := by decide +kernel
theorem dX9_is_0 : decode cX9_is 0 = .ok (.aload_n 0, 1) := by decide +kernel
theorem dX9_is_1 : decode cX9_is 1 = .ok (.iload_n 1, 1) := by decide +kernel
theorem dX9_is_2 : decode cX9_is 2 = .ok (.invokevirtual 194, 3) := by decide +kernel
theorem dX9_is_5 : decode cX9_is 5 = .ok (.ifCond .eq 11, 3) := by decide +kernel
theorem dX9_is_8 : decode cX9_is 8 = .ok (.aload_n 0, 1) := by decide +kernel
theorem dX9_is_9 : decode cX9_is 9 = .ok (.iload_n 1, 1) := by decide +kernel
theorem dX9_is_10 : decode cX9_is 10 = .ok (.invokevirtual 231, 3) := by decide +kernel
theorem dX9_is_13 : decode cX9_is 13 = .ok (.goto 7, 3) := by decide +kernel
theorem dX9_is_16 : decode cX9_is 16 = .ok (.aload_n 0, 1) := by decide +kernel
theorem dX9_is_17 : decode cX9_is 17 = .ok (.invokevirtual 55, 3) := by decide +kernel
theorem dX9_is_20 : decode cX9_is 20 = .ok (.ireturn, 1) := by decide +kernel
theorem dX9_feel_0 : decode cX9_feel 0 = .ok (.aload_n 0, 1) := by decide +kernel
theorem dX9_feel_1 : decode cX9_feel 1 = .ok (.iload_n 1, 1) := by decide +kernel
theorem dX9_feel_2 : decode cX9_feel 2 = .ok (.invokevirtual 194, 3) := by decide +kernel
theorem dX9_feel_5 : decode cX9_feel 5 = .ok (.ifCond .ne 8, 3) := by decide +kernel
theorem dX9_feel_8 : decode cX9_feel 8 = .ok (.aload_n 0, 1) := by decide +kernel
theorem dX9_feel_9 : decode cX9_feel 9 = .ok (.invokevirtual 55, 3) := by decide +kernel
theorem dX9_feel_12 : decode cX9_feel 12 = .ok (.ireturn, 1) := by decide +kernel
theorem dX9_feel_13 : decode cX9_feel 13 = .ok (.aload_n 0, 1) := by decide +kernel
theorem dX9_feel_14 : decode cX9_feel 14 = .ok (.iload_n 1, 1) := by decide +kernel
theorem dX9_feel_15 : decode cX9_feel 15 = .ok (.invokevirtual 231, 3) := by decide +kernel
theorem dX9_feel_18 : decode cX9_feel 18 = .ok (.istore_n 2, 1) := by decide +kernel
theorem dX9_feel_19 : decode cX9_feel 19 = .ok (.iconst (-1), 1) := by decide +kernel
theorem dX9_feel_20 : decode cX9_feel 20 = .ok (.istore_n 3, 1) := by decide +kernel
theorem dX9_feel_21 : decode cX9_feel 21 = .ok (.bipush 99, 2) := by decide +kernel
theorem dX9_feel_23 : decode cX9_feel 23 = .ok (.istore 4, 2) := by decide +kernel
theorem dX9_feel_25 : decode cX9_feel 25 = .ok (.iconst 0, 1) := by decide +kernel
theorem dX9_feel_26 : decode cX9_feel 26 = .ok (.istore 5, 2) := by decide +kernel
theorem dX9_feel_28 : decode cX9_feel 28 = .ok (.iload 5, 2) := by decide +kernel
theorem dX9_feel_30 : decode cX9_feel 30 = .ok (.bipush 40, 2) := by decide +kernel
theorem dX9_feel_32 : decode cX9_feel 32 = .ok (.if_icmp .gt 174, 3) := by decide +kernel
theorem dX9_feel_35 : decode cX9_feel 35 = .ok (.iload_n 2, 1) := by decide +kernel
theorem dX9_feel_36 : decode cX9_feel 36 = .ok (.ifCond .eq 170, 3) := by decide +kernel
theorem dX9_feel_39 : decode cX9_feel 39 = .ok (.iconst 0, 1) := by decide +kernel
theorem dX9_feel_40 : decode cX9_feel 40 = .ok (.istore 6, 2) := by decide +kernel
theorem dX9_feel_42 : decode cX9_feel 42 = .ok (.iconst 0, 1) := by decide +kernel
theorem dX9_feel_43 : decode cX9_feel 43 = .ok (.istore 7, 2) := by decide +kernel
theorem dX9_feel_45 : decode cX9_feel 45 = .ok (.iload 7, 2) := by decide +kernel
theorem dX9_feel_47 : decode cX9_feel 47 = .ok (.bipush 6, 2) := by decide +kernel
theorem dX9_feel_49 : decode cX9_feel 49 = .ok (.if_icmp .ge 121, 3) := by decide +kernel
theorem dX9_feel_52 : decode cX9_feel 52 = .ok (.iconst 0, 1) := by decide +kernel
theorem dX9_feel_53 : decode cX9_feel 53 = .ok (.istore 8, 2) := by decide +kernel
theorem dX9_feel_55 : decode cX9_feel 55 = .ok (.iconst 0, 1) := by decide +kernel
theorem dX9_feel_56 : decode cX9_feel 56 = .ok (.istore 9, 2) := by decide +kernel
theorem dX9_feel_58 : decode cX9_feel 58 = .ok (.iload 9, 2) := by decide +kernel
theorem dX9_feel_60 : decode cX9_feel 60 = .ok (.bipush 6, 2) := by decide +kernel
theorem dX9_feel_62 : decode cX9_feel 62 = .ok (.if_icmp .ge 86, 3) := by decide +kernel
theorem dX9_feel_65 : decode cX9_feel 65 = .ok (.iload 7, 2) := by decide +kernel
theorem dX9_feel_67 : decode cX9_feel 67 = .ok (.aload_n 0, 1) := by decide +kernel
theorem dX9_feel_68 : decode cX9_feel 68 = .ok (.getfield 7, 3) := by decide +kernel
theorem dX9_feel_71 : decode cX9_feel 71 = .ok (.bipush 32, 2) := by decide +kernel
theorem dX9_feel_73 : decode cX9_feel 73 = .ok (.iload_n 1, 1) := by decide +kernel
theorem dX9_feel_74 : decode cX9_feel 74 = .ok (.iadd, 1) := by decide +kernel
theorem dX9_feel_75 : decode cX9_feel 75 = .ok (.iaload, 1) := by decide +kernel
theorem dX9_feel_76 : decode cX9_feel 76 = .ok (.iload 5, 2) := by decide +kernel
theorem dX9_feel_78 : decode cX9_feel 78 = .ok (.invokestatic 142, 3) := by decide +kernel
theorem dX9_feel_81 : decode cX9_feel 81 = .ok (.iload 9, 2) := by decide +kernel
theorem dX9_feel_83 : decode cX9_feel 83 = .ok (.aload_n 0, 1) := by decide +kernel
theorem dX9_feel_84 : decode cX9_feel 84 = .ok (.getfield 7, 3) := by decide +kernel
theorem dX9_feel_87 : decode cX9_feel 87 = .ok (.bipush 32, 2) := by decide +kernel
theorem dX9_feel_89 : decode cX9_feel 89 = .ok (.iload_n 1, 1) := by decide +kernel
theorem dX9_feel_90 : decode cX9_feel 90 = .ok (.iadd, 1) := by decide +kernel
theorem dX9_feel_91 : decode cX9_feel 91 = .ok (.iaload, 1) := by decide +kernel
theorem dX9_feel_92 : decode cX9_feel 92 = .ok (.iload 5, 2) := by decide +kernel
theorem dX9_feel_94 : decode cX9_feel 94 = .ok (.invokestatic 142, 3) := by decide +kernel
theorem dX9_feel_97 : decode cX9_feel 97 = .ok (.if_icmp .ne 7, 3) := by decide +kernel
theorem dX9_feel_100 : decode cX9_feel 100 = .ok (.iconst 1, 1) := by decide +kernel
theorem dX9_feel_101 : decode cX9_feel 101 = .ok (.goto 4, 3) := by decide +kernel
theorem dX9_feel_104 : decode cX9_feel 104 = .ok (.iconst 0, 1) := by decide +kernel
theorem dX9_feel_105 : decode cX9_feel 105 = .ok (.istore 10, 2) := by decide +kernel
theorem dX9_feel_107 : decode cX9_feel 107 = .ok (.iload 8, 2) := by decide +kernel
theorem dX9_feel_109 : decode cX9_feel 109 = .ok (.iload_n 2, 1) := by decide +kernel
theorem dX9_feel_110 : decode cX9_feel 110 = .ok (.iload 7, 2) := by decide +kernel
theorem dX9_feel_112 : decode cX9_feel 112 = .ok (.ishr, 1) := by decide +kernel
theorem dX9_feel_113 : decode cX9_feel 113 = .ok (.iconst 1, 1) := by decide +kernel
theorem dX9_feel_114 : decode cX9_feel 114 = .ok (.iand, 1) := by decide +kernel
theorem dX9_feel_115 : decode cX9_feel 115 = .ok (.iconst 1, 1) := by decide +kernel
theorem dX9_feel_116 : decode cX9_feel 116 = .ok (.if_icmp .ne 22, 3) := by decide +kernel
theorem dX9_feel_119 : decode cX9_feel 119 = .ok (.iload_n 2, 1) := by decide +kernel
theorem dX9_feel_120 : decode cX9_feel 120 = .ok (.iload 9, 2) := by decide +kernel
theorem dX9_feel_122 : decode cX9_feel 122 = .ok (.ishr, 1) := by decide +kernel
theorem dX9_feel_123 : decode cX9_feel 123 = .ok (.iconst 1, 1) := by decide +kernel
theorem dX9_feel_124 : decode cX9_feel 124 = .ok (.iand, 1) := by decide +kernel
theorem dX9_feel_125 : decode cX9_feel 125 = .ok (.iconst 1, 1) := by decide +kernel
theorem dX9_feel_126 : decode cX9_feel 126 = .ok (.if_icmp .ne 12, 3) := by decide +kernel
theorem dX9_feel_129 : decode cX9_feel 129 = .ok (.iload 10, 2) := by decide +kernel
theorem dX9_feel_131 : decode cX9_feel 131 = .ok (.ifCond .eq 7, 3) := by decide +kernel
theorem dX9_feel_134 : decode cX9_feel 134 = .ok (.iconst 1, 1) := by decide +kernel
theorem dX9_feel_135 : decode cX9_feel 135 = .ok (.goto 4, 3) := by decide +kernel
theorem dX9_feel_138 : decode cX9_feel 138 = .ok (.iconst 0, 1) := by decide +kernel
theorem dX9_feel_139 : decode cX9_feel 139 = .ok (.iadd, 1) := by decide +kernel
theorem dX9_feel_140 : decode cX9_feel 140 = .ok (.istore 8, 2) := by decide +kernel
theorem dX9_feel_142 : decode cX9_feel 142 = .ok (.iinc 9 1, 3) := by decide +kernel
theorem dX9_feel_145 : decode cX9_feel 145 = .ok (.goto (-87), 3) := by decide +kernel
theorem dX9_feel_148 : decode cX9_feel 148 = .ok (.iload 8, 2) := by decide +kernel
theorem dX9_feel_150 : decode cX9_feel 150 = .ok (.iload 6, 2) := by decide +kernel
theorem dX9_feel_152 : decode cX9_feel 152 = .ok (.if_icmp .le 8, 3) := by decide +kernel
theorem dX9_feel_155 : decode cX9_feel 155 = .ok (.iload 8, 2) := by decide +kernel
theorem dX9_feel_157 : decode cX9_feel 157 = .ok (.goto 5, 3) := by decide +kernel
theorem dX9_feel_160 : decode cX9_feel 160 = .ok (.iload 6, 2) := by decide +kernel
theorem dX9_feel_162 : decode cX9_feel 162 = .ok (.istore 6, 2) := by decide +kernel
theorem dX9_feel_164 : decode cX9_feel 164 = .ok (.iinc 7 1, 3) := by decide +kernel
theorem dX9_feel_167 : decode cX9_feel 167 = .ok (.goto (-122), 3) := by decide +kernel
theorem dX9_feel_170 : decode cX9_feel 170 = .ok (.iload 6, 2) := by decide +kernel
theorem dX9_feel_172 : decode cX9_feel 172 = .ok (.iload 4, 2) := by decide +kernel
theorem dX9_feel_174 : decode cX9_feel 174 = .ok (.if_icmp .ge 8, 3) := by decide +kernel
theorem dX9_feel_177 : decode cX9_feel 177 = .ok (.iload 5, 2) := by decide +kernel
theorem dX9_feel_179 : decode cX9_feel 179 = .ok (.goto 4, 3) := by decide +kernel
theorem dX9_feel_182 : decode cX9_feel 182 = .ok (.iload_n 3, 1) := by decide +kernel
theorem dX9_feel_183 : decode cX9_feel 183 = .ok (.istore_n 3, 1) := by decide +kernel
theorem dX9_feel_184 : decode cX9_feel 184 = .ok (.iload 6, 2) := by decide +kernel
theorem dX9_feel_186 : decode cX9_feel 186 = .ok (.iload 4, 2) := by decide +kernel
theorem dX9_feel_188 : decode cX9_feel 188 = .ok (.if_icmp .ge 8, 3) := by decide +kernel
theorem dX9_feel_191 : decode cX9_feel 191 = .ok (.iload 6, 2) := by decide +kernel
theorem dX9_feel_193 : decode cX9_feel 193 = .ok (.goto 5, 3) := by decide +kernel
theorem dX9_feel_196 : decode cX9_feel 196 = .ok (.iload 4, 2) := by decide +kernel
theorem dX9_feel_198 : decode cX9_feel 198 = .ok (.istore 4, 2) := by decide +kernel
theorem dX9_feel_200 : decode cX9_feel 200 = .ok (.iinc 5 1, 3) := by decide +kernel
theorem dX9_feel_203 : decode cX9_feel 203 = .ok (.goto (-175), 3) := by decide +kernel
theorem dX9_feel_206 : decode cX9_feel 206 = .ok (.iload_n 3, 1) := by decide +kernel
theorem dX9_feel_207 : decode cX9_feel 207 = .ok (.ireturn, 1) := by decide +kernel
theorem dX9_inside_0 : decode cX9_inside 0 = .ok (.aload_n 0, 1) := by decide +kernel
theorem dX9_inside_1 : decode cX9_inside 1 = .ok (.iload_n 1, 1) := by decide +kernel
theorem dX9_inside_2 : decode cX9_inside 2 = .ok (.invokevirtual 194, 3) := by decide +kernel
theorem dX9_inside_5 : decode cX9_inside 5 = .ok (.ifCond .eq 22, 3) := by decide +kernel
theorem dX9_inside_8 : decode cX9_inside 8 = .ok (.iload_n 2, 1) := by decide +kernel
theorem dX9_inside_9 : decode cX9_inside 9 = .ok (.iconst 0, 1) := by decide +kernel
theorem dX9_inside_10 : decode cX9_inside 10 = .ok (.bipush 8, 2) := by decide +kernel
theorem dX9_inside_12 : decode cX9_inside 12 = .ok (.invokestatic 43, 3) := by decide +kernel
theorem dX9_inside_15 : decode cX9_inside 15 = .ok (.ifCond .eq 12, 3) := by decide +kernel
theorem dX9_inside_18 : decode cX9_inside 18 = .ok (.iload_n 3, 1) := by decide +kernel
theorem dX9_inside_19 : decode cX9_inside 19 = .ok (.iconst 0, 1) := by decide +kernel
theorem dX9_inside_20 : decode cX9_inside 20 = .ok (.iconst 1, 1) := by decide +kernel
theorem dX9_inside_21 : decode cX9_inside 21 = .ok (.invokestatic 43, 3) := by decide +kernel
theorem dX9_inside_24 : decode cX9_inside 24 = .ok (.ifCond .ne 8, 3) := by decide +kernel
theorem dX9_inside_27 : decode cX9_inside 27 = .ok (.aload_n 0, 1) := by decide +kernel
theorem dX9_inside_28 : decode cX9_inside 28 = .ok (.invokevirtual 55, 3) := by decide +kernel
theorem dX9_inside_31 : decode cX9_inside 31 = .ok (.ireturn, 1) := by decide +kernel
theorem dX9_inside_32 : decode cX9_inside 32 = .ok (.iconst 0, 1) := by decide +kernel
theorem dX9_inside_33 : decode cX9_inside 33 = .ok (.istore 4, 2) := by decide +kernel
theorem dX9_inside_35 : decode cX9_inside 35 = .ok (.iconst 0, 1) := by decide +kernel
theorem dX9_inside_36 : decode cX9_inside 36 = .ok (.istore 5, 2) := by decide +kernel
theorem dX9_inside_38 : decode cX9_inside 38 = .ok (.iload 5, 2) := by decide +kernel
theorem dX9_inside_40 : decode cX9_inside 40 = .ok (.aload_n 0, 1) := by decide +kernel
theorem dX9_inside_41 : decode cX9_inside 41 = .ok (.getfield 7, 3) := by decide +kernel
theorem dX9_inside_44 : decode cX9_inside 44 = .ok (.bipush 37, 2) := by decide +kernel
theorem dX9_inside_46 : decode cX9_inside 46 = .ok (.iaload, 1) := by decide +kernel
theorem dX9_inside_47 : decode cX9_inside 47 = .ok (.if_icmp .ge 62, 3) := by decide +kernel
theorem dX9_inside_50 : decode cX9_inside 50 = .ok (.iload 4, 2) := by decide +kernel
theorem dX9_inside_52 : decode cX9_inside 52 = .ok (.aload_n 0, 1) := by decide +kernel
theorem dX9_inside_53 : decode cX9_inside 53 = .ok (.getfield 7, 3) := by decide +kernel
theorem dX9_inside_56 : decode cX9_inside 56 = .ok (.bipush 17, 2) := by decide +kernel
theorem dX9_inside_58 : decode cX9_inside 58 = .ok (.iload 5, 2) := by decide +kernel
theorem dX9_inside_60 : decode cX9_inside 60 = .ok (.iadd, 1) := by decide +kernel
theorem dX9_inside_61 : decode cX9_inside 61 = .ok (.iaload, 1) := by decide +kernel
theorem dX9_inside_62 : decode cX9_inside 62 = .ok (.bipush 6, 2) := by decide +kernel
theorem dX9_inside_64 : decode cX9_inside 64 = .ok (.if_icmp .eq 35, 3) := by decide +kernel
theorem dX9_inside_67 : decode cX9_inside 67 = .ok (.aload_n 0, 1) := by decide +kernel
theorem dX9_inside_68 : decode cX9_inside 68 = .ok (.getfield 7, 3) := by decide +kernel
theorem dX9_inside_71 : decode cX9_inside 71 = .ok (.bipush 11, 2) := by decide +kernel
theorem dX9_inside_73 : decode cX9_inside 73 = .ok (.iload 5, 2) := by decide +kernel
theorem dX9_inside_75 : decode cX9_inside 75 = .ok (.iadd, 1) := by decide +kernel
theorem dX9_inside_76 : decode cX9_inside 76 = .ok (.iaload, 1) := by decide +kernel
theorem dX9_inside_77 : decode cX9_inside 77 = .ok (.aload_n 0, 1) := by decide +kernel
theorem dX9_inside_78 : decode cX9_inside 78 = .ok (.getfield 7, 3) := by decide +kernel
theorem dX9_inside_81 : decode cX9_inside 81 = .ok (.iconst 1, 1) := by decide +kernel
theorem dX9_inside_82 : decode cX9_inside 82 = .ok (.iload_n 1, 1) := by decide +kernel
theorem dX9_inside_83 : decode cX9_inside 83 = .ok (.iadd, 1) := by decide +kernel
theorem dX9_inside_84 : decode cX9_inside 84 = .ok (.iaload, 1) := by decide +kernel
theorem dX9_inside_85 : decode cX9_inside 85 = .ok (.invokestatic 158, 3) := by decide +kernel
theorem dX9_inside_88 : decode cX9_inside 88 = .ok (.iload_n 2, 1) := by decide +kernel
theorem dX9_inside_89 : decode cX9_inside 89 = .ok (.if_icmp .gt 10, 3) := by decide +kernel
theorem dX9_inside_92 : decode cX9_inside 92 = .ok (.iconst 1, 1) := by decide +kernel
theorem dX9_inside_93 : decode cX9_inside 93 = .ok (.iload 5, 2) := by decide +kernel
theorem dX9_inside_95 : decode cX9_inside 95 = .ok (.ishl, 1) := by decide +kernel
theorem dX9_inside_96 : decode cX9_inside 96 = .ok (.goto 4, 3) := by decide +kernel
theorem dX9_inside_99 : decode cX9_inside 99 = .ok (.iconst 0, 1) := by decide +kernel
theorem dX9_inside_100 : decode cX9_inside 100 = .ok (.ior, 1) := by decide +kernel
theorem dX9_inside_101 : decode cX9_inside 101 = .ok (.istore 4, 2) := by decide +kernel
theorem dX9_inside_103 : decode cX9_inside 103 = .ok (.iinc 5 1, 3) := by decide +kernel
theorem dX9_inside_106 : decode cX9_inside 106 = .ok (.goto (-68), 3) := by decide +kernel
theorem dX9_inside_109 : decode cX9_inside 109 = .ok (.iconst 0, 1) := by decide +kernel
theorem dX9_inside_110 : decode cX9_inside 110 = .ok (.istore 5, 2) := by decide +kernel
theorem dX9_inside_112 : decode cX9_inside 112 = .ok (.iconst 0, 1) := by decide +kernel
theorem dX9_inside_113 : decode cX9_inside 113 = .ok (.istore 6, 2) := by decide +kernel
theorem dX9_inside_115 : decode cX9_inside 115 = .ok (.iconst 0, 1) := by decide +kernel
theorem dX9_inside_116 : decode cX9_inside 116 = .ok (.istore 7, 2) := by decide +kernel
theorem dX9_inside_118 : decode cX9_inside 118 = .ok (.iload 7, 2) := by decide +kernel
theorem dX9_inside_120 : decode cX9_inside 120 = .ok (.iload 4, 2) := by decide +kernel
theorem dX9_inside_122 : decode cX9_inside 122 = .ok (.if_icmp .gt 74, 3) := by decide +kernel
theorem dX9_inside_125 : decode cX9_inside 125 = .ok (.iload 7, 2) := by decide +kernel
theorem dX9_inside_127 : decode cX9_inside 127 = .ok (.iload 4, 2) := by decide +kernel
theorem dX9_inside_129 : decode cX9_inside 129 = .ok (.iconst (-1), 1) := by decide +kernel
theorem dX9_inside_130 : decode cX9_inside 130 = .ok (.ixor, 1) := by decide +kernel
theorem dX9_inside_131 : decode cX9_inside 131 = .ok (.iand, 1) := by decide +kernel
theorem dX9_inside_132 : decode cX9_inside 132 = .ok (.ifCond .ne 23, 3) := by decide +kernel
theorem dX9_inside_135 : decode cX9_inside 135 = .ok (.iload 7, 2) := by decide +kernel
theorem dX9_inside_137 : decode cX9_inside 137 = .ok (.invokestatic 155, 3) := by decide +kernel
theorem dX9_inside_140 : decode cX9_inside 140 = .ok (.aload_n 0, 1) := by decide +kernel
theorem dX9_inside_141 : decode cX9_inside 141 = .ok (.getfield 7, 3) := by decide +kernel
theorem dX9_inside_144 : decode cX9_inside 144 = .ok (.iload_n 1, 1) := by decide +kernel
theorem dX9_inside_145 : decode cX9_inside 145 = .ok (.invokestatic 149, 3) := by decide +kernel
theorem dX9_inside_148 : decode cX9_inside 148 = .ok (.if_icmp .gt 7, 3) := by decide +kernel
theorem dX9_inside_151 : decode cX9_inside 151 = .ok (.iconst 1, 1) := by decide +kernel
theorem dX9_inside_152 : decode cX9_inside 152 = .ok (.goto 4, 3) := by decide +kernel
theorem dX9_inside_155 : decode cX9_inside 155 = .ok (.iconst 0, 1) := by decide +kernel
theorem dX9_inside_156 : decode cX9_inside 156 = .ok (.istore 8, 2) := by decide +kernel
theorem dX9_inside_158 : decode cX9_inside 158 = .ok (.iload 5, 2) := by decide +kernel
theorem dX9_inside_160 : decode cX9_inside 160 = .ok (.iload 8, 2) := by decide +kernel
theorem dX9_inside_162 : decode cX9_inside 162 = .ok (.ifCond .eq 7, 3) := by decide +kernel
theorem dX9_inside_165 : decode cX9_inside 165 = .ok (.iconst 1, 1) := by decide +kernel
theorem dX9_inside_166 : decode cX9_inside 166 = .ok (.goto 4, 3) := by decide +kernel
theorem dX9_inside_169 : decode cX9_inside 169 = .ok (.iconst 0, 1) := by decide +kernel
theorem dX9_inside_170 : decode cX9_inside 170 = .ok (.iadd, 1) := by decide +kernel
theorem dX9_inside_171 : decode cX9_inside 171 = .ok (.istore 5, 2) := by decide +kernel
theorem dX9_inside_173 : decode cX9_inside 173 = .ok (.iload 8, 2) := by decide +kernel
theorem dX9_inside_175 : decode cX9_inside 175 = .ok (.ifCond .eq 11, 3) := by decide +kernel
theorem dX9_inside_178 : decode cX9_inside 178 = .ok (.iload 6, 2) := by decide +kernel
theorem dX9_inside_180 : decode cX9_inside 180 = .ok (.iload 7, 2) := by decide +kernel
theorem dX9_inside_182 : decode cX9_inside 182 = .ok (.ior, 1) := by decide +kernel
theorem dX9_inside_183 : decode cX9_inside 183 = .ok (.goto 5, 3) := by decide +kernel
theorem dX9_inside_186 : decode cX9_inside 186 = .ok (.iload 6, 2) := by decide +kernel
theorem dX9_inside_188 : decode cX9_inside 188 = .ok (.istore 6, 2) := by decide +kernel
theorem dX9_inside_190 : decode cX9_inside 190 = .ok (.iinc 7 1, 3) := by decide +kernel
theorem dX9_inside_193 : decode cX9_inside 193 = .ok (.goto (-75), 3) := by decide +kernel
theorem dX9_inside_196 : decode cX9_inside 196 = .ok (.iload_n 3, 1) := by decide +kernel
theorem dX9_inside_197 : decode cX9_inside 197 = .ok (.ifCond .ne 8, 3) := by decide +kernel
theorem dX9_inside_200 : decode cX9_inside 200 = .ok (.iload 5, 2) := by decide +kernel
theorem dX9_inside_202 : decode cX9_inside 202 = .ok (.goto 5, 3) := by decide +kernel
theorem dX9_inside_205 : decode cX9_inside 205 = .ok (.iload 6, 2) := by decide +kernel
theorem dX9_inside_207 : decode cX9_inside 207 = .ok (.ireturn, 1) := by decide +kernel
theorem dX9_gets_0 : decode cX9_gets 0 = .ok (.bipush 9, 2) := by decide +kernel
theorem dX9_gets_2 : decode cX9_gets 2 = .ok (.aload_n 0, 1) := by decide +kernel
theorem dX9_gets_3 : decode cX9_gets 3 = .ok (.getfield 7, 3) := by decide +kernel
theorem dX9_gets_6 : decode cX9_gets 6 = .ok (.bipush 11, 2) := by decide +kernel
theorem dX9_gets_8 : decode cX9_gets 8 = .ok (.iload_n 1, 1) := by decide +kernel
theorem dX9_gets_9 : decode cX9_gets 9 = .ok (.iadd, 1) := by decide +kernel
theorem dX9_gets_10 : decode cX9_gets 10 = .ok (.iaload, 1) := by decide +kernel
theorem dX9_gets_11 : decode cX9_gets 11 = .ok (.aload_n 0, 1) := by decide +kernel
theorem dX9_gets_12 : decode cX9_gets 12 = .ok (.getfield 7, 3) := by decide +kernel
theorem dX9_gets_15 : decode cX9_gets 15 = .ok (.iconst 1, 1) := by decide +kernel
theorem dX9_gets_16 : decode cX9_gets 16 = .ok (.iload_n 2, 1) := by decide +kernel
theorem dX9_gets_17 : decode cX9_gets 17 = .ok (.iadd, 1) := by decide +kernel
theorem dX9_gets_18 : decode cX9_gets 18 = .ok (.iaload, 1) := by decide +kernel
theorem dX9_gets_19 : decode cX9_gets 19 = .ok (.invokestatic 158, 3) := by decide +kernel
theorem dX9_gets_22 : decode cX9_gets 22 = .ok (.isub, 1) := by decide +kernel
theorem dX9_gets_23 : decode cX9_gets 23 = .ok (.istore 5, 2) := by decide +kernel
theorem dX9_gets_25 : decode cX9_gets 25 = .ok (.aload_n 0, 1) := by decide +kernel
theorem dX9_gets_26 : decode cX9_gets 26 = .ok (.getfield 7, 3) := by decide +kernel
theorem dX9_gets_29 : decode cX9_gets 29 = .ok (.iload_n 2, 1) := by decide +kernel
theorem dX9_gets_30 : decode cX9_gets 30 = .ok (.invokestatic 149, 3) := by decide +kernel
theorem dX9_gets_33 : decode cX9_gets 33 = .ok (.aload_n 0, 1) := by decide +kernel
theorem dX9_gets_34 : decode cX9_gets 34 = .ok (.getfield 7, 3) := by decide +kernel
theorem dX9_gets_37 : decode cX9_gets 37 = .ok (.iload_n 2, 1) := by decide +kernel
theorem dX9_gets_38 : decode cX9_gets 38 = .ok (.invokestatic 152, 3) := by decide +kernel
theorem dX9_gets_41 : decode cX9_gets 41 = .ok (.invokestatic 155, 3) := by decide +kernel
theorem dX9_gets_44 : decode cX9_gets 44 = .ok (.isub, 1) := by decide +kernel
theorem dX9_gets_45 : decode cX9_gets 45 = .ok (.istore 6, 2) := by decide +kernel
theorem dX9_gets_47 : decode cX9_gets 47 = .ok (.iload 6, 2) := by decide +kernel
theorem dX9_gets_49 : decode cX9_gets 49 = .ok (.ifCond .le 20, 3) := by decide +kernel
theorem dX9_gets_52 : decode cX9_gets 52 = .ok (.iload 6, 2) := by decide +kernel
theorem dX9_gets_54 : decode cX9_gets 54 = .ok (.iconst 1, 1) := by decide +kernel
theorem dX9_gets_55 : decode cX9_gets 55 = .ok (.if_icmp .ne 20, 3) := by decide +kernel
theorem dX9_gets_58 : decode cX9_gets 58 = .ok (.iload_n 2, 1) := by decide +kernel
theorem dX9_gets_59 : decode cX9_gets 59 = .ok (.iload 4, 2) := by decide +kernel
theorem dX9_gets_61 : decode cX9_gets 61 = .ok (.if_icmp .ne 14, 3) := by decide +kernel
theorem dX9_gets_64 : decode cX9_gets 64 = .ok (.iload_n 1, 1) := by decide +kernel
theorem dX9_gets_65 : decode cX9_gets 65 = .ok (.iload_n 3, 1) := by decide +kernel
theorem dX9_gets_66 : decode cX9_gets 66 = .ok (.if_icmp .le 9, 3) := by decide +kernel
theorem dX9_gets_69 : decode cX9_gets 69 = .ok (.iload 5, 2) := by decide +kernel
theorem dX9_gets_71 : decode cX9_gets 71 = .ok (.ineg, 1) := by decide +kernel
theorem dX9_gets_72 : decode cX9_gets 72 = .ok (.goto 5, 3) := by decide +kernel
theorem dX9_gets_75 : decode cX9_gets 75 = .ok (.iload 5, 2) := by decide +kernel
theorem dX9_gets_77 : decode cX9_gets 77 = .ok (.ireturn, 1) := by decide +kernel
theorem dX9_rests_0 : decode cX9_rests 0 = .ok (.iconst 1, 1) := by decide +kernel
theorem dX9_rests_1 : decode cX9_rests 1 = .ok (.istore 5, 2) := by decide +kernel
theorem dX9_rests_3 : decode cX9_rests 3 = .ok (.iconst 0, 1) := by decide +kernel
theorem dX9_rests_4 : decode cX9_rests 4 = .ok (.istore 6, 2) := by decide +kernel
theorem dX9_rests_6 : decode cX9_rests 6 = .ok (.iload 6, 2) := by decide +kernel
theorem dX9_rests_8 : decode cX9_rests 8 = .ok (.aload_n 0, 1) := by decide +kernel
theorem dX9_rests_9 : decode cX9_rests 9 = .ok (.getfield 7, 3) := by decide +kernel
theorem dX9_rests_12 : decode cX9_rests 12 = .ok (.bipush 26, 2) := by decide +kernel
theorem dX9_rests_14 : decode cX9_rests 14 = .ok (.iaload, 1) := by decide +kernel
theorem dX9_rests_15 : decode cX9_rests 15 = .ok (.if_icmp .ge 64, 3) := by decide +kernel
theorem dX9_rests_18 : decode cX9_rests 18 = .ok (.iload 5, 2) := by decide +kernel
theorem dX9_rests_20 : decode cX9_rests 20 = .ok (.ifCond .eq 50, 3) := by decide +kernel
theorem dX9_rests_23 : decode cX9_rests 23 = .ok (.aload_n 0, 1) := by decide +kernel
theorem dX9_rests_24 : decode cX9_rests 24 = .ok (.iload_n 1, 1) := by decide +kernel
theorem dX9_rests_25 : decode cX9_rests 25 = .ok (.iload 6, 2) := by decide +kernel
theorem dX9_rests_27 : decode cX9_rests 27 = .ok (.iload_n 3, 1) := by decide +kernel
theorem dX9_rests_28 : decode cX9_rests 28 = .ok (.iload 4, 2) := by decide +kernel
theorem dX9_rests_30 : decode cX9_rests 30 = .ok (.invokevirtual 234, 3) := by decide +kernel
theorem dX9_rests_33 : decode cX9_rests 33 = .ok (.aload_n 0, 1) := by decide +kernel
theorem dX9_rests_34 : decode cX9_rests 34 = .ok (.iload_n 1, 1) := by decide +kernel
theorem dX9_rests_35 : decode cX9_rests 35 = .ok (.iload_n 2, 1) := by decide +kernel
theorem dX9_rests_36 : decode cX9_rests 36 = .ok (.iload_n 3, 1) := by decide +kernel
theorem dX9_rests_37 : decode cX9_rests 37 = .ok (.iload 4, 2) := by decide +kernel
theorem dX9_rests_39 : decode cX9_rests 39 = .ok (.invokevirtual 234, 3) := by decide +kernel
theorem dX9_rests_42 : decode cX9_rests 42 = .ok (.if_icmp .gt 28, 3) := by decide +kernel
theorem dX9_rests_45 : decode cX9_rests 45 = .ok (.aload_n 0, 1) := by decide +kernel
theorem dX9_rests_46 : decode cX9_rests 46 = .ok (.iload_n 3, 1) := by decide +kernel
theorem dX9_rests_47 : decode cX9_rests 47 = .ok (.iload 6, 2) := by decide +kernel
theorem dX9_rests_49 : decode cX9_rests 49 = .ok (.iload_n 1, 1) := by decide +kernel
theorem dX9_rests_50 : decode cX9_rests 50 = .ok (.iload_n 2, 1) := by decide +kernel
theorem dX9_rests_51 : decode cX9_rests 51 = .ok (.invokevirtual 234, 3) := by decide +kernel
theorem dX9_rests_54 : decode cX9_rests 54 = .ok (.aload_n 0, 1) := by decide +kernel
theorem dX9_rests_55 : decode cX9_rests 55 = .ok (.iload_n 3, 1) := by decide +kernel
theorem dX9_rests_56 : decode cX9_rests 56 = .ok (.iload 4, 2) := by decide +kernel
theorem dX9_rests_58 : decode cX9_rests 58 = .ok (.iload_n 1, 1) := by decide +kernel
theorem dX9_rests_59 : decode cX9_rests 59 = .ok (.iload_n 2, 1) := by decide +kernel
theorem dX9_rests_60 : decode cX9_rests 60 = .ok (.invokevirtual 234, 3) := by decide +kernel
theorem dX9_rests_63 : decode cX9_rests 63 = .ok (.if_icmp .gt 7, 3) := by decide +kernel
theorem dX9_rests_66 : decode cX9_rests 66 = .ok (.iconst 1, 1) := by decide +kernel
theorem dX9_rests_67 : decode cX9_rests 67 = .ok (.goto 4, 3) := by decide +kernel
theorem dX9_rests_70 : decode cX9_rests 70 = .ok (.iconst 0, 1) := by decide +kernel
theorem dX9_rests_71 : decode cX9_rests 71 = .ok (.istore 5, 2) := by decide +kernel
theorem dX9_rests_73 : decode cX9_rests 73 = .ok (.iinc 6 1, 3) := by decide +kernel
theorem dX9_rests_76 : decode cX9_rests 76 = .ok (.goto (-70), 3) := by decide +kernel
theorem dX9_rests_79 : decode cX9_rests 79 = .ok (.iload 5, 2) := by decide +kernel
theorem dX9_rests_81 : decode cX9_rests 81 = .ok (.ireturn, 1) := by decide +kernel
theorem dX9_two_0 : decode cX9_two 0 = .ok (.aload_n 0, 1) := by decide +kernel
theorem dX9_two_1 : decode cX9_two 1 = .ok (.iload_n 1, 1) := by decide +kernel
theorem dX9_two_2 : decode cX9_two 2 = .ok (.invokevirtual 204, 3) := by decide +kernel
theorem dX9_two_5 : decode cX9_two 5 = .ok (.ifCond .eq 21, 3) := by decide +kernel
theorem dX9_two_8 : decode cX9_two 8 = .ok (.aload_n 0, 1) := by decide +kernel
theorem dX9_two_9 : decode cX9_two 9 = .ok (.iload_n 2, 1) := by decide +kernel
theorem dX9_two_10 : decode cX9_two 10 = .ok (.invokevirtual 204, 3) := by decide +kernel
theorem dX9_two_13 : decode cX9_two 13 = .ok (.ifCond .eq 13, 3) := by decide +kernel
theorem dX9_two_16 : decode cX9_two 16 = .ok (.iload_n 1, 1) := by decide +kernel
theorem dX9_two_17 : decode cX9_two 17 = .ok (.iload_n 2, 1) := by decide +kernel
theorem dX9_two_18 : decode cX9_two 18 = .ok (.if_icmp .eq 8, 3) := by decide +kernel
theorem dX9_two_21 : decode cX9_two 21 = .ok (.iload_n 3, 1) := by decide +kernel
theorem dX9_two_22 : decode cX9_two 22 = .ok (.iconst (-1), 1) := by decide +kernel
theorem dX9_two_23 : decode cX9_two 23 = .ok (.if_icmp .ge 10, 3) := by decide +kernel
theorem dX9_two_26 : decode cX9_two 26 = .ok (.aload_n 0, 1) := by decide +kernel
theorem dX9_two_27 : decode cX9_two 27 = .ok (.bipush (-10), 2) := by decide +kernel
theorem dX9_two_29 : decode cX9_two 29 = .ok (.invokevirtual 39, 3) := by decide +kernel
theorem dX9_two_32 : decode cX9_two 32 = .ok (.ireturn, 1) := by decide +kernel
theorem dX9_two_33 : decode cX9_two 33 = .ok (.aload_n 0, 1) := by decide +kernel
theorem dX9_two_34 : decode cX9_two 34 = .ok (.getfield 7, 3) := by decide +kernel
theorem dX9_two_37 : decode cX9_two 37 = .ok (.bipush 17, 2) := by decide +kernel
theorem dX9_two_39 : decode cX9_two 39 = .ok (.iload_n 1, 1) := by decide +kernel
theorem dX9_two_40 : decode cX9_two 40 = .ok (.iadd, 1) := by decide +kernel
theorem dX9_two_41 : decode cX9_two 41 = .ok (.iaload, 1) := by decide +kernel
theorem dX9_two_42 : decode cX9_two 42 = .ok (.ifCond .ne 15, 3) := by decide +kernel
theorem dX9_two_45 : decode cX9_two 45 = .ok (.aload_n 0, 1) := by decide +kernel
theorem dX9_two_46 : decode cX9_two 46 = .ok (.getfield 7, 3) := by decide +kernel
theorem dX9_two_49 : decode cX9_two 49 = .ok (.bipush 17, 2) := by decide +kernel
theorem dX9_two_51 : decode cX9_two 51 = .ok (.iload_n 2, 1) := by decide +kernel
theorem dX9_two_52 : decode cX9_two 52 = .ok (.iadd, 1) := by decide +kernel
theorem dX9_two_53 : decode cX9_two 53 = .ok (.iaload, 1) := by decide +kernel
theorem dX9_two_54 : decode cX9_two 54 = .ok (.ifCond .eq 8, 3) := by decide +kernel
theorem dX9_two_57 : decode cX9_two 57 = .ok (.aload_n 0, 1) := by decide +kernel
theorem dX9_two_58 : decode cX9_two 58 = .ok (.invokevirtual 201, 3) := by decide +kernel
theorem dX9_two_61 : decode cX9_two 61 = .ok (.ireturn, 1) := by decide +kernel
theorem dX9_two_62 : decode cX9_two 62 = .ok (.iconst 0, 1) := by decide +kernel
theorem dX9_two_63 : decode cX9_two 63 = .ok (.istore 4, 2) := by decide +kernel
theorem dX9_two_65 : decode cX9_two 65 = .ok (.iconst 0, 1) := by decide +kernel
theorem dX9_two_66 : decode cX9_two 66 = .ok (.istore 5, 2) := by decide +kernel
theorem dX9_two_68 : decode cX9_two 68 = .ok (.iload 5, 2) := by decide +kernel
theorem dX9_two_70 : decode cX9_two 70 = .ok (.bipush 25, 2) := by decide +kernel
theorem dX9_two_72 : decode cX9_two 72 = .ok (.if_icmp .ge 60, 3) := by decide +kernel
theorem dX9_two_75 : decode cX9_two 75 = .ok (.aload_n 0, 1) := by decide +kernel
theorem dX9_two_76 : decode cX9_two 76 = .ok (.iload 5, 2) := by decide +kernel
theorem dX9_two_78 : decode cX9_two 78 = .ok (.iconst 5, 1) := by decide +kernel
theorem dX9_two_79 : decode cX9_two 79 = .ok (.idiv, 1) := by decide +kernel
theorem dX9_two_80 : decode cX9_two 80 = .ok (.invokevirtual 194, 3) := by decide +kernel
theorem dX9_two_83 : decode cX9_two 83 = .ok (.ifCond .eq 43, 3) := by decide +kernel
theorem dX9_two_86 : decode cX9_two 86 = .ok (.aload_n 0, 1) := by decide +kernel
theorem dX9_two_87 : decode cX9_two 87 = .ok (.iload 5, 2) := by decide +kernel
theorem dX9_two_89 : decode cX9_two 89 = .ok (.iconst 5, 1) := by decide +kernel
theorem dX9_two_90 : decode cX9_two 90 = .ok (.irem, 1) := by decide +kernel
theorem dX9_two_91 : decode cX9_two 91 = .ok (.invokevirtual 194, 3) := by decide +kernel
theorem dX9_two_94 : decode cX9_two 94 = .ok (.ifCond .eq 32, 3) := by decide +kernel
theorem dX9_two_97 : decode cX9_two 97 = .ok (.aload_n 0, 1) := by decide +kernel
theorem dX9_two_98 : decode cX9_two 98 = .ok (.iload_n 1, 1) := by decide +kernel
theorem dX9_two_99 : decode cX9_two 99 = .ok (.iload 5, 2) := by decide +kernel
theorem dX9_two_101 : decode cX9_two 101 = .ok (.iconst 5, 1) := by decide +kernel
theorem dX9_two_102 : decode cX9_two 102 = .ok (.idiv, 1) := by decide +kernel
theorem dX9_two_103 : decode cX9_two 103 = .ok (.iload_n 2, 1) := by decide +kernel
theorem dX9_two_104 : decode cX9_two 104 = .ok (.iload 5, 2) := by decide +kernel
theorem dX9_two_106 : decode cX9_two 106 = .ok (.iconst 5, 1) := by decide +kernel
theorem dX9_two_107 : decode cX9_two 107 = .ok (.irem, 1) := by decide +kernel
theorem dX9_two_108 : decode cX9_two 108 = .ok (.invokevirtual 238, 3) := by decide +kernel
theorem dX9_two_111 : decode cX9_two 111 = .ok (.ifCond .eq 15, 3) := by decide +kernel
theorem dX9_two_114 : decode cX9_two 114 = .ok (.iload 4, 2) := by decide +kernel
theorem dX9_two_116 : decode cX9_two 116 = .ok (.iload_n 3, 1) := by decide +kernel
theorem dX9_two_117 : decode cX9_two 117 = .ok (.if_icmp .ne 6, 3) := by decide +kernel
theorem dX9_two_120 : decode cX9_two 120 = .ok (.iload 5, 2) := by decide +kernel
theorem dX9_two_122 : decode cX9_two 122 = .ok (.ireturn, 1) := by decide +kernel
theorem dX9_two_123 : decode cX9_two 123 = .ok (.iinc 4 1, 3) := by decide +kernel
theorem dX9_two_126 : decode cX9_two 126 = .ok (.iinc 5 1, 3) := by decide +kernel
theorem dX9_two_129 : decode cX9_two 129 = .ok (.goto (-61), 3) := by decide +kernel
theorem dX9_two_132 : decode cX9_two 132 = .ok (.iload_n 3, 1) := by decide +kernel
theorem dX9_two_133 : decode cX9_two 133 = .ok (.iconst (-1), 1) := by decide +kernel
theorem dX9_two_134 : decode cX9_two 134 = .ok (.if_icmp .ne 8, 3) := by decide +kernel
theorem dX9_two_137 : decode cX9_two 137 = .ok (.iload 4, 2) := by decide +kernel
theorem dX9_two_139 : decode cX9_two 139 = .ok (.goto 5, 3) := by decide +kernel
theorem dX9_two_142 : decode cX9_two 142 = .ok (.bipush (-5), 2) := by decide +kernel
theorem dX9_two_144 : decode cX9_two 144 = .ok (.ireturn, 1) := by decide +kernel
theorem dX9_rain_0 : decode cX9_rain 0 = .ok (.iload_n 1, 1) := by decide +kernel
theorem dX9_rain_1 : decode cX9_rain 1 = .ok (.iconst 0, 1) := by decide +kernel
theorem dX9_rain_2 : decode cX9_rain 2 = .ok (.bipush 10, 2) := by decide +kernel
theorem dX9_rain_4 : decode cX9_rain 4 = .ok (.invokestatic 43, 3) := by decide +kernel
theorem dX9_rain_7 : decode cX9_rain 7 = .ok (.ifCond .ne 8, 3) := by decide +kernel
theorem dX9_rain_10 : decode cX9_rain 10 = .ok (.aload_n 0, 1) := by decide +kernel
theorem dX9_rain_11 : decode cX9_rain 11 = .ok (.invokevirtual 55, 3) := by decide +kernel
theorem dX9_rain_14 : decode cX9_rain 14 = .ok (.ireturn, 1) := by decide +kernel
theorem dX9_rain_15 : decode cX9_rain 15 = .ok (.aload_n 0, 1) := by decide +kernel
theorem dX9_rain_16 : decode cX9_rain 16 = .ok (.getfield 7, 3) := by decide +kernel
theorem dX9_rain_19 : decode cX9_rain 19 = .ok (.invokestatic 218, 3) := by decide +kernel
theorem dX9_rain_22 : decode cX9_rain 22 = .ok (.i2l, 1) := by decide +kernel
theorem dX9_rain_23 : decode cX9_rain 23 = .ok (.ldc2_w 242, 3) := by decide +kernel
theorem dX9_rain_26 : decode cX9_rain 26 = .ok (.iload_n 1, 1) := by decide +kernel
theorem dX9_rain_27 : decode cX9_rain 27 = .ok (.i2l, 1) := by decide +kernel
theorem dX9_rain_28 : decode cX9_rain 28 = .ok (.lsub, 1) := by decide +kernel
theorem dX9_rain_29 : decode cX9_rain 29 = .ok (.lmul, 1) := by decide +kernel
theorem dX9_rain_30 : decode cX9_rain 30 = .ok (.lstore_n 2, 1) := by decide +kernel
theorem dX9_rain_31 : decode cX9_rain 31 = .ok (.lload_n 2, 1) := by decide +kernel
theorem dX9_rain_32 : decode cX9_rain 32 = .ok (.lstore 4, 2) := by decide +kernel
theorem dX9_rain_34 : decode cX9_rain 34 = .ok (.ldc2_w 242, 3) := by decide +kernel
theorem dX9_rain_37 : decode cX9_rain 37 = .ok (.lstore 6, 2) := by decide +kernel
theorem dX9_rain_39 : decode cX9_rain 39 = .ok (.lload 6, 2) := by decide +kernel
theorem dX9_rain_41 : decode cX9_rain 41 = .ok (.lconst 0, 1) := by decide +kernel
theorem dX9_rain_42 : decode cX9_rain 42 = .ok (.lcmp, 1) := by decide +kernel
theorem dX9_rain_43 : decode cX9_rain 43 = .ok (.ifCond .le 21, 3) := by decide +kernel
theorem dX9_rain_46 : decode cX9_rain 46 = .ok (.lload 4, 2) := by decide +kernel
theorem dX9_rain_48 : decode cX9_rain 48 = .ok (.lload 6, 2) := by decide +kernel
theorem dX9_rain_50 : decode cX9_rain 50 = .ok (.lrem, 1) := by decide +kernel
theorem dX9_rain_51 : decode cX9_rain 51 = .ok (.lstore 8, 2) := by decide +kernel
theorem dX9_rain_53 : decode cX9_rain 53 = .ok (.lload 6, 2) := by decide +kernel
theorem dX9_rain_55 : decode cX9_rain 55 = .ok (.lstore 4, 2) := by decide +kernel
theorem dX9_rain_57 : decode cX9_rain 57 = .ok (.lload 8, 2) := by decide +kernel
theorem dX9_rain_59 : decode cX9_rain 59 = .ok (.lstore 6, 2) := by decide +kernel
theorem dX9_rain_61 : decode cX9_rain 61 = .ok (.goto (-22), 3) := by decide +kernel
theorem dX9_rain_64 : decode cX9_rain 64 = .ok (.aload_n 0, 1) := by decide +kernel
theorem dX9_rain_65 : decode cX9_rain 65 = .ok (.lload_n 2, 1) := by decide +kernel
theorem dX9_rain_66 : decode cX9_rain 66 = .ok (.lload 4, 2) := by decide +kernel
theorem dX9_rain_68 : decode cX9_rain 68 = .ok (.ldiv, 1) := by decide +kernel
theorem dX9_rain_69 : decode cX9_rain 69 = .ok (.putfield 244, 3) := by decide +kernel
theorem dX9_rain_72 : decode cX9_rain 72 = .ok (.aload_n 0, 1) := by decide +kernel
theorem dX9_rain_73 : decode cX9_rain 73 = .ok (.ldc2_w 242, 3) := by decide +kernel
theorem dX9_rain_76 : decode cX9_rain 76 = .ok (.lload 4, 2) := by decide +kernel
theorem dX9_rain_78 : decode cX9_rain 78 = .ok (.ldiv, 1) := by decide +kernel
theorem dX9_rain_79 : decode cX9_rain 79 = .ok (.putfield 29, 3) := by decide +kernel
theorem dX9_rain_82 : decode cX9_rain 82 = .ok (.iconst 1, 1) := by decide +kernel
theorem dX9_rain_83 : decode cX9_rain 83 = .ok (.ireturn, 1) := by decide +kernel
theorem dX9_years_0 : decode cX9_years 0 = .ok (.iload_n 1, 1) := by decide +kernel
theorem dX9_years_1 : decode cX9_years 1 = .ok (.iconst 0, 1) := by decide +kernel
theorem dX9_years_2 : decode cX9_years 2 = .ok (.ldc 247, 2) := by decide +kernel
theorem dX9_years_4 : decode cX9_years 4 = .ok (.invokestatic 43, 3) := by decide +kernel
theorem dX9_years_7 : decode cX9_years 7 = .ok (.ifCond .eq 13, 3) := by decide +kernel
theorem dX9_years_10 : decode cX9_years 10 = .ok (.iload_n 2, 1) := by decide +kernel
theorem dX9_years_11 : decode cX9_years 11 = .ok (.iconst 0, 1) := by decide +kernel
theorem dX9_years_12 : decode cX9_years 12 = .ok (.bipush 30, 2) := by decide +kernel
theorem dX9_years_14 : decode cX9_years 14 = .ok (.invokestatic 43, 3) := by decide +kernel
theorem dX9_years_17 : decode cX9_years 17 = .ok (.ifCond .ne 8, 3) := by decide +kernel
theorem dX9_years_20 : decode cX9_years 20 = .ok (.aload_n 0, 1) := by decide +kernel
theorem dX9_years_21 : decode cX9_years 21 = .ok (.invokevirtual 55, 3) := by decide +kernel
theorem dX9_years_24 : decode cX9_years 24 = .ok (.ireturn, 1) := by decide +kernel
theorem dX9_years_25 : decode cX9_years 25 = .ok (.iload_n 1, 1) := by decide +kernel
theorem dX9_years_26 : decode cX9_years 26 = .ok (.i2l, 1) := by decide +kernel
theorem dX9_years_27 : decode cX9_years 27 = .ok (.lstore_n 3, 1) := by decide +kernel
theorem dX9_years_28 : decode cX9_years 28 = .ok (.iconst 0, 1) := by decide +kernel
theorem dX9_years_29 : decode cX9_years 29 = .ok (.istore 5, 2) := by decide +kernel
theorem dX9_years_31 : decode cX9_years 31 = .ok (.iconst 0, 1) := by decide +kernel
theorem dX9_years_32 : decode cX9_years 32 = .ok (.istore 6, 2) := by decide +kernel
theorem dX9_years_34 : decode cX9_years 34 = .ok (.iload 6, 2) := by decide +kernel
theorem dX9_years_36 : decode cX9_years 36 = .ok (.iload_n 2, 1) := by decide +kernel
theorem dX9_years_37 : decode cX9_years 37 = .ok (.if_icmp .ge 100, 3) := by decide +kernel
theorem dX9_years_40 : decode cX9_years 40 = .ok (.aload_n 0, 1) := by decide +kernel
theorem dX9_years_41 : decode cX9_years 41 = .ok (.invokevirtual 211, 3) := by decide +kernel
theorem dX9_years_44 : decode cX9_years 44 = .ok (.iconst 0, 1) := by decide +kernel
theorem dX9_years_45 : decode cX9_years 45 = .ok (.istore 7, 2) := by decide +kernel
theorem dX9_years_47 : decode cX9_years 47 = .ok (.iload 7, 2) := by decide +kernel
theorem dX9_years_49 : decode cX9_years 49 = .ok (.aload_n 0, 1) := by decide +kernel
theorem dX9_years_50 : decode cX9_years 50 = .ok (.getfield 7, 3) := by decide +kernel
theorem dX9_years_53 : decode cX9_years 53 = .ok (.bipush 37, 2) := by decide +kernel
theorem dX9_years_55 : decode cX9_years 55 = .ok (.iaload, 1) := by decide +kernel
theorem dX9_years_56 : decode cX9_years 56 = .ok (.if_icmp .ge 54, 3) := by decide +kernel
theorem dX9_years_59 : decode cX9_years 59 = .ok (.lload_n 3, 1) := by decide +kernel
theorem dX9_years_60 : decode cX9_years 60 = .ok (.ldc2_w 248, 3) := by decide +kernel
theorem dX9_years_63 : decode cX9_years 63 = .ok (.lmul, 1) := by decide +kernel
theorem dX9_years_64 : decode cX9_years 64 = .ok (.ldc2_w 250, 3) := by decide +kernel
theorem dX9_years_67 : decode cX9_years 67 = .ok (.ladd, 1) := by decide +kernel
theorem dX9_years_68 : decode cX9_years 68 = .ok (.ldc2_w 252, 3) := by decide +kernel
theorem dX9_years_71 : decode cX9_years 71 = .ok (.lrem, 1) := by decide +kernel
theorem dX9_years_72 : decode cX9_years 72 = .ok (.lstore_n 3, 1) := by decide +kernel
theorem dX9_years_73 : decode cX9_years 73 = .ok (.aload_n 0, 1) := by decide +kernel
theorem dX9_years_74 : decode cX9_years 74 = .ok (.getfield 13, 3) := by decide +kernel
theorem dX9_years_77 : decode cX9_years 77 = .ok (.bipush 11, 2) := by decide +kernel
theorem dX9_years_79 : decode cX9_years 79 = .ok (.iload 7, 2) := by decide +kernel
theorem dX9_years_81 : decode cX9_years 81 = .ok (.iadd, 1) := by decide +kernel
theorem dX9_years_82 : decode cX9_years 82 = .ok (.lload_n 3, 1) := by decide +kernel
theorem dX9_years_83 : decode cX9_years 83 = .ok (.ldc2_w 254, 3) := by decide +kernel
theorem dX9_years_86 : decode cX9_years 86 = .ok (.ldiv, 1) := by decide +kernel
theorem dX9_years_87 : decode cX9_years 87 = .ok (.ldc2_w 256, 3) := by decide +kernel
theorem dX9_years_90 : decode cX9_years 90 = .ok (.lrem, 1) := by decide +kernel
theorem dX9_years_91 : decode cX9_years 91 = .ok (.l2i, 1) := by decide +kernel
theorem dX9_years_92 : decode cX9_years 92 = .ok (.iastore, 1) := by decide +kernel
theorem dX9_years_93 : decode cX9_years 93 = .ok (.aload_n 0, 1) := by decide +kernel
theorem dX9_years_94 : decode cX9_years 94 = .ok (.getfield 13, 3) := by decide +kernel
theorem dX9_years_97 : decode cX9_years 97 = .ok (.bipush 17, 2) := by decide +kernel
theorem dX9_years_99 : decode cX9_years 99 = .ok (.iload 7, 2) := by decide +kernel
theorem dX9_years_101 : decode cX9_years 101 = .ok (.iadd, 1) := by decide +kernel
theorem dX9_years_102 : decode cX9_years 102 = .ok (.iconst 0, 1) := by decide +kernel
theorem dX9_years_103 : decode cX9_years 103 = .ok (.iastore, 1) := by decide +kernel
theorem dX9_years_104 : decode cX9_years 104 = .ok (.iinc 7 1, 3) := by decide +kernel
theorem dX9_years_107 : decode cX9_years 107 = .ok (.goto (-60), 3) := by decide +kernel
theorem dX9_years_110 : decode cX9_years 110 = .ok (.aload_n 0, 1) := by decide +kernel
theorem dX9_years_111 : decode cX9_years 111 = .ok (.bipush 9, 2) := by decide +kernel
theorem dX9_years_113 : decode cX9_years 113 = .ok (.invokevirtual 214, 3) := by decide +kernel
theorem dX9_years_116 : decode cX9_years 116 = .ok (.iload 5, 2) := by decide +kernel
theorem dX9_years_118 : decode cX9_years 118 = .ok (.aload_n 0, 1) := by decide +kernel
theorem dX9_years_119 : decode cX9_years 119 = .ok (.getfield 13, 3) := by decide +kernel
theorem dX9_years_122 : decode cX9_years 122 = .ok (.invokestatic 190, 3) := by decide +kernel
theorem dX9_years_125 : decode cX9_years 125 = .ok (.invokestatic 155, 3) := by decide +kernel
theorem dX9_years_128 : decode cX9_years 128 = .ok (.iadd, 1) := by decide +kernel
theorem dX9_years_129 : decode cX9_years 129 = .ok (.istore 5, 2) := by decide +kernel
theorem dX9_years_131 : decode cX9_years 131 = .ok (.iinc 6 1, 3) := by decide +kernel
theorem dX9_years_134 : decode cX9_years 134 = .ok (.goto (-100), 3) := by decide +kernel
theorem dX9_years_137 : decode cX9_years 137 = .ok (.iload 5, 2) := by decide +kernel
theorem dX9_years_139 : decode cX9_years 139 = .ok (.ireturn, 1) := by decide +kernel
theorem dX9_part_0 : decode cX9_part 0 = .ok (.iload_n 1, 1) := by decide +kernel
theorem dX9_part_1 : decode cX9_part 1 = .ok (.ifCond .ne 10, 3) := by decide +kernel
theorem dX9_part_4 : decode cX9_part 4 = .ok (.aload_n 0, 1) := by decide +kernel
theorem dX9_part_5 : decode cX9_part 5 = .ok (.getfield 244, 3) := by decide +kernel
theorem dX9_part_8 : decode cX9_part 8 = .ok (.goto 20, 3) := by decide +kernel
theorem dX9_part_11 : decode cX9_part 11 = .ok (.iload_n 1, 1) := by decide +kernel
theorem dX9_part_12 : decode cX9_part 12 = .ok (.iconst 1, 1) := by decide +kernel
theorem dX9_part_13 : decode cX9_part 13 = .ok (.if_icmp .ne 10, 3) := by decide +kernel
theorem dX9_part_16 : decode cX9_part 16 = .ok (.aload_n 0, 1) := by decide +kernel
theorem dX9_part_17 : decode cX9_part 17 = .ok (.getfield 29, 3) := by decide +kernel
theorem dX9_part_20 : decode cX9_part 20 = .ok (.goto 8, 3) := by decide +kernel
theorem dX9_part_23 : decode cX9_part 23 = .ok (.aload_n 0, 1) := by decide +kernel
theorem dX9_part_24 : decode cX9_part 24 = .ok (.invokevirtual 55, 3) := by decide +kernel
theorem dX9_part_27 : decode cX9_part 27 = .ok (.i2l, 1) := by decide +kernel
theorem dX9_part_28 : decode cX9_part 28 = .ok (.lreturn, 1) := by decide +kernel
theorem dX9_image_0 : decode cX9_image 0 = .ok (.iload_n 1, 1) := by decide +kernel
theorem dX9_image_1 : decode cX9_image 1 = .ok (.iconst 0, 1) := by decide +kernel
theorem dX9_image_2 : decode cX9_image 2 = .ok (.iconst 1, 1) := by decide +kernel
theorem dX9_image_3 : decode cX9_image 3 = .ok (.invokestatic 43, 3) := by decide +kernel
theorem dX9_image_6 : decode cX9_image 6 = .ok (.ifCond .ne 8, 3) := by decide +kernel
theorem dX9_image_9 : decode cX9_image 9 = .ok (.aload_n 0, 1) := by decide +kernel
theorem dX9_image_10 : decode cX9_image 10 = .ok (.invokevirtual 55, 3) := by decide +kernel
theorem dX9_image_13 : decode cX9_image 13 = .ok (.ireturn, 1) := by decide +kernel
theorem dX9_image_14 : decode cX9_image 14 = .ok (.aload_n 0, 1) := by decide +kernel
theorem dX9_image_15 : decode cX9_image 15 = .ok (.getfield 7, 3) := by decide +kernel
theorem dX9_image_18 : decode cX9_image 18 = .ok (.iconst 0, 1) := by decide +kernel
theorem dX9_image_19 : decode cX9_image 19 = .ok (.aload_n 0, 1) := by decide +kernel
theorem dX9_image_20 : decode cX9_image 20 = .ok (.getfield 19, 3) := by decide +kernel
theorem dX9_image_23 : decode cX9_image 23 = .ok (.sipush 267, 3) := by decide +kernel
theorem dX9_image_26 : decode cX9_image 26 = .ok (.iload_n 1, 1) := by decide +kernel
theorem dX9_image_27 : decode cX9_image 27 = .ok (.imul, 1) := by decide +kernel
theorem dX9_image_28 : decode cX9_image 28 = .ok (.sipush 267, 3) := by decide +kernel
theorem dX9_image_31 : decode cX9_image 31 = .ok (.invokestatic 138, 3) := by decide +kernel
theorem dX9_image_34 : decode cX9_image 34 = .ok (.aload_n 0, 1) := by decide +kernel
theorem dX9_image_35 : decode cX9_image 35 = .ok (.getfield 22, 3) := by decide +kernel
theorem dX9_image_38 : decode cX9_image 38 = .ok (.iload_n 1, 1) := by decide +kernel
theorem dX9_image_39 : decode cX9_image 39 = .ok (.iconst 1, 1) := by decide +kernel
theorem dX9_image_40 : decode cX9_image 40 = .ok (.bastore, 1) := by decide +kernel
theorem dX9_image_41 : decode cX9_image 41 = .ok (.iconst 1, 1) := by decide +kernel
theorem dX9_image_42 : decode cX9_image 42 = .ok (.ireturn, 1) := by decide +kernel
theorem dX9_from_0 : decode cX9_from 0 = .ok (.iload_n 1, 1) := by decide +kernel
theorem dX9_from_1 : decode cX9_from 1 = .ok (.iconst 0, 1) := by decide +kernel
theorem dX9_from_2 : decode cX9_from 2 = .ok (.iconst 1, 1) := by decide +kernel
theorem dX9_from_3 : decode cX9_from 3 = .ok (.invokestatic 43, 3) := by decide +kernel
theorem dX9_from_6 : decode cX9_from 6 = .ok (.ifCond .ne 8, 3) := by decide +kernel
theorem dX9_from_9 : decode cX9_from 9 = .ok (.aload_n 0, 1) := by decide +kernel
theorem dX9_from_10 : decode cX9_from 10 = .ok (.invokevirtual 55, 3) := by decide +kernel
theorem dX9_from_13 : decode cX9_from 13 = .ok (.ireturn, 1) := by decide +kernel
theorem dX9_from_14 : decode cX9_from 14 = .ok (.aload_n 0, 1) := by decide +kernel
theorem dX9_from_15 : decode cX9_from 15 = .ok (.getfield 22, 3) := by decide +kernel
theorem dX9_from_18 : decode cX9_from 18 = .ok (.iload_n 1, 1) := by decide +kernel
theorem dX9_from_19 : decode cX9_from 19 = .ok (.baload, 1) := by decide +kernel
theorem dX9_from_20 : decode cX9_from 20 = .ok (.ifCond .ne 8, 3) := by decide +kernel
theorem dX9_from_23 : decode cX9_from 23 = .ok (.aload_n 0, 1) := by decide +kernel
theorem dX9_from_24 : decode cX9_from 24 = .ok (.invokevirtual 201, 3) := by decide +kernel
theorem dX9_from_27 : decode cX9_from 27 = .ok (.ireturn, 1) := by decide +kernel
theorem dX9_from_28 : decode cX9_from 28 = .ok (.aload_n 0, 1) := by decide +kernel
theorem dX9_from_29 : decode cX9_from 29 = .ok (.getfield 19, 3) := by decide +kernel
theorem dX9_from_32 : decode cX9_from 32 = .ok (.sipush 267, 3) := by decide +kernel
theorem dX9_from_35 : decode cX9_from 35 = .ok (.iload_n 1, 1) := by decide +kernel
theorem dX9_from_36 : decode cX9_from 36 = .ok (.imul, 1) := by decide +kernel
theorem dX9_from_37 : decode cX9_from 37 = .ok (.aload_n 0, 1) := by decide +kernel
theorem dX9_from_38 : decode cX9_from 38 = .ok (.getfield 7, 3) := by decide +kernel
theorem dX9_from_41 : decode cX9_from 41 = .ok (.iconst 0, 1) := by decide +kernel
theorem dX9_from_42 : decode cX9_from 42 = .ok (.sipush 267, 3) := by decide +kernel
theorem dX9_from_45 : decode cX9_from 45 = .ok (.invokestatic 138, 3) := by decide +kernel
theorem dX9_from_48 : decode cX9_from 48 = .ok (.iconst 1, 1) := by decide +kernel
theorem dX9_from_49 : decode cX9_from 49 = .ok (.ireturn, 1) := by decide +kernel
theorem dX9_status_0 : decode cX9_status 0 = .ok (.iload_n 1, 1) := by decide +kernel
theorem dX9_status_1 : decode cX9_status 1 = .ok (.iconst 0, 1) := by decide +kernel
theorem dX9_status_2 : decode cX9_status 2 = .ok (.iconst 2, 1) := by decide +kernel
theorem dX9_status_3 : decode cX9_status 3 = .ok (.invokestatic 43, 3) := by decide +kernel
theorem dX9_status_6 : decode cX9_status 6 = .ok (.ifCond .eq 12, 3) := by decide +kernel
theorem dX9_status_9 : decode cX9_status 9 = .ok (.aload_n 0, 1) := by decide +kernel
theorem dX9_status_10 : decode cX9_status 10 = .ok (.getfield 26, 3) := by decide +kernel
theorem dX9_status_13 : decode cX9_status 13 = .ok (.iload_n 1, 1) := by decide +kernel
theorem dX9_status_14 : decode cX9_status 14 = .ok (.iaload, 1) := by decide +kernel
theorem dX9_status_15 : decode cX9_status 15 = .ok (.goto 8, 3) := by decide +kernel
theorem dX9_status_18 : decode cX9_status 18 = .ok (.aload_n 0, 1) := by decide +kernel
theorem dX9_status_19 : decode cX9_status 19 = .ok (.iconst (-1), 1) := by decide +kernel
theorem dX9_status_20 : decode cX9_status 20 = .ok (.invokevirtual 39, 3) := by decide +kernel
theorem dX9_status_23 : decode cX9_status 23 = .ok (.ireturn, 1) := by decide +kernel
theorem dX9_counted_0 : decode cX9_counted 0 = .ok (.iload_n 1, 1) := by decide +kernel
theorem dX9_counted_1 : decode cX9_counted 1 = .ok (.tableswitch 113 0 7 #[47, 55, 63, 71, 78, 89, 97, 105], 47) := by decide +kernel
theorem dX9_counted_48 : decode cX9_counted 48 = .ok (.aload_n 0, 1) := by decide +kernel
theorem dX9_counted_49 : decode cX9_counted 49 = .ok (.getfield 7, 3) := by decide +kernel
theorem dX9_counted_52 : decode cX9_counted 52 = .ok (.bipush 26, 2) := by decide +kernel
theorem dX9_counted_54 : decode cX9_counted 54 = .ok (.iaload, 1) := by decide +kernel
theorem dX9_counted_55 : decode cX9_counted 55 = .ok (.ireturn, 1) := by decide +kernel
theorem dX9_counted_56 : decode cX9_counted 56 = .ok (.aload_n 0, 1) := by decide +kernel
theorem dX9_counted_57 : decode cX9_counted 57 = .ok (.getfield 7, 3) := by decide +kernel
theorem dX9_counted_60 : decode cX9_counted 60 = .ok (.bipush 37, 2) := by decide +kernel
theorem dX9_counted_62 : decode cX9_counted 62 = .ok (.iaload, 1) := by decide +kernel
theorem dX9_counted_63 : decode cX9_counted 63 = .ok (.ireturn, 1) := by decide +kernel
theorem dX9_counted_64 : decode cX9_counted 64 = .ok (.aload_n 0, 1) := by decide +kernel
theorem dX9_counted_65 : decode cX9_counted 65 = .ok (.getfield 7, 3) := by decide +kernel
theorem dX9_counted_68 : decode cX9_counted 68 = .ok (.bipush 38, 2) := by decide +kernel
theorem dX9_counted_70 : decode cX9_counted 70 = .ok (.iaload, 1) := by decide +kernel
theorem dX9_counted_71 : decode cX9_counted 71 = .ok (.ireturn, 1) := by decide +kernel
theorem dX9_counted_72 : decode cX9_counted 72 = .ok (.aload_n 0, 1) := by decide +kernel
theorem dX9_counted_73 : decode cX9_counted 73 = .ok (.getfield 7, 3) := by decide +kernel
theorem dX9_counted_76 : decode cX9_counted 76 = .ok (.iconst 0, 1) := by decide +kernel
theorem dX9_counted_77 : decode cX9_counted 77 = .ok (.iaload, 1) := by decide +kernel
theorem dX9_counted_78 : decode cX9_counted 78 = .ok (.ireturn, 1) := by decide +kernel
theorem dX9_counted_79 : decode cX9_counted 79 = .ok (.aload_n 0, 1) := by decide +kernel
theorem dX9_counted_80 : decode cX9_counted 80 = .ok (.getfield 7, 3) := by decide +kernel
theorem dX9_counted_83 : decode cX9_counted 83 = .ok (.invokestatic 190, 3) := by decide +kernel
theorem dX9_counted_86 : decode cX9_counted 86 = .ok (.invokestatic 155, 3) := by decide +kernel
theorem dX9_counted_89 : decode cX9_counted 89 = .ok (.ireturn, 1) := by decide +kernel
theorem dX9_counted_90 : decode cX9_counted 90 = .ok (.aload_n 0, 1) := by decide +kernel
theorem dX9_counted_91 : decode cX9_counted 91 = .ok (.getfield 7, 3) := by decide +kernel
theorem dX9_counted_94 : decode cX9_counted 94 = .ok (.invokestatic 218, 3) := by decide +kernel
theorem dX9_counted_97 : decode cX9_counted 97 = .ok (.ireturn, 1) := by decide +kernel
theorem dX9_counted_98 : decode cX9_counted 98 = .ok (.aload_n 0, 1) := by decide +kernel
theorem dX9_counted_99 : decode cX9_counted 99 = .ok (.getfield 7, 3) := by decide +kernel
theorem dX9_counted_102 : decode cX9_counted 102 = .ok (.bipush 39, 2) := by decide +kernel
theorem dX9_counted_104 : decode cX9_counted 104 = .ok (.iaload, 1) := by decide +kernel
theorem dX9_counted_105 : decode cX9_counted 105 = .ok (.ireturn, 1) := by decide +kernel
theorem dX9_counted_106 : decode cX9_counted 106 = .ok (.aload_n 0, 1) := by decide +kernel
theorem dX9_counted_107 : decode cX9_counted 107 = .ok (.getfield 7, 3) := by decide +kernel
theorem dX9_counted_110 : decode cX9_counted 110 = .ok (.bipush 58, 2) := by decide +kernel
theorem dX9_counted_112 : decode cX9_counted 112 = .ok (.iaload, 1) := by decide +kernel
theorem dX9_counted_113 : decode cX9_counted 113 = .ok (.ireturn, 1) := by decide +kernel
theorem dX9_counted_114 : decode cX9_counted 114 = .ok (.aload_n 0, 1) := by decide +kernel
theorem dX9_counted_115 : decode cX9_counted 115 = .ok (.getfield 73, 3) := by decide +kernel
theorem dX9_counted_118 : decode cX9_counted 118 = .ok (.ireturn, 1) := by decide +kernel
theorem dX9_count_0 : decode cX9_count 0 = .ok (.iload_n 1, 1) := by decide +kernel
theorem dX9_count_1 : decode cX9_count 1 = .ok (.iconst 0, 1) := by decide +kernel
theorem dX9_count_2 : decode cX9_count 2 = .ok (.bipush 8, 2) := by decide +kernel
theorem dX9_count_4 : decode cX9_count 4 = .ok (.invokestatic 43, 3) := by decide +kernel
theorem dX9_count_7 : decode cX9_count 7 = .ok (.ifCond .eq 11, 3) := by decide +kernel
theorem dX9_count_10 : decode cX9_count 10 = .ok (.aload_n 0, 1) := by decide +kernel
theorem dX9_count_11 : decode cX9_count 11 = .ok (.iload_n 1, 1) := by decide +kernel
theorem dX9_count_12 : decode cX9_count 12 = .ok (.invokevirtual 258, 3) := by decide +kernel
theorem dX9_count_15 : decode cX9_count 15 = .ok (.goto 7, 3) := by decide +kernel
theorem dX9_count_18 : decode cX9_count 18 = .ok (.aload_n 0, 1) := by decide +kernel
theorem dX9_count_19 : decode cX9_count 19 = .ok (.invokevirtual 55, 3) := by decide +kernel
theorem dX9_count_22 : decode cX9_count 22 = .ok (.ireturn, 1) := by decide +kernel
theorem dX9_digest_0 : decode cX9_digest 0 = .ok (.ldc2_w 261, 3) := by decide +kernel
theorem dX9_digest_3 : decode cX9_digest 3 = .ok (.lstore_n 1, 1) := by decide +kernel
theorem dX9_digest_4 : decode cX9_digest 4 = .ok (.iconst 0, 1) := by decide +kernel
theorem dX9_digest_5 : decode cX9_digest 5 = .ok (.istore_n 3, 1) := by decide +kernel
theorem dX9_digest_6 : decode cX9_digest 6 = .ok (.iload_n 3, 1) := by decide +kernel
theorem dX9_digest_7 : decode cX9_digest 7 = .ok (.bipush 9, 2) := by decide +kernel
theorem dX9_digest_9 : decode cX9_digest 9 = .ok (.if_icmp .ge 22, 3) := by decide +kernel
theorem dX9_digest_12 : decode cX9_digest 12 = .ok (.ldc2_w 263, 3) := by decide +kernel
theorem dX9_digest_15 : decode cX9_digest 15 = .ok (.lload_n 1, 1) := by decide +kernel
theorem dX9_digest_16 : decode cX9_digest 16 = .ok (.lmul, 1) := by decide +kernel
theorem dX9_digest_17 : decode cX9_digest 17 = .ok (.aload_n 0, 1) := by decide +kernel
theorem dX9_digest_18 : decode cX9_digest 18 = .ok (.iload_n 3, 1) := by decide +kernel
theorem dX9_digest_19 : decode cX9_digest 19 = .ok (.invokevirtual 258, 3) := by decide +kernel
theorem dX9_digest_22 : decode cX9_digest 22 = .ok (.i2l, 1) := by decide +kernel
theorem dX9_digest_23 : decode cX9_digest 23 = .ok (.ladd, 1) := by decide +kernel
theorem dX9_digest_24 : decode cX9_digest 24 = .ok (.lstore_n 1, 1) := by decide +kernel
theorem dX9_digest_25 : decode cX9_digest 25 = .ok (.iinc 3 1, 3) := by decide +kernel
theorem dX9_digest_28 : decode cX9_digest 28 = .ok (.goto (-22), 3) := by decide +kernel
theorem dX9_digest_31 : decode cX9_digest 31 = .ok (.iconst 0, 1) := by decide +kernel
theorem dX9_digest_32 : decode cX9_digest 32 = .ok (.istore_n 3, 1) := by decide +kernel
theorem dX9_digest_33 : decode cX9_digest 33 = .ok (.iload_n 3, 1) := by decide +kernel
theorem dX9_digest_34 : decode cX9_digest 34 = .ok (.aload_n 0, 1) := by decide +kernel
theorem dX9_digest_35 : decode cX9_digest 35 = .ok (.getfield 7, 3) := by decide +kernel
theorem dX9_digest_38 : decode cX9_digest 38 = .ok (.bipush 26, 2) := by decide +kernel
theorem dX9_digest_40 : decode cX9_digest 40 = .ok (.iaload, 1) := by decide +kernel
theorem dX9_digest_41 : decode cX9_digest 41 = .ok (.if_icmp .ge 76, 3) := by decide +kernel
theorem dX9_digest_44 : decode cX9_digest 44 = .ok (.ldc2_w 263, 3) := by decide +kernel
theorem dX9_digest_47 : decode cX9_digest 47 = .ok (.lload_n 1, 1) := by decide +kernel
theorem dX9_digest_48 : decode cX9_digest 48 = .ok (.lmul, 1) := by decide +kernel
theorem dX9_digest_49 : decode cX9_digest 49 = .ok (.aload_n 0, 1) := by decide +kernel
theorem dX9_digest_50 : decode cX9_digest 50 = .ok (.getfield 7, 3) := by decide +kernel
theorem dX9_digest_53 : decode cX9_digest 53 = .ok (.bipush 27, 2) := by decide +kernel
theorem dX9_digest_55 : decode cX9_digest 55 = .ok (.iload_n 3, 1) := by decide +kernel
theorem dX9_digest_56 : decode cX9_digest 56 = .ok (.iadd, 1) := by decide +kernel
theorem dX9_digest_57 : decode cX9_digest 57 = .ok (.iaload, 1) := by decide +kernel
theorem dX9_digest_58 : decode cX9_digest 58 = .ok (.i2l, 1) := by decide +kernel
theorem dX9_digest_59 : decode cX9_digest 59 = .ok (.ladd, 1) := by decide +kernel
theorem dX9_digest_60 : decode cX9_digest 60 = .ok (.lstore_n 1, 1) := by decide +kernel
theorem dX9_digest_61 : decode cX9_digest 61 = .ok (.ldc2_w 263, 3) := by decide +kernel
theorem dX9_digest_64 : decode cX9_digest 64 = .ok (.lload_n 1, 1) := by decide +kernel
theorem dX9_digest_65 : decode cX9_digest 65 = .ok (.lmul, 1) := by decide +kernel
theorem dX9_digest_66 : decode cX9_digest 66 = .ok (.aload_n 0, 1) := by decide +kernel
theorem dX9_digest_67 : decode cX9_digest 67 = .ok (.getfield 7, 3) := by decide +kernel
theorem dX9_digest_70 : decode cX9_digest 70 = .ok (.iconst 1, 1) := by decide +kernel
theorem dX9_digest_71 : decode cX9_digest 71 = .ok (.iload_n 3, 1) := by decide +kernel
theorem dX9_digest_72 : decode cX9_digest 72 = .ok (.iadd, 1) := by decide +kernel
theorem dX9_digest_73 : decode cX9_digest 73 = .ok (.iaload, 1) := by decide +kernel
theorem dX9_digest_74 : decode cX9_digest 74 = .ok (.i2l, 1) := by decide +kernel
theorem dX9_digest_75 : decode cX9_digest 75 = .ok (.ladd, 1) := by decide +kernel
theorem dX9_digest_76 : decode cX9_digest 76 = .ok (.lstore_n 1, 1) := by decide +kernel
theorem dX9_digest_77 : decode cX9_digest 77 = .ok (.ldc2_w 263, 3) := by decide +kernel
theorem dX9_digest_80 : decode cX9_digest 80 = .ok (.lload_n 1, 1) := by decide +kernel
theorem dX9_digest_81 : decode cX9_digest 81 = .ok (.lmul, 1) := by decide +kernel
theorem dX9_digest_82 : decode cX9_digest 82 = .ok (.aload_n 0, 1) := by decide +kernel
theorem dX9_digest_83 : decode cX9_digest 83 = .ok (.getfield 7, 3) := by decide +kernel
theorem dX9_digest_86 : decode cX9_digest 86 = .ok (.bipush 32, 2) := by decide +kernel
theorem dX9_digest_88 : decode cX9_digest 88 = .ok (.iload_n 3, 1) := by decide +kernel
theorem dX9_digest_89 : decode cX9_digest 89 = .ok (.iadd, 1) := by decide +kernel
theorem dX9_digest_90 : decode cX9_digest 90 = .ok (.iaload, 1) := by decide +kernel
theorem dX9_digest_91 : decode cX9_digest 91 = .ok (.i2l, 1) := by decide +kernel
theorem dX9_digest_92 : decode cX9_digest 92 = .ok (.ladd, 1) := by decide +kernel
theorem dX9_digest_93 : decode cX9_digest 93 = .ok (.lstore_n 1, 1) := by decide +kernel
theorem dX9_digest_94 : decode cX9_digest 94 = .ok (.ldc2_w 263, 3) := by decide +kernel
theorem dX9_digest_97 : decode cX9_digest 97 = .ok (.lload_n 1, 1) := by decide +kernel
theorem dX9_digest_98 : decode cX9_digest 98 = .ok (.lmul, 1) := by decide +kernel
theorem dX9_digest_99 : decode cX9_digest 99 = .ok (.aload_n 0, 1) := by decide +kernel
theorem dX9_digest_100 : decode cX9_digest 100 = .ok (.getfield 7, 3) := by decide +kernel
theorem dX9_digest_103 : decode cX9_digest 103 = .ok (.bipush 6, 2) := by decide +kernel
theorem dX9_digest_105 : decode cX9_digest 105 = .ok (.iload_n 3, 1) := by decide +kernel
theorem dX9_digest_106 : decode cX9_digest 106 = .ok (.iadd, 1) := by decide +kernel
theorem dX9_digest_107 : decode cX9_digest 107 = .ok (.iaload, 1) := by decide +kernel
theorem dX9_digest_108 : decode cX9_digest 108 = .ok (.i2l, 1) := by decide +kernel
theorem dX9_digest_109 : decode cX9_digest 109 = .ok (.ladd, 1) := by decide +kernel
theorem dX9_digest_110 : decode cX9_digest 110 = .ok (.lstore_n 1, 1) := by decide +kernel
theorem dX9_digest_111 : decode cX9_digest 111 = .ok (.iinc 3 1, 3) := by decide +kernel
theorem dX9_digest_114 : decode cX9_digest 114 = .ok (.goto (-81), 3) := by decide +kernel
theorem dX9_digest_117 : decode cX9_digest 117 = .ok (.iconst 0, 1) := by decide +kernel
theorem dX9_digest_118 : decode cX9_digest 118 = .ok (.istore_n 3, 1) := by decide +kernel
theorem dX9_digest_119 : decode cX9_digest 119 = .ok (.iload_n 3, 1) := by decide +kernel
theorem dX9_digest_120 : decode cX9_digest 120 = .ok (.aload_n 0, 1) := by decide +kernel
theorem dX9_digest_121 : decode cX9_digest 121 = .ok (.getfield 7, 3) := by decide +kernel
theorem dX9_digest_124 : decode cX9_digest 124 = .ok (.bipush 37, 2) := by decide +kernel
theorem dX9_digest_126 : decode cX9_digest 126 = .ok (.iaload, 1) := by decide +kernel
theorem dX9_digest_127 : decode cX9_digest 127 = .ok (.if_icmp .ge 42, 3) := by decide +kernel
theorem dX9_digest_130 : decode cX9_digest 130 = .ok (.iconst 0, 1) := by decide +kernel
theorem dX9_digest_131 : decode cX9_digest 131 = .ok (.istore 4, 2) := by decide +kernel
theorem dX9_digest_133 : decode cX9_digest 133 = .ok (.iload 4, 2) := by decide +kernel
theorem dX9_digest_135 : decode cX9_digest 135 = .ok (.iconst 3, 1) := by decide +kernel
theorem dX9_digest_136 : decode cX9_digest 136 = .ok (.if_icmp .ge 27, 3) := by decide +kernel
theorem dX9_digest_139 : decode cX9_digest 139 = .ok (.ldc2_w 263, 3) := by decide +kernel
theorem dX9_digest_142 : decode cX9_digest 142 = .ok (.lload_n 1, 1) := by decide +kernel
theorem dX9_digest_143 : decode cX9_digest 143 = .ok (.lmul, 1) := by decide +kernel
theorem dX9_digest_144 : decode cX9_digest 144 = .ok (.aload_n 0, 1) := by decide +kernel
theorem dX9_digest_145 : decode cX9_digest 145 = .ok (.getfield 7, 3) := by decide +kernel
theorem dX9_digest_148 : decode cX9_digest 148 = .ok (.iload_n 3, 1) := by decide +kernel
theorem dX9_digest_149 : decode cX9_digest 149 = .ok (.iload 4, 2) := by decide +kernel
theorem dX9_digest_151 : decode cX9_digest 151 = .ok (.invokestatic 207, 3) := by decide +kernel
theorem dX9_digest_154 : decode cX9_digest 154 = .ok (.i2l, 1) := by decide +kernel
theorem dX9_digest_155 : decode cX9_digest 155 = .ok (.ladd, 1) := by decide +kernel
theorem dX9_digest_156 : decode cX9_digest 156 = .ok (.lstore_n 1, 1) := by decide +kernel
theorem dX9_digest_157 : decode cX9_digest 157 = .ok (.iinc 4 1, 3) := by decide +kernel
theorem dX9_digest_160 : decode cX9_digest 160 = .ok (.goto (-27), 3) := by decide +kernel
theorem dX9_digest_163 : decode cX9_digest 163 = .ok (.iinc 3 1, 3) := by decide +kernel
theorem dX9_digest_166 : decode cX9_digest 166 = .ok (.goto (-47), 3) := by decide +kernel
theorem dX9_digest_169 : decode cX9_digest 169 = .ok (.iconst 0, 1) := by decide +kernel
theorem dX9_digest_170 : decode cX9_digest 170 = .ok (.istore_n 3, 1) := by decide +kernel
theorem dX9_digest_171 : decode cX9_digest 171 = .ok (.iload_n 3, 1) := by decide +kernel
theorem dX9_digest_172 : decode cX9_digest 172 = .ok (.aload_n 0, 1) := by decide +kernel
theorem dX9_digest_173 : decode cX9_digest 173 = .ok (.getfield 7, 3) := by decide +kernel
theorem dX9_digest_176 : decode cX9_digest 176 = .ok (.bipush 38, 2) := by decide +kernel
theorem dX9_digest_178 : decode cX9_digest 178 = .ok (.iaload, 1) := by decide +kernel
theorem dX9_digest_179 : decode cX9_digest 179 = .ok (.if_icmp .ge 26, 3) := by decide +kernel
theorem dX9_digest_182 : decode cX9_digest 182 = .ok (.ldc2_w 263, 3) := by decide +kernel
theorem dX9_digest_185 : decode cX9_digest 185 = .ok (.lload_n 1, 1) := by decide +kernel
theorem dX9_digest_186 : decode cX9_digest 186 = .ok (.lmul, 1) := by decide +kernel
theorem dX9_digest_187 : decode cX9_digest 187 = .ok (.aload_n 0, 1) := by decide +kernel
theorem dX9_digest_188 : decode cX9_digest 188 = .ok (.getfield 7, 3) := by decide +kernel
theorem dX9_digest_191 : decode cX9_digest 191 = .ok (.bipush 23, 2) := by decide +kernel
theorem dX9_digest_193 : decode cX9_digest 193 = .ok (.iload_n 3, 1) := by decide +kernel
theorem dX9_digest_194 : decode cX9_digest 194 = .ok (.iadd, 1) := by decide +kernel
theorem dX9_digest_195 : decode cX9_digest 195 = .ok (.iaload, 1) := by decide +kernel
theorem dX9_digest_196 : decode cX9_digest 196 = .ok (.i2l, 1) := by decide +kernel
theorem dX9_digest_197 : decode cX9_digest 197 = .ok (.ladd, 1) := by decide +kernel
theorem dX9_digest_198 : decode cX9_digest 198 = .ok (.lstore_n 1, 1) := by decide +kernel
theorem dX9_digest_199 : decode cX9_digest 199 = .ok (.iinc 3 1, 3) := by decide +kernel
theorem dX9_digest_202 : decode cX9_digest 202 = .ok (.goto (-31), 3) := by decide +kernel
theorem dX9_digest_205 : decode cX9_digest 205 = .ok (.iconst 0, 1) := by decide +kernel
theorem dX9_digest_206 : decode cX9_digest 206 = .ok (.istore_n 3, 1) := by decide +kernel
theorem dX9_digest_207 : decode cX9_digest 207 = .ok (.iload_n 3, 1) := by decide +kernel
theorem dX9_digest_208 : decode cX9_digest 208 = .ok (.iconst 3, 1) := by decide +kernel
theorem dX9_digest_209 : decode cX9_digest 209 = .ok (.aload_n 0, 1) := by decide +kernel
theorem dX9_digest_210 : decode cX9_digest 210 = .ok (.getfield 7, 3) := by decide +kernel
theorem dX9_digest_213 : decode cX9_digest 213 = .ok (.bipush 39, 2) := by decide +kernel
theorem dX9_digest_215 : decode cX9_digest 215 = .ok (.iaload, 1) := by decide +kernel
theorem dX9_digest_216 : decode cX9_digest 216 = .ok (.imul, 1) := by decide +kernel
theorem dX9_digest_217 : decode cX9_digest 217 = .ok (.if_icmp .ge 26, 3) := by decide +kernel
theorem dX9_digest_220 : decode cX9_digest 220 = .ok (.ldc2_w 263, 3) := by decide +kernel
theorem dX9_digest_223 : decode cX9_digest 223 = .ok (.lload_n 1, 1) := by decide +kernel
theorem dX9_digest_224 : decode cX9_digest 224 = .ok (.lmul, 1) := by decide +kernel
theorem dX9_digest_225 : decode cX9_digest 225 = .ok (.aload_n 0, 1) := by decide +kernel
theorem dX9_digest_226 : decode cX9_digest 226 = .ok (.getfield 7, 3) := by decide +kernel
theorem dX9_digest_229 : decode cX9_digest 229 = .ok (.bipush 40, 2) := by decide +kernel
theorem dX9_digest_231 : decode cX9_digest 231 = .ok (.iload_n 3, 1) := by decide +kernel
theorem dX9_digest_232 : decode cX9_digest 232 = .ok (.iadd, 1) := by decide +kernel
theorem dX9_digest_233 : decode cX9_digest 233 = .ok (.iaload, 1) := by decide +kernel
theorem dX9_digest_234 : decode cX9_digest 234 = .ok (.i2l, 1) := by decide +kernel
theorem dX9_digest_235 : decode cX9_digest 235 = .ok (.ladd, 1) := by decide +kernel
theorem dX9_digest_236 : decode cX9_digest 236 = .ok (.lstore_n 1, 1) := by decide +kernel
theorem dX9_digest_237 : decode cX9_digest 237 = .ok (.iinc 3 1, 3) := by decide +kernel
theorem dX9_digest_240 : decode cX9_digest 240 = .ok (.goto (-33), 3) := by decide +kernel
theorem dX9_digest_243 : decode cX9_digest 243 = .ok (.ldc2_w 263, 3) := by decide +kernel
theorem dX9_digest_246 : decode cX9_digest 246 = .ok (.ldc2_w 263, 3) := by decide +kernel
theorem dX9_digest_249 : decode cX9_digest 249 = .ok (.lload_n 1, 1) := by decide +kernel
theorem dX9_digest_250 : decode cX9_digest 250 = .ok (.lmul, 1) := by decide +kernel
theorem dX9_digest_251 : decode cX9_digest 251 = .ok (.aload_n 0, 1) := by decide +kernel
theorem dX9_digest_252 : decode cX9_digest 252 = .ok (.getfield 244, 3) := by decide +kernel
theorem dX9_digest_255 : decode cX9_digest 255 = .ok (.ladd, 1) := by decide +kernel
theorem dX9_digest_256 : decode cX9_digest 256 = .ok (.lmul, 1) := by decide +kernel
theorem dX9_digest_257 : decode cX9_digest 257 = .ok (.aload_n 0, 1) := by decide +kernel
theorem dX9_digest_258 : decode cX9_digest 258 = .ok (.getfield 29, 3) := by decide +kernel
theorem dX9_digest_261 : decode cX9_digest 261 = .ok (.ladd, 1) := by decide +kernel
theorem dX9_digest_262 : decode cX9_digest 262 = .ok (.lreturn, 1) := by decide +kernel
theorem dJ6_bitCount_0f7a4_0 : decode cJ6_bitCount_0f7a4 0 = .ok (.iload_n 0, 1) := by decide +kernel
theorem dJ6_bitCount_0f7a4_1 : decode cJ6_bitCount_0f7a4 1 = .ok (.iload_n 0, 1) := by decide +kernel
theorem dJ6_bitCount_0f7a4_2 : decode cJ6_bitCount_0f7a4 2 = .ok (.iconst 1, 1) := by decide +kernel
theorem dJ6_bitCount_0f7a4_3 : decode cJ6_bitCount_0f7a4 3 = .ok (.iushr, 1) := by decide +kernel
theorem dJ6_bitCount_0f7a4_4 : decode cJ6_bitCount_0f7a4 4 = .ok (.ldc_w 265, 3) := by decide +kernel
theorem dJ6_bitCount_0f7a4_7 : decode cJ6_bitCount_0f7a4 7 = .ok (.iand, 1) := by decide +kernel
theorem dJ6_bitCount_0f7a4_8 : decode cJ6_bitCount_0f7a4 8 = .ok (.isub, 1) := by decide +kernel
theorem dJ6_bitCount_0f7a4_9 : decode cJ6_bitCount_0f7a4 9 = .ok (.istore_n 0, 1) := by decide +kernel
theorem dJ6_bitCount_0f7a4_10 : decode cJ6_bitCount_0f7a4 10 = .ok (.iload_n 0, 1) := by decide +kernel
theorem dJ6_bitCount_0f7a4_11 : decode cJ6_bitCount_0f7a4 11 = .ok (.ldc_w 266, 3) := by decide +kernel
theorem dJ6_bitCount_0f7a4_14 : decode cJ6_bitCount_0f7a4 14 = .ok (.iand, 1) := by decide +kernel
theorem dJ6_bitCount_0f7a4_15 : decode cJ6_bitCount_0f7a4 15 = .ok (.iload_n 0, 1) := by decide +kernel
theorem dJ6_bitCount_0f7a4_16 : decode cJ6_bitCount_0f7a4 16 = .ok (.iconst 2, 1) := by decide +kernel
theorem dJ6_bitCount_0f7a4_17 : decode cJ6_bitCount_0f7a4 17 = .ok (.iushr, 1) := by decide +kernel
theorem dJ6_bitCount_0f7a4_18 : decode cJ6_bitCount_0f7a4 18 = .ok (.ldc_w 266, 3) := by decide +kernel
theorem dJ6_bitCount_0f7a4_21 : decode cJ6_bitCount_0f7a4 21 = .ok (.iand, 1) := by decide +kernel
theorem dJ6_bitCount_0f7a4_22 : decode cJ6_bitCount_0f7a4 22 = .ok (.iadd, 1) := by decide +kernel
theorem dJ6_bitCount_0f7a4_23 : decode cJ6_bitCount_0f7a4 23 = .ok (.istore_n 0, 1) := by decide +kernel
theorem dJ6_bitCount_0f7a4_24 : decode cJ6_bitCount_0f7a4 24 = .ok (.iload_n 0, 1) := by decide +kernel
theorem dJ6_bitCount_0f7a4_25 : decode cJ6_bitCount_0f7a4 25 = .ok (.iload_n 0, 1) := by decide +kernel
theorem dJ6_bitCount_0f7a4_26 : decode cJ6_bitCount_0f7a4 26 = .ok (.iconst 4, 1) := by decide +kernel
theorem dJ6_bitCount_0f7a4_27 : decode cJ6_bitCount_0f7a4 27 = .ok (.iushr, 1) := by decide +kernel
theorem dJ6_bitCount_0f7a4_28 : decode cJ6_bitCount_0f7a4 28 = .ok (.iadd, 1) := by decide +kernel
theorem dJ6_bitCount_0f7a4_29 : decode cJ6_bitCount_0f7a4 29 = .ok (.ldc_w 267, 3) := by decide +kernel
theorem dJ6_bitCount_0f7a4_32 : decode cJ6_bitCount_0f7a4 32 = .ok (.iand, 1) := by decide +kernel
theorem dJ6_bitCount_0f7a4_33 : decode cJ6_bitCount_0f7a4 33 = .ok (.istore_n 0, 1) := by decide +kernel
theorem dJ6_bitCount_0f7a4_34 : decode cJ6_bitCount_0f7a4 34 = .ok (.iload_n 0, 1) := by decide +kernel
theorem dJ6_bitCount_0f7a4_35 : decode cJ6_bitCount_0f7a4 35 = .ok (.iload_n 0, 1) := by decide +kernel
theorem dJ6_bitCount_0f7a4_36 : decode cJ6_bitCount_0f7a4 36 = .ok (.bipush 8, 2) := by decide +kernel
theorem dJ6_bitCount_0f7a4_38 : decode cJ6_bitCount_0f7a4 38 = .ok (.iushr, 1) := by decide +kernel
theorem dJ6_bitCount_0f7a4_39 : decode cJ6_bitCount_0f7a4 39 = .ok (.iadd, 1) := by decide +kernel
theorem dJ6_bitCount_0f7a4_40 : decode cJ6_bitCount_0f7a4 40 = .ok (.istore_n 0, 1) := by decide +kernel
theorem dJ6_bitCount_0f7a4_41 : decode cJ6_bitCount_0f7a4 41 = .ok (.iload_n 0, 1) := by decide +kernel
theorem dJ6_bitCount_0f7a4_42 : decode cJ6_bitCount_0f7a4 42 = .ok (.iload_n 0, 1) := by decide +kernel
theorem dJ6_bitCount_0f7a4_43 : decode cJ6_bitCount_0f7a4 43 = .ok (.bipush 16, 2) := by decide +kernel
theorem dJ6_bitCount_0f7a4_45 : decode cJ6_bitCount_0f7a4 45 = .ok (.iushr, 1) := by decide +kernel
theorem dJ6_bitCount_0f7a4_46 : decode cJ6_bitCount_0f7a4 46 = .ok (.iadd, 1) := by decide +kernel
theorem dJ6_bitCount_0f7a4_47 : decode cJ6_bitCount_0f7a4 47 = .ok (.istore_n 0, 1) := by decide +kernel
theorem dJ6_bitCount_0f7a4_48 : decode cJ6_bitCount_0f7a4 48 = .ok (.iload_n 0, 1) := by decide +kernel
theorem dJ6_bitCount_0f7a4_49 : decode cJ6_bitCount_0f7a4 49 = .ok (.bipush 63, 2) := by decide +kernel
theorem dJ6_bitCount_0f7a4_51 : decode cJ6_bitCount_0f7a4 51 = .ok (.iand, 1) := by decide +kernel
theorem dJ6_bitCount_0f7a4_52 : decode cJ6_bitCount_0f7a4 52 = .ok (.ireturn, 1) := by decide +kernel
theorem dJ9_abs_0f7a4_0 : decode cJ9_abs_0f7a4 0 = .ok (.iload_n 0, 1) := by decide +kernel
theorem dJ9_abs_0f7a4_1 : decode cJ9_abs_0f7a4 1 = .ok (.ifCond .ge 8, 3) := by decide +kernel
theorem dJ9_abs_0f7a4_4 : decode cJ9_abs_0f7a4 4 = .ok (.iload_n 0, 1) := by decide +kernel
theorem dJ9_abs_0f7a4_5 : decode cJ9_abs_0f7a4 5 = .ok (.ineg, 1) := by decide +kernel
theorem dJ9_abs_0f7a4_6 : decode cJ9_abs_0f7a4 6 = .ok (.goto 4, 3) := by decide +kernel
theorem dJ9_abs_0f7a4_9 : decode cJ9_abs_0f7a4 9 = .ok (.iload_n 0, 1) := by decide +kernel
theorem dJ9_abs_0f7a4_10 : decode cJ9_abs_0f7a4 10 = .ok (.ireturn, 1) := by decide +kernel
theorem dJ9_max_7cf53_0 : decode cJ9_max_7cf53 0 = .ok (.iload_n 0, 1) := by decide +kernel
theorem dJ9_max_7cf53_1 : decode cJ9_max_7cf53 1 = .ok (.iload_n 1, 1) := by decide +kernel
theorem dJ9_max_7cf53_2 : decode cJ9_max_7cf53 2 = .ok (.if_icmp .lt 7, 3) := by decide +kernel
theorem dJ9_max_7cf53_5 : decode cJ9_max_7cf53 5 = .ok (.iload_n 0, 1) := by decide +kernel
theorem dJ9_max_7cf53_6 : decode cJ9_max_7cf53 6 = .ok (.goto 4, 3) := by decide +kernel
theorem dJ9_max_7cf53_9 : decode cJ9_max_7cf53 9 = .ok (.iload_n 1, 1) := by decide +kernel
theorem dJ9_max_7cf53_10 : decode cJ9_max_7cf53 10 = .ok (.ireturn, 1) := by decide +kernel
theorem dJ9_min_7cf53_0 : decode cJ9_min_7cf53 0 = .ok (.iload_n 0, 1) := by decide +kernel
theorem dJ9_min_7cf53_1 : decode cJ9_min_7cf53 1 = .ok (.iload_n 1, 1) := by decide +kernel
theorem dJ9_min_7cf53_2 : decode cJ9_min_7cf53 2 = .ok (.if_icmp .gt 7, 3) := by decide +kernel
theorem dJ9_min_7cf53_5 : decode cJ9_min_7cf53 5 = .ok (.iload_n 0, 1) := by decide +kernel
theorem dJ9_min_7cf53_6 : decode cJ9_min_7cf53 6 = .ok (.goto 4, 3) := by decide +kernel
theorem dJ9_min_7cf53_9 : decode cJ9_min_7cf53 9 = .ok (.iload_n 1, 1) := by decide +kernel
theorem dJ9_min_7cf53_10 : decode cJ9_min_7cf53 10 = .ok (.ireturn, 1) := by decide +kernel
theorem dJ0_length_8abf5_0 : decode cJ0_length_8abf5 0 = .ok (.aload_n 0, 1) := by decide +kernel
theorem dJ0_length_8abf5_1 : decode cJ0_length_8abf5 1 = .ok (.getfield 9, 3) := by decide +kernel
theorem dJ0_length_8abf5_4 : decode cJ0_length_8abf5 4 = .ok (.arraylength, 1) := by decide +kernel
theorem dJ0_length_8abf5_5 : decode cJ0_length_8abf5 5 = .ok (.aload_n 0, 1) := by decide +kernel
theorem dJ0_length_8abf5_6 : decode cJ0_length_8abf5 6 = .ok (.invokevirtual 335, 3) := by decide +kernel
theorem dJ0_length_8abf5_9 : decode cJ0_length_8abf5 9 = .ok (.ishr, 1) := by decide +kernel
theorem dJ0_length_8abf5_10 : decode cJ0_length_8abf5 10 = .ok (.ireturn, 1) := by decide +kernel
theorem dJ0_charAt_5068e_0 : decode cJ0_charAt_5068e 0 = .ok (.aload_n 0, 1) := by decide +kernel
theorem dJ0_charAt_5068e_1 : decode cJ0_charAt_5068e 1 = .ok (.invokevirtual 492, 3) := by decide +kernel
theorem dJ0_charAt_5068e_4 : decode cJ0_charAt_5068e 4 = .ok (.ifCond .eq 12, 3) := by decide +kernel
theorem dJ0_charAt_5068e_7 : decode cJ0_charAt_5068e 7 = .ok (.aload_n 0, 1) := by decide +kernel
theorem dJ0_charAt_5068e_8 : decode cJ0_charAt_5068e 8 = .ok (.getfield 9, 3) := by decide +kernel
theorem dJ0_charAt_5068e_11 : decode cJ0_charAt_5068e 11 = .ok (.iload_n 1, 1) := by decide +kernel
theorem dJ0_charAt_5068e_12 : decode cJ0_charAt_5068e 12 = .ok (.invokestatic 495, 3) := by decide +kernel
theorem dJ0_charAt_5068e_15 : decode cJ0_charAt_5068e 15 = .ok (.ireturn, 1) := by decide +kernel
theorem dJ0_charAt_5068e_16 : decode cJ0_charAt_5068e 16 = .ok (.aload_n 0, 1) := by decide +kernel
theorem dJ0_charAt_5068e_17 : decode cJ0_charAt_5068e 17 = .ok (.getfield 9, 3) := by decide +kernel
theorem dJ0_charAt_5068e_20 : decode cJ0_charAt_5068e 20 = .ok (.iload_n 1, 1) := by decide +kernel
theorem dJ0_charAt_5068e_21 : decode cJ0_charAt_5068e 21 = .ok (.invokestatic 498, 3) := by decide +kernel
theorem dJ0_charAt_5068e_24 : decode cJ0_charAt_5068e 24 = .ok (.ireturn, 1) := by decide +kernel
theorem dJ0_coder_7d493_0 : decode cJ0_coder_7d493 0 = .ok (.getstatic 38, 3) := by decide +kernel
theorem dJ0_coder_7d493_3 : decode cJ0_coder_7d493 3 = .ok (.ifCond .eq 10, 3) := by decide +kernel
theorem dJ0_coder_7d493_6 : decode cJ0_coder_7d493 6 = .ok (.aload_n 0, 1) := by decide +kernel
theorem dJ0_coder_7d493_7 : decode cJ0_coder_7d493 7 = .ok (.getfield 15, 3) := by decide +kernel
theorem dJ0_coder_7d493_10 : decode cJ0_coder_7d493 10 = .ok (.goto 4, 3) := by decide +kernel
theorem dJ0_coder_7d493_13 : decode cJ0_coder_7d493 13 = .ok (.iconst 1, 1) := by decide +kernel
theorem dJ0_coder_7d493_14 : decode cJ0_coder_7d493 14 = .ok (.ireturn, 1) := by decide +kernel
theorem dJ0_isLatin1_aae02_0 : decode cJ0_isLatin1_aae02 0 = .ok (.getstatic 38, 3) := by decide +kernel
theorem dJ0_isLatin1_aae02_3 : decode cJ0_isLatin1_aae02 3 = .ok (.ifCond .eq 14, 3) := by decide +kernel
theorem dJ0_isLatin1_aae02_6 : decode cJ0_isLatin1_aae02 6 = .ok (.aload_n 0, 1) := by decide +kernel
theorem dJ0_isLatin1_aae02_7 : decode cJ0_isLatin1_aae02 7 = .ok (.getfield 15, 3) := by decide +kernel
theorem dJ0_isLatin1_aae02_10 : decode cJ0_isLatin1_aae02 10 = .ok (.ifCond .ne 7, 3) := by decide +kernel
theorem dJ0_isLatin1_aae02_13 : decode cJ0_isLatin1_aae02 13 = .ok (.iconst 1, 1) := by decide +kernel
theorem dJ0_isLatin1_aae02_14 : decode cJ0_isLatin1_aae02 14 = .ok (.goto 4, 3) := by decide +kernel
theorem dJ0_isLatin1_aae02_17 : decode cJ0_isLatin1_aae02 17 = .ok (.iconst 0, 1) := by decide +kernel
theorem dJ0_isLatin1_aae02_18 : decode cJ0_isLatin1_aae02 18 = .ok (.ireturn, 1) := by decide +kernel
theorem dJ0_checkIndex_df160_0 : decode cJ0_checkIndex_df160 0 = .ok (.iload_n 0, 1) := by decide +kernel
theorem dJ0_checkIndex_df160_1 : decode cJ0_checkIndex_df160 1 = .ok (.iload_n 1, 1) := by decide +kernel
theorem dJ0_checkIndex_df160_2 : decode cJ0_checkIndex_df160 2 = .ok (.getstatic 1053, 3) := by decide +kernel
theorem dJ0_checkIndex_df160_5 : decode cJ0_checkIndex_df160 5 = .ok (.invokestatic 1059, 3) := by decide +kernel
theorem dJ0_checkIndex_df160_8 : decode cJ0_checkIndex_df160 8 = .ok (.pop, 1) := by decide +kernel
theorem dJ0_checkIndex_df160_9 : decode cJ0_checkIndex_df160 9 = .ok (.return_, 1) := by decide +kernel
theorem dJ1_charAt_3b067_0 : decode cJ1_charAt_3b067 0 = .ok (.iload_n 1, 1) := by decide +kernel
theorem dJ1_charAt_3b067_1 : decode cJ1_charAt_3b067 1 = .ok (.aload_n 0, 1) := by decide +kernel
theorem dJ1_charAt_3b067_2 : decode cJ1_charAt_3b067 2 = .ok (.arraylength, 1) := by decide +kernel
theorem dJ1_charAt_3b067_3 : decode cJ1_charAt_3b067 3 = .ok (.invokestatic 9, 3) := by decide +kernel
theorem dJ1_charAt_3b067_6 : decode cJ1_charAt_3b067 6 = .ok (.aload_n 0, 1) := by decide +kernel
theorem dJ1_charAt_3b067_7 : decode cJ1_charAt_3b067 7 = .ok (.iload_n 1, 1) := by decide +kernel
theorem dJ1_charAt_3b067_8 : decode cJ1_charAt_3b067 8 = .ok (.baload, 1) := by decide +kernel
theorem dJ1_charAt_3b067_9 : decode cJ1_charAt_3b067 9 = .ok (.sipush 255, 3) := by decide +kernel
theorem dJ1_charAt_3b067_12 : decode cJ1_charAt_3b067 12 = .ok (.iand, 1) := by decide +kernel
theorem dJ1_charAt_3b067_13 : decode cJ1_charAt_3b067 13 = .ok (.i2c, 1) := by decide +kernel
theorem dJ1_charAt_3b067_14 : decode cJ1_charAt_3b067 14 = .ok (.ireturn, 1) := by decide +kernel
theorem dJ2_getChar_3b067_0 : decode cJ2_getChar_3b067 0 = .ok (.getstatic 44, 3) := by decide +kernel
theorem dJ2_getChar_3b067_3 : decode cJ2_getChar_3b067 3 = .ok (.ifCond .ne 25, 3) := by decide +kernel
theorem dJ2_getChar_3b067_6 : decode cJ2_getChar_3b067 6 = .ok (.iload_n 1, 1) := by decide +kernel
theorem dJ2_getChar_3b067_7 : decode cJ2_getChar_3b067 7 = .ok (.ifCond .lt 11, 3) := by decide +kernel
theorem dJ2_getChar_3b067_10 : decode cJ2_getChar_3b067 10 = .ok (.iload_n 1, 1) := by decide +kernel
theorem dJ2_getChar_3b067_11 : decode cJ2_getChar_3b067 11 = .ok (.aload_n 0, 1) := by decide +kernel
theorem dJ2_getChar_3b067_12 : decode cJ2_getChar_3b067 12 = .ok (.invokestatic 48, 3) := by decide +kernel
theorem dJ2_getChar_3b067_15 : decode cJ2_getChar_3b067 15 = .ok (.if_icmp .lt 13, 3) := by decide +kernel
theorem dJ2_getChar_3b067_18 : decode cJ2_getChar_3b067 18 = .ok (.new 52, 3) := by decide +kernel
theorem dJ2_getChar_3b067_21 : decode cJ2_getChar_3b067 21 = .ok (.dup, 1) := by decide +kernel
theorem dJ2_getChar_3b067_22 : decode cJ2_getChar_3b067 22 = .ok (.ldc 54, 2) := by decide +kernel
theorem dJ2_getChar_3b067_24 : decode cJ2_getChar_3b067 24 = .ok (.invokespecial 56, 3) := by decide +kernel
theorem dJ2_getChar_3b067_27 : decode cJ2_getChar_3b067 27 = .ok (.athrow, 1) := by decide +kernel
theorem dJ2_getChar_3b067_28 : decode cJ2_getChar_3b067 28 = .ok (.iload_n 1, 1) := by decide +kernel
theorem dJ2_getChar_3b067_29 : decode cJ2_getChar_3b067 29 = .ok (.iconst 1, 1) := by decide +kernel
theorem dJ2_getChar_3b067_30 : decode cJ2_getChar_3b067 30 = .ok (.ishl, 1) := by decide +kernel
theorem dJ2_getChar_3b067_31 : decode cJ2_getChar_3b067 31 = .ok (.istore_n 1, 1) := by decide +kernel
theorem dJ2_getChar_3b067_32 : decode cJ2_getChar_3b067 32 = .ok (.aload_n 0, 1) := by decide +kernel
theorem dJ2_getChar_3b067_33 : decode cJ2_getChar_3b067 33 = .ok (.iload_n 1, 1) := by decide +kernel
theorem dJ2_getChar_3b067_34 : decode cJ2_getChar_3b067 34 = .ok (.iinc 1 1, 3) := by decide +kernel
theorem dJ2_getChar_3b067_37 : decode cJ2_getChar_3b067 37 = .ok (.baload, 1) := by decide +kernel
theorem dJ2_getChar_3b067_38 : decode cJ2_getChar_3b067 38 = .ok (.sipush 255, 3) := by decide +kernel
theorem dJ2_getChar_3b067_41 : decode cJ2_getChar_3b067 41 = .ok (.iand, 1) := by decide +kernel
theorem dJ2_getChar_3b067_42 : decode cJ2_getChar_3b067 42 = .ok (.getstatic 59, 3) := by decide +kernel
theorem dJ2_getChar_3b067_45 : decode cJ2_getChar_3b067 45 = .ok (.ishl, 1) := by decide +kernel
theorem dJ2_getChar_3b067_46 : decode cJ2_getChar_3b067 46 = .ok (.aload_n 0, 1) := by decide +kernel
theorem dJ2_getChar_3b067_47 : decode cJ2_getChar_3b067 47 = .ok (.iload_n 1, 1) := by decide +kernel
theorem dJ2_getChar_3b067_48 : decode cJ2_getChar_3b067 48 = .ok (.baload, 1) := by decide +kernel
theorem dJ2_getChar_3b067_49 : decode cJ2_getChar_3b067 49 = .ok (.sipush 255, 3) := by decide +kernel
theorem dJ2_getChar_3b067_52 : decode cJ2_getChar_3b067 52 = .ok (.iand, 1) := by decide +kernel
theorem dJ2_getChar_3b067_53 : decode cJ2_getChar_3b067 53 = .ok (.getstatic 63, 3) := by decide +kernel
theorem dJ2_getChar_3b067_56 : decode cJ2_getChar_3b067 56 = .ok (.ishl, 1) := by decide +kernel
theorem dJ2_getChar_3b067_57 : decode cJ2_getChar_3b067 57 = .ok (.ior, 1) := by decide +kernel
theorem dJ2_getChar_3b067_58 : decode cJ2_getChar_3b067 58 = .ok (.i2c, 1) := by decide +kernel
theorem dJ2_getChar_3b067_59 : decode cJ2_getChar_3b067 59 = .ok (.ireturn, 1) := by decide +kernel
theorem dJ2_length_9d52b_0 : decode cJ2_length_9d52b 0 = .ok (.aload_n 0, 1) := by decide +kernel
theorem dJ2_length_9d52b_1 : decode cJ2_length_9d52b 1 = .ok (.arraylength, 1) := by decide +kernel
theorem dJ2_length_9d52b_2 : decode cJ2_length_9d52b 2 = .ok (.iconst 1, 1) := by decide +kernel
theorem dJ2_length_9d52b_3 : decode cJ2_length_9d52b 3 = .ok (.ishr, 1) := by decide +kernel
theorem dJ2_length_9d52b_4 : decode cJ2_length_9d52b 4 = .ok (.ireturn, 1) := by decide +kernel
theorem dJ2_charAt_3b067_0 : decode cJ2_charAt_3b067 0 = .ok (.iload_n 1, 1) := by decide +kernel
theorem dJ2_charAt_3b067_1 : decode cJ2_charAt_3b067 1 = .ok (.aload_n 0, 1) := by decide +kernel
theorem dJ2_charAt_3b067_2 : decode cJ2_charAt_3b067 2 = .ok (.invokestatic 67, 3) := by decide +kernel
theorem dJ2_charAt_3b067_5 : decode cJ2_charAt_3b067 5 = .ok (.aload_n 0, 1) := by decide +kernel
theorem dJ2_charAt_3b067_6 : decode cJ2_charAt_3b067 6 = .ok (.iload_n 1, 1) := by decide +kernel
theorem dJ2_charAt_3b067_7 : decode cJ2_charAt_3b067 7 = .ok (.invokestatic 71, 3) := by decide +kernel
theorem dJ2_charAt_3b067_10 : decode cJ2_charAt_3b067 10 = .ok (.ireturn, 1) := by decide +kernel
theorem dJ2_checkIndex_2214a_0 : decode cJ2_checkIndex_2214a 0 = .ok (.iload_n 0, 1) := by decide +kernel
theorem dJ2_checkIndex_2214a_1 : decode cJ2_checkIndex_2214a 1 = .ok (.aload_n 1, 1) := by decide +kernel
theorem dJ2_checkIndex_2214a_2 : decode cJ2_checkIndex_2214a 2 = .ok (.invokestatic 48, 3) := by decide +kernel
theorem dJ2_checkIndex_2214a_5 : decode cJ2_checkIndex_2214a 5 = .ok (.invokestatic 414, 3) := by decide +kernel
theorem dJ2_checkIndex_2214a_8 : decode cJ2_checkIndex_2214a 8 = .ok (.return_, 1) := by decide +kernel
theorem dJ3_checkIndex_8e157_0 : decode cJ3_checkIndex_8e157 0 = .ok (.iload_n 0, 1) := by decide +kernel
theorem dJ3_checkIndex_8e157_1 : decode cJ3_checkIndex_8e157 1 = .ok (.ifCond .lt 8, 3) := by decide +kernel
theorem dJ3_checkIndex_8e157_4 : decode cJ3_checkIndex_8e157 4 = .ok (.iload_n 0, 1) := by decide +kernel
theorem dJ3_checkIndex_8e157_5 : decode cJ3_checkIndex_8e157 5 = .ok (.iload_n 1, 1) := by decide +kernel
theorem dJ3_checkIndex_8e157_6 : decode cJ3_checkIndex_8e157 6 = .ok (.if_icmp .lt 10, 3) := by decide +kernel
theorem dJ3_checkIndex_8e157_9 : decode cJ3_checkIndex_8e157 9 = .ok (.aload_n 2, 1) := by decide +kernel
theorem dJ3_checkIndex_8e157_10 : decode cJ3_checkIndex_8e157 10 = .ok (.iload_n 0, 1) := by decide +kernel
theorem dJ3_checkIndex_8e157_11 : decode cJ3_checkIndex_8e157 11 = .ok (.iload_n 1, 1) := by decide +kernel
theorem dJ3_checkIndex_8e157_12 : decode cJ3_checkIndex_8e157 12 = .ok (.invokestatic 95, 3) := by decide +kernel
theorem dJ3_checkIndex_8e157_15 : decode cJ3_checkIndex_8e157 15 = .ok (.athrow, 1) := by decide +kernel
theorem dJ3_checkIndex_8e157_16 : decode cJ3_checkIndex_8e157 16 = .ok (.iload_n 0, 1) := by decide +kernel
theorem dJ3_checkIndex_8e157_17 : decode cJ3_checkIndex_8e157 17 = .ok (.ireturn, 1) := by decide +kernel
theorem dL_law_0 : decode cL_law 0 = .ok (.new 7, 3) := by decide +kernel
theorem dL_law_3 : decode cL_law 3 = .ok (.dup, 1) := by decide +kernel
theorem dL_law_4 : decode cL_law 4 = .ok (.invokespecial 9, 3) := by decide +kernel
theorem dL_law_7 : decode cL_law 7 = .ok (.astore_n 1, 1) := by decide +kernel
theorem dL_law_8 : decode cL_law 8 = .ok (.new 10, 3) := by decide +kernel
theorem dL_law_11 : decode cL_law 11 = .ok (.dup, 1) := by decide +kernel
theorem dL_law_12 : decode cL_law 12 = .ok (.invokespecial 12, 3) := by decide +kernel
theorem dL_law_15 : decode cL_law 15 = .ok (.astore_n 2, 1) := by decide +kernel
theorem dL_law_16 : decode cL_law 16 = .ok (.iconst 0, 1) := by decide +kernel
theorem dL_law_17 : decode cL_law 17 = .ok (.istore_n 3, 1) := by decide +kernel
theorem dL_law_18 : decode cL_law 18 = .ok (.iload_n 3, 1) := by decide +kernel
theorem dL_law_19 : decode cL_law 19 = .ok (.aload_n 0, 1) := by decide +kernel
theorem dL_law_20 : decode cL_law 20 = .ok (.arraylength, 1) := by decide +kernel
theorem dL_law_21 : decode cL_law 21 = .ok (.iconst 4, 1) := by decide +kernel
theorem dL_law_22 : decode cL_law 22 = .ok (.isub, 1) := by decide +kernel
theorem dL_law_23 : decode cL_law 23 = .ok (.if_icmp .gt 1081, 3) := by decide +kernel
theorem dL_law_26 : decode cL_law 26 = .ok (.aload_n 0, 1) := by decide +kernel
theorem dL_law_27 : decode cL_law 27 = .ok (.iload_n 3, 1) := by decide +kernel
theorem dL_law_28 : decode cL_law 28 = .ok (.iaload, 1) := by decide +kernel
theorem dL_law_29 : decode cL_law 29 = .ok (.bipush 63, 2) := by decide +kernel
theorem dL_law_31 : decode cL_law 31 = .ok (.iand, 1) := by decide +kernel
theorem dL_law_32 : decode cL_law 32 = .ok (.tableswitch 1066 0 33 #[152, 165, 208, 231, 254, 277, 290, 303, 326, 359, 392, 405, 438, 471, 494, 537, 570, 593, 626, 659, 692, 735, 748, 771, 794, 837, 880, 903, 936, 960, 983, 1006, 1029, 1052], 152) := by decide +kernel
theorem dL_law_184 : decode cL_law 184 = .ok (.aload_n 1, 1) := by decide +kernel
theorem dL_law_185 : decode cL_law 185 = .ok (.invokevirtual 13, 3) := by decide +kernel
theorem dL_law_188 : decode cL_law 188 = .ok (.aload_n 2, 1) := by decide +kernel
theorem dL_law_189 : decode cL_law 189 = .ok (.invokevirtual 17, 3) := by decide +kernel
theorem dL_law_192 : decode cL_law 192 = .ok (.if_icmp .eq 906, 3) := by decide +kernel
theorem dL_law_195 : decode cL_law 195 = .ok (.iconst 0, 1) := by decide +kernel
theorem dL_law_196 : decode cL_law 196 = .ok (.ireturn, 1) := by decide +kernel
theorem dL_law_197 : decode cL_law 197 = .ok (.aload_n 1, 1) := by decide +kernel
theorem dL_law_198 : decode cL_law 198 = .ok (.aload_n 0, 1) := by decide +kernel
theorem dL_law_199 : decode cL_law 199 = .ok (.iload_n 3, 1) := by decide +kernel
theorem dL_law_200 : decode cL_law 200 = .ok (.iconst 1, 1) := by decide +kernel
theorem dL_law_201 : decode cL_law 201 = .ok (.iadd, 1) := by decide +kernel
theorem dL_law_202 : decode cL_law 202 = .ok (.iaload, 1) := by decide +kernel
theorem dL_law_203 : decode cL_law 203 = .ok (.aload_n 0, 1) := by decide +kernel
theorem dL_law_204 : decode cL_law 204 = .ok (.iload_n 3, 1) := by decide +kernel
theorem dL_law_205 : decode cL_law 205 = .ok (.iconst 2, 1) := by decide +kernel
theorem dL_law_206 : decode cL_law 206 = .ok (.iadd, 1) := by decide +kernel
theorem dL_law_207 : decode cL_law 207 = .ok (.iaload, 1) := by decide +kernel
theorem dL_law_208 : decode cL_law 208 = .ok (.aload_n 0, 1) := by decide +kernel
theorem dL_law_209 : decode cL_law 209 = .ok (.iload_n 3, 1) := by decide +kernel
theorem dL_law_210 : decode cL_law 210 = .ok (.iconst 3, 1) := by decide +kernel
theorem dL_law_211 : decode cL_law 211 = .ok (.iadd, 1) := by decide +kernel
theorem dL_law_212 : decode cL_law 212 = .ok (.iaload, 1) := by decide +kernel
theorem dL_law_213 : decode cL_law 213 = .ok (.invokevirtual 18, 3) := by decide +kernel
theorem dL_law_216 : decode cL_law 216 = .ok (.aload_n 2, 1) := by decide +kernel
theorem dL_law_217 : decode cL_law 217 = .ok (.aload_n 0, 1) := by decide +kernel
theorem dL_law_218 : decode cL_law 218 = .ok (.iload_n 3, 1) := by decide +kernel
theorem dL_law_219 : decode cL_law 219 = .ok (.iconst 1, 1) := by decide +kernel
theorem dL_law_220 : decode cL_law 220 = .ok (.iadd, 1) := by decide +kernel
theorem dL_law_221 : decode cL_law 221 = .ok (.iaload, 1) := by decide +kernel
theorem dL_law_222 : decode cL_law 222 = .ok (.aload_n 0, 1) := by decide +kernel
theorem dL_law_223 : decode cL_law 223 = .ok (.iload_n 3, 1) := by decide +kernel
theorem dL_law_224 : decode cL_law 224 = .ok (.iconst 2, 1) := by decide +kernel
theorem dL_law_225 : decode cL_law 225 = .ok (.iadd, 1) := by decide +kernel
theorem dL_law_226 : decode cL_law 226 = .ok (.iaload, 1) := by decide +kernel
theorem dL_law_227 : decode cL_law 227 = .ok (.aload_n 0, 1) := by decide +kernel
theorem dL_law_228 : decode cL_law 228 = .ok (.iload_n 3, 1) := by decide +kernel
theorem dL_law_229 : decode cL_law 229 = .ok (.iconst 3, 1) := by decide +kernel
theorem dL_law_230 : decode cL_law 230 = .ok (.iadd, 1) := by decide +kernel
theorem dL_law_231 : decode cL_law 231 = .ok (.iaload, 1) := by decide +kernel
theorem dL_law_232 : decode cL_law 232 = .ok (.invokevirtual 22, 3) := by decide +kernel
theorem dL_law_235 : decode cL_law 235 = .ok (.if_icmp .eq 863, 3) := by decide +kernel
theorem dL_law_238 : decode cL_law 238 = .ok (.iconst 0, 1) := by decide +kernel
theorem dL_law_239 : decode cL_law 239 = .ok (.ireturn, 1) := by decide +kernel
theorem dL_law_240 : decode cL_law 240 = .ok (.aload_n 1, 1) := by decide +kernel
theorem dL_law_241 : decode cL_law 241 = .ok (.aload_n 0, 1) := by decide +kernel
theorem dL_law_242 : decode cL_law 242 = .ok (.iload_n 3, 1) := by decide +kernel
theorem dL_law_243 : decode cL_law 243 = .ok (.iconst 1, 1) := by decide +kernel
theorem dL_law_244 : decode cL_law 244 = .ok (.iadd, 1) := by decide +kernel
theorem dL_law_245 : decode cL_law 245 = .ok (.iaload, 1) := by decide +kernel
theorem dL_law_246 : decode cL_law 246 = .ok (.invokevirtual 23, 3) := by decide +kernel
theorem dL_law_249 : decode cL_law 249 = .ok (.aload_n 2, 1) := by decide +kernel
theorem dL_law_250 : decode cL_law 250 = .ok (.aload_n 0, 1) := by decide +kernel
theorem dL_law_251 : decode cL_law 251 = .ok (.iload_n 3, 1) := by decide +kernel
theorem dL_law_252 : decode cL_law 252 = .ok (.iconst 1, 1) := by decide +kernel
theorem dL_law_253 : decode cL_law 253 = .ok (.iadd, 1) := by decide +kernel
theorem dL_law_254 : decode cL_law 254 = .ok (.iaload, 1) := by decide +kernel
theorem dL_law_255 : decode cL_law 255 = .ok (.invokevirtual 27, 3) := by decide +kernel
theorem dL_law_258 : decode cL_law 258 = .ok (.if_icmp .eq 840, 3) := by decide +kernel
theorem dL_law_261 : decode cL_law 261 = .ok (.iconst 0, 1) := by decide +kernel
theorem dL_law_262 : decode cL_law 262 = .ok (.ireturn, 1) := by decide +kernel
theorem dL_law_263 : decode cL_law 263 = .ok (.aload_n 1, 1) := by decide +kernel
theorem dL_law_264 : decode cL_law 264 = .ok (.aload_n 0, 1) := by decide +kernel
theorem dL_law_265 : decode cL_law 265 = .ok (.iload_n 3, 1) := by decide +kernel
theorem dL_law_266 : decode cL_law 266 = .ok (.iconst 1, 1) := by decide +kernel
theorem dL_law_267 : decode cL_law 267 = .ok (.iadd, 1) := by decide +kernel
theorem dL_law_268 : decode cL_law 268 = .ok (.iaload, 1) := by decide +kernel
theorem dL_law_269 : decode cL_law 269 = .ok (.invokevirtual 28, 3) := by decide +kernel
theorem dL_law_272 : decode cL_law 272 = .ok (.aload_n 2, 1) := by decide +kernel
theorem dL_law_273 : decode cL_law 273 = .ok (.aload_n 0, 1) := by decide +kernel
theorem dL_law_274 : decode cL_law 274 = .ok (.iload_n 3, 1) := by decide +kernel
theorem dL_law_275 : decode cL_law 275 = .ok (.iconst 1, 1) := by decide +kernel
theorem dL_law_276 : decode cL_law 276 = .ok (.iadd, 1) := by decide +kernel
theorem dL_law_277 : decode cL_law 277 = .ok (.iaload, 1) := by decide +kernel
theorem dL_law_278 : decode cL_law 278 = .ok (.invokevirtual 31, 3) := by decide +kernel
theorem dL_law_281 : decode cL_law 281 = .ok (.if_icmp .eq 817, 3) := by decide +kernel
theorem dL_law_284 : decode cL_law 284 = .ok (.iconst 0, 1) := by decide +kernel
theorem dL_law_285 : decode cL_law 285 = .ok (.ireturn, 1) := by decide +kernel
theorem dL_law_286 : decode cL_law 286 = .ok (.aload_n 1, 1) := by decide +kernel
theorem dL_law_287 : decode cL_law 287 = .ok (.aload_n 0, 1) := by decide +kernel
theorem dL_law_288 : decode cL_law 288 = .ok (.iload_n 3, 1) := by decide +kernel
theorem dL_law_289 : decode cL_law 289 = .ok (.iconst 1, 1) := by decide +kernel
theorem dL_law_290 : decode cL_law 290 = .ok (.iadd, 1) := by decide +kernel
theorem dL_law_291 : decode cL_law 291 = .ok (.iaload, 1) := by decide +kernel
theorem dL_law_292 : decode cL_law 292 = .ok (.invokevirtual 32, 3) := by decide +kernel
theorem dL_law_295 : decode cL_law 295 = .ok (.aload_n 2, 1) := by decide +kernel
theorem dL_law_296 : decode cL_law 296 = .ok (.aload_n 0, 1) := by decide +kernel
theorem dL_law_297 : decode cL_law 297 = .ok (.iload_n 3, 1) := by decide +kernel
theorem dL_law_298 : decode cL_law 298 = .ok (.iconst 1, 1) := by decide +kernel
theorem dL_law_299 : decode cL_law 299 = .ok (.iadd, 1) := by decide +kernel
theorem dL_law_300 : decode cL_law 300 = .ok (.iaload, 1) := by decide +kernel
theorem dL_law_301 : decode cL_law 301 = .ok (.invokevirtual 35, 3) := by decide +kernel
theorem dL_law_304 : decode cL_law 304 = .ok (.if_icmp .eq 794, 3) := by decide +kernel
theorem dL_law_307 : decode cL_law 307 = .ok (.iconst 0, 1) := by decide +kernel
theorem dL_law_308 : decode cL_law 308 = .ok (.ireturn, 1) := by decide +kernel
theorem dL_law_309 : decode cL_law 309 = .ok (.aload_n 1, 1) := by decide +kernel
theorem dL_law_310 : decode cL_law 310 = .ok (.invokevirtual 36, 3) := by decide +kernel
theorem dL_law_313 : decode cL_law 313 = .ok (.aload_n 2, 1) := by decide +kernel
theorem dL_law_314 : decode cL_law 314 = .ok (.invokevirtual 39, 3) := by decide +kernel
theorem dL_law_317 : decode cL_law 317 = .ok (.if_icmp .eq 781, 3) := by decide +kernel
theorem dL_law_320 : decode cL_law 320 = .ok (.iconst 0, 1) := by decide +kernel
theorem dL_law_321 : decode cL_law 321 = .ok (.ireturn, 1) := by decide +kernel
theorem dL_law_322 : decode cL_law 322 = .ok (.aload_n 1, 1) := by decide +kernel
theorem dL_law_323 : decode cL_law 323 = .ok (.invokevirtual 40, 3) := by decide +kernel
theorem dL_law_326 : decode cL_law 326 = .ok (.aload_n 2, 1) := by decide +kernel
theorem dL_law_327 : decode cL_law 327 = .ok (.invokevirtual 43, 3) := by decide +kernel
theorem dL_law_330 : decode cL_law 330 = .ok (.if_icmp .eq 768, 3) := by decide +kernel
theorem dL_law_333 : decode cL_law 333 = .ok (.iconst 0, 1) := by decide +kernel
theorem dL_law_334 : decode cL_law 334 = .ok (.ireturn, 1) := by decide +kernel
theorem dL_law_335 : decode cL_law 335 = .ok (.aload_n 1, 1) := by decide +kernel
theorem dL_law_336 : decode cL_law 336 = .ok (.aload_n 0, 1) := by decide +kernel
theorem dL_law_337 : decode cL_law 337 = .ok (.iload_n 3, 1) := by decide +kernel
theorem dL_law_338 : decode cL_law 338 = .ok (.iconst 1, 1) := by decide +kernel
theorem dL_law_339 : decode cL_law 339 = .ok (.iadd, 1) := by decide +kernel
theorem dL_law_340 : decode cL_law 340 = .ok (.iaload, 1) := by decide +kernel
theorem dL_law_341 : decode cL_law 341 = .ok (.invokevirtual 44, 3) := by decide +kernel
theorem dL_law_344 : decode cL_law 344 = .ok (.aload_n 2, 1) := by decide +kernel
theorem dL_law_345 : decode cL_law 345 = .ok (.aload_n 0, 1) := by decide +kernel
theorem dL_law_346 : decode cL_law 346 = .ok (.iload_n 3, 1) := by decide +kernel
theorem dL_law_347 : decode cL_law 347 = .ok (.iconst 1, 1) := by decide +kernel
theorem dL_law_348 : decode cL_law 348 = .ok (.iadd, 1) := by decide +kernel
theorem dL_law_349 : decode cL_law 349 = .ok (.iaload, 1) := by decide +kernel
theorem dL_law_350 : decode cL_law 350 = .ok (.invokevirtual 47, 3) := by decide +kernel
theorem dL_law_353 : decode cL_law 353 = .ok (.if_icmp .eq 745, 3) := by decide +kernel
theorem dL_law_356 : decode cL_law 356 = .ok (.iconst 0, 1) := by decide +kernel
theorem dL_law_357 : decode cL_law 357 = .ok (.ireturn, 1) := by decide +kernel
theorem dL_law_358 : decode cL_law 358 = .ok (.aload_n 1, 1) := by decide +kernel
theorem dL_law_359 : decode cL_law 359 = .ok (.aload_n 0, 1) := by decide +kernel
theorem dL_law_360 : decode cL_law 360 = .ok (.iload_n 3, 1) := by decide +kernel
theorem dL_law_361 : decode cL_law 361 = .ok (.iconst 1, 1) := by decide +kernel
theorem dL_law_362 : decode cL_law 362 = .ok (.iadd, 1) := by decide +kernel
theorem dL_law_363 : decode cL_law 363 = .ok (.iaload, 1) := by decide +kernel
theorem dL_law_364 : decode cL_law 364 = .ok (.aload_n 0, 1) := by decide +kernel
theorem dL_law_365 : decode cL_law 365 = .ok (.iload_n 3, 1) := by decide +kernel
theorem dL_law_366 : decode cL_law 366 = .ok (.iconst 2, 1) := by decide +kernel
theorem dL_law_367 : decode cL_law 367 = .ok (.iadd, 1) := by decide +kernel
theorem dL_law_368 : decode cL_law 368 = .ok (.iaload, 1) := by decide +kernel
theorem dL_law_369 : decode cL_law 369 = .ok (.invokevirtual 48, 3) := by decide +kernel
theorem dL_law_372 : decode cL_law 372 = .ok (.aload_n 2, 1) := by decide +kernel
theorem dL_law_373 : decode cL_law 373 = .ok (.aload_n 0, 1) := by decide +kernel
theorem dL_law_374 : decode cL_law 374 = .ok (.iload_n 3, 1) := by decide +kernel
theorem dL_law_375 : decode cL_law 375 = .ok (.iconst 1, 1) := by decide +kernel
theorem dL_law_376 : decode cL_law 376 = .ok (.iadd, 1) := by decide +kernel
theorem dL_law_377 : decode cL_law 377 = .ok (.iaload, 1) := by decide +kernel
theorem dL_law_378 : decode cL_law 378 = .ok (.aload_n 0, 1) := by decide +kernel
theorem dL_law_379 : decode cL_law 379 = .ok (.iload_n 3, 1) := by decide +kernel
theorem dL_law_380 : decode cL_law 380 = .ok (.iconst 2, 1) := by decide +kernel
theorem dL_law_381 : decode cL_law 381 = .ok (.iadd, 1) := by decide +kernel
theorem dL_law_382 : decode cL_law 382 = .ok (.iaload, 1) := by decide +kernel
theorem dL_law_383 : decode cL_law 383 = .ok (.invokevirtual 52, 3) := by decide +kernel
theorem dL_law_386 : decode cL_law 386 = .ok (.if_icmp .eq 712, 3) := by decide +kernel
theorem dL_law_389 : decode cL_law 389 = .ok (.iconst 0, 1) := by decide +kernel
theorem dL_law_390 : decode cL_law 390 = .ok (.ireturn, 1) := by decide +kernel
theorem dL_law_391 : decode cL_law 391 = .ok (.aload_n 1, 1) := by decide +kernel
theorem dL_law_392 : decode cL_law 392 = .ok (.aload_n 0, 1) := by decide +kernel
theorem dL_law_393 : decode cL_law 393 = .ok (.iload_n 3, 1) := by decide +kernel
theorem dL_law_394 : decode cL_law 394 = .ok (.iconst 1, 1) := by decide +kernel
theorem dL_law_395 : decode cL_law 395 = .ok (.iadd, 1) := by decide +kernel
theorem dL_law_396 : decode cL_law 396 = .ok (.iaload, 1) := by decide +kernel
theorem dL_law_397 : decode cL_law 397 = .ok (.aload_n 0, 1) := by decide +kernel
theorem dL_law_398 : decode cL_law 398 = .ok (.iload_n 3, 1) := by decide +kernel
theorem dL_law_399 : decode cL_law 399 = .ok (.iconst 2, 1) := by decide +kernel
theorem dL_law_400 : decode cL_law 400 = .ok (.iadd, 1) := by decide +kernel
theorem dL_law_401 : decode cL_law 401 = .ok (.iaload, 1) := by decide +kernel
theorem dL_law_402 : decode cL_law 402 = .ok (.invokevirtual 53, 3) := by decide +kernel
theorem dL_law_405 : decode cL_law 405 = .ok (.aload_n 2, 1) := by decide +kernel
theorem dL_law_406 : decode cL_law 406 = .ok (.aload_n 0, 1) := by decide +kernel
theorem dL_law_407 : decode cL_law 407 = .ok (.iload_n 3, 1) := by decide +kernel
theorem dL_law_408 : decode cL_law 408 = .ok (.iconst 1, 1) := by decide +kernel
theorem dL_law_409 : decode cL_law 409 = .ok (.iadd, 1) := by decide +kernel
theorem dL_law_410 : decode cL_law 410 = .ok (.iaload, 1) := by decide +kernel
theorem dL_law_411 : decode cL_law 411 = .ok (.aload_n 0, 1) := by decide +kernel
theorem dL_law_412 : decode cL_law 412 = .ok (.iload_n 3, 1) := by decide +kernel
theorem dL_law_413 : decode cL_law 413 = .ok (.iconst 2, 1) := by decide +kernel
theorem dL_law_414 : decode cL_law 414 = .ok (.iadd, 1) := by decide +kernel
theorem dL_law_415 : decode cL_law 415 = .ok (.iaload, 1) := by decide +kernel
theorem dL_law_416 : decode cL_law 416 = .ok (.invokevirtual 56, 3) := by decide +kernel
theorem dL_law_419 : decode cL_law 419 = .ok (.if_icmp .eq 679, 3) := by decide +kernel
theorem dL_law_422 : decode cL_law 422 = .ok (.iconst 0, 1) := by decide +kernel
theorem dL_law_423 : decode cL_law 423 = .ok (.ireturn, 1) := by decide +kernel
theorem dL_law_424 : decode cL_law 424 = .ok (.aload_n 1, 1) := by decide +kernel
theorem dL_law_425 : decode cL_law 425 = .ok (.invokevirtual 57, 3) := by decide +kernel
theorem dL_law_428 : decode cL_law 428 = .ok (.aload_n 2, 1) := by decide +kernel
theorem dL_law_429 : decode cL_law 429 = .ok (.invokevirtual 60, 3) := by decide +kernel
theorem dL_law_432 : decode cL_law 432 = .ok (.if_icmp .eq 666, 3) := by decide +kernel
theorem dL_law_435 : decode cL_law 435 = .ok (.iconst 0, 1) := by decide +kernel
theorem dL_law_436 : decode cL_law 436 = .ok (.ireturn, 1) := by decide +kernel
theorem dL_law_437 : decode cL_law 437 = .ok (.aload_n 1, 1) := by decide +kernel
theorem dL_law_438 : decode cL_law 438 = .ok (.aload_n 0, 1) := by decide +kernel
theorem dL_law_439 : decode cL_law 439 = .ok (.iload_n 3, 1) := by decide +kernel
theorem dL_law_440 : decode cL_law 440 = .ok (.iconst 1, 1) := by decide +kernel
theorem dL_law_441 : decode cL_law 441 = .ok (.iadd, 1) := by decide +kernel
theorem dL_law_442 : decode cL_law 442 = .ok (.iaload, 1) := by decide +kernel
theorem dL_law_443 : decode cL_law 443 = .ok (.aload_n 0, 1) := by decide +kernel
theorem dL_law_444 : decode cL_law 444 = .ok (.iload_n 3, 1) := by decide +kernel
theorem dL_law_445 : decode cL_law 445 = .ok (.iconst 2, 1) := by decide +kernel
theorem dL_law_446 : decode cL_law 446 = .ok (.iadd, 1) := by decide +kernel
theorem dL_law_447 : decode cL_law 447 = .ok (.iaload, 1) := by decide +kernel
theorem dL_law_448 : decode cL_law 448 = .ok (.invokevirtual 61, 3) := by decide +kernel
theorem dL_law_451 : decode cL_law 451 = .ok (.aload_n 2, 1) := by decide +kernel
theorem dL_law_452 : decode cL_law 452 = .ok (.aload_n 0, 1) := by decide +kernel
theorem dL_law_453 : decode cL_law 453 = .ok (.iload_n 3, 1) := by decide +kernel
theorem dL_law_454 : decode cL_law 454 = .ok (.iconst 1, 1) := by decide +kernel
theorem dL_law_455 : decode cL_law 455 = .ok (.iadd, 1) := by decide +kernel
theorem dL_law_456 : decode cL_law 456 = .ok (.iaload, 1) := by decide +kernel
theorem dL_law_457 : decode cL_law 457 = .ok (.aload_n 0, 1) := by decide +kernel
theorem dL_law_458 : decode cL_law 458 = .ok (.iload_n 3, 1) := by decide +kernel
theorem dL_law_459 : decode cL_law 459 = .ok (.iconst 2, 1) := by decide +kernel
theorem dL_law_460 : decode cL_law 460 = .ok (.iadd, 1) := by decide +kernel
theorem dL_law_461 : decode cL_law 461 = .ok (.iaload, 1) := by decide +kernel
theorem dL_law_462 : decode cL_law 462 = .ok (.invokevirtual 64, 3) := by decide +kernel
theorem dL_law_465 : decode cL_law 465 = .ok (.if_icmp .eq 633, 3) := by decide +kernel
theorem dL_law_468 : decode cL_law 468 = .ok (.iconst 0, 1) := by decide +kernel
theorem dL_law_469 : decode cL_law 469 = .ok (.ireturn, 1) := by decide +kernel
theorem dL_law_470 : decode cL_law 470 = .ok (.aload_n 1, 1) := by decide +kernel
theorem dL_law_471 : decode cL_law 471 = .ok (.aload_n 0, 1) := by decide +kernel
theorem dL_law_472 : decode cL_law 472 = .ok (.iload_n 3, 1) := by decide +kernel
theorem dL_law_473 : decode cL_law 473 = .ok (.iconst 1, 1) := by decide +kernel
theorem dL_law_474 : decode cL_law 474 = .ok (.iadd, 1) := by decide +kernel
theorem dL_law_475 : decode cL_law 475 = .ok (.iaload, 1) := by decide +kernel
theorem dL_law_476 : decode cL_law 476 = .ok (.aload_n 0, 1) := by decide +kernel
theorem dL_law_477 : decode cL_law 477 = .ok (.iload_n 3, 1) := by decide +kernel
theorem dL_law_478 : decode cL_law 478 = .ok (.iconst 2, 1) := by decide +kernel
theorem dL_law_479 : decode cL_law 479 = .ok (.iadd, 1) := by decide +kernel
theorem dL_law_480 : decode cL_law 480 = .ok (.iaload, 1) := by decide +kernel
theorem dL_law_481 : decode cL_law 481 = .ok (.invokevirtual 65, 3) := by decide +kernel
theorem dL_law_484 : decode cL_law 484 = .ok (.aload_n 2, 1) := by decide +kernel
theorem dL_law_485 : decode cL_law 485 = .ok (.aload_n 0, 1) := by decide +kernel
theorem dL_law_486 : decode cL_law 486 = .ok (.iload_n 3, 1) := by decide +kernel
theorem dL_law_487 : decode cL_law 487 = .ok (.iconst 1, 1) := by decide +kernel
theorem dL_law_488 : decode cL_law 488 = .ok (.iadd, 1) := by decide +kernel
theorem dL_law_489 : decode cL_law 489 = .ok (.iaload, 1) := by decide +kernel
theorem dL_law_490 : decode cL_law 490 = .ok (.aload_n 0, 1) := by decide +kernel
theorem dL_law_491 : decode cL_law 491 = .ok (.iload_n 3, 1) := by decide +kernel
theorem dL_law_492 : decode cL_law 492 = .ok (.iconst 2, 1) := by decide +kernel
theorem dL_law_493 : decode cL_law 493 = .ok (.iadd, 1) := by decide +kernel
theorem dL_law_494 : decode cL_law 494 = .ok (.iaload, 1) := by decide +kernel
theorem dL_law_495 : decode cL_law 495 = .ok (.invokevirtual 68, 3) := by decide +kernel
theorem dL_law_498 : decode cL_law 498 = .ok (.if_icmp .eq 600, 3) := by decide +kernel
theorem dL_law_501 : decode cL_law 501 = .ok (.iconst 0, 1) := by decide +kernel
theorem dL_law_502 : decode cL_law 502 = .ok (.ireturn, 1) := by decide +kernel
theorem dL_law_503 : decode cL_law 503 = .ok (.aload_n 1, 1) := by decide +kernel
theorem dL_law_504 : decode cL_law 504 = .ok (.aload_n 0, 1) := by decide +kernel
theorem dL_law_505 : decode cL_law 505 = .ok (.iload_n 3, 1) := by decide +kernel
theorem dL_law_506 : decode cL_law 506 = .ok (.iconst 1, 1) := by decide +kernel
theorem dL_law_507 : decode cL_law 507 = .ok (.iadd, 1) := by decide +kernel
theorem dL_law_508 : decode cL_law 508 = .ok (.iaload, 1) := by decide +kernel
theorem dL_law_509 : decode cL_law 509 = .ok (.invokevirtual 69, 3) := by decide +kernel
theorem dL_law_512 : decode cL_law 512 = .ok (.aload_n 2, 1) := by decide +kernel
theorem dL_law_513 : decode cL_law 513 = .ok (.aload_n 0, 1) := by decide +kernel
theorem dL_law_514 : decode cL_law 514 = .ok (.iload_n 3, 1) := by decide +kernel
theorem dL_law_515 : decode cL_law 515 = .ok (.iconst 1, 1) := by decide +kernel
theorem dL_law_516 : decode cL_law 516 = .ok (.iadd, 1) := by decide +kernel
theorem dL_law_517 : decode cL_law 517 = .ok (.iaload, 1) := by decide +kernel
theorem dL_law_518 : decode cL_law 518 = .ok (.invokevirtual 72, 3) := by decide +kernel
theorem dL_law_521 : decode cL_law 521 = .ok (.if_icmp .eq 577, 3) := by decide +kernel
theorem dL_law_524 : decode cL_law 524 = .ok (.iconst 0, 1) := by decide +kernel
theorem dL_law_525 : decode cL_law 525 = .ok (.ireturn, 1) := by decide +kernel
theorem dL_law_526 : decode cL_law 526 = .ok (.aload_n 1, 1) := by decide +kernel
theorem dL_law_527 : decode cL_law 527 = .ok (.aload_n 0, 1) := by decide +kernel
theorem dL_law_528 : decode cL_law 528 = .ok (.iload_n 3, 1) := by decide +kernel
theorem dL_law_529 : decode cL_law 529 = .ok (.iconst 1, 1) := by decide +kernel
theorem dL_law_530 : decode cL_law 530 = .ok (.iadd, 1) := by decide +kernel
theorem dL_law_531 : decode cL_law 531 = .ok (.iaload, 1) := by decide +kernel
theorem dL_law_532 : decode cL_law 532 = .ok (.aload_n 0, 1) := by decide +kernel
theorem dL_law_533 : decode cL_law 533 = .ok (.iload_n 3, 1) := by decide +kernel
theorem dL_law_534 : decode cL_law 534 = .ok (.iconst 2, 1) := by decide +kernel
theorem dL_law_535 : decode cL_law 535 = .ok (.iadd, 1) := by decide +kernel
theorem dL_law_536 : decode cL_law 536 = .ok (.iaload, 1) := by decide +kernel
theorem dL_law_537 : decode cL_law 537 = .ok (.aload_n 0, 1) := by decide +kernel
theorem dL_law_538 : decode cL_law 538 = .ok (.iload_n 3, 1) := by decide +kernel
theorem dL_law_539 : decode cL_law 539 = .ok (.iconst 3, 1) := by decide +kernel
theorem dL_law_540 : decode cL_law 540 = .ok (.iadd, 1) := by decide +kernel
theorem dL_law_541 : decode cL_law 541 = .ok (.iaload, 1) := by decide +kernel
theorem dL_law_542 : decode cL_law 542 = .ok (.invokevirtual 73, 3) := by decide +kernel
theorem dL_law_545 : decode cL_law 545 = .ok (.aload_n 2, 1) := by decide +kernel
theorem dL_law_546 : decode cL_law 546 = .ok (.aload_n 0, 1) := by decide +kernel
theorem dL_law_547 : decode cL_law 547 = .ok (.iload_n 3, 1) := by decide +kernel
theorem dL_law_548 : decode cL_law 548 = .ok (.iconst 1, 1) := by decide +kernel
theorem dL_law_549 : decode cL_law 549 = .ok (.iadd, 1) := by decide +kernel
theorem dL_law_550 : decode cL_law 550 = .ok (.iaload, 1) := by decide +kernel
theorem dL_law_551 : decode cL_law 551 = .ok (.aload_n 0, 1) := by decide +kernel
theorem dL_law_552 : decode cL_law 552 = .ok (.iload_n 3, 1) := by decide +kernel
theorem dL_law_553 : decode cL_law 553 = .ok (.iconst 2, 1) := by decide +kernel
theorem dL_law_554 : decode cL_law 554 = .ok (.iadd, 1) := by decide +kernel
theorem dL_law_555 : decode cL_law 555 = .ok (.iaload, 1) := by decide +kernel
theorem dL_law_556 : decode cL_law 556 = .ok (.aload_n 0, 1) := by decide +kernel
theorem dL_law_557 : decode cL_law 557 = .ok (.iload_n 3, 1) := by decide +kernel
theorem dL_law_558 : decode cL_law 558 = .ok (.iconst 3, 1) := by decide +kernel
theorem dL_law_559 : decode cL_law 559 = .ok (.iadd, 1) := by decide +kernel
theorem dL_law_560 : decode cL_law 560 = .ok (.iaload, 1) := by decide +kernel
theorem dL_law_561 : decode cL_law 561 = .ok (.invokevirtual 76, 3) := by decide +kernel
theorem dL_law_564 : decode cL_law 564 = .ok (.if_icmp .eq 534, 3) := by decide +kernel
theorem dL_law_567 : decode cL_law 567 = .ok (.iconst 0, 1) := by decide +kernel
theorem dL_law_568 : decode cL_law 568 = .ok (.ireturn, 1) := by decide +kernel
theorem dL_law_569 : decode cL_law 569 = .ok (.aload_n 1, 1) := by decide +kernel
theorem dL_law_570 : decode cL_law 570 = .ok (.aload_n 0, 1) := by decide +kernel
theorem dL_law_571 : decode cL_law 571 = .ok (.iload_n 3, 1) := by decide +kernel
theorem dL_law_572 : decode cL_law 572 = .ok (.iconst 1, 1) := by decide +kernel
theorem dL_law_573 : decode cL_law 573 = .ok (.iadd, 1) := by decide +kernel
theorem dL_law_574 : decode cL_law 574 = .ok (.iaload, 1) := by decide +kernel
theorem dL_law_575 : decode cL_law 575 = .ok (.aload_n 0, 1) := by decide +kernel
theorem dL_law_576 : decode cL_law 576 = .ok (.iload_n 3, 1) := by decide +kernel
theorem dL_law_577 : decode cL_law 577 = .ok (.iconst 2, 1) := by decide +kernel
theorem dL_law_578 : decode cL_law 578 = .ok (.iadd, 1) := by decide +kernel
theorem dL_law_579 : decode cL_law 579 = .ok (.iaload, 1) := by decide +kernel
theorem dL_law_580 : decode cL_law 580 = .ok (.invokevirtual 77, 3) := by decide +kernel
theorem dL_law_583 : decode cL_law 583 = .ok (.aload_n 2, 1) := by decide +kernel
theorem dL_law_584 : decode cL_law 584 = .ok (.aload_n 0, 1) := by decide +kernel
theorem dL_law_585 : decode cL_law 585 = .ok (.iload_n 3, 1) := by decide +kernel
theorem dL_law_586 : decode cL_law 586 = .ok (.iconst 1, 1) := by decide +kernel
theorem dL_law_587 : decode cL_law 587 = .ok (.iadd, 1) := by decide +kernel
theorem dL_law_588 : decode cL_law 588 = .ok (.iaload, 1) := by decide +kernel
theorem dL_law_589 : decode cL_law 589 = .ok (.aload_n 0, 1) := by decide +kernel
theorem dL_law_590 : decode cL_law 590 = .ok (.iload_n 3, 1) := by decide +kernel
theorem dL_law_591 : decode cL_law 591 = .ok (.iconst 2, 1) := by decide +kernel
theorem dL_law_592 : decode cL_law 592 = .ok (.iadd, 1) := by decide +kernel
theorem dL_law_593 : decode cL_law 593 = .ok (.iaload, 1) := by decide +kernel
theorem dL_law_594 : decode cL_law 594 = .ok (.invokevirtual 80, 3) := by decide +kernel
theorem dL_law_597 : decode cL_law 597 = .ok (.if_icmp .eq 501, 3) := by decide +kernel
theorem dL_law_600 : decode cL_law 600 = .ok (.iconst 0, 1) := by decide +kernel
theorem dL_law_601 : decode cL_law 601 = .ok (.ireturn, 1) := by decide +kernel
theorem dL_law_602 : decode cL_law 602 = .ok (.aload_n 1, 1) := by decide +kernel
theorem dL_law_603 : decode cL_law 603 = .ok (.aload_n 0, 1) := by decide +kernel
theorem dL_law_604 : decode cL_law 604 = .ok (.iload_n 3, 1) := by decide +kernel
theorem dL_law_605 : decode cL_law 605 = .ok (.iconst 1, 1) := by decide +kernel
theorem dL_law_606 : decode cL_law 606 = .ok (.iadd, 1) := by decide +kernel
theorem dL_law_607 : decode cL_law 607 = .ok (.iaload, 1) := by decide +kernel
theorem dL_law_608 : decode cL_law 608 = .ok (.invokevirtual 81, 3) := by decide +kernel
theorem dL_law_611 : decode cL_law 611 = .ok (.aload_n 2, 1) := by decide +kernel
theorem dL_law_612 : decode cL_law 612 = .ok (.aload_n 0, 1) := by decide +kernel
theorem dL_law_613 : decode cL_law 613 = .ok (.iload_n 3, 1) := by decide +kernel
theorem dL_law_614 : decode cL_law 614 = .ok (.iconst 1, 1) := by decide +kernel
theorem dL_law_615 : decode cL_law 615 = .ok (.iadd, 1) := by decide +kernel
theorem dL_law_616 : decode cL_law 616 = .ok (.iaload, 1) := by decide +kernel
theorem dL_law_617 : decode cL_law 617 = .ok (.invokevirtual 84, 3) := by decide +kernel
theorem dL_law_620 : decode cL_law 620 = .ok (.if_icmp .eq 478, 3) := by decide +kernel
theorem dL_law_623 : decode cL_law 623 = .ok (.iconst 0, 1) := by decide +kernel
theorem dL_law_624 : decode cL_law 624 = .ok (.ireturn, 1) := by decide +kernel
theorem dL_law_625 : decode cL_law 625 = .ok (.aload_n 1, 1) := by decide +kernel
theorem dL_law_626 : decode cL_law 626 = .ok (.aload_n 0, 1) := by decide +kernel
theorem dL_law_627 : decode cL_law 627 = .ok (.iload_n 3, 1) := by decide +kernel
theorem dL_law_628 : decode cL_law 628 = .ok (.iconst 1, 1) := by decide +kernel
theorem dL_law_629 : decode cL_law 629 = .ok (.iadd, 1) := by decide +kernel
theorem dL_law_630 : decode cL_law 630 = .ok (.iaload, 1) := by decide +kernel
theorem dL_law_631 : decode cL_law 631 = .ok (.aload_n 0, 1) := by decide +kernel
theorem dL_law_632 : decode cL_law 632 = .ok (.iload_n 3, 1) := by decide +kernel
theorem dL_law_633 : decode cL_law 633 = .ok (.iconst 2, 1) := by decide +kernel
theorem dL_law_634 : decode cL_law 634 = .ok (.iadd, 1) := by decide +kernel
theorem dL_law_635 : decode cL_law 635 = .ok (.iaload, 1) := by decide +kernel
theorem dL_law_636 : decode cL_law 636 = .ok (.invokevirtual 85, 3) := by decide +kernel
theorem dL_law_639 : decode cL_law 639 = .ok (.aload_n 2, 1) := by decide +kernel
theorem dL_law_640 : decode cL_law 640 = .ok (.aload_n 0, 1) := by decide +kernel
theorem dL_law_641 : decode cL_law 641 = .ok (.iload_n 3, 1) := by decide +kernel
theorem dL_law_642 : decode cL_law 642 = .ok (.iconst 1, 1) := by decide +kernel
theorem dL_law_643 : decode cL_law 643 = .ok (.iadd, 1) := by decide +kernel
theorem dL_law_644 : decode cL_law 644 = .ok (.iaload, 1) := by decide +kernel
theorem dL_law_645 : decode cL_law 645 = .ok (.aload_n 0, 1) := by decide +kernel
theorem dL_law_646 : decode cL_law 646 = .ok (.iload_n 3, 1) := by decide +kernel
theorem dL_law_647 : decode cL_law 647 = .ok (.iconst 2, 1) := by decide +kernel
theorem dL_law_648 : decode cL_law 648 = .ok (.iadd, 1) := by decide +kernel
theorem dL_law_649 : decode cL_law 649 = .ok (.iaload, 1) := by decide +kernel
theorem dL_law_650 : decode cL_law 650 = .ok (.invokevirtual 88, 3) := by decide +kernel
theorem dL_law_653 : decode cL_law 653 = .ok (.if_icmp .eq 445, 3) := by decide +kernel
theorem dL_law_656 : decode cL_law 656 = .ok (.iconst 0, 1) := by decide +kernel
theorem dL_law_657 : decode cL_law 657 = .ok (.ireturn, 1) := by decide +kernel
theorem dL_law_658 : decode cL_law 658 = .ok (.aload_n 1, 1) := by decide +kernel
theorem dL_law_659 : decode cL_law 659 = .ok (.aload_n 0, 1) := by decide +kernel
theorem dL_law_660 : decode cL_law 660 = .ok (.iload_n 3, 1) := by decide +kernel
theorem dL_law_661 : decode cL_law 661 = .ok (.iconst 1, 1) := by decide +kernel
theorem dL_law_662 : decode cL_law 662 = .ok (.iadd, 1) := by decide +kernel
theorem dL_law_663 : decode cL_law 663 = .ok (.iaload, 1) := by decide +kernel
theorem dL_law_664 : decode cL_law 664 = .ok (.aload_n 0, 1) := by decide +kernel
theorem dL_law_665 : decode cL_law 665 = .ok (.iload_n 3, 1) := by decide +kernel
theorem dL_law_666 : decode cL_law 666 = .ok (.iconst 2, 1) := by decide +kernel
theorem dL_law_667 : decode cL_law 667 = .ok (.iadd, 1) := by decide +kernel
theorem dL_law_668 : decode cL_law 668 = .ok (.iaload, 1) := by decide +kernel
theorem dL_law_669 : decode cL_law 669 = .ok (.invokevirtual 89, 3) := by decide +kernel
theorem dL_law_672 : decode cL_law 672 = .ok (.aload_n 2, 1) := by decide +kernel
theorem dL_law_673 : decode cL_law 673 = .ok (.aload_n 0, 1) := by decide +kernel
theorem dL_law_674 : decode cL_law 674 = .ok (.iload_n 3, 1) := by decide +kernel
theorem dL_law_675 : decode cL_law 675 = .ok (.iconst 1, 1) := by decide +kernel
theorem dL_law_676 : decode cL_law 676 = .ok (.iadd, 1) := by decide +kernel
theorem dL_law_677 : decode cL_law 677 = .ok (.iaload, 1) := by decide +kernel
theorem dL_law_678 : decode cL_law 678 = .ok (.aload_n 0, 1) := by decide +kernel
theorem dL_law_679 : decode cL_law 679 = .ok (.iload_n 3, 1) := by decide +kernel
theorem dL_law_680 : decode cL_law 680 = .ok (.iconst 2, 1) := by decide +kernel
theorem dL_law_681 : decode cL_law 681 = .ok (.iadd, 1) := by decide +kernel
theorem dL_law_682 : decode cL_law 682 = .ok (.iaload, 1) := by decide +kernel
theorem dL_law_683 : decode cL_law 683 = .ok (.invokevirtual 92, 3) := by decide +kernel
theorem dL_law_686 : decode cL_law 686 = .ok (.if_icmp .eq 412, 3) := by decide +kernel
theorem dL_law_689 : decode cL_law 689 = .ok (.iconst 0, 1) := by decide +kernel
theorem dL_law_690 : decode cL_law 690 = .ok (.ireturn, 1) := by decide +kernel
theorem dL_law_691 : decode cL_law 691 = .ok (.aload_n 1, 1) := by decide +kernel
theorem dL_law_692 : decode cL_law 692 = .ok (.aload_n 0, 1) := by decide +kernel
theorem dL_law_693 : decode cL_law 693 = .ok (.iload_n 3, 1) := by decide +kernel
theorem dL_law_694 : decode cL_law 694 = .ok (.iconst 1, 1) := by decide +kernel
theorem dL_law_695 : decode cL_law 695 = .ok (.iadd, 1) := by decide +kernel
theorem dL_law_696 : decode cL_law 696 = .ok (.iaload, 1) := by decide +kernel
theorem dL_law_697 : decode cL_law 697 = .ok (.aload_n 0, 1) := by decide +kernel
theorem dL_law_698 : decode cL_law 698 = .ok (.iload_n 3, 1) := by decide +kernel
theorem dL_law_699 : decode cL_law 699 = .ok (.iconst 2, 1) := by decide +kernel
theorem dL_law_700 : decode cL_law 700 = .ok (.iadd, 1) := by decide +kernel
theorem dL_law_701 : decode cL_law 701 = .ok (.iaload, 1) := by decide +kernel
theorem dL_law_702 : decode cL_law 702 = .ok (.invokevirtual 93, 3) := by decide +kernel
theorem dL_law_705 : decode cL_law 705 = .ok (.aload_n 2, 1) := by decide +kernel
theorem dL_law_706 : decode cL_law 706 = .ok (.aload_n 0, 1) := by decide +kernel
theorem dL_law_707 : decode cL_law 707 = .ok (.iload_n 3, 1) := by decide +kernel
theorem dL_law_708 : decode cL_law 708 = .ok (.iconst 1, 1) := by decide +kernel
theorem dL_law_709 : decode cL_law 709 = .ok (.iadd, 1) := by decide +kernel
theorem dL_law_710 : decode cL_law 710 = .ok (.iaload, 1) := by decide +kernel
theorem dL_law_711 : decode cL_law 711 = .ok (.aload_n 0, 1) := by decide +kernel
theorem dL_law_712 : decode cL_law 712 = .ok (.iload_n 3, 1) := by decide +kernel
theorem dL_law_713 : decode cL_law 713 = .ok (.iconst 2, 1) := by decide +kernel
theorem dL_law_714 : decode cL_law 714 = .ok (.iadd, 1) := by decide +kernel
theorem dL_law_715 : decode cL_law 715 = .ok (.iaload, 1) := by decide +kernel
theorem dL_law_716 : decode cL_law 716 = .ok (.invokevirtual 96, 3) := by decide +kernel
theorem dL_law_719 : decode cL_law 719 = .ok (.if_icmp .eq 379, 3) := by decide +kernel
theorem dL_law_722 : decode cL_law 722 = .ok (.iconst 0, 1) := by decide +kernel
theorem dL_law_723 : decode cL_law 723 = .ok (.ireturn, 1) := by decide +kernel
theorem dL_law_724 : decode cL_law 724 = .ok (.aload_n 1, 1) := by decide +kernel
theorem dL_law_725 : decode cL_law 725 = .ok (.aload_n 0, 1) := by decide +kernel
theorem dL_law_726 : decode cL_law 726 = .ok (.iload_n 3, 1) := by decide +kernel
theorem dL_law_727 : decode cL_law 727 = .ok (.iconst 1, 1) := by decide +kernel
theorem dL_law_728 : decode cL_law 728 = .ok (.iadd, 1) := by decide +kernel
theorem dL_law_729 : decode cL_law 729 = .ok (.iaload, 1) := by decide +kernel
theorem dL_law_730 : decode cL_law 730 = .ok (.aload_n 0, 1) := by decide +kernel
theorem dL_law_731 : decode cL_law 731 = .ok (.iload_n 3, 1) := by decide +kernel
theorem dL_law_732 : decode cL_law 732 = .ok (.iconst 2, 1) := by decide +kernel
theorem dL_law_733 : decode cL_law 733 = .ok (.iadd, 1) := by decide +kernel
theorem dL_law_734 : decode cL_law 734 = .ok (.iaload, 1) := by decide +kernel
theorem dL_law_735 : decode cL_law 735 = .ok (.aload_n 0, 1) := by decide +kernel
theorem dL_law_736 : decode cL_law 736 = .ok (.iload_n 3, 1) := by decide +kernel
theorem dL_law_737 : decode cL_law 737 = .ok (.iconst 3, 1) := by decide +kernel
theorem dL_law_738 : decode cL_law 738 = .ok (.iadd, 1) := by decide +kernel
theorem dL_law_739 : decode cL_law 739 = .ok (.iaload, 1) := by decide +kernel
theorem dL_law_740 : decode cL_law 740 = .ok (.invokevirtual 97, 3) := by decide +kernel
theorem dL_law_743 : decode cL_law 743 = .ok (.aload_n 2, 1) := by decide +kernel
theorem dL_law_744 : decode cL_law 744 = .ok (.aload_n 0, 1) := by decide +kernel
theorem dL_law_745 : decode cL_law 745 = .ok (.iload_n 3, 1) := by decide +kernel
theorem dL_law_746 : decode cL_law 746 = .ok (.iconst 1, 1) := by decide +kernel
theorem dL_law_747 : decode cL_law 747 = .ok (.iadd, 1) := by decide +kernel
theorem dL_law_748 : decode cL_law 748 = .ok (.iaload, 1) := by decide +kernel
theorem dL_law_749 : decode cL_law 749 = .ok (.aload_n 0, 1) := by decide +kernel
theorem dL_law_750 : decode cL_law 750 = .ok (.iload_n 3, 1) := by decide +kernel
theorem dL_law_751 : decode cL_law 751 = .ok (.iconst 2, 1) := by decide +kernel
theorem dL_law_752 : decode cL_law 752 = .ok (.iadd, 1) := by decide +kernel
theorem dL_law_753 : decode cL_law 753 = .ok (.iaload, 1) := by decide +kernel
theorem dL_law_754 : decode cL_law 754 = .ok (.aload_n 0, 1) := by decide +kernel
theorem dL_law_755 : decode cL_law 755 = .ok (.iload_n 3, 1) := by decide +kernel
theorem dL_law_756 : decode cL_law 756 = .ok (.iconst 3, 1) := by decide +kernel
theorem dL_law_757 : decode cL_law 757 = .ok (.iadd, 1) := by decide +kernel
theorem dL_law_758 : decode cL_law 758 = .ok (.iaload, 1) := by decide +kernel
theorem dL_law_759 : decode cL_law 759 = .ok (.invokevirtual 100, 3) := by decide +kernel
theorem dL_law_762 : decode cL_law 762 = .ok (.if_icmp .eq 336, 3) := by decide +kernel
theorem dL_law_765 : decode cL_law 765 = .ok (.iconst 0, 1) := by decide +kernel
theorem dL_law_766 : decode cL_law 766 = .ok (.ireturn, 1) := by decide +kernel
theorem dL_law_767 : decode cL_law 767 = .ok (.aload_n 1, 1) := by decide +kernel
theorem dL_law_768 : decode cL_law 768 = .ok (.invokevirtual 101, 3) := by decide +kernel
theorem dL_law_771 : decode cL_law 771 = .ok (.aload_n 2, 1) := by decide +kernel
theorem dL_law_772 : decode cL_law 772 = .ok (.invokevirtual 104, 3) := by decide +kernel
theorem dL_law_775 : decode cL_law 775 = .ok (.if_icmp .eq 323, 3) := by decide +kernel
theorem dL_law_778 : decode cL_law 778 = .ok (.iconst 0, 1) := by decide +kernel
theorem dL_law_779 : decode cL_law 779 = .ok (.ireturn, 1) := by decide +kernel
theorem dL_law_780 : decode cL_law 780 = .ok (.aload_n 1, 1) := by decide +kernel
theorem dL_law_781 : decode cL_law 781 = .ok (.aload_n 0, 1) := by decide +kernel
theorem dL_law_782 : decode cL_law 782 = .ok (.iload_n 3, 1) := by decide +kernel
theorem dL_law_783 : decode cL_law 783 = .ok (.iconst 1, 1) := by decide +kernel
theorem dL_law_784 : decode cL_law 784 = .ok (.iadd, 1) := by decide +kernel
theorem dL_law_785 : decode cL_law 785 = .ok (.iaload, 1) := by decide +kernel
theorem dL_law_786 : decode cL_law 786 = .ok (.invokevirtual 105, 3) := by decide +kernel
theorem dL_law_789 : decode cL_law 789 = .ok (.aload_n 2, 1) := by decide +kernel
theorem dL_law_790 : decode cL_law 790 = .ok (.aload_n 0, 1) := by decide +kernel
theorem dL_law_791 : decode cL_law 791 = .ok (.iload_n 3, 1) := by decide +kernel
theorem dL_law_792 : decode cL_law 792 = .ok (.iconst 1, 1) := by decide +kernel
theorem dL_law_793 : decode cL_law 793 = .ok (.iadd, 1) := by decide +kernel
theorem dL_law_794 : decode cL_law 794 = .ok (.iaload, 1) := by decide +kernel
theorem dL_law_795 : decode cL_law 795 = .ok (.invokevirtual 108, 3) := by decide +kernel
theorem dL_law_798 : decode cL_law 798 = .ok (.if_icmp .eq 300, 3) := by decide +kernel
theorem dL_law_801 : decode cL_law 801 = .ok (.iconst 0, 1) := by decide +kernel
theorem dL_law_802 : decode cL_law 802 = .ok (.ireturn, 1) := by decide +kernel
theorem dL_law_803 : decode cL_law 803 = .ok (.aload_n 1, 1) := by decide +kernel
theorem dL_law_804 : decode cL_law 804 = .ok (.aload_n 0, 1) := by decide +kernel
theorem dL_law_805 : decode cL_law 805 = .ok (.iload_n 3, 1) := by decide +kernel
theorem dL_law_806 : decode cL_law 806 = .ok (.iconst 1, 1) := by decide +kernel
theorem dL_law_807 : decode cL_law 807 = .ok (.iadd, 1) := by decide +kernel
theorem dL_law_808 : decode cL_law 808 = .ok (.iaload, 1) := by decide +kernel
theorem dL_law_809 : decode cL_law 809 = .ok (.invokevirtual 109, 3) := by decide +kernel
theorem dL_law_812 : decode cL_law 812 = .ok (.aload_n 2, 1) := by decide +kernel
theorem dL_law_813 : decode cL_law 813 = .ok (.aload_n 0, 1) := by decide +kernel
theorem dL_law_814 : decode cL_law 814 = .ok (.iload_n 3, 1) := by decide +kernel
theorem dL_law_815 : decode cL_law 815 = .ok (.iconst 1, 1) := by decide +kernel
theorem dL_law_816 : decode cL_law 816 = .ok (.iadd, 1) := by decide +kernel
theorem dL_law_817 : decode cL_law 817 = .ok (.iaload, 1) := by decide +kernel
theorem dL_law_818 : decode cL_law 818 = .ok (.invokevirtual 112, 3) := by decide +kernel
theorem dL_law_821 : decode cL_law 821 = .ok (.if_icmp .eq 277, 3) := by decide +kernel
theorem dL_law_824 : decode cL_law 824 = .ok (.iconst 0, 1) := by decide +kernel
theorem dL_law_825 : decode cL_law 825 = .ok (.ireturn, 1) := by decide +kernel
theorem dL_law_826 : decode cL_law 826 = .ok (.aload_n 1, 1) := by decide +kernel
theorem dL_law_827 : decode cL_law 827 = .ok (.aload_n 0, 1) := by decide +kernel
theorem dL_law_828 : decode cL_law 828 = .ok (.iload_n 3, 1) := by decide +kernel
theorem dL_law_829 : decode cL_law 829 = .ok (.iconst 1, 1) := by decide +kernel
theorem dL_law_830 : decode cL_law 830 = .ok (.iadd, 1) := by decide +kernel
theorem dL_law_831 : decode cL_law 831 = .ok (.iaload, 1) := by decide +kernel
theorem dL_law_832 : decode cL_law 832 = .ok (.aload_n 0, 1) := by decide +kernel
theorem dL_law_833 : decode cL_law 833 = .ok (.iload_n 3, 1) := by decide +kernel
theorem dL_law_834 : decode cL_law 834 = .ok (.iconst 2, 1) := by decide +kernel
theorem dL_law_835 : decode cL_law 835 = .ok (.iadd, 1) := by decide +kernel
theorem dL_law_836 : decode cL_law 836 = .ok (.iaload, 1) := by decide +kernel
theorem dL_law_837 : decode cL_law 837 = .ok (.aload_n 0, 1) := by decide +kernel
theorem dL_law_838 : decode cL_law 838 = .ok (.iload_n 3, 1) := by decide +kernel
theorem dL_law_839 : decode cL_law 839 = .ok (.iconst 3, 1) := by decide +kernel
theorem dL_law_840 : decode cL_law 840 = .ok (.iadd, 1) := by decide +kernel
theorem dL_law_841 : decode cL_law 841 = .ok (.iaload, 1) := by decide +kernel
theorem dL_law_842 : decode cL_law 842 = .ok (.invokevirtual 113, 3) := by decide +kernel
theorem dL_law_845 : decode cL_law 845 = .ok (.aload_n 2, 1) := by decide +kernel
theorem dL_law_846 : decode cL_law 846 = .ok (.aload_n 0, 1) := by decide +kernel
theorem dL_law_847 : decode cL_law 847 = .ok (.iload_n 3, 1) := by decide +kernel
theorem dL_law_848 : decode cL_law 848 = .ok (.iconst 1, 1) := by decide +kernel
theorem dL_law_849 : decode cL_law 849 = .ok (.iadd, 1) := by decide +kernel
theorem dL_law_850 : decode cL_law 850 = .ok (.iaload, 1) := by decide +kernel
theorem dL_law_851 : decode cL_law 851 = .ok (.aload_n 0, 1) := by decide +kernel
theorem dL_law_852 : decode cL_law 852 = .ok (.iload_n 3, 1) := by decide +kernel
theorem dL_law_853 : decode cL_law 853 = .ok (.iconst 2, 1) := by decide +kernel
theorem dL_law_854 : decode cL_law 854 = .ok (.iadd, 1) := by decide +kernel
theorem dL_law_855 : decode cL_law 855 = .ok (.iaload, 1) := by decide +kernel
theorem dL_law_856 : decode cL_law 856 = .ok (.aload_n 0, 1) := by decide +kernel
theorem dL_law_857 : decode cL_law 857 = .ok (.iload_n 3, 1) := by decide +kernel
theorem dL_law_858 : decode cL_law 858 = .ok (.iconst 3, 1) := by decide +kernel
theorem dL_law_859 : decode cL_law 859 = .ok (.iadd, 1) := by decide +kernel
theorem dL_law_860 : decode cL_law 860 = .ok (.iaload, 1) := by decide +kernel
theorem dL_law_861 : decode cL_law 861 = .ok (.invokevirtual 116, 3) := by decide +kernel
theorem dL_law_864 : decode cL_law 864 = .ok (.if_icmp .eq 234, 3) := by decide +kernel
theorem dL_law_867 : decode cL_law 867 = .ok (.iconst 0, 1) := by decide +kernel
theorem dL_law_868 : decode cL_law 868 = .ok (.ireturn, 1) := by decide +kernel
theorem dL_law_869 : decode cL_law 869 = .ok (.aload_n 1, 1) := by decide +kernel
theorem dL_law_870 : decode cL_law 870 = .ok (.aload_n 0, 1) := by decide +kernel
theorem dL_law_871 : decode cL_law 871 = .ok (.iload_n 3, 1) := by decide +kernel
theorem dL_law_872 : decode cL_law 872 = .ok (.iconst 1, 1) := by decide +kernel
theorem dL_law_873 : decode cL_law 873 = .ok (.iadd, 1) := by decide +kernel
theorem dL_law_874 : decode cL_law 874 = .ok (.iaload, 1) := by decide +kernel
theorem dL_law_875 : decode cL_law 875 = .ok (.aload_n 0, 1) := by decide +kernel
theorem dL_law_876 : decode cL_law 876 = .ok (.iload_n 3, 1) := by decide +kernel
theorem dL_law_877 : decode cL_law 877 = .ok (.iconst 2, 1) := by decide +kernel
theorem dL_law_878 : decode cL_law 878 = .ok (.iadd, 1) := by decide +kernel
theorem dL_law_879 : decode cL_law 879 = .ok (.iaload, 1) := by decide +kernel
theorem dL_law_880 : decode cL_law 880 = .ok (.aload_n 0, 1) := by decide +kernel
theorem dL_law_881 : decode cL_law 881 = .ok (.iload_n 3, 1) := by decide +kernel
theorem dL_law_882 : decode cL_law 882 = .ok (.iconst 3, 1) := by decide +kernel
theorem dL_law_883 : decode cL_law 883 = .ok (.iadd, 1) := by decide +kernel
theorem dL_law_884 : decode cL_law 884 = .ok (.iaload, 1) := by decide +kernel
theorem dL_law_885 : decode cL_law 885 = .ok (.invokevirtual 117, 3) := by decide +kernel
theorem dL_law_888 : decode cL_law 888 = .ok (.aload_n 2, 1) := by decide +kernel
theorem dL_law_889 : decode cL_law 889 = .ok (.aload_n 0, 1) := by decide +kernel
theorem dL_law_890 : decode cL_law 890 = .ok (.iload_n 3, 1) := by decide +kernel
theorem dL_law_891 : decode cL_law 891 = .ok (.iconst 1, 1) := by decide +kernel
theorem dL_law_892 : decode cL_law 892 = .ok (.iadd, 1) := by decide +kernel
theorem dL_law_893 : decode cL_law 893 = .ok (.iaload, 1) := by decide +kernel
theorem dL_law_894 : decode cL_law 894 = .ok (.aload_n 0, 1) := by decide +kernel
theorem dL_law_895 : decode cL_law 895 = .ok (.iload_n 3, 1) := by decide +kernel
theorem dL_law_896 : decode cL_law 896 = .ok (.iconst 2, 1) := by decide +kernel
theorem dL_law_897 : decode cL_law 897 = .ok (.iadd, 1) := by decide +kernel
theorem dL_law_898 : decode cL_law 898 = .ok (.iaload, 1) := by decide +kernel
theorem dL_law_899 : decode cL_law 899 = .ok (.aload_n 0, 1) := by decide +kernel
theorem dL_law_900 : decode cL_law 900 = .ok (.iload_n 3, 1) := by decide +kernel
theorem dL_law_901 : decode cL_law 901 = .ok (.iconst 3, 1) := by decide +kernel
theorem dL_law_902 : decode cL_law 902 = .ok (.iadd, 1) := by decide +kernel
theorem dL_law_903 : decode cL_law 903 = .ok (.iaload, 1) := by decide +kernel
theorem dL_law_904 : decode cL_law 904 = .ok (.invokevirtual 120, 3) := by decide +kernel
theorem dL_law_907 : decode cL_law 907 = .ok (.if_icmp .eq 191, 3) := by decide +kernel
theorem dL_law_910 : decode cL_law 910 = .ok (.iconst 0, 1) := by decide +kernel
theorem dL_law_911 : decode cL_law 911 = .ok (.ireturn, 1) := by decide +kernel
theorem dL_law_912 : decode cL_law 912 = .ok (.aload_n 1, 1) := by decide +kernel
theorem dL_law_913 : decode cL_law 913 = .ok (.aload_n 0, 1) := by decide +kernel
theorem dL_law_914 : decode cL_law 914 = .ok (.iload_n 3, 1) := by decide +kernel
theorem dL_law_915 : decode cL_law 915 = .ok (.iconst 1, 1) := by decide +kernel
theorem dL_law_916 : decode cL_law 916 = .ok (.iadd, 1) := by decide +kernel
theorem dL_law_917 : decode cL_law 917 = .ok (.iaload, 1) := by decide +kernel
theorem dL_law_918 : decode cL_law 918 = .ok (.invokevirtual 121, 3) := by decide +kernel
theorem dL_law_921 : decode cL_law 921 = .ok (.aload_n 2, 1) := by decide +kernel
theorem dL_law_922 : decode cL_law 922 = .ok (.aload_n 0, 1) := by decide +kernel
theorem dL_law_923 : decode cL_law 923 = .ok (.iload_n 3, 1) := by decide +kernel
theorem dL_law_924 : decode cL_law 924 = .ok (.iconst 1, 1) := by decide +kernel
theorem dL_law_925 : decode cL_law 925 = .ok (.iadd, 1) := by decide +kernel
theorem dL_law_926 : decode cL_law 926 = .ok (.iaload, 1) := by decide +kernel
theorem dL_law_927 : decode cL_law 927 = .ok (.invokevirtual 124, 3) := by decide +kernel
theorem dL_law_930 : decode cL_law 930 = .ok (.if_icmp .eq 168, 3) := by decide +kernel
theorem dL_law_933 : decode cL_law 933 = .ok (.iconst 0, 1) := by decide +kernel
theorem dL_law_934 : decode cL_law 934 = .ok (.ireturn, 1) := by decide +kernel
theorem dL_law_935 : decode cL_law 935 = .ok (.aload_n 1, 1) := by decide +kernel
theorem dL_law_936 : decode cL_law 936 = .ok (.aload_n 0, 1) := by decide +kernel
theorem dL_law_937 : decode cL_law 937 = .ok (.iload_n 3, 1) := by decide +kernel
theorem dL_law_938 : decode cL_law 938 = .ok (.iconst 1, 1) := by decide +kernel
theorem dL_law_939 : decode cL_law 939 = .ok (.iadd, 1) := by decide +kernel
theorem dL_law_940 : decode cL_law 940 = .ok (.iaload, 1) := by decide +kernel
theorem dL_law_941 : decode cL_law 941 = .ok (.aload_n 0, 1) := by decide +kernel
theorem dL_law_942 : decode cL_law 942 = .ok (.iload_n 3, 1) := by decide +kernel
theorem dL_law_943 : decode cL_law 943 = .ok (.iconst 2, 1) := by decide +kernel
theorem dL_law_944 : decode cL_law 944 = .ok (.iadd, 1) := by decide +kernel
theorem dL_law_945 : decode cL_law 945 = .ok (.iaload, 1) := by decide +kernel
theorem dL_law_946 : decode cL_law 946 = .ok (.invokevirtual 125, 3) := by decide +kernel
theorem dL_law_949 : decode cL_law 949 = .ok (.aload_n 2, 1) := by decide +kernel
theorem dL_law_950 : decode cL_law 950 = .ok (.aload_n 0, 1) := by decide +kernel
theorem dL_law_951 : decode cL_law 951 = .ok (.iload_n 3, 1) := by decide +kernel
theorem dL_law_952 : decode cL_law 952 = .ok (.iconst 1, 1) := by decide +kernel
theorem dL_law_953 : decode cL_law 953 = .ok (.iadd, 1) := by decide +kernel
theorem dL_law_954 : decode cL_law 954 = .ok (.iaload, 1) := by decide +kernel
theorem dL_law_955 : decode cL_law 955 = .ok (.aload_n 0, 1) := by decide +kernel
theorem dL_law_956 : decode cL_law 956 = .ok (.iload_n 3, 1) := by decide +kernel
theorem dL_law_957 : decode cL_law 957 = .ok (.iconst 2, 1) := by decide +kernel
theorem dL_law_958 : decode cL_law 958 = .ok (.iadd, 1) := by decide +kernel
theorem dL_law_959 : decode cL_law 959 = .ok (.iaload, 1) := by decide +kernel
theorem dL_law_960 : decode cL_law 960 = .ok (.invokevirtual 128, 3) := by decide +kernel
theorem dL_law_963 : decode cL_law 963 = .ok (.if_icmp .eq 135, 3) := by decide +kernel
theorem dL_law_966 : decode cL_law 966 = .ok (.iconst 0, 1) := by decide +kernel
theorem dL_law_967 : decode cL_law 967 = .ok (.ireturn, 1) := by decide +kernel
theorem dL_law_968 : decode cL_law 968 = .ok (.aload_n 1, 1) := by decide +kernel
theorem dL_law_969 : decode cL_law 969 = .ok (.aload_n 0, 1) := by decide +kernel
theorem dL_law_970 : decode cL_law 970 = .ok (.iload_n 3, 1) := by decide +kernel
theorem dL_law_971 : decode cL_law 971 = .ok (.iconst 1, 1) := by decide +kernel
theorem dL_law_972 : decode cL_law 972 = .ok (.iadd, 1) := by decide +kernel
theorem dL_law_973 : decode cL_law 973 = .ok (.iaload, 1) := by decide +kernel
theorem dL_law_974 : decode cL_law 974 = .ok (.invokevirtual 129, 3) := by decide +kernel
theorem dL_law_977 : decode cL_law 977 = .ok (.aload_n 2, 1) := by decide +kernel
theorem dL_law_978 : decode cL_law 978 = .ok (.aload_n 0, 1) := by decide +kernel
theorem dL_law_979 : decode cL_law 979 = .ok (.iload_n 3, 1) := by decide +kernel
theorem dL_law_980 : decode cL_law 980 = .ok (.iconst 1, 1) := by decide +kernel
theorem dL_law_981 : decode cL_law 981 = .ok (.iadd, 1) := by decide +kernel
theorem dL_law_982 : decode cL_law 982 = .ok (.iaload, 1) := by decide +kernel
theorem dL_law_983 : decode cL_law 983 = .ok (.invokevirtual 133, 3) := by decide +kernel
theorem dL_law_986 : decode cL_law 986 = .ok (.lcmp, 1) := by decide +kernel
theorem dL_law_987 : decode cL_law 987 = .ok (.ifCond .eq 111, 3) := by decide +kernel
theorem dL_law_990 : decode cL_law 990 = .ok (.iconst 0, 1) := by decide +kernel
theorem dL_law_991 : decode cL_law 991 = .ok (.ireturn, 1) := by decide +kernel
theorem dL_law_992 : decode cL_law 992 = .ok (.aload_n 1, 1) := by decide +kernel
theorem dL_law_993 : decode cL_law 993 = .ok (.aload_n 0, 1) := by decide +kernel
theorem dL_law_994 : decode cL_law 994 = .ok (.iload_n 3, 1) := by decide +kernel
theorem dL_law_995 : decode cL_law 995 = .ok (.iconst 1, 1) := by decide +kernel
theorem dL_law_996 : decode cL_law 996 = .ok (.iadd, 1) := by decide +kernel
theorem dL_law_997 : decode cL_law 997 = .ok (.iaload, 1) := by decide +kernel
theorem dL_law_998 : decode cL_law 998 = .ok (.invokevirtual 134, 3) := by decide +kernel
theorem dL_law_1001 : decode cL_law 1001 = .ok (.aload_n 2, 1) := by decide +kernel
theorem dL_law_1002 : decode cL_law 1002 = .ok (.aload_n 0, 1) := by decide +kernel
theorem dL_law_1003 : decode cL_law 1003 = .ok (.iload_n 3, 1) := by decide +kernel
theorem dL_law_1004 : decode cL_law 1004 = .ok (.iconst 1, 1) := by decide +kernel
theorem dL_law_1005 : decode cL_law 1005 = .ok (.iadd, 1) := by decide +kernel
theorem dL_law_1006 : decode cL_law 1006 = .ok (.iaload, 1) := by decide +kernel
theorem dL_law_1007 : decode cL_law 1007 = .ok (.invokevirtual 137, 3) := by decide +kernel
theorem dL_law_1010 : decode cL_law 1010 = .ok (.if_icmp .eq 88, 3) := by decide +kernel
theorem dL_law_1013 : decode cL_law 1013 = .ok (.iconst 0, 1) := by decide +kernel
theorem dL_law_1014 : decode cL_law 1014 = .ok (.ireturn, 1) := by decide +kernel
theorem dL_law_1015 : decode cL_law 1015 = .ok (.aload_n 1, 1) := by decide +kernel
theorem dL_law_1016 : decode cL_law 1016 = .ok (.aload_n 0, 1) := by decide +kernel
theorem dL_law_1017 : decode cL_law 1017 = .ok (.iload_n 3, 1) := by decide +kernel
theorem dL_law_1018 : decode cL_law 1018 = .ok (.iconst 1, 1) := by decide +kernel
theorem dL_law_1019 : decode cL_law 1019 = .ok (.iadd, 1) := by decide +kernel
theorem dL_law_1020 : decode cL_law 1020 = .ok (.iaload, 1) := by decide +kernel
theorem dL_law_1021 : decode cL_law 1021 = .ok (.invokevirtual 138, 3) := by decide +kernel
theorem dL_law_1024 : decode cL_law 1024 = .ok (.aload_n 2, 1) := by decide +kernel
theorem dL_law_1025 : decode cL_law 1025 = .ok (.aload_n 0, 1) := by decide +kernel
theorem dL_law_1026 : decode cL_law 1026 = .ok (.iload_n 3, 1) := by decide +kernel
theorem dL_law_1027 : decode cL_law 1027 = .ok (.iconst 1, 1) := by decide +kernel
theorem dL_law_1028 : decode cL_law 1028 = .ok (.iadd, 1) := by decide +kernel
theorem dL_law_1029 : decode cL_law 1029 = .ok (.iaload, 1) := by decide +kernel
theorem dL_law_1030 : decode cL_law 1030 = .ok (.invokevirtual 141, 3) := by decide +kernel
theorem dL_law_1033 : decode cL_law 1033 = .ok (.if_icmp .eq 65, 3) := by decide +kernel
theorem dL_law_1036 : decode cL_law 1036 = .ok (.iconst 0, 1) := by decide +kernel
theorem dL_law_1037 : decode cL_law 1037 = .ok (.ireturn, 1) := by decide +kernel
theorem dL_law_1038 : decode cL_law 1038 = .ok (.aload_n 1, 1) := by decide +kernel
theorem dL_law_1039 : decode cL_law 1039 = .ok (.aload_n 0, 1) := by decide +kernel
theorem dL_law_1040 : decode cL_law 1040 = .ok (.iload_n 3, 1) := by decide +kernel
theorem dL_law_1041 : decode cL_law 1041 = .ok (.iconst 1, 1) := by decide +kernel
theorem dL_law_1042 : decode cL_law 1042 = .ok (.iadd, 1) := by decide +kernel
theorem dL_law_1043 : decode cL_law 1043 = .ok (.iaload, 1) := by decide +kernel
theorem dL_law_1044 : decode cL_law 1044 = .ok (.invokevirtual 142, 3) := by decide +kernel
theorem dL_law_1047 : decode cL_law 1047 = .ok (.aload_n 2, 1) := by decide +kernel
theorem dL_law_1048 : decode cL_law 1048 = .ok (.aload_n 0, 1) := by decide +kernel
theorem dL_law_1049 : decode cL_law 1049 = .ok (.iload_n 3, 1) := by decide +kernel
theorem dL_law_1050 : decode cL_law 1050 = .ok (.iconst 1, 1) := by decide +kernel
theorem dL_law_1051 : decode cL_law 1051 = .ok (.iadd, 1) := by decide +kernel
theorem dL_law_1052 : decode cL_law 1052 = .ok (.iaload, 1) := by decide +kernel
theorem dL_law_1053 : decode cL_law 1053 = .ok (.invokevirtual 145, 3) := by decide +kernel
theorem dL_law_1056 : decode cL_law 1056 = .ok (.if_icmp .eq 42, 3) := by decide +kernel
theorem dL_law_1059 : decode cL_law 1059 = .ok (.iconst 0, 1) := by decide +kernel
theorem dL_law_1060 : decode cL_law 1060 = .ok (.ireturn, 1) := by decide +kernel
theorem dL_law_1061 : decode cL_law 1061 = .ok (.aload_n 1, 1) := by decide +kernel
theorem dL_law_1062 : decode cL_law 1062 = .ok (.aload_n 0, 1) := by decide +kernel
theorem dL_law_1063 : decode cL_law 1063 = .ok (.iload_n 3, 1) := by decide +kernel
theorem dL_law_1064 : decode cL_law 1064 = .ok (.iconst 1, 1) := by decide +kernel
theorem dL_law_1065 : decode cL_law 1065 = .ok (.iadd, 1) := by decide +kernel
theorem dL_law_1066 : decode cL_law 1066 = .ok (.iaload, 1) := by decide +kernel
theorem dL_law_1067 : decode cL_law 1067 = .ok (.invokevirtual 146, 3) := by decide +kernel
theorem dL_law_1070 : decode cL_law 1070 = .ok (.aload_n 2, 1) := by decide +kernel
theorem dL_law_1071 : decode cL_law 1071 = .ok (.aload_n 0, 1) := by decide +kernel
theorem dL_law_1072 : decode cL_law 1072 = .ok (.iload_n 3, 1) := by decide +kernel
theorem dL_law_1073 : decode cL_law 1073 = .ok (.iconst 1, 1) := by decide +kernel
theorem dL_law_1074 : decode cL_law 1074 = .ok (.iadd, 1) := by decide +kernel
theorem dL_law_1075 : decode cL_law 1075 = .ok (.iaload, 1) := by decide +kernel
theorem dL_law_1076 : decode cL_law 1076 = .ok (.invokevirtual 149, 3) := by decide +kernel
theorem dL_law_1079 : decode cL_law 1079 = .ok (.if_icmp .eq 19, 3) := by decide +kernel
theorem dL_law_1082 : decode cL_law 1082 = .ok (.iconst 0, 1) := by decide +kernel
theorem dL_law_1083 : decode cL_law 1083 = .ok (.ireturn, 1) := by decide +kernel
theorem dL_law_1084 : decode cL_law 1084 = .ok (.aload_n 1, 1) := by decide +kernel
theorem dL_law_1085 : decode cL_law 1085 = .ok (.invokevirtual 150, 3) := by decide +kernel
theorem dL_law_1088 : decode cL_law 1088 = .ok (.aload_n 2, 1) := by decide +kernel
theorem dL_law_1089 : decode cL_law 1089 = .ok (.invokevirtual 154, 3) := by decide +kernel
theorem dL_law_1092 : decode cL_law 1092 = .ok (.lcmp, 1) := by decide +kernel
theorem dL_law_1093 : decode cL_law 1093 = .ok (.ifCond .eq 5, 3) := by decide +kernel
theorem dL_law_1096 : decode cL_law 1096 = .ok (.iconst 0, 1) := by decide +kernel
theorem dL_law_1097 : decode cL_law 1097 = .ok (.ireturn, 1) := by decide +kernel
theorem dL_law_1098 : decode cL_law 1098 = .ok (.iinc 3 4, 3) := by decide +kernel
theorem dL_law_1101 : decode cL_law 1101 = .ok (.goto (-1083), 3) := by decide +kernel
theorem dL_law_1104 : decode cL_law 1104 = .ok (.iconst 1, 1) := by decide +kernel
theorem dL_law_1105 : decode cL_law 1105 = .ok (.ireturn, 1) := by decide +kernel
