theorem dX0_init_0 : decode cX0_init 0 = .ok (.aload_n 0, 1) := by decide +kernel
theorem dX0_init_1 : decode cX0_init 1 = .ok (.invokespecial 3, 3) := by decide +kernel
theorem dX0_init_4 : decode cX0_init 4 = .ok (.return_, 1) := by decide +kernel
theorem dX0_moveBirthday_0 : decode cX0_moveBirthday 0 = .ok (.aload_n 0, 1) := by decide +kernel
theorem dX0_moveBirthday_1 : decode cX0_moveBirthday 1 = .ok (.getfield 9, 3) := by decide +kernel
theorem dX0_moveBirthday_4 : decode cX0_moveBirthday 4 = .ok (.istore_n 2, 1) := by decide +kernel
theorem dX0_moveBirthday_5 : decode cX0_moveBirthday 5 = .ok (.aload_n 0, 1) := by decide +kernel
theorem dX0_moveBirthday_6 : decode cX0_moveBirthday 6 = .ok (.iload_n 1, 1) := by decide +kernel
theorem dX0_moveBirthday_7 : decode cX0_moveBirthday 7 = .ok (.putfield 9, 3) := by decide +kernel
theorem dX0_moveBirthday_10 : decode cX0_moveBirthday 10 = .ok (.iload_n 2, 1) := by decide +kernel
theorem dX0_moveBirthday_11 : decode cX0_moveBirthday 11 = .ok (.ireturn, 1) := by decide +kernel
theorem dX0_isOf_0 : decode cX0_isOf 0 = .ok (.aload_n 0, 1) := by decide +kernel
theorem dX0_isOf_1 : decode cX0_isOf 1 = .ok (.getfield 15, 3) := by decide +kernel
theorem dX0_isOf_4 : decode cX0_isOf 4 = .ok (.istore_n 2, 1) := by decide +kernel
theorem dX0_isOf_5 : decode cX0_isOf 5 = .ok (.iconst 0, 1) := by decide +kernel
theorem dX0_isOf_6 : decode cX0_isOf 6 = .ok (.istore_n 3, 1) := by decide +kernel
theorem dX0_isOf_7 : decode cX0_isOf 7 = .ok (.iload_n 3, 1) := by decide +kernel
theorem dX0_isOf_8 : decode cX0_isOf 8 = .ok (.bipush 6, 2) := by decide +kernel
theorem dX0_isOf_10 : decode cX0_isOf 10 = .ok (.if_icmp .ge 32, 3) := by decide +kernel
theorem dX0_isOf_13 : decode cX0_isOf 13 = .ok (.iload_n 2, 1) := by decide +kernel
theorem dX0_isOf_14 : decode cX0_isOf 14 = .ok (.ifCond .lt 28, 3) := by decide +kernel
theorem dX0_isOf_17 : decode cX0_isOf 17 = .ok (.iload_n 2, 1) := by decide +kernel
theorem dX0_isOf_18 : decode cX0_isOf 18 = .ok (.bipush 6, 2) := by decide +kernel
theorem dX0_isOf_20 : decode cX0_isOf 20 = .ok (.if_icmp .ge 22, 3) := by decide +kernel
theorem dX0_isOf_23 : decode cX0_isOf 23 = .ok (.iload_n 2, 1) := by decide +kernel
theorem dX0_isOf_24 : decode cX0_isOf 24 = .ok (.iload_n 1, 1) := by decide +kernel
theorem dX0_isOf_25 : decode cX0_isOf 25 = .ok (.if_icmp .ne 5, 3) := by decide +kernel
theorem dX0_isOf_28 : decode cX0_isOf 28 = .ok (.iconst 1, 1) := by decide +kernel
theorem dX0_isOf_29 : decode cX0_isOf 29 = .ok (.ireturn, 1) := by decide +kernel
theorem dX0_isOf_30 : decode cX0_isOf 30 = .ok (.getstatic 18, 3) := by decide +kernel
theorem dX0_isOf_33 : decode cX0_isOf 33 = .ok (.iload_n 2, 1) := by decide +kernel
theorem dX0_isOf_34 : decode cX0_isOf 34 = .ok (.iaload, 1) := by decide +kernel
theorem dX0_isOf_35 : decode cX0_isOf 35 = .ok (.istore_n 2, 1) := by decide +kernel
theorem dX0_isOf_36 : decode cX0_isOf 36 = .ok (.iinc 3 1, 3) := by decide +kernel
theorem dX0_isOf_39 : decode cX0_isOf 39 = .ok (.goto (-32), 3) := by decide +kernel
theorem dX0_isOf_42 : decode cX0_isOf 42 = .ok (.iconst 0, 1) := by decide +kernel
theorem dX0_isOf_43 : decode cX0_isOf 43 = .ok (.ireturn, 1) := by decide +kernel
theorem dX0_ageIn_0 : decode cX0_ageIn 0 = .ok (.aload_n 0, 1) := by decide +kernel
theorem dX0_ageIn_1 : decode cX0_ageIn 1 = .ok (.getfield 9, 3) := by decide +kernel
theorem dX0_ageIn_4 : decode cX0_ageIn 4 = .ok (.iload_n 3, 1) := by decide +kernel
theorem dX0_ageIn_5 : decode cX0_ageIn 5 = .ok (.if_icmp .le 12, 3) := by decide +kernel
theorem dX0_ageIn_8 : decode cX0_ageIn 8 = .ok (.aload_n 0, 1) := by decide +kernel
theorem dX0_ageIn_9 : decode cX0_ageIn 9 = .ok (.getfield 9, 3) := by decide +kernel
theorem dX0_ageIn_12 : decode cX0_ageIn 12 = .ok (.iload_n 3, 1) := by decide +kernel
theorem dX0_ageIn_13 : decode cX0_ageIn 13 = .ok (.isub, 1) := by decide +kernel
theorem dX0_ageIn_14 : decode cX0_ageIn 14 = .ok (.goto 12, 3) := by decide +kernel
theorem dX0_ageIn_17 : decode cX0_ageIn 17 = .ok (.aload_n 0, 1) := by decide +kernel
theorem dX0_ageIn_18 : decode cX0_ageIn 18 = .ok (.getfield 9, 3) := by decide +kernel
theorem dX0_ageIn_21 : decode cX0_ageIn 21 = .ok (.iload_n 3, 1) := by decide +kernel
theorem dX0_ageIn_22 : decode cX0_ageIn 22 = .ok (.isub, 1) := by decide +kernel
theorem dX0_ageIn_23 : decode cX0_ageIn 23 = .ok (.bipush 52, 2) := by decide +kernel
theorem dX0_ageIn_25 : decode cX0_ageIn 25 = .ok (.iadd, 1) := by decide +kernel
theorem dX0_ageIn_26 : decode cX0_ageIn 26 = .ok (.istore 4, 2) := by decide +kernel
theorem dX0_ageIn_28 : decode cX0_ageIn 28 = .ok (.iload_n 1, 1) := by decide +kernel
theorem dX0_ageIn_29 : decode cX0_ageIn 29 = .ok (.iload 4, 2) := by decide +kernel
theorem dX0_ageIn_31 : decode cX0_ageIn 31 = .ok (.if_icmp .ge 7, 3) := by decide +kernel
theorem dX0_ageIn_34 : decode cX0_ageIn 34 = .ok (.iconst 0, 1) := by decide +kernel
theorem dX0_ageIn_35 : decode cX0_ageIn 35 = .ok (.goto 12, 3) := by decide +kernel
theorem dX0_ageIn_38 : decode cX0_ageIn 38 = .ok (.iconst 1, 1) := by decide +kernel
theorem dX0_ageIn_39 : decode cX0_ageIn 39 = .ok (.iload_n 1, 1) := by decide +kernel
theorem dX0_ageIn_40 : decode cX0_ageIn 40 = .ok (.iload 4, 2) := by decide +kernel
theorem dX0_ageIn_42 : decode cX0_ageIn 42 = .ok (.isub, 1) := by decide +kernel
theorem dX0_ageIn_43 : decode cX0_ageIn 43 = .ok (.bipush 52, 2) := by decide +kernel
theorem dX0_ageIn_45 : decode cX0_ageIn 45 = .ok (.idiv, 1) := by decide +kernel
theorem dX0_ageIn_46 : decode cX0_ageIn 46 = .ok (.iadd, 1) := by decide +kernel
theorem dX0_ageIn_47 : decode cX0_ageIn 47 = .ok (.istore 5, 2) := by decide +kernel
theorem dX0_ageIn_49 : decode cX0_ageIn 49 = .ok (.bipush 99, 2) := by decide +kernel
theorem dX0_ageIn_51 : decode cX0_ageIn 51 = .ok (.iload_n 2, 1) := by decide +kernel
theorem dX0_ageIn_52 : decode cX0_ageIn 52 = .ok (.iload 5, 2) := by decide +kernel
theorem dX0_ageIn_54 : decode cX0_ageIn 54 = .ok (.iadd, 1) := by decide +kernel
theorem dX0_ageIn_55 : decode cX0_ageIn 55 = .ok (.invokestatic 22, 3) := by decide +kernel
theorem dX0_ageIn_58 : decode cX0_ageIn 58 = .ok (.ireturn, 1) := by decide +kernel
theorem dX0_penceAt_0 : decode cX0_penceAt 0 = .ok (.iconst 3, 1) := by decide +kernel
theorem dX0_penceAt_1 : decode cX0_penceAt 1 = .ok (.iload_n 1, 1) := by decide +kernel
theorem dX0_penceAt_2 : decode cX0_penceAt 2 = .ok (.invokestatic 28, 3) := by decide +kernel
theorem dX0_penceAt_5 : decode cX0_penceAt 5 = .ok (.istore_n 3, 1) := by decide +kernel
theorem dX0_penceAt_6 : decode cX0_penceAt 6 = .ok (.iload_n 1, 1) := by decide +kernel
theorem dX0_penceAt_7 : decode cX0_penceAt 7 = .ok (.iconst 0, 1) := by decide +kernel
theorem dX0_penceAt_8 : decode cX0_penceAt 8 = .ok (.iload_n 1, 1) := by decide +kernel
theorem dX0_penceAt_9 : decode cX0_penceAt 9 = .ok (.bipush 60, 2) := by decide +kernel
theorem dX0_penceAt_11 : decode cX0_penceAt 11 = .ok (.isub, 1) := by decide +kernel
theorem dX0_penceAt_12 : decode cX0_penceAt 12 = .ok (.invokestatic 28, 3) := by decide +kernel
theorem dX0_penceAt_15 : decode cX0_penceAt 15 = .ok (.iconst 2, 1) := by decide +kernel
theorem dX0_penceAt_16 : decode cX0_penceAt 16 = .ok (.idiv, 1) := by decide +kernel
theorem dX0_penceAt_17 : decode cX0_penceAt 17 = .ok (.isub, 1) := by decide +kernel
theorem dX0_penceAt_18 : decode cX0_penceAt 18 = .ok (.istore 4, 2) := by decide +kernel
theorem dX0_penceAt_20 : decode cX0_penceAt 20 = .ok (.aload_n 0, 1) := by decide +kernel
theorem dX0_penceAt_21 : decode cX0_penceAt 21 = .ok (.getfield 15, 3) := by decide +kernel
theorem dX0_penceAt_24 : decode cX0_penceAt 24 = .ok (.tableswitch 77 1 5 #[36, 38, 41, 45, 65], 36) := by decide +kernel
theorem dX0_penceAt_60 : decode cX0_penceAt 60 = .ok (.iload_n 3, 1) := by decide +kernel
theorem dX0_penceAt_61 : decode cX0_penceAt 61 = .ok (.ireturn, 1) := by decide +kernel
theorem dX0_penceAt_62 : decode cX0_penceAt 62 = .ok (.iload 4, 2) := by decide +kernel
theorem dX0_penceAt_64 : decode cX0_penceAt 64 = .ok (.ireturn, 1) := by decide +kernel
theorem dX0_penceAt_65 : decode cX0_penceAt 65 = .ok (.iconst 2, 1) := by decide +kernel
theorem dX0_penceAt_66 : decode cX0_penceAt 66 = .ok (.iload_n 3, 1) := by decide +kernel
theorem dX0_penceAt_67 : decode cX0_penceAt 67 = .ok (.imul, 1) := by decide +kernel
theorem dX0_penceAt_68 : decode cX0_penceAt 68 = .ok (.ireturn, 1) := by decide +kernel
theorem dX0_penceAt_69 : decode cX0_penceAt 69 = .ok (.iload_n 2, 1) := by decide +kernel
theorem dX0_penceAt_70 : decode cX0_penceAt 70 = .ok (.iconst 4, 1) := by decide +kernel
theorem dX0_penceAt_71 : decode cX0_penceAt 71 = .ok (.irem, 1) := by decide +kernel
theorem dX0_penceAt_72 : decode cX0_penceAt 72 = .ok (.aload_n 0, 1) := by decide +kernel
theorem dX0_penceAt_73 : decode cX0_penceAt 73 = .ok (.getfield 31, 3) := by decide +kernel
theorem dX0_penceAt_76 : decode cX0_penceAt 76 = .ok (.iconst 4, 1) := by decide +kernel
theorem dX0_penceAt_77 : decode cX0_penceAt 77 = .ok (.irem, 1) := by decide +kernel
theorem dX0_penceAt_78 : decode cX0_penceAt 78 = .ok (.if_icmp .ne 9, 3) := by decide +kernel
theorem dX0_penceAt_81 : decode cX0_penceAt 81 = .ok (.iload_n 3, 1) := by decide +kernel
theorem dX0_penceAt_82 : decode cX0_penceAt 82 = .ok (.iconst 1, 1) := by decide +kernel
theorem dX0_penceAt_83 : decode cX0_penceAt 83 = .ok (.iadd, 1) := by decide +kernel
theorem dX0_penceAt_84 : decode cX0_penceAt 84 = .ok (.goto 4, 3) := by decide +kernel
theorem dX0_penceAt_87 : decode cX0_penceAt 87 = .ok (.iload_n 3, 1) := by decide +kernel
theorem dX0_penceAt_88 : decode cX0_penceAt 88 = .ok (.ireturn, 1) := by decide +kernel
theorem dX0_penceAt_89 : decode cX0_penceAt 89 = .ok (.iconst 0, 1) := by decide +kernel
theorem dX0_penceAt_90 : decode cX0_penceAt 90 = .ok (.iload 4, 2) := by decide +kernel
theorem dX0_penceAt_92 : decode cX0_penceAt 92 = .ok (.aload_n 0, 1) := by decide +kernel
theorem dX0_penceAt_93 : decode cX0_penceAt 93 = .ok (.getfield 31, 3) := by decide +kernel
theorem dX0_penceAt_96 : decode cX0_penceAt 96 = .ok (.isub, 1) := by decide +kernel
theorem dX0_penceAt_97 : decode cX0_penceAt 97 = .ok (.invokestatic 28, 3) := by decide +kernel
theorem dX0_penceAt_100 : decode cX0_penceAt 100 = .ok (.ireturn, 1) := by decide +kernel
theorem dX0_penceAt_101 : decode cX0_penceAt 101 = .ok (.iload_n 1, 1) := by decide +kernel
theorem dX0_penceAt_102 : decode cX0_penceAt 102 = .ok (.ireturn, 1) := by decide +kernel
theorem dX0_asksBy_0 : decode cX0_asksBy 0 = .ok (.aload_n 0, 1) := by decide +kernel
theorem dX0_asksBy_1 : decode cX0_asksBy 1 = .ok (.getfield 15, 3) := by decide +kernel
theorem dX0_asksBy_4 : decode cX0_asksBy 4 = .ok (.tableswitch 55 1 5 #[36, 55, 40, 36, 46], 36) := by decide +kernel
theorem dX0_asksBy_40 : decode cX0_asksBy 40 = .ok (.iload_n 1, 1) := by decide +kernel
theorem dX0_asksBy_41 : decode cX0_asksBy 41 = .ok (.iconst 2, 1) := by decide +kernel
theorem dX0_asksBy_42 : decode cX0_asksBy 42 = .ok (.idiv, 1) := by decide +kernel
theorem dX0_asksBy_43 : decode cX0_asksBy 43 = .ok (.ireturn, 1) := by decide +kernel
theorem dX0_asksBy_44 : decode cX0_asksBy 44 = .ok (.iload_n 1, 1) := by decide +kernel
theorem dX0_asksBy_45 : decode cX0_asksBy 45 = .ok (.iconst 2, 1) := by decide +kernel
theorem dX0_asksBy_46 : decode cX0_asksBy 46 = .ok (.idiv, 1) := by decide +kernel
theorem dX0_asksBy_47 : decode cX0_asksBy 47 = .ok (.iconst 5, 1) := by decide +kernel
theorem dX0_asksBy_48 : decode cX0_asksBy 48 = .ok (.iadd, 1) := by decide +kernel
theorem dX0_asksBy_49 : decode cX0_asksBy 49 = .ok (.ireturn, 1) := by decide +kernel
theorem dX0_asksBy_50 : decode cX0_asksBy 50 = .ok (.iconst 2, 1) := by decide +kernel
theorem dX0_asksBy_51 : decode cX0_asksBy 51 = .ok (.iload_n 1, 1) := by decide +kernel
theorem dX0_asksBy_52 : decode cX0_asksBy 52 = .ok (.imul, 1) := by decide +kernel
theorem dX0_asksBy_53 : decode cX0_asksBy 53 = .ok (.aload_n 0, 1) := by decide +kernel
theorem dX0_asksBy_54 : decode cX0_asksBy 54 = .ok (.getfield 31, 3) := by decide +kernel
theorem dX0_asksBy_57 : decode cX0_asksBy 57 = .ok (.iadd, 1) := by decide +kernel
theorem dX0_asksBy_58 : decode cX0_asksBy 58 = .ok (.ireturn, 1) := by decide +kernel
theorem dX0_asksBy_59 : decode cX0_asksBy 59 = .ok (.iload_n 1, 1) := by decide +kernel
theorem dX0_asksBy_60 : decode cX0_asksBy 60 = .ok (.ireturn, 1) := by decide +kernel
theorem dX1_init_0 : decode cX1_init 0 = .ok (.aload_n 0, 1) := by decide +kernel
theorem dX1_init_1 : decode cX1_init 1 = .ok (.invokespecial 3, 3) := by decide +kernel
theorem dX1_init_4 : decode cX1_init 4 = .ok (.aload_n 0, 1) := by decide +kernel
theorem dX1_init_5 : decode cX1_init 5 = .ok (.bipush 49, 2) := by decide +kernel
theorem dX1_init_7 : decode cX1_init 7 = .ok (.newarray .int, 2) := by decide +kernel
theorem dX1_init_9 : decode cX1_init 9 = .ok (.putfield 9, 3) := by decide +kernel
theorem dX1_init_12 : decode cX1_init 12 = .ok (.aload_n 0, 1) := by decide +kernel
theorem dX1_init_13 : decode cX1_init 13 = .ok (.bipush 7, 2) := by decide +kernel
theorem dX1_init_15 : decode cX1_init 15 = .ok (.newarray .int, 2) := by decide +kernel
theorem dX1_init_17 : decode cX1_init 17 = .ok (.putfield 15, 3) := by decide +kernel
theorem dX1_init_20 : decode cX1_init 20 = .ok (.aload_n 0, 1) := by decide +kernel
theorem dX1_init_21 : decode cX1_init 21 = .ok (.bipush 7, 2) := by decide +kernel
theorem dX1_init_23 : decode cX1_init 23 = .ok (.newarray .int, 2) := by decide +kernel
theorem dX1_init_25 : decode cX1_init 25 = .ok (.putfield 18, 3) := by decide +kernel
theorem dX1_init_28 : decode cX1_init 28 = .ok (.return_, 1) := by decide +kernel
theorem dX1_setBars_0 : decode cX1_setBars 0 = .ok (.iconst 0, 1) := by decide +kernel
theorem dX1_setBars_1 : decode cX1_setBars 1 = .ok (.istore 4, 2) := by decide +kernel
theorem dX1_setBars_3 : decode cX1_setBars 3 = .ok (.iload 4, 2) := by decide +kernel
theorem dX1_setBars_5 : decode cX1_setBars 5 = .ok (.iload_n 3, 1) := by decide +kernel
theorem dX1_setBars_6 : decode cX1_setBars 6 = .ok (.if_icmp .ge 85, 3) := by decide +kernel
theorem dX1_setBars_9 : decode cX1_setBars 9 = .ok (.ldc 21, 2) := by decide +kernel
theorem dX1_setBars_11 : decode cX1_setBars 11 = .ok (.istore 5, 2) := by decide +kernel
theorem dX1_setBars_13 : decode cX1_setBars 13 = .ok (.iconst 0, 1) := by decide +kernel
theorem dX1_setBars_14 : decode cX1_setBars 14 = .ok (.istore 6, 2) := by decide +kernel
theorem dX1_setBars_16 : decode cX1_setBars 16 = .ok (.iload 6, 2) := by decide +kernel
theorem dX1_setBars_18 : decode cX1_setBars 18 = .ok (.iload_n 2, 1) := by decide +kernel
theorem dX1_setBars_19 : decode cX1_setBars 19 = .ok (.if_icmp .ge 57, 3) := by decide +kernel
theorem dX1_setBars_22 : decode cX1_setBars 22 = .ok (.aload_n 0, 1) := by decide +kernel
theorem dX1_setBars_23 : decode cX1_setBars 23 = .ok (.getfield 9, 3) := by decide +kernel
theorem dX1_setBars_26 : decode cX1_setBars 26 = .ok (.iload 6, 2) := by decide +kernel
theorem dX1_setBars_28 : decode cX1_setBars 28 = .ok (.bipush 7, 2) := by decide +kernel
theorem dX1_setBars_30 : decode cX1_setBars 30 = .ok (.imul, 1) := by decide +kernel
theorem dX1_setBars_31 : decode cX1_setBars 31 = .ok (.iload 4, 2) := by decide +kernel
theorem dX1_setBars_33 : decode cX1_setBars 33 = .ok (.iadd, 1) := by decide +kernel
theorem dX1_setBars_34 : decode cX1_setBars 34 = .ok (.iaload, 1) := by decide +kernel
theorem dX1_setBars_35 : decode cX1_setBars 35 = .ok (.istore 7, 2) := by decide +kernel
theorem dX1_setBars_37 : decode cX1_setBars 37 = .ok (.iload 6, 2) := by decide +kernel
theorem dX1_setBars_39 : decode cX1_setBars 39 = .ok (.iload_n 1, 1) := by decide +kernel
theorem dX1_setBars_40 : decode cX1_setBars 40 = .ok (.if_icmp .eq 30, 3) := by decide +kernel
theorem dX1_setBars_43 : decode cX1_setBars 43 = .ok (.iload 7, 2) := by decide +kernel
theorem dX1_setBars_45 : decode cX1_setBars 45 = .ok (.ifCond .lt 25, 3) := by decide +kernel
theorem dX1_setBars_48 : decode cX1_setBars 48 = .ok (.iload 5, 2) := by decide +kernel
theorem dX1_setBars_50 : decode cX1_setBars 50 = .ok (.iload 6, 2) := by decide +kernel
theorem dX1_setBars_52 : decode cX1_setBars 52 = .ok (.iload_n 1, 1) := by decide +kernel
theorem dX1_setBars_53 : decode cX1_setBars 53 = .ok (.if_icmp .ge 10, 3) := by decide +kernel
theorem dX1_setBars_56 : decode cX1_setBars 56 = .ok (.iload 7, 2) := by decide +kernel
theorem dX1_setBars_58 : decode cX1_setBars 58 = .ok (.iconst 1, 1) := by decide +kernel
theorem dX1_setBars_59 : decode cX1_setBars 59 = .ok (.isub, 1) := by decide +kernel
theorem dX1_setBars_60 : decode cX1_setBars 60 = .ok (.goto 5, 3) := by decide +kernel
theorem dX1_setBars_63 : decode cX1_setBars 63 = .ok (.iload 7, 2) := by decide +kernel
theorem dX1_setBars_65 : decode cX1_setBars 65 = .ok (.invokestatic 22, 3) := by decide +kernel
theorem dX1_setBars_68 : decode cX1_setBars 68 = .ok (.istore 5, 2) := by decide +kernel
theorem dX1_setBars_70 : decode cX1_setBars 70 = .ok (.iinc 6 1, 3) := by decide +kernel
theorem dX1_setBars_73 : decode cX1_setBars 73 = .ok (.goto (-57), 3) := by decide +kernel
theorem dX1_setBars_76 : decode cX1_setBars 76 = .ok (.aload_n 0, 1) := by decide +kernel
theorem dX1_setBars_77 : decode cX1_setBars 77 = .ok (.getfield 18, 3) := by decide +kernel
theorem dX1_setBars_80 : decode cX1_setBars 80 = .ok (.iload 4, 2) := by decide +kernel
theorem dX1_setBars_82 : decode cX1_setBars 82 = .ok (.iload 5, 2) := by decide +kernel
theorem dX1_setBars_84 : decode cX1_setBars 84 = .ok (.iastore, 1) := by decide +kernel
theorem dX1_setBars_85 : decode cX1_setBars 85 = .ok (.iinc 4 1, 3) := by decide +kernel
theorem dX1_setBars_88 : decode cX1_setBars 88 = .ok (.goto (-85), 3) := by decide +kernel
theorem dX1_setBars_91 : decode cX1_setBars 91 = .ok (.return_, 1) := by decide +kernel
theorem dX2_init_0 : decode cX2_init 0 = .ok (.aload_n 0, 1) := by decide +kernel
theorem dX2_init_1 : decode cX2_init 1 = .ok (.invokespecial 3, 3) := by decide +kernel
theorem dX2_init_4 : decode cX2_init 4 = .ok (.aload_n 0, 1) := by decide +kernel
theorem dX2_init_5 : decode cX2_init 5 = .ok (.sipush 128, 3) := by decide +kernel
theorem dX2_init_8 : decode cX2_init 8 = .ok (.newarray .int, 2) := by decide +kernel
theorem dX2_init_10 : decode cX2_init 10 = .ok (.putfield 9, 3) := by decide +kernel
theorem dX2_init_13 : decode cX2_init 13 = .ok (.aload_n 0, 1) := by decide +kernel
theorem dX2_init_14 : decode cX2_init 14 = .ok (.sipush 128, 3) := by decide +kernel
theorem dX2_init_17 : decode cX2_init 17 = .ok (.newarray .int, 2) := by decide +kernel
theorem dX2_init_19 : decode cX2_init 19 = .ok (.putfield 15, 3) := by decide +kernel
theorem dX2_init_22 : decode cX2_init 22 = .ok (.aload_n 0, 1) := by decide +kernel
theorem dX2_init_23 : decode cX2_init 23 = .ok (.sipush 128, 3) := by decide +kernel
theorem dX2_init_26 : decode cX2_init 26 = .ok (.newarray .int, 2) := by decide +kernel
theorem dX2_init_28 : decode cX2_init 28 = .ok (.putfield 18, 3) := by decide +kernel
theorem dX2_init_31 : decode cX2_init 31 = .ok (.aload_n 0, 1) := by decide +kernel
theorem dX2_init_32 : decode cX2_init 32 = .ok (.sipush 128, 3) := by decide +kernel
theorem dX2_init_35 : decode cX2_init 35 = .ok (.newarray .int, 2) := by decide +kernel
theorem dX2_init_37 : decode cX2_init 37 = .ok (.putfield 21, 3) := by decide +kernel
theorem dX2_init_40 : decode cX2_init 40 = .ok (.aload_n 0, 1) := by decide +kernel
theorem dX2_init_41 : decode cX2_init 41 = .ok (.sipush 128, 3) := by decide +kernel
theorem dX2_init_44 : decode cX2_init 44 = .ok (.newarray .int, 2) := by decide +kernel
theorem dX2_init_46 : decode cX2_init 46 = .ok (.putfield 24, 3) := by decide +kernel
theorem dX2_init_49 : decode cX2_init 49 = .ok (.return_, 1) := by decide +kernel
theorem dX2_choose_0 : decode cX2_choose 0 = .ok (.iload_n 1, 1) := by decide +kernel
theorem dX2_choose_1 : decode cX2_choose 1 = .ok (.iload_n 1, 1) := by decide +kernel
theorem dX2_choose_2 : decode cX2_choose 2 = .ok (.ineg, 1) := by decide +kernel
theorem dX2_choose_3 : decode cX2_choose 3 = .ok (.iand, 1) := by decide +kernel
theorem dX2_choose_4 : decode cX2_choose 4 = .ok (.istore_n 2, 1) := by decide +kernel
theorem dX2_choose_5 : decode cX2_choose 5 = .ok (.iload_n 1, 1) := by decide +kernel
theorem dX2_choose_6 : decode cX2_choose 6 = .ok (.iload_n 2, 1) := by decide +kernel
theorem dX2_choose_7 : decode cX2_choose 7 = .ok (.ixor, 1) := by decide +kernel
theorem dX2_choose_8 : decode cX2_choose 8 = .ok (.istore_n 3, 1) := by decide +kernel
theorem dX2_choose_9 : decode cX2_choose 9 = .ok (.aload_n 0, 1) := by decide +kernel
theorem dX2_choose_10 : decode cX2_choose 10 = .ok (.getfield 15, 3) := by decide +kernel
theorem dX2_choose_13 : decode cX2_choose 13 = .ok (.iload_n 1, 1) := by decide +kernel
theorem dX2_choose_14 : decode cX2_choose 14 = .ok (.bipush (-5), 2) := by decide +kernel
theorem dX2_choose_16 : decode cX2_choose 16 = .ok (.iastore, 1) := by decide +kernel
theorem dX2_choose_17 : decode cX2_choose 17 = .ok (.iconst 0, 1) := by decide +kernel
theorem dX2_choose_18 : decode cX2_choose 18 = .ok (.istore 4, 2) := by decide +kernel
theorem dX2_choose_20 : decode cX2_choose 20 = .ok (.iconst 1, 1) := by decide +kernel
theorem dX2_choose_21 : decode cX2_choose 21 = .ok (.iload_n 3, 1) := by decide +kernel
theorem dX2_choose_22 : decode cX2_choose 22 = .ok (.invokestatic 27, 3) := by decide +kernel
theorem dX2_choose_25 : decode cX2_choose 25 = .ok (.ishl, 1) := by decide +kernel
theorem dX2_choose_26 : decode cX2_choose 26 = .ok (.istore 5, 2) := by decide +kernel
theorem dX2_choose_28 : decode cX2_choose 28 = .ok (.iload 5, 2) := by decide +kernel
theorem dX2_choose_30 : decode cX2_choose 30 = .ok (.ifCond .le 26, 3) := by decide +kernel
theorem dX2_choose_33 : decode cX2_choose 33 = .ok (.aload_n 0, 1) := by decide +kernel
theorem dX2_choose_34 : decode cX2_choose 34 = .ok (.iload_n 1, 1) := by decide +kernel
theorem dX2_choose_35 : decode cX2_choose 35 = .ok (.iload_n 2, 1) := by decide +kernel
theorem dX2_choose_36 : decode cX2_choose 36 = .ok (.iload 4, 2) := by decide +kernel
theorem dX2_choose_38 : decode cX2_choose 38 = .ok (.ior, 1) := by decide +kernel
theorem dX2_choose_39 : decode cX2_choose 39 = .ok (.invokevirtual 33, 3) := by decide +kernel
theorem dX2_choose_42 : decode cX2_choose 42 = .ok (.iload 4, 2) := by decide +kernel
theorem dX2_choose_44 : decode cX2_choose 44 = .ok (.iload_n 3, 1) := by decide +kernel
theorem dX2_choose_45 : decode cX2_choose 45 = .ok (.isub, 1) := by decide +kernel
theorem dX2_choose_46 : decode cX2_choose 46 = .ok (.iload_n 3, 1) := by decide +kernel
theorem dX2_choose_47 : decode cX2_choose 47 = .ok (.iand, 1) := by decide +kernel
theorem dX2_choose_48 : decode cX2_choose 48 = .ok (.istore 4, 2) := by decide +kernel
theorem dX2_choose_50 : decode cX2_choose 50 = .ok (.iinc 5 (-1), 3) := by decide +kernel
theorem dX2_choose_53 : decode cX2_choose 53 = .ok (.goto (-25), 3) := by decide +kernel
theorem dX2_choose_56 : decode cX2_choose 56 = .ok (.return_, 1) := by decide +kernel
theorem dX2_tryHeap_0 : decode cX2_tryHeap 0 = .ok (.iload_n 1, 1) := by decide +kernel
theorem dX2_tryHeap_1 : decode cX2_tryHeap 1 = .ok (.iload_n 2, 1) := by decide +kernel
theorem dX2_tryHeap_2 : decode cX2_tryHeap 2 = .ok (.ixor, 1) := by decide +kernel
theorem dX2_tryHeap_3 : decode cX2_tryHeap 3 = .ok (.istore_n 3, 1) := by decide +kernel
theorem dX2_tryHeap_4 : decode cX2_tryHeap 4 = .ok (.aload_n 0, 1) := by decide +kernel
theorem dX2_tryHeap_5 : decode cX2_tryHeap 5 = .ok (.getfield 9, 3) := by decide +kernel
theorem dX2_tryHeap_8 : decode cX2_tryHeap 8 = .ok (.iload_n 2, 1) := by decide +kernel
theorem dX2_tryHeap_9 : decode cX2_tryHeap 9 = .ok (.iaload, 1) := by decide +kernel
theorem dX2_tryHeap_10 : decode cX2_tryHeap 10 = .ok (.ifCond .lt 12, 3) := by decide +kernel
theorem dX2_tryHeap_13 : decode cX2_tryHeap 13 = .ok (.aload_n 0, 1) := by decide +kernel
theorem dX2_tryHeap_14 : decode cX2_tryHeap 14 = .ok (.getfield 15, 3) := by decide +kernel
theorem dX2_tryHeap_17 : decode cX2_tryHeap 17 = .ok (.iload_n 3, 1) := by decide +kernel
theorem dX2_tryHeap_18 : decode cX2_tryHeap 18 = .ok (.iaload, 1) := by decide +kernel
theorem dX2_tryHeap_19 : decode cX2_tryHeap 19 = .ok (.ifCond .ge 4, 3) := by decide +kernel
theorem dX2_tryHeap_22 : decode cX2_tryHeap 22 = .ok (.return_, 1) := by decide +kernel
theorem dX2_tryHeap_23 : decode cX2_tryHeap 23 = .ok (.aload_n 0, 1) := by decide +kernel
theorem dX2_tryHeap_24 : decode cX2_tryHeap 24 = .ok (.getfield 9, 3) := by decide +kernel
theorem dX2_tryHeap_27 : decode cX2_tryHeap 27 = .ok (.iload_n 2, 1) := by decide +kernel
theorem dX2_tryHeap_28 : decode cX2_tryHeap 28 = .ok (.iaload, 1) := by decide +kernel
theorem dX2_tryHeap_29 : decode cX2_tryHeap 29 = .ok (.aload_n 0, 1) := by decide +kernel
theorem dX2_tryHeap_30 : decode cX2_tryHeap 30 = .ok (.getfield 15, 3) := by decide +kernel
theorem dX2_tryHeap_33 : decode cX2_tryHeap 33 = .ok (.iload_n 3, 1) := by decide +kernel
theorem dX2_tryHeap_34 : decode cX2_tryHeap 34 = .ok (.iaload, 1) := by decide +kernel
theorem dX2_tryHeap_35 : decode cX2_tryHeap 35 = .ok (.iadd, 1) := by decide +kernel
theorem dX2_tryHeap_36 : decode cX2_tryHeap 36 = .ok (.istore 4, 2) := by decide +kernel
theorem dX2_tryHeap_38 : decode cX2_tryHeap 38 = .ok (.iconst 1, 1) := by decide +kernel
theorem dX2_tryHeap_39 : decode cX2_tryHeap 39 = .ok (.aload_n 0, 1) := by decide +kernel
theorem dX2_tryHeap_40 : decode cX2_tryHeap 40 = .ok (.getfield 18, 3) := by decide +kernel
theorem dX2_tryHeap_43 : decode cX2_tryHeap 43 = .ok (.iload_n 3, 1) := by decide +kernel
theorem dX2_tryHeap_44 : decode cX2_tryHeap 44 = .ok (.iaload, 1) := by decide +kernel
theorem dX2_tryHeap_45 : decode cX2_tryHeap 45 = .ok (.iadd, 1) := by decide +kernel
theorem dX2_tryHeap_46 : decode cX2_tryHeap 46 = .ok (.istore 5, 2) := by decide +kernel
theorem dX2_tryHeap_48 : decode cX2_tryHeap 48 = .ok (.aload_n 0, 1) := by decide +kernel
theorem dX2_tryHeap_49 : decode cX2_tryHeap 49 = .ok (.getfield 15, 3) := by decide +kernel
theorem dX2_tryHeap_52 : decode cX2_tryHeap 52 = .ok (.iload_n 1, 1) := by decide +kernel
theorem dX2_tryHeap_53 : decode cX2_tryHeap 53 = .ok (.iaload, 1) := by decide +kernel
theorem dX2_tryHeap_54 : decode cX2_tryHeap 54 = .ok (.ifCond .lt 36, 3) := by decide +kernel
theorem dX2_tryHeap_57 : decode cX2_tryHeap 57 = .ok (.iload 4, 2) := by decide +kernel
theorem dX2_tryHeap_59 : decode cX2_tryHeap 59 = .ok (.aload_n 0, 1) := by decide +kernel
theorem dX2_tryHeap_60 : decode cX2_tryHeap 60 = .ok (.getfield 15, 3) := by decide +kernel
theorem dX2_tryHeap_63 : decode cX2_tryHeap 63 = .ok (.iload_n 1, 1) := by decide +kernel
theorem dX2_tryHeap_64 : decode cX2_tryHeap 64 = .ok (.iaload, 1) := by decide +kernel
theorem dX2_tryHeap_65 : decode cX2_tryHeap 65 = .ok (.if_icmp .lt 25, 3) := by decide +kernel
theorem dX2_tryHeap_68 : decode cX2_tryHeap 68 = .ok (.iload 4, 2) := by decide +kernel
theorem dX2_tryHeap_70 : decode cX2_tryHeap 70 = .ok (.aload_n 0, 1) := by decide +kernel
theorem dX2_tryHeap_71 : decode cX2_tryHeap 71 = .ok (.getfield 15, 3) := by decide +kernel
theorem dX2_tryHeap_74 : decode cX2_tryHeap 74 = .ok (.iload_n 1, 1) := by decide +kernel
theorem dX2_tryHeap_75 : decode cX2_tryHeap 75 = .ok (.iaload, 1) := by decide +kernel
theorem dX2_tryHeap_76 : decode cX2_tryHeap 76 = .ok (.if_icmp .ne 37, 3) := by decide +kernel
theorem dX2_tryHeap_79 : decode cX2_tryHeap 79 = .ok (.iload 5, 2) := by decide +kernel
theorem dX2_tryHeap_81 : decode cX2_tryHeap 81 = .ok (.aload_n 0, 1) := by decide +kernel
theorem dX2_tryHeap_82 : decode cX2_tryHeap 82 = .ok (.getfield 18, 3) := by decide +kernel
theorem dX2_tryHeap_85 : decode cX2_tryHeap 85 = .ok (.iload_n 1, 1) := by decide +kernel
theorem dX2_tryHeap_86 : decode cX2_tryHeap 86 = .ok (.iaload, 1) := by decide +kernel
theorem dX2_tryHeap_87 : decode cX2_tryHeap 87 = .ok (.if_icmp .ge 26, 3) := by decide +kernel
theorem dX2_tryHeap_90 : decode cX2_tryHeap 90 = .ok (.aload_n 0, 1) := by decide +kernel
theorem dX2_tryHeap_91 : decode cX2_tryHeap 91 = .ok (.getfield 15, 3) := by decide +kernel
theorem dX2_tryHeap_94 : decode cX2_tryHeap 94 = .ok (.iload_n 1, 1) := by decide +kernel
theorem dX2_tryHeap_95 : decode cX2_tryHeap 95 = .ok (.iload 4, 2) := by decide +kernel
theorem dX2_tryHeap_97 : decode cX2_tryHeap 97 = .ok (.iastore, 1) := by decide +kernel
theorem dX2_tryHeap_98 : decode cX2_tryHeap 98 = .ok (.aload_n 0, 1) := by decide +kernel
theorem dX2_tryHeap_99 : decode cX2_tryHeap 99 = .ok (.getfield 18, 3) := by decide +kernel
theorem dX2_tryHeap_102 : decode cX2_tryHeap 102 = .ok (.iload_n 1, 1) := by decide +kernel
theorem dX2_tryHeap_103 : decode cX2_tryHeap 103 = .ok (.iload 5, 2) := by decide +kernel
theorem dX2_tryHeap_105 : decode cX2_tryHeap 105 = .ok (.iastore, 1) := by decide +kernel
theorem dX2_tryHeap_106 : decode cX2_tryHeap 106 = .ok (.aload_n 0, 1) := by decide +kernel
theorem dX2_tryHeap_107 : decode cX2_tryHeap 107 = .ok (.getfield 21, 3) := by decide +kernel
theorem dX2_tryHeap_110 : decode cX2_tryHeap 110 = .ok (.iload_n 1, 1) := by decide +kernel
theorem dX2_tryHeap_111 : decode cX2_tryHeap 111 = .ok (.iload_n 2, 1) := by decide +kernel
theorem dX2_tryHeap_112 : decode cX2_tryHeap 112 = .ok (.iastore, 1) := by decide +kernel
theorem dX2_tryHeap_113 : decode cX2_tryHeap 113 = .ok (.return_, 1) := by decide +kernel
theorem dX2_heapOf_0 : decode cX2_heapOf 0 = .ok (.iload_n 2, 1) := by decide +kernel
theorem dX2_heapOf_1 : decode cX2_heapOf 1 = .ok (.istore_n 3, 1) := by decide +kernel
theorem dX2_heapOf_2 : decode cX2_heapOf 2 = .ok (.aload_n 0, 1) := by decide +kernel
theorem dX2_heapOf_3 : decode cX2_heapOf 3 = .ok (.getfield 15, 3) := by decide +kernel
theorem dX2_heapOf_6 : decode cX2_heapOf 6 = .ok (.iload_n 3, 1) := by decide +kernel
theorem dX2_heapOf_7 : decode cX2_heapOf 7 = .ok (.iaload, 1) := by decide +kernel
theorem dX2_heapOf_8 : decode cX2_heapOf 8 = .ok (.ifCond .ge 5, 3) := by decide +kernel
theorem dX2_heapOf_11 : decode cX2_heapOf 11 = .ok (.iconst (-1), 1) := by decide +kernel
theorem dX2_heapOf_12 : decode cX2_heapOf 12 = .ok (.ireturn, 1) := by decide +kernel
theorem dX2_heapOf_13 : decode cX2_heapOf 13 = .ok (.iconst 0, 1) := by decide +kernel
theorem dX2_heapOf_14 : decode cX2_heapOf 14 = .ok (.istore 4, 2) := by decide +kernel
theorem dX2_heapOf_16 : decode cX2_heapOf 16 = .ok (.iload 4, 2) := by decide +kernel
theorem dX2_heapOf_18 : decode cX2_heapOf 18 = .ok (.bipush 7, 2) := by decide +kernel
theorem dX2_heapOf_20 : decode cX2_heapOf 20 = .ok (.if_icmp .ge 42, 3) := by decide +kernel
theorem dX2_heapOf_23 : decode cX2_heapOf 23 = .ok (.iload_n 3, 1) := by decide +kernel
theorem dX2_heapOf_24 : decode cX2_heapOf 24 = .ok (.ifCond .eq 38, 3) := by decide +kernel
theorem dX2_heapOf_27 : decode cX2_heapOf 27 = .ok (.aload_n 0, 1) := by decide +kernel
theorem dX2_heapOf_28 : decode cX2_heapOf 28 = .ok (.getfield 21, 3) := by decide +kernel
theorem dX2_heapOf_31 : decode cX2_heapOf 31 = .ok (.iload_n 3, 1) := by decide +kernel
theorem dX2_heapOf_32 : decode cX2_heapOf 32 = .ok (.iaload, 1) := by decide +kernel
theorem dX2_heapOf_33 : decode cX2_heapOf 33 = .ok (.iload_n 1, 1) := by decide +kernel
theorem dX2_heapOf_34 : decode cX2_heapOf 34 = .ok (.invokestatic 37, 3) := by decide +kernel
theorem dX2_heapOf_37 : decode cX2_heapOf 37 = .ok (.ifCond .eq 10, 3) := by decide +kernel
theorem dX2_heapOf_40 : decode cX2_heapOf 40 = .ok (.aload_n 0, 1) := by decide +kernel
theorem dX2_heapOf_41 : decode cX2_heapOf 41 = .ok (.getfield 21, 3) := by decide +kernel
theorem dX2_heapOf_44 : decode cX2_heapOf 44 = .ok (.iload_n 3, 1) := by decide +kernel
theorem dX2_heapOf_45 : decode cX2_heapOf 45 = .ok (.iaload, 1) := by decide +kernel
theorem dX2_heapOf_46 : decode cX2_heapOf 46 = .ok (.ireturn, 1) := by decide +kernel
theorem dX2_heapOf_47 : decode cX2_heapOf 47 = .ok (.iload_n 3, 1) := by decide +kernel
theorem dX2_heapOf_48 : decode cX2_heapOf 48 = .ok (.aload_n 0, 1) := by decide +kernel
theorem dX2_heapOf_49 : decode cX2_heapOf 49 = .ok (.getfield 21, 3) := by decide +kernel
theorem dX2_heapOf_52 : decode cX2_heapOf 52 = .ok (.iload_n 3, 1) := by decide +kernel
theorem dX2_heapOf_53 : decode cX2_heapOf 53 = .ok (.iaload, 1) := by decide +kernel
theorem dX2_heapOf_54 : decode cX2_heapOf 54 = .ok (.ixor, 1) := by decide +kernel
theorem dX2_heapOf_55 : decode cX2_heapOf 55 = .ok (.istore_n 3, 1) := by decide +kernel
theorem dX2_heapOf_56 : decode cX2_heapOf 56 = .ok (.iinc 4 1, 3) := by decide +kernel
theorem dX2_heapOf_59 : decode cX2_heapOf 59 = .ok (.goto (-43), 3) := by decide +kernel
theorem dX2_heapOf_62 : decode cX2_heapOf 62 = .ok (.iconst (-1), 1) := by decide +kernel
theorem dX2_heapOf_63 : decode cX2_heapOf 63 = .ok (.ireturn, 1) := by decide +kernel
theorem dX3_init_0 : decode cX3_init 0 = .ok (.aload_n 0, 1) := by decide +kernel
theorem dX3_init_1 : decode cX3_init 1 = .ok (.invokespecial 3, 3) := by decide +kernel
theorem dX3_init_4 : decode cX3_init 4 = .ok (.aload_n 0, 1) := by decide +kernel
theorem dX3_init_5 : decode cX3_init 5 = .ok (.sipush 160, 3) := by decide +kernel
theorem dX3_init_8 : decode cX3_init 8 = .ok (.newarray .int, 2) := by decide +kernel
theorem dX3_init_10 : decode cX3_init 10 = .ok (.putfield 9, 3) := by decide +kernel
theorem dX3_init_13 : decode cX3_init 13 = .ok (.return_, 1) := by decide +kernel
theorem dX3_append_0 : decode cX3_append 0 = .ok (.aload_n 0, 1) := by decide +kernel
theorem dX3_append_1 : decode cX3_append 1 = .ok (.getfield 15, 3) := by decide +kernel
theorem dX3_append_4 : decode cX3_append 4 = .ok (.sipush 160, 3) := by decide +kernel
theorem dX3_append_7 : decode cX3_append 7 = .ok (.if_icmp .lt 5, 3) := by decide +kernel
theorem dX3_append_10 : decode cX3_append 10 = .ok (.iconst 0, 1) := by decide +kernel
theorem dX3_append_11 : decode cX3_append 11 = .ok (.ireturn, 1) := by decide +kernel
theorem dX3_append_12 : decode cX3_append 12 = .ok (.aload_n 0, 1) := by decide +kernel
theorem dX3_append_13 : decode cX3_append 13 = .ok (.getfield 9, 3) := by decide +kernel
theorem dX3_append_16 : decode cX3_append 16 = .ok (.aload_n 0, 1) := by decide +kernel
theorem dX3_append_17 : decode cX3_append 17 = .ok (.getfield 15, 3) := by decide +kernel
theorem dX3_append_20 : decode cX3_append 20 = .ok (.iload_n 1, 1) := by decide +kernel
theorem dX3_append_21 : decode cX3_append 21 = .ok (.iastore, 1) := by decide +kernel
theorem dX3_append_22 : decode cX3_append 22 = .ok (.aload_n 0, 1) := by decide +kernel
theorem dX3_append_23 : decode cX3_append 23 = .ok (.dup, 1) := by decide +kernel
theorem dX3_append_24 : decode cX3_append 24 = .ok (.getfield 15, 3) := by decide +kernel
theorem dX3_append_27 : decode cX3_append 27 = .ok (.iconst 1, 1) := by decide +kernel
theorem dX3_append_28 : decode cX3_append 28 = .ok (.iadd, 1) := by decide +kernel
theorem dX3_append_29 : decode cX3_append 29 = .ok (.putfield 15, 3) := by decide +kernel
theorem dX3_append_32 : decode cX3_append 32 = .ok (.iconst 1, 1) := by decide +kernel
theorem dX3_append_33 : decode cX3_append 33 = .ok (.ireturn, 1) := by decide +kernel
theorem dX3_compile_0 : decode cX3_compile 0 = .ok (.aload_n 0, 1) := by decide +kernel
theorem dX3_compile_1 : decode cX3_compile 1 = .ok (.iconst 0, 1) := by decide +kernel
theorem dX3_compile_2 : decode cX3_compile 2 = .ok (.putfield 19, 3) := by decide +kernel
theorem dX3_compile_5 : decode cX3_compile 5 = .ok (.aload_n 0, 1) := by decide +kernel
theorem dX3_compile_6 : decode cX3_compile 6 = .ok (.iconst 0, 1) := by decide +kernel
theorem dX3_compile_7 : decode cX3_compile 7 = .ok (.putfield 22, 3) := by decide +kernel
theorem dX3_compile_10 : decode cX3_compile 10 = .ok (.aload_n 0, 1) := by decide +kernel
theorem dX3_compile_11 : decode cX3_compile 11 = .ok (.iconst (-1), 1) := by decide +kernel
theorem dX3_compile_12 : decode cX3_compile 12 = .ok (.putfield 25, 3) := by decide +kernel
theorem dX3_compile_15 : decode cX3_compile 15 = .ok (.aload_n 0, 1) := by decide +kernel
theorem dX3_compile_16 : decode cX3_compile 16 = .ok (.invokevirtual 28, 3) := by decide +kernel
theorem dX3_compile_19 : decode cX3_compile 19 = .ok (.aload_n 1, 1) := by decide +kernel
theorem dX3_compile_20 : decode cX3_compile 20 = .ok (.aload_n 0, 1) := by decide +kernel
theorem dX3_compile_21 : decode cX3_compile 21 = .ok (.iconst 3, 1) := by decide +kernel
theorem dX3_compile_22 : decode cX3_compile 22 = .ok (.aload_n 1, 1) := by decide +kernel
theorem dX3_compile_23 : decode cX3_compile 23 = .ok (.getfield 31, 3) := by decide +kernel
theorem dX3_compile_26 : decode cX3_compile 26 = .ok (.invokevirtual 36, 3) := by decide +kernel
theorem dX3_compile_29 : decode cX3_compile 29 = .ok (.putfield 40, 3) := by decide +kernel
theorem dX3_compile_32 : decode cX3_compile 32 = .ok (.aload_n 1, 1) := by decide +kernel
theorem dX3_compile_33 : decode cX3_compile 33 = .ok (.aload_n 0, 1) := by decide +kernel
theorem dX3_compile_34 : decode cX3_compile 34 = .ok (.iconst 4, 1) := by decide +kernel
theorem dX3_compile_35 : decode cX3_compile 35 = .ok (.aload_n 1, 1) := by decide +kernel
theorem dX3_compile_36 : decode cX3_compile 36 = .ok (.getfield 31, 3) := by decide +kernel
theorem dX3_compile_39 : decode cX3_compile 39 = .ok (.invokevirtual 36, 3) := by decide +kernel
theorem dX3_compile_42 : decode cX3_compile 42 = .ok (.putfield 43, 3) := by decide +kernel
theorem dX3_compile_45 : decode cX3_compile 45 = .ok (.aload_n 1, 1) := by decide +kernel
theorem dX3_compile_46 : decode cX3_compile 46 = .ok (.aload_n 0, 1) := by decide +kernel
theorem dX3_compile_47 : decode cX3_compile 47 = .ok (.iconst 5, 1) := by decide +kernel
theorem dX3_compile_48 : decode cX3_compile 48 = .ok (.aload_n 1, 1) := by decide +kernel
theorem dX3_compile_49 : decode cX3_compile 49 = .ok (.getfield 31, 3) := by decide +kernel
theorem dX3_compile_52 : decode cX3_compile 52 = .ok (.invokevirtual 36, 3) := by decide +kernel
theorem dX3_compile_55 : decode cX3_compile 55 = .ok (.putfield 46, 3) := by decide +kernel
theorem dX3_compile_58 : decode cX3_compile 58 = .ok (.aload_n 0, 1) := by decide +kernel
theorem dX3_compile_59 : decode cX3_compile 59 = .ok (.getfield 49, 3) := by decide +kernel
theorem dX3_compile_62 : decode cX3_compile 62 = .ok (.ifCond .eq 7, 3) := by decide +kernel
theorem dX3_compile_65 : decode cX3_compile 65 = .ok (.aload_n 0, 1) := by decide +kernel
theorem dX3_compile_66 : decode cX3_compile 66 = .ok (.invokevirtual 52, 3) := by decide +kernel
theorem dX3_compile_69 : decode cX3_compile 69 = .ok (.aload_n 0, 1) := by decide +kernel
theorem dX3_compile_70 : decode cX3_compile 70 = .ok (.iconst 0, 1) := by decide +kernel
theorem dX3_compile_71 : decode cX3_compile 71 = .ok (.putfield 15, 3) := by decide +kernel
theorem dX3_compile_74 : decode cX3_compile 74 = .ok (.aload_n 0, 1) := by decide +kernel
theorem dX3_compile_75 : decode cX3_compile 75 = .ok (.getfield 25, 3) := by decide +kernel
theorem dX3_compile_78 : decode cX3_compile 78 = .ok (.ireturn, 1) := by decide +kernel
theorem dX3_readPart_0 : decode cX3_readPart 0 = .ok (.aload_n 0, 1) := by decide +kernel
theorem dX3_readPart_1 : decode cX3_readPart 1 = .ok (.iload_n 1, 1) := by decide +kernel
theorem dX3_readPart_2 : decode cX3_readPart 2 = .ok (.invokevirtual 55, 3) := by decide +kernel
theorem dX3_readPart_5 : decode cX3_readPart 5 = .ok (.aload_n 0, 1) := by decide +kernel
theorem dX3_readPart_6 : decode cX3_readPart 6 = .ok (.aload_n 2, 1) := by decide +kernel
theorem dX3_readPart_7 : decode cX3_readPart 7 = .ok (.iconst 0, 1) := by decide +kernel
theorem dX3_readPart_8 : decode cX3_readPart 8 = .ok (.invokevirtual 59, 3) := by decide +kernel
theorem dX3_readPart_11 : decode cX3_readPart 11 = .ok (.aload_n 0, 1) := by decide +kernel
theorem dX3_readPart_12 : decode cX3_readPart 12 = .ok (.bipush 59, 2) := by decide +kernel
theorem dX3_readPart_14 : decode cX3_readPart 14 = .ok (.invokevirtual 55, 3) := by decide +kernel
theorem dX3_readPart_17 : decode cX3_readPart 17 = .ok (.aload_n 0, 1) := by decide +kernel
theorem dX3_readPart_18 : decode cX3_readPart 18 = .ok (.getfield 22, 3) := by decide +kernel
theorem dX3_readPart_21 : decode cX3_readPart 21 = .ok (.ireturn, 1) := by decide +kernel
theorem dX3_readE_0 : decode cX3_readE 0 = .ok (.aload_n 0, 1) := by decide +kernel
theorem dX3_readE_1 : decode cX3_readE 1 = .ok (.aload_n 1, 1) := by decide +kernel
theorem dX3_readE_2 : decode cX3_readE 2 = .ok (.iload_n 2, 1) := by decide +kernel
theorem dX3_readE_3 : decode cX3_readE 3 = .ok (.invokevirtual 63, 3) := by decide +kernel
theorem dX3_readE_6 : decode cX3_readE 6 = .ok (.iconst 0, 1) := by decide +kernel
theorem dX3_readE_7 : decode cX3_readE 7 = .ok (.istore_n 3, 1) := by decide +kernel
theorem dX3_readE_8 : decode cX3_readE 8 = .ok (.iload_n 3, 1) := by decide +kernel
theorem dX3_readE_9 : decode cX3_readE 9 = .ok (.sipush 160, 3) := by decide +kernel
theorem dX3_readE_12 : decode cX3_readE 12 = .ok (.if_icmp .ge 35, 3) := by decide +kernel
theorem dX3_readE_15 : decode cX3_readE 15 = .ok (.aload_n 0, 1) := by decide +kernel
theorem dX3_readE_16 : decode cX3_readE 16 = .ok (.getfield 49, 3) := by decide +kernel
theorem dX3_readE_19 : decode cX3_readE 19 = .ok (.bipush 6, 2) := by decide +kernel
theorem dX3_readE_21 : decode cX3_readE 21 = .ok (.if_icmp .ne 26, 3) := by decide +kernel
theorem dX3_readE_24 : decode cX3_readE 24 = .ok (.aload_n 0, 1) := by decide +kernel
theorem dX3_readE_25 : decode cX3_readE 25 = .ok (.invokevirtual 28, 3) := by decide +kernel
theorem dX3_readE_28 : decode cX3_readE 28 = .ok (.aload_n 0, 1) := by decide +kernel
theorem dX3_readE_29 : decode cX3_readE 29 = .ok (.aload_n 1, 1) := by decide +kernel
theorem dX3_readE_30 : decode cX3_readE 30 = .ok (.iload_n 2, 1) := by decide +kernel
theorem dX3_readE_31 : decode cX3_readE 31 = .ok (.invokevirtual 63, 3) := by decide +kernel
theorem dX3_readE_34 : decode cX3_readE 34 = .ok (.aload_n 0, 1) := by decide +kernel
theorem dX3_readE_35 : decode cX3_readE 35 = .ok (.aload_n 1, 1) := by decide +kernel
theorem dX3_readE_36 : decode cX3_readE 36 = .ok (.bipush (-9), 2) := by decide +kernel
theorem dX3_readE_38 : decode cX3_readE 38 = .ok (.invokevirtual 66, 3) := by decide +kernel
theorem dX3_readE_41 : decode cX3_readE 41 = .ok (.iinc 3 1, 3) := by decide +kernel
theorem dX3_readE_44 : decode cX3_readE 44 = .ok (.goto (-36), 3) := by decide +kernel
theorem dX3_readE_47 : decode cX3_readE 47 = .ok (.return_, 1) := by decide +kernel
theorem dX3_readAnd_0 : decode cX3_readAnd 0 = .ok (.aload_n 0, 1) := by decide +kernel
theorem dX3_readAnd_1 : decode cX3_readAnd 1 = .ok (.aload_n 1, 1) := by decide +kernel
theorem dX3_readAnd_2 : decode cX3_readAnd 2 = .ok (.iload_n 2, 1) := by decide +kernel
theorem dX3_readAnd_3 : decode cX3_readAnd 3 = .ok (.invokevirtual 69, 3) := by decide +kernel
theorem dX3_readAnd_6 : decode cX3_readAnd 6 = .ok (.iconst 0, 1) := by decide +kernel
theorem dX3_readAnd_7 : decode cX3_readAnd 7 = .ok (.istore_n 3, 1) := by decide +kernel
theorem dX3_readAnd_8 : decode cX3_readAnd 8 = .ok (.iload_n 3, 1) := by decide +kernel
theorem dX3_readAnd_9 : decode cX3_readAnd 9 = .ok (.sipush 160, 3) := by decide +kernel
theorem dX3_readAnd_12 : decode cX3_readAnd 12 = .ok (.if_icmp .ge 35, 3) := by decide +kernel
theorem dX3_readAnd_15 : decode cX3_readAnd 15 = .ok (.aload_n 0, 1) := by decide +kernel
theorem dX3_readAnd_16 : decode cX3_readAnd 16 = .ok (.getfield 49, 3) := by decide +kernel
theorem dX3_readAnd_19 : decode cX3_readAnd 19 = .ok (.bipush 7, 2) := by decide +kernel
theorem dX3_readAnd_21 : decode cX3_readAnd 21 = .ok (.if_icmp .ne 26, 3) := by decide +kernel
theorem dX3_readAnd_24 : decode cX3_readAnd 24 = .ok (.aload_n 0, 1) := by decide +kernel
theorem dX3_readAnd_25 : decode cX3_readAnd 25 = .ok (.invokevirtual 28, 3) := by decide +kernel
theorem dX3_readAnd_28 : decode cX3_readAnd 28 = .ok (.aload_n 0, 1) := by decide +kernel
theorem dX3_readAnd_29 : decode cX3_readAnd 29 = .ok (.aload_n 1, 1) := by decide +kernel
theorem dX3_readAnd_30 : decode cX3_readAnd 30 = .ok (.iload_n 2, 1) := by decide +kernel
theorem dX3_readAnd_31 : decode cX3_readAnd 31 = .ok (.invokevirtual 69, 3) := by decide +kernel
theorem dX3_readAnd_34 : decode cX3_readAnd 34 = .ok (.aload_n 0, 1) := by decide +kernel
theorem dX3_readAnd_35 : decode cX3_readAnd 35 = .ok (.aload_n 1, 1) := by decide +kernel
theorem dX3_readAnd_36 : decode cX3_readAnd 36 = .ok (.bipush (-10), 2) := by decide +kernel
theorem dX3_readAnd_38 : decode cX3_readAnd 38 = .ok (.invokevirtual 66, 3) := by decide +kernel
theorem dX3_readAnd_41 : decode cX3_readAnd 41 = .ok (.iinc 3 1, 3) := by decide +kernel
theorem dX3_readAnd_44 : decode cX3_readAnd 44 = .ok (.goto (-36), 3) := by decide +kernel
theorem dX3_readAnd_47 : decode cX3_readAnd 47 = .ok (.return_, 1) := by decide +kernel
theorem dX3_readNot_0 : decode cX3_readNot 0 = .ok (.aload_n 0, 1) := by decide +kernel
theorem dX3_readNot_1 : decode cX3_readNot 1 = .ok (.getfield 49, 3) := by decide +kernel
theorem dX3_readNot_4 : decode cX3_readNot 4 = .ok (.bipush 8, 2) := by decide +kernel
theorem dX3_readNot_6 : decode cX3_readNot 6 = .ok (.if_icmp .ne 31, 3) := by decide +kernel
theorem dX3_readNot_9 : decode cX3_readNot 9 = .ok (.aload_n 0, 1) := by decide +kernel
theorem dX3_readNot_10 : decode cX3_readNot 10 = .ok (.iload_n 2, 1) := by decide +kernel
theorem dX3_readNot_11 : decode cX3_readNot 11 = .ok (.invokevirtual 72, 3) := by decide +kernel
theorem dX3_readNot_14 : decode cX3_readNot 14 = .ok (.ifCond .eq 22, 3) := by decide +kernel
theorem dX3_readNot_17 : decode cX3_readNot 17 = .ok (.aload_n 0, 1) := by decide +kernel
theorem dX3_readNot_18 : decode cX3_readNot 18 = .ok (.invokevirtual 28, 3) := by decide +kernel
theorem dX3_readNot_21 : decode cX3_readNot 21 = .ok (.aload_n 0, 1) := by decide +kernel
theorem dX3_readNot_22 : decode cX3_readNot 22 = .ok (.aload_n 1, 1) := by decide +kernel
theorem dX3_readNot_23 : decode cX3_readNot 23 = .ok (.iload_n 2, 1) := by decide +kernel
theorem dX3_readNot_24 : decode cX3_readNot 24 = .ok (.iconst 1, 1) := by decide +kernel
theorem dX3_readNot_25 : decode cX3_readNot 25 = .ok (.iadd, 1) := by decide +kernel
theorem dX3_readNot_26 : decode cX3_readNot 26 = .ok (.invokevirtual 69, 3) := by decide +kernel
theorem dX3_readNot_29 : decode cX3_readNot 29 = .ok (.aload_n 0, 1) := by decide +kernel
theorem dX3_readNot_30 : decode cX3_readNot 30 = .ok (.aload_n 1, 1) := by decide +kernel
theorem dX3_readNot_31 : decode cX3_readNot 31 = .ok (.bipush (-7), 2) := by decide +kernel
theorem dX3_readNot_33 : decode cX3_readNot 33 = .ok (.invokevirtual 66, 3) := by decide +kernel
theorem dX3_readNot_36 : decode cX3_readNot 36 = .ok (.return_, 1) := by decide +kernel
theorem dX3_readNot_37 : decode cX3_readNot 37 = .ok (.aload_n 0, 1) := by decide +kernel
theorem dX3_readNot_38 : decode cX3_readNot 38 = .ok (.aload_n 1, 1) := by decide +kernel
theorem dX3_readNot_39 : decode cX3_readNot 39 = .ok (.iload_n 2, 1) := by decide +kernel
theorem dX3_readNot_40 : decode cX3_readNot 40 = .ok (.invokevirtual 76, 3) := by decide +kernel
theorem dX3_readNot_43 : decode cX3_readNot 43 = .ok (.aload_n 0, 1) := by decide +kernel
theorem dX3_readNot_44 : decode cX3_readNot 44 = .ok (.getfield 49, 3) := by decide +kernel
theorem dX3_readNot_47 : decode cX3_readNot 47 = .ok (.bipush 60, 2) := by decide +kernel
theorem dX3_readNot_49 : decode cX3_readNot 49 = .ok (.if_icmp .eq 12, 3) := by decide +kernel
theorem dX3_readNot_52 : decode cX3_readNot 52 = .ok (.aload_n 0, 1) := by decide +kernel
theorem dX3_readNot_53 : decode cX3_readNot 53 = .ok (.getfield 49, 3) := by decide +kernel
theorem dX3_readNot_56 : decode cX3_readNot 56 = .ok (.bipush 61, 2) := by decide +kernel
theorem dX3_readNot_58 : decode cX3_readNot 58 = .ok (.if_icmp .ne 36, 3) := by decide +kernel
theorem dX3_readNot_61 : decode cX3_readNot 61 = .ok (.aload_n 0, 1) := by decide +kernel
theorem dX3_readNot_62 : decode cX3_readNot 62 = .ok (.getfield 49, 3) := by decide +kernel
theorem dX3_readNot_65 : decode cX3_readNot 65 = .ok (.bipush 60, 2) := by decide +kernel
theorem dX3_readNot_67 : decode cX3_readNot 67 = .ok (.if_icmp .ne 8, 3) := by decide +kernel
theorem dX3_readNot_70 : decode cX3_readNot 70 = .ok (.bipush (-11), 2) := by decide +kernel
theorem dX3_readNot_72 : decode cX3_readNot 72 = .ok (.goto 5, 3) := by decide +kernel
theorem dX3_readNot_75 : decode cX3_readNot 75 = .ok (.bipush (-12), 2) := by decide +kernel
theorem dX3_readNot_77 : decode cX3_readNot 77 = .ok (.istore_n 3, 1) := by decide +kernel
theorem dX3_readNot_78 : decode cX3_readNot 78 = .ok (.aload_n 0, 1) := by decide +kernel
theorem dX3_readNot_79 : decode cX3_readNot 79 = .ok (.invokevirtual 28, 3) := by decide +kernel
theorem dX3_readNot_82 : decode cX3_readNot 82 = .ok (.aload_n 0, 1) := by decide +kernel
theorem dX3_readNot_83 : decode cX3_readNot 83 = .ok (.aload_n 1, 1) := by decide +kernel
theorem dX3_readNot_84 : decode cX3_readNot 84 = .ok (.iload_n 2, 1) := by decide +kernel
theorem dX3_readNot_85 : decode cX3_readNot 85 = .ok (.invokevirtual 76, 3) := by decide +kernel
theorem dX3_readNot_88 : decode cX3_readNot 88 = .ok (.aload_n 0, 1) := by decide +kernel
theorem dX3_readNot_89 : decode cX3_readNot 89 = .ok (.aload_n 1, 1) := by decide +kernel
theorem dX3_readNot_90 : decode cX3_readNot 90 = .ok (.iload_n 3, 1) := by decide +kernel
theorem dX3_readNot_91 : decode cX3_readNot 91 = .ok (.invokevirtual 66, 3) := by decide +kernel
theorem dX3_readNot_94 : decode cX3_readNot 94 = .ok (.return_, 1) := by decide +kernel
theorem dX3_readSum_0 : decode cX3_readSum 0 = .ok (.aload_n 0, 1) := by decide +kernel
theorem dX3_readSum_1 : decode cX3_readSum 1 = .ok (.aload_n 1, 1) := by decide +kernel
theorem dX3_readSum_2 : decode cX3_readSum 2 = .ok (.iload_n 2, 1) := by decide +kernel
theorem dX3_readSum_3 : decode cX3_readSum 3 = .ok (.invokevirtual 79, 3) := by decide +kernel
theorem dX3_readSum_6 : decode cX3_readSum 6 = .ok (.iconst 0, 1) := by decide +kernel
theorem dX3_readSum_7 : decode cX3_readSum 7 = .ok (.istore_n 3, 1) := by decide +kernel
theorem dX3_readSum_8 : decode cX3_readSum 8 = .ok (.iload_n 3, 1) := by decide +kernel
theorem dX3_readSum_9 : decode cX3_readSum 9 = .ok (.sipush 160, 3) := by decide +kernel
theorem dX3_readSum_12 : decode cX3_readSum 12 = .ok (.if_icmp .ge 62, 3) := by decide +kernel
theorem dX3_readSum_15 : decode cX3_readSum 15 = .ok (.aload_n 0, 1) := by decide +kernel
theorem dX3_readSum_16 : decode cX3_readSum 16 = .ok (.getfield 49, 3) := by decide +kernel
theorem dX3_readSum_19 : decode cX3_readSum 19 = .ok (.bipush 43, 2) := by decide +kernel
theorem dX3_readSum_21 : decode cX3_readSum 21 = .ok (.if_icmp .eq 12, 3) := by decide +kernel
theorem dX3_readSum_24 : decode cX3_readSum 24 = .ok (.aload_n 0, 1) := by decide +kernel
theorem dX3_readSum_25 : decode cX3_readSum 25 = .ok (.getfield 49, 3) := by decide +kernel
theorem dX3_readSum_28 : decode cX3_readSum 28 = .ok (.bipush 45, 2) := by decide +kernel
theorem dX3_readSum_30 : decode cX3_readSum 30 = .ok (.if_icmp .ne 44, 3) := by decide +kernel
theorem dX3_readSum_33 : decode cX3_readSum 33 = .ok (.aload_n 0, 1) := by decide +kernel
theorem dX3_readSum_34 : decode cX3_readSum 34 = .ok (.getfield 49, 3) := by decide +kernel
theorem dX3_readSum_37 : decode cX3_readSum 37 = .ok (.bipush 43, 2) := by decide +kernel
theorem dX3_readSum_39 : decode cX3_readSum 39 = .ok (.if_icmp .ne 8, 3) := by decide +kernel
theorem dX3_readSum_42 : decode cX3_readSum 42 = .ok (.bipush (-13), 2) := by decide +kernel
theorem dX3_readSum_44 : decode cX3_readSum 44 = .ok (.goto 5, 3) := by decide +kernel
theorem dX3_readSum_47 : decode cX3_readSum 47 = .ok (.bipush (-14), 2) := by decide +kernel
theorem dX3_readSum_49 : decode cX3_readSum 49 = .ok (.istore 4, 2) := by decide +kernel
theorem dX3_readSum_51 : decode cX3_readSum 51 = .ok (.aload_n 0, 1) := by decide +kernel
theorem dX3_readSum_52 : decode cX3_readSum 52 = .ok (.invokevirtual 28, 3) := by decide +kernel
theorem dX3_readSum_55 : decode cX3_readSum 55 = .ok (.aload_n 0, 1) := by decide +kernel
theorem dX3_readSum_56 : decode cX3_readSum 56 = .ok (.aload_n 1, 1) := by decide +kernel
theorem dX3_readSum_57 : decode cX3_readSum 57 = .ok (.iload_n 2, 1) := by decide +kernel
theorem dX3_readSum_58 : decode cX3_readSum 58 = .ok (.invokevirtual 79, 3) := by decide +kernel
theorem dX3_readSum_61 : decode cX3_readSum 61 = .ok (.aload_n 0, 1) := by decide +kernel
theorem dX3_readSum_62 : decode cX3_readSum 62 = .ok (.aload_n 1, 1) := by decide +kernel
theorem dX3_readSum_63 : decode cX3_readSum 63 = .ok (.iload 4, 2) := by decide +kernel
theorem dX3_readSum_65 : decode cX3_readSum 65 = .ok (.invokevirtual 66, 3) := by decide +kernel
theorem dX3_readSum_68 : decode cX3_readSum 68 = .ok (.iinc 3 1, 3) := by decide +kernel
theorem dX3_readSum_71 : decode cX3_readSum 71 = .ok (.goto (-63), 3) := by decide +kernel
theorem dX3_readSum_74 : decode cX3_readSum 74 = .ok (.return_, 1) := by decide +kernel
theorem dX3_readTerm_0 : decode cX3_readTerm 0 = .ok (.aload_n 0, 1) := by decide +kernel
theorem dX3_readTerm_1 : decode cX3_readTerm 1 = .ok (.aload_n 1, 1) := by decide +kernel
theorem dX3_readTerm_2 : decode cX3_readTerm 2 = .ok (.iload_n 2, 1) := by decide +kernel
theorem dX3_readTerm_3 : decode cX3_readTerm 3 = .ok (.invokevirtual 82, 3) := by decide +kernel
theorem dX3_readTerm_6 : decode cX3_readTerm 6 = .ok (.iconst 0, 1) := by decide +kernel
theorem dX3_readTerm_7 : decode cX3_readTerm 7 = .ok (.istore_n 3, 1) := by decide +kernel
theorem dX3_readTerm_8 : decode cX3_readTerm 8 = .ok (.iload_n 3, 1) := by decide +kernel
theorem dX3_readTerm_9 : decode cX3_readTerm 9 = .ok (.sipush 160, 3) := by decide +kernel
theorem dX3_readTerm_12 : decode cX3_readTerm 12 = .ok (.if_icmp .ge 35, 3) := by decide +kernel
theorem dX3_readTerm_15 : decode cX3_readTerm 15 = .ok (.aload_n 0, 1) := by decide +kernel
theorem dX3_readTerm_16 : decode cX3_readTerm 16 = .ok (.getfield 49, 3) := by decide +kernel
theorem dX3_readTerm_19 : decode cX3_readTerm 19 = .ok (.bipush 42, 2) := by decide +kernel
theorem dX3_readTerm_21 : decode cX3_readTerm 21 = .ok (.if_icmp .ne 26, 3) := by decide +kernel
theorem dX3_readTerm_24 : decode cX3_readTerm 24 = .ok (.aload_n 0, 1) := by decide +kernel
theorem dX3_readTerm_25 : decode cX3_readTerm 25 = .ok (.invokevirtual 28, 3) := by decide +kernel
theorem dX3_readTerm_28 : decode cX3_readTerm 28 = .ok (.aload_n 0, 1) := by decide +kernel
theorem dX3_readTerm_29 : decode cX3_readTerm 29 = .ok (.aload_n 1, 1) := by decide +kernel
theorem dX3_readTerm_30 : decode cX3_readTerm 30 = .ok (.iload_n 2, 1) := by decide +kernel
theorem dX3_readTerm_31 : decode cX3_readTerm 31 = .ok (.invokevirtual 82, 3) := by decide +kernel
theorem dX3_readTerm_34 : decode cX3_readTerm 34 = .ok (.aload_n 0, 1) := by decide +kernel
theorem dX3_readTerm_35 : decode cX3_readTerm 35 = .ok (.aload_n 1, 1) := by decide +kernel
theorem dX3_readTerm_36 : decode cX3_readTerm 36 = .ok (.bipush (-15), 2) := by decide +kernel
theorem dX3_readTerm_38 : decode cX3_readTerm 38 = .ok (.invokevirtual 66, 3) := by decide +kernel
theorem dX3_readTerm_41 : decode cX3_readTerm 41 = .ok (.iinc 3 1, 3) := by decide +kernel
theorem dX3_readTerm_44 : decode cX3_readTerm 44 = .ok (.goto (-36), 3) := by decide +kernel
theorem dX3_readTerm_47 : decode cX3_readTerm 47 = .ok (.return_, 1) := by decide +kernel
theorem dX3_readOne_0 : decode cX3_readOne 0 = .ok (.aload_n 0, 1) := by decide +kernel
theorem dX3_readOne_1 : decode cX3_readOne 1 = .ok (.getfield 49, 3) := by decide +kernel
theorem dX3_readOne_4 : decode cX3_readOne 4 = .ok (.iconst 1, 1) := by decide +kernel
theorem dX3_readOne_5 : decode cX3_readOne 5 = .ok (.if_icmp .eq 11, 3) := by decide +kernel
theorem dX3_readOne_8 : decode cX3_readOne 8 = .ok (.aload_n 0, 1) := by decide +kernel
theorem dX3_readOne_9 : decode cX3_readOne 9 = .ok (.getfield 49, 3) := by decide +kernel
theorem dX3_readOne_12 : decode cX3_readOne 12 = .ok (.iconst 2, 1) := by decide +kernel
theorem dX3_readOne_13 : decode cX3_readOne 13 = .ok (.if_icmp .ne 19, 3) := by decide +kernel
theorem dX3_readOne_16 : decode cX3_readOne 16 = .ok (.aload_n 0, 1) := by decide +kernel
theorem dX3_readOne_17 : decode cX3_readOne 17 = .ok (.aload_n 1, 1) := by decide +kernel
theorem dX3_readOne_18 : decode cX3_readOne 18 = .ok (.aload_n 0, 1) := by decide +kernel
theorem dX3_readOne_19 : decode cX3_readOne 19 = .ok (.getfield 85, 3) := by decide +kernel
theorem dX3_readOne_22 : decode cX3_readOne 22 = .ok (.invokevirtual 66, 3) := by decide +kernel
theorem dX3_readOne_25 : decode cX3_readOne 25 = .ok (.aload_n 0, 1) := by decide +kernel
theorem dX3_readOne_26 : decode cX3_readOne 26 = .ok (.invokevirtual 28, 3) := by decide +kernel
theorem dX3_readOne_29 : decode cX3_readOne 29 = .ok (.goto 84, 3) := by decide +kernel
theorem dX3_readOne_32 : decode cX3_readOne 32 = .ok (.aload_n 0, 1) := by decide +kernel
theorem dX3_readOne_33 : decode cX3_readOne 33 = .ok (.getfield 49, 3) := by decide +kernel
theorem dX3_readOne_36 : decode cX3_readOne 36 = .ok (.bipush 45, 2) := by decide +kernel
theorem dX3_readOne_38 : decode cX3_readOne 38 = .ok (.if_icmp .ne 33, 3) := by decide +kernel
theorem dX3_readOne_41 : decode cX3_readOne 41 = .ok (.aload_n 0, 1) := by decide +kernel
theorem dX3_readOne_42 : decode cX3_readOne 42 = .ok (.iload_n 2, 1) := by decide +kernel
theorem dX3_readOne_43 : decode cX3_readOne 43 = .ok (.invokevirtual 72, 3) := by decide +kernel
theorem dX3_readOne_46 : decode cX3_readOne 46 = .ok (.ifCond .eq 67, 3) := by decide +kernel
theorem dX3_readOne_49 : decode cX3_readOne 49 = .ok (.aload_n 0, 1) := by decide +kernel
theorem dX3_readOne_50 : decode cX3_readOne 50 = .ok (.invokevirtual 28, 3) := by decide +kernel
theorem dX3_readOne_53 : decode cX3_readOne 53 = .ok (.aload_n 0, 1) := by decide +kernel
theorem dX3_readOne_54 : decode cX3_readOne 54 = .ok (.aload_n 1, 1) := by decide +kernel
theorem dX3_readOne_55 : decode cX3_readOne 55 = .ok (.iload_n 2, 1) := by decide +kernel
theorem dX3_readOne_56 : decode cX3_readOne 56 = .ok (.iconst 1, 1) := by decide +kernel
theorem dX3_readOne_57 : decode cX3_readOne 57 = .ok (.iadd, 1) := by decide +kernel
theorem dX3_readOne_58 : decode cX3_readOne 58 = .ok (.invokevirtual 82, 3) := by decide +kernel
theorem dX3_readOne_61 : decode cX3_readOne 61 = .ok (.aload_n 0, 1) := by decide +kernel
theorem dX3_readOne_62 : decode cX3_readOne 62 = .ok (.aload_n 1, 1) := by decide +kernel
theorem dX3_readOne_63 : decode cX3_readOne 63 = .ok (.bipush (-8), 2) := by decide +kernel
theorem dX3_readOne_65 : decode cX3_readOne 65 = .ok (.invokevirtual 66, 3) := by decide +kernel
theorem dX3_readOne_68 : decode cX3_readOne 68 = .ok (.goto 45, 3) := by decide +kernel
theorem dX3_readOne_71 : decode cX3_readOne 71 = .ok (.aload_n 0, 1) := by decide +kernel
theorem dX3_readOne_72 : decode cX3_readOne 72 = .ok (.getfield 49, 3) := by decide +kernel
theorem dX3_readOne_75 : decode cX3_readOne 75 = .ok (.bipush 40, 2) := by decide +kernel
theorem dX3_readOne_77 : decode cX3_readOne 77 = .ok (.if_icmp .ne 32, 3) := by decide +kernel
theorem dX3_readOne_80 : decode cX3_readOne 80 = .ok (.aload_n 0, 1) := by decide +kernel
theorem dX3_readOne_81 : decode cX3_readOne 81 = .ok (.iload_n 2, 1) := by decide +kernel
theorem dX3_readOne_82 : decode cX3_readOne 82 = .ok (.invokevirtual 72, 3) := by decide +kernel
theorem dX3_readOne_85 : decode cX3_readOne 85 = .ok (.ifCond .eq 28, 3) := by decide +kernel
theorem dX3_readOne_88 : decode cX3_readOne 88 = .ok (.aload_n 0, 1) := by decide +kernel
theorem dX3_readOne_89 : decode cX3_readOne 89 = .ok (.invokevirtual 28, 3) := by decide +kernel
theorem dX3_readOne_92 : decode cX3_readOne 92 = .ok (.aload_n 0, 1) := by decide +kernel
theorem dX3_readOne_93 : decode cX3_readOne 93 = .ok (.aload_n 1, 1) := by decide +kernel
theorem dX3_readOne_94 : decode cX3_readOne 94 = .ok (.iload_n 2, 1) := by decide +kernel
theorem dX3_readOne_95 : decode cX3_readOne 95 = .ok (.iconst 1, 1) := by decide +kernel
theorem dX3_readOne_96 : decode cX3_readOne 96 = .ok (.iadd, 1) := by decide +kernel
theorem dX3_readOne_97 : decode cX3_readOne 97 = .ok (.invokevirtual 59, 3) := by decide +kernel
theorem dX3_readOne_100 : decode cX3_readOne 100 = .ok (.aload_n 0, 1) := by decide +kernel
theorem dX3_readOne_101 : decode cX3_readOne 101 = .ok (.bipush 41, 2) := by decide +kernel
theorem dX3_readOne_103 : decode cX3_readOne 103 = .ok (.invokevirtual 55, 3) := by decide +kernel
theorem dX3_readOne_106 : decode cX3_readOne 106 = .ok (.goto 7, 3) := by decide +kernel
theorem dX3_readOne_109 : decode cX3_readOne 109 = .ok (.aload_n 0, 1) := by decide +kernel
theorem dX3_readOne_110 : decode cX3_readOne 110 = .ok (.invokevirtual 52, 3) := by decide +kernel
theorem dX3_readOne_113 : decode cX3_readOne 113 = .ok (.return_, 1) := by decide +kernel
theorem dX3_mayOpen_0 : decode cX3_mayOpen 0 = .ok (.iload_n 1, 1) := by decide +kernel
theorem dX3_mayOpen_1 : decode cX3_mayOpen 1 = .ok (.iconst 5, 1) := by decide +kernel
theorem dX3_mayOpen_2 : decode cX3_mayOpen 2 = .ok (.if_icmp .lt 7, 3) := by decide +kernel
theorem dX3_mayOpen_5 : decode cX3_mayOpen 5 = .ok (.aload_n 0, 1) := by decide +kernel
theorem dX3_mayOpen_6 : decode cX3_mayOpen 6 = .ok (.invokevirtual 52, 3) := by decide +kernel
theorem dX3_mayOpen_9 : decode cX3_mayOpen 9 = .ok (.iload_n 1, 1) := by decide +kernel
theorem dX3_mayOpen_10 : decode cX3_mayOpen 10 = .ok (.iconst 5, 1) := by decide +kernel
theorem dX3_mayOpen_11 : decode cX3_mayOpen 11 = .ok (.if_icmp .ge 7, 3) := by decide +kernel
theorem dX3_mayOpen_14 : decode cX3_mayOpen 14 = .ok (.iconst 1, 1) := by decide +kernel
theorem dX3_mayOpen_15 : decode cX3_mayOpen 15 = .ok (.goto 4, 3) := by decide +kernel
theorem dX3_mayOpen_18 : decode cX3_mayOpen 18 = .ok (.iconst 0, 1) := by decide +kernel
theorem dX3_mayOpen_19 : decode cX3_mayOpen 19 = .ok (.ireturn, 1) := by decide +kernel
theorem dX3_expect_0 : decode cX3_expect 0 = .ok (.aload_n 0, 1) := by decide +kernel
theorem dX3_expect_1 : decode cX3_expect 1 = .ok (.getfield 49, 3) := by decide +kernel
theorem dX3_expect_4 : decode cX3_expect 4 = .ok (.iload_n 1, 1) := by decide +kernel
theorem dX3_expect_5 : decode cX3_expect 5 = .ok (.if_icmp .ne 10, 3) := by decide +kernel
theorem dX3_expect_8 : decode cX3_expect 8 = .ok (.aload_n 0, 1) := by decide +kernel
theorem dX3_expect_9 : decode cX3_expect 9 = .ok (.invokevirtual 28, 3) := by decide +kernel
theorem dX3_expect_12 : decode cX3_expect 12 = .ok (.goto 7, 3) := by decide +kernel
theorem dX3_expect_15 : decode cX3_expect 15 = .ok (.aload_n 0, 1) := by decide +kernel
theorem dX3_expect_16 : decode cX3_expect 16 = .ok (.invokevirtual 52, 3) := by decide +kernel
theorem dX3_expect_19 : decode cX3_expect 19 = .ok (.return_, 1) := by decide +kernel
theorem dX3_refuse_0 : decode cX3_refuse 0 = .ok (.aload_n 0, 1) := by decide +kernel
theorem dX3_refuse_1 : decode cX3_refuse 1 = .ok (.getfield 25, 3) := by decide +kernel
theorem dX3_refuse_4 : decode cX3_refuse 4 = .ok (.iconst (-1), 1) := by decide +kernel
theorem dX3_refuse_5 : decode cX3_refuse 5 = .ok (.if_icmp .ne 11, 3) := by decide +kernel
theorem dX3_refuse_8 : decode cX3_refuse 8 = .ok (.aload_n 0, 1) := by decide +kernel
theorem dX3_refuse_9 : decode cX3_refuse 9 = .ok (.aload_n 0, 1) := by decide +kernel
theorem dX3_refuse_10 : decode cX3_refuse 10 = .ok (.getfield 88, 3) := by decide +kernel
theorem dX3_refuse_13 : decode cX3_refuse 13 = .ok (.putfield 25, 3) := by decide +kernel
theorem dX3_refuse_16 : decode cX3_refuse 16 = .ok (.aload_n 0, 1) := by decide +kernel
theorem dX3_refuse_17 : decode cX3_refuse 17 = .ok (.iconst (-1), 1) := by decide +kernel
theorem dX3_refuse_18 : decode cX3_refuse 18 = .ok (.putfield 49, 3) := by decide +kernel
theorem dX3_refuse_21 : decode cX3_refuse 21 = .ok (.return_, 1) := by decide +kernel
theorem dX3_put_0 : decode cX3_put 0 = .ok (.aload_n 0, 1) := by decide +kernel
theorem dX3_put_1 : decode cX3_put 1 = .ok (.getfield 22, 3) := by decide +kernel
theorem dX3_put_4 : decode cX3_put 4 = .ok (.aload_n 1, 1) := by decide +kernel
theorem dX3_put_5 : decode cX3_put 5 = .ok (.arraylength, 1) := by decide +kernel
theorem dX3_put_6 : decode cX3_put 6 = .ok (.if_icmp .ge 20, 3) := by decide +kernel
theorem dX3_put_9 : decode cX3_put 9 = .ok (.aload_n 1, 1) := by decide +kernel
theorem dX3_put_10 : decode cX3_put 10 = .ok (.aload_n 0, 1) := by decide +kernel
theorem dX3_put_11 : decode cX3_put 11 = .ok (.getfield 22, 3) := by decide +kernel
theorem dX3_put_14 : decode cX3_put 14 = .ok (.iload_n 2, 1) := by decide +kernel
theorem dX3_put_15 : decode cX3_put 15 = .ok (.iastore, 1) := by decide +kernel
theorem dX3_put_16 : decode cX3_put 16 = .ok (.aload_n 0, 1) := by decide +kernel
theorem dX3_put_17 : decode cX3_put 17 = .ok (.dup, 1) := by decide +kernel
theorem dX3_put_18 : decode cX3_put 18 = .ok (.getfield 22, 3) := by decide +kernel
theorem dX3_put_21 : decode cX3_put 21 = .ok (.iconst 1, 1) := by decide +kernel
theorem dX3_put_22 : decode cX3_put 22 = .ok (.iadd, 1) := by decide +kernel
theorem dX3_put_23 : decode cX3_put 23 = .ok (.putfield 22, 3) := by decide +kernel
theorem dX3_put_26 : decode cX3_put 26 = .ok (.return_, 1) := by decide +kernel
theorem dX3_advance_0 : decode cX3_advance 0 = .ok (.aload_n 0, 1) := by decide +kernel
theorem dX3_advance_1 : decode cX3_advance 1 = .ok (.getfield 19, 3) := by decide +kernel
theorem dX3_advance_4 : decode cX3_advance 4 = .ok (.aload_n 0, 1) := by decide +kernel
theorem dX3_advance_5 : decode cX3_advance 5 = .ok (.getfield 15, 3) := by decide +kernel
theorem dX3_advance_8 : decode cX3_advance 8 = .ok (.if_icmp .ge 44, 3) := by decide +kernel
theorem dX3_advance_11 : decode cX3_advance 11 = .ok (.aload_n 0, 1) := by decide +kernel
theorem dX3_advance_12 : decode cX3_advance 12 = .ok (.getfield 9, 3) := by decide +kernel
theorem dX3_advance_15 : decode cX3_advance 15 = .ok (.aload_n 0, 1) := by decide +kernel
theorem dX3_advance_16 : decode cX3_advance 16 = .ok (.getfield 19, 3) := by decide +kernel
theorem dX3_advance_19 : decode cX3_advance 19 = .ok (.iaload, 1) := by decide +kernel
theorem dX3_advance_20 : decode cX3_advance 20 = .ok (.bipush 32, 2) := by decide +kernel
theorem dX3_advance_22 : decode cX3_advance 22 = .ok (.if_icmp .eq 17, 3) := by decide +kernel
theorem dX3_advance_25 : decode cX3_advance 25 = .ok (.aload_n 0, 1) := by decide +kernel
theorem dX3_advance_26 : decode cX3_advance 26 = .ok (.getfield 9, 3) := by decide +kernel
theorem dX3_advance_29 : decode cX3_advance 29 = .ok (.aload_n 0, 1) := by decide +kernel
theorem dX3_advance_30 : decode cX3_advance 30 = .ok (.getfield 19, 3) := by decide +kernel
theorem dX3_advance_33 : decode cX3_advance 33 = .ok (.iaload, 1) := by decide +kernel
theorem dX3_advance_34 : decode cX3_advance 34 = .ok (.bipush 10, 2) := by decide +kernel
theorem dX3_advance_36 : decode cX3_advance 36 = .ok (.if_icmp .ne 16, 3) := by decide +kernel
theorem dX3_advance_39 : decode cX3_advance 39 = .ok (.aload_n 0, 1) := by decide +kernel
theorem dX3_advance_40 : decode cX3_advance 40 = .ok (.dup, 1) := by decide +kernel
theorem dX3_advance_41 : decode cX3_advance 41 = .ok (.getfield 19, 3) := by decide +kernel
theorem dX3_advance_44 : decode cX3_advance 44 = .ok (.iconst 1, 1) := by decide +kernel
theorem dX3_advance_45 : decode cX3_advance 45 = .ok (.iadd, 1) := by decide +kernel
theorem dX3_advance_46 : decode cX3_advance 46 = .ok (.putfield 19, 3) := by decide +kernel
theorem dX3_advance_49 : decode cX3_advance 49 = .ok (.goto (-49), 3) := by decide +kernel
theorem dX3_advance_52 : decode cX3_advance 52 = .ok (.aload_n 0, 1) := by decide +kernel
theorem dX3_advance_53 : decode cX3_advance 53 = .ok (.aload_n 0, 1) := by decide +kernel
theorem dX3_advance_54 : decode cX3_advance 54 = .ok (.getfield 19, 3) := by decide +kernel
theorem dX3_advance_57 : decode cX3_advance 57 = .ok (.putfield 88, 3) := by decide +kernel
theorem dX3_advance_60 : decode cX3_advance 60 = .ok (.aload_n 0, 1) := by decide +kernel
theorem dX3_advance_61 : decode cX3_advance 61 = .ok (.getfield 19, 3) := by decide +kernel
theorem dX3_advance_64 : decode cX3_advance 64 = .ok (.aload_n 0, 1) := by decide +kernel
theorem dX3_advance_65 : decode cX3_advance 65 = .ok (.getfield 15, 3) := by decide +kernel
theorem dX3_advance_68 : decode cX3_advance 68 = .ok (.if_icmp .lt 11, 3) := by decide +kernel
theorem dX3_advance_71 : decode cX3_advance 71 = .ok (.aload_n 0, 1) := by decide +kernel
theorem dX3_advance_72 : decode cX3_advance 72 = .ok (.iconst 0, 1) := by decide +kernel
theorem dX3_advance_73 : decode cX3_advance 73 = .ok (.putfield 49, 3) := by decide +kernel
theorem dX3_advance_76 : decode cX3_advance 76 = .ok (.goto 89, 3) := by decide +kernel
theorem dX3_advance_79 : decode cX3_advance 79 = .ok (.aload_n 0, 1) := by decide +kernel
theorem dX3_advance_80 : decode cX3_advance 80 = .ok (.getfield 9, 3) := by decide +kernel
theorem dX3_advance_83 : decode cX3_advance 83 = .ok (.aload_n 0, 1) := by decide +kernel
theorem dX3_advance_84 : decode cX3_advance 84 = .ok (.getfield 19, 3) := by decide +kernel
theorem dX3_advance_87 : decode cX3_advance 87 = .ok (.iaload, 1) := by decide +kernel
theorem dX3_advance_88 : decode cX3_advance 88 = .ok (.invokestatic 91, 3) := by decide +kernel
theorem dX3_advance_91 : decode cX3_advance 91 = .ok (.ifCond .eq 10, 3) := by decide +kernel
theorem dX3_advance_94 : decode cX3_advance 94 = .ok (.aload_n 0, 1) := by decide +kernel
theorem dX3_advance_95 : decode cX3_advance 95 = .ok (.invokevirtual 94, 3) := by decide +kernel
theorem dX3_advance_98 : decode cX3_advance 98 = .ok (.goto 67, 3) := by decide +kernel
theorem dX3_advance_101 : decode cX3_advance 101 = .ok (.aload_n 0, 1) := by decide +kernel
theorem dX3_advance_102 : decode cX3_advance 102 = .ok (.getfield 9, 3) := by decide +kernel
theorem dX3_advance_105 : decode cX3_advance 105 = .ok (.aload_n 0, 1) := by decide +kernel
theorem dX3_advance_106 : decode cX3_advance 106 = .ok (.getfield 19, 3) := by decide +kernel
theorem dX3_advance_109 : decode cX3_advance 109 = .ok (.iaload, 1) := by decide +kernel
theorem dX3_advance_110 : decode cX3_advance 110 = .ok (.invokestatic 97, 3) := by decide +kernel
theorem dX3_advance_113 : decode cX3_advance 113 = .ok (.ifCond .eq 10, 3) := by decide +kernel
theorem dX3_advance_116 : decode cX3_advance 116 = .ok (.aload_n 0, 1) := by decide +kernel
theorem dX3_advance_117 : decode cX3_advance 117 = .ok (.invokevirtual 100, 3) := by decide +kernel
theorem dX3_advance_120 : decode cX3_advance 120 = .ok (.goto 45, 3) := by decide +kernel
theorem dX3_advance_123 : decode cX3_advance 123 = .ok (.aload_n 0, 1) := by decide +kernel
theorem dX3_advance_124 : decode cX3_advance 124 = .ok (.aload_n 0, 1) := by decide +kernel
theorem dX3_advance_125 : decode cX3_advance 125 = .ok (.getfield 9, 3) := by decide +kernel
theorem dX3_advance_128 : decode cX3_advance 128 = .ok (.aload_n 0, 1) := by decide +kernel
theorem dX3_advance_129 : decode cX3_advance 129 = .ok (.getfield 19, 3) := by decide +kernel
theorem dX3_advance_132 : decode cX3_advance 132 = .ok (.iaload, 1) := by decide +kernel
theorem dX3_advance_133 : decode cX3_advance 133 = .ok (.invokestatic 103, 3) := by decide +kernel
theorem dX3_advance_136 : decode cX3_advance 136 = .ok (.ifCond .eq 15, 3) := by decide +kernel
theorem dX3_advance_139 : decode cX3_advance 139 = .ok (.aload_n 0, 1) := by decide +kernel
theorem dX3_advance_140 : decode cX3_advance 140 = .ok (.getfield 9, 3) := by decide +kernel
theorem dX3_advance_143 : decode cX3_advance 143 = .ok (.aload_n 0, 1) := by decide +kernel
theorem dX3_advance_144 : decode cX3_advance 144 = .ok (.getfield 19, 3) := by decide +kernel
theorem dX3_advance_147 : decode cX3_advance 147 = .ok (.iaload, 1) := by decide +kernel
theorem dX3_advance_148 : decode cX3_advance 148 = .ok (.goto 4, 3) := by decide +kernel
theorem dX3_advance_151 : decode cX3_advance 151 = .ok (.iconst (-1), 1) := by decide +kernel
theorem dX3_advance_152 : decode cX3_advance 152 = .ok (.putfield 49, 3) := by decide +kernel
theorem dX3_advance_155 : decode cX3_advance 155 = .ok (.aload_n 0, 1) := by decide +kernel
theorem dX3_advance_156 : decode cX3_advance 156 = .ok (.dup, 1) := by decide +kernel
theorem dX3_advance_157 : decode cX3_advance 157 = .ok (.getfield 19, 3) := by decide +kernel
theorem dX3_advance_160 : decode cX3_advance 160 = .ok (.iconst 1, 1) := by decide +kernel
theorem dX3_advance_161 : decode cX3_advance 161 = .ok (.iadd, 1) := by decide +kernel
theorem dX3_advance_162 : decode cX3_advance 162 = .ok (.putfield 19, 3) := by decide +kernel
theorem dX3_advance_165 : decode cX3_advance 165 = .ok (.return_, 1) := by decide +kernel
theorem dX3_takeWord_0 : decode cX3_takeWord 0 = .ok (.aload_n 0, 1) := by decide +kernel
theorem dX3_takeWord_1 : decode cX3_takeWord 1 = .ok (.getfield 19, 3) := by decide +kernel
theorem dX3_takeWord_4 : decode cX3_takeWord 4 = .ok (.aload_n 0, 1) := by decide +kernel
theorem dX3_takeWord_5 : decode cX3_takeWord 5 = .ok (.getfield 15, 3) := by decide +kernel
theorem dX3_takeWord_8 : decode cX3_takeWord 8 = .ok (.if_icmp .ge 31, 3) := by decide +kernel
theorem dX3_takeWord_11 : decode cX3_takeWord 11 = .ok (.aload_n 0, 1) := by decide +kernel
theorem dX3_takeWord_12 : decode cX3_takeWord 12 = .ok (.getfield 9, 3) := by decide +kernel
theorem dX3_takeWord_15 : decode cX3_takeWord 15 = .ok (.aload_n 0, 1) := by decide +kernel
theorem dX3_takeWord_16 : decode cX3_takeWord 16 = .ok (.getfield 19, 3) := by decide +kernel
theorem dX3_takeWord_19 : decode cX3_takeWord 19 = .ok (.iaload, 1) := by decide +kernel
theorem dX3_takeWord_20 : decode cX3_takeWord 20 = .ok (.invokestatic 91, 3) := by decide +kernel
theorem dX3_takeWord_23 : decode cX3_takeWord 23 = .ok (.ifCond .eq 16, 3) := by decide +kernel
theorem dX3_takeWord_26 : decode cX3_takeWord 26 = .ok (.aload_n 0, 1) := by decide +kernel
theorem dX3_takeWord_27 : decode cX3_takeWord 27 = .ok (.dup, 1) := by decide +kernel
theorem dX3_takeWord_28 : decode cX3_takeWord 28 = .ok (.getfield 19, 3) := by decide +kernel
theorem dX3_takeWord_31 : decode cX3_takeWord 31 = .ok (.iconst 1, 1) := by decide +kernel
theorem dX3_takeWord_32 : decode cX3_takeWord 32 = .ok (.iadd, 1) := by decide +kernel
theorem dX3_takeWord_33 : decode cX3_takeWord 33 = .ok (.putfield 19, 3) := by decide +kernel
theorem dX3_takeWord_36 : decode cX3_takeWord 36 = .ok (.goto (-36), 3) := by decide +kernel
theorem dX3_takeWord_39 : decode cX3_takeWord 39 = .ok (.aload_n 0, 1) := by decide +kernel
theorem dX3_takeWord_40 : decode cX3_takeWord 40 = .ok (.ldc 106, 2) := by decide +kernel
theorem dX3_takeWord_42 : decode cX3_takeWord 42 = .ok (.invokevirtual 108, 3) := by decide +kernel
theorem dX3_takeWord_45 : decode cX3_takeWord 45 = .ok (.ifCond .eq 7, 3) := by decide +kernel
theorem dX3_takeWord_48 : decode cX3_takeWord 48 = .ok (.iconst 0, 1) := by decide +kernel
theorem dX3_takeWord_49 : decode cX3_takeWord 49 = .ok (.goto 69, 3) := by decide +kernel
theorem dX3_takeWord_52 : decode cX3_takeWord 52 = .ok (.aload_n 0, 1) := by decide +kernel
theorem dX3_takeWord_53 : decode cX3_takeWord 53 = .ok (.ldc 112, 2) := by decide +kernel
theorem dX3_takeWord_55 : decode cX3_takeWord 55 = .ok (.invokevirtual 108, 3) := by decide +kernel
theorem dX3_takeWord_58 : decode cX3_takeWord 58 = .ok (.ifCond .eq 7, 3) := by decide +kernel
theorem dX3_takeWord_61 : decode cX3_takeWord 61 = .ok (.iconst 1, 1) := by decide +kernel
theorem dX3_takeWord_62 : decode cX3_takeWord 62 = .ok (.goto 56, 3) := by decide +kernel
theorem dX3_takeWord_65 : decode cX3_takeWord 65 = .ok (.aload_n 0, 1) := by decide +kernel
theorem dX3_takeWord_66 : decode cX3_takeWord 66 = .ok (.ldc 113, 2) := by decide +kernel
theorem dX3_takeWord_68 : decode cX3_takeWord 68 = .ok (.invokevirtual 108, 3) := by decide +kernel
theorem dX3_takeWord_71 : decode cX3_takeWord 71 = .ok (.ifCond .eq 7, 3) := by decide +kernel
theorem dX3_takeWord_74 : decode cX3_takeWord 74 = .ok (.iconst 2, 1) := by decide +kernel
theorem dX3_takeWord_75 : decode cX3_takeWord 75 = .ok (.goto 43, 3) := by decide +kernel
theorem dX3_takeWord_78 : decode cX3_takeWord 78 = .ok (.aload_n 0, 1) := by decide +kernel
theorem dX3_takeWord_79 : decode cX3_takeWord 79 = .ok (.ldc 115, 2) := by decide +kernel
theorem dX3_takeWord_81 : decode cX3_takeWord 81 = .ok (.invokevirtual 108, 3) := by decide +kernel
theorem dX3_takeWord_84 : decode cX3_takeWord 84 = .ok (.ifCond .eq 7, 3) := by decide +kernel
theorem dX3_takeWord_87 : decode cX3_takeWord 87 = .ok (.iconst 3, 1) := by decide +kernel
theorem dX3_takeWord_88 : decode cX3_takeWord 88 = .ok (.goto 30, 3) := by decide +kernel
theorem dX3_takeWord_91 : decode cX3_takeWord 91 = .ok (.aload_n 0, 1) := by decide +kernel
theorem dX3_takeWord_92 : decode cX3_takeWord 92 = .ok (.ldc 117, 2) := by decide +kernel
theorem dX3_takeWord_94 : decode cX3_takeWord 94 = .ok (.invokevirtual 108, 3) := by decide +kernel
theorem dX3_takeWord_97 : decode cX3_takeWord 97 = .ok (.ifCond .eq 7, 3) := by decide +kernel
theorem dX3_takeWord_100 : decode cX3_takeWord 100 = .ok (.iconst 4, 1) := by decide +kernel
theorem dX3_takeWord_101 : decode cX3_takeWord 101 = .ok (.goto 17, 3) := by decide +kernel
theorem dX3_takeWord_104 : decode cX3_takeWord 104 = .ok (.aload_n 0, 1) := by decide +kernel
theorem dX3_takeWord_105 : decode cX3_takeWord 105 = .ok (.ldc 119, 2) := by decide +kernel
theorem dX3_takeWord_107 : decode cX3_takeWord 107 = .ok (.invokevirtual 108, 3) := by decide +kernel
theorem dX3_takeWord_110 : decode cX3_takeWord 110 = .ok (.ifCond .eq 7, 3) := by decide +kernel
theorem dX3_takeWord_113 : decode cX3_takeWord 113 = .ok (.iconst 5, 1) := by decide +kernel
theorem dX3_takeWord_114 : decode cX3_takeWord 114 = .ok (.goto 4, 3) := by decide +kernel
theorem dX3_takeWord_117 : decode cX3_takeWord 117 = .ok (.iconst (-1), 1) := by decide +kernel
theorem dX3_takeWord_118 : decode cX3_takeWord 118 = .ok (.istore_n 1, 1) := by decide +kernel
theorem dX3_takeWord_119 : decode cX3_takeWord 119 = .ok (.iload_n 1, 1) := by decide +kernel
theorem dX3_takeWord_120 : decode cX3_takeWord 120 = .ok (.iconst (-1), 1) := by decide +kernel
theorem dX3_takeWord_121 : decode cX3_takeWord 121 = .ok (.if_icmp .eq 16, 3) := by decide +kernel
theorem dX3_takeWord_124 : decode cX3_takeWord 124 = .ok (.aload_n 0, 1) := by decide +kernel
theorem dX3_takeWord_125 : decode cX3_takeWord 125 = .ok (.iconst 2, 1) := by decide +kernel
theorem dX3_takeWord_126 : decode cX3_takeWord 126 = .ok (.putfield 49, 3) := by decide +kernel
theorem dX3_takeWord_129 : decode cX3_takeWord 129 = .ok (.aload_n 0, 1) := by decide +kernel
theorem dX3_takeWord_130 : decode cX3_takeWord 130 = .ok (.iconst (-1), 1) := by decide +kernel
theorem dX3_takeWord_131 : decode cX3_takeWord 131 = .ok (.iload_n 1, 1) := by decide +kernel
theorem dX3_takeWord_132 : decode cX3_takeWord 132 = .ok (.isub, 1) := by decide +kernel
theorem dX3_takeWord_133 : decode cX3_takeWord 133 = .ok (.putfield 85, 3) := by decide +kernel
theorem dX3_takeWord_136 : decode cX3_takeWord 136 = .ok (.return_, 1) := by decide +kernel
theorem dX3_takeWord_137 : decode cX3_takeWord 137 = .ok (.aload_n 0, 1) := by decide +kernel
theorem dX3_takeWord_138 : decode cX3_takeWord 138 = .ok (.aload_n 0, 1) := by decide +kernel
theorem dX3_takeWord_139 : decode cX3_takeWord 139 = .ok (.ldc 121, 2) := by decide +kernel
theorem dX3_takeWord_141 : decode cX3_takeWord 141 = .ok (.invokevirtual 108, 3) := by decide +kernel
theorem dX3_takeWord_144 : decode cX3_takeWord 144 = .ok (.ifCond .eq 7, 3) := by decide +kernel
theorem dX3_takeWord_147 : decode cX3_takeWord 147 = .ok (.iconst 3, 1) := by decide +kernel
theorem dX3_takeWord_148 : decode cX3_takeWord 148 = .ok (.goto 72, 3) := by decide +kernel
theorem dX3_takeWord_151 : decode cX3_takeWord 151 = .ok (.aload_n 0, 1) := by decide +kernel
theorem dX3_takeWord_152 : decode cX3_takeWord 152 = .ok (.ldc 123, 2) := by decide +kernel
theorem dX3_takeWord_154 : decode cX3_takeWord 154 = .ok (.invokevirtual 108, 3) := by decide +kernel
theorem dX3_takeWord_157 : decode cX3_takeWord 157 = .ok (.ifCond .eq 7, 3) := by decide +kernel
theorem dX3_takeWord_160 : decode cX3_takeWord 160 = .ok (.iconst 4, 1) := by decide +kernel
theorem dX3_takeWord_161 : decode cX3_takeWord 161 = .ok (.goto 59, 3) := by decide +kernel
theorem dX3_takeWord_164 : decode cX3_takeWord 164 = .ok (.aload_n 0, 1) := by decide +kernel
theorem dX3_takeWord_165 : decode cX3_takeWord 165 = .ok (.ldc 125, 2) := by decide +kernel
theorem dX3_takeWord_167 : decode cX3_takeWord 167 = .ok (.invokevirtual 108, 3) := by decide +kernel
theorem dX3_takeWord_170 : decode cX3_takeWord 170 = .ok (.ifCond .eq 7, 3) := by decide +kernel
theorem dX3_takeWord_173 : decode cX3_takeWord 173 = .ok (.iconst 5, 1) := by decide +kernel
theorem dX3_takeWord_174 : decode cX3_takeWord 174 = .ok (.goto 46, 3) := by decide +kernel
theorem dX3_takeWord_177 : decode cX3_takeWord 177 = .ok (.aload_n 0, 1) := by decide +kernel
theorem dX3_takeWord_178 : decode cX3_takeWord 178 = .ok (.ldc 127, 2) := by decide +kernel
theorem dX3_takeWord_180 : decode cX3_takeWord 180 = .ok (.invokevirtual 108, 3) := by decide +kernel
theorem dX3_takeWord_183 : decode cX3_takeWord 183 = .ok (.ifCond .eq 8, 3) := by decide +kernel
theorem dX3_takeWord_186 : decode cX3_takeWord 186 = .ok (.bipush 6, 2) := by decide +kernel
theorem dX3_takeWord_188 : decode cX3_takeWord 188 = .ok (.goto 32, 3) := by decide +kernel
theorem dX3_takeWord_191 : decode cX3_takeWord 191 = .ok (.aload_n 0, 1) := by decide +kernel
theorem dX3_takeWord_192 : decode cX3_takeWord 192 = .ok (.ldc 129, 2) := by decide +kernel
theorem dX3_takeWord_194 : decode cX3_takeWord 194 = .ok (.invokevirtual 108, 3) := by decide +kernel
theorem dX3_takeWord_197 : decode cX3_takeWord 197 = .ok (.ifCond .eq 8, 3) := by decide +kernel
theorem dX3_takeWord_200 : decode cX3_takeWord 200 = .ok (.bipush 7, 2) := by decide +kernel
theorem dX3_takeWord_202 : decode cX3_takeWord 202 = .ok (.goto 18, 3) := by decide +kernel
theorem dX3_takeWord_205 : decode cX3_takeWord 205 = .ok (.aload_n 0, 1) := by decide +kernel
theorem dX3_takeWord_206 : decode cX3_takeWord 206 = .ok (.ldc 131, 2) := by decide +kernel
theorem dX3_takeWord_208 : decode cX3_takeWord 208 = .ok (.invokevirtual 108, 3) := by decide +kernel
theorem dX3_takeWord_211 : decode cX3_takeWord 211 = .ok (.ifCond .eq 8, 3) := by decide +kernel
theorem dX3_takeWord_214 : decode cX3_takeWord 214 = .ok (.bipush 8, 2) := by decide +kernel
theorem dX3_takeWord_216 : decode cX3_takeWord 216 = .ok (.goto 4, 3) := by decide +kernel
theorem dX3_takeWord_219 : decode cX3_takeWord 219 = .ok (.iconst (-1), 1) := by decide +kernel
theorem dX3_takeWord_220 : decode cX3_takeWord 220 = .ok (.putfield 49, 3) := by decide +kernel
theorem dX3_takeWord_223 : decode cX3_takeWord 223 = .ok (.return_, 1) := by decide +kernel
theorem dX3_takeNumber_0 : decode cX3_takeNumber 0 = .ok (.aload_n 0, 1) := by decide +kernel
theorem dX3_takeNumber_1 : decode cX3_takeNumber 1 = .ok (.iconst 0, 1) := by decide +kernel
theorem dX3_takeNumber_2 : decode cX3_takeNumber 2 = .ok (.putfield 85, 3) := by decide +kernel
theorem dX3_takeNumber_5 : decode cX3_takeNumber 5 = .ok (.aload_n 0, 1) := by decide +kernel
theorem dX3_takeNumber_6 : decode cX3_takeNumber 6 = .ok (.getfield 19, 3) := by decide +kernel
theorem dX3_takeNumber_9 : decode cX3_takeNumber 9 = .ok (.aload_n 0, 1) := by decide +kernel
theorem dX3_takeNumber_10 : decode cX3_takeNumber 10 = .ok (.getfield 15, 3) := by decide +kernel
theorem dX3_takeNumber_13 : decode cX3_takeNumber 13 = .ok (.if_icmp .ge 55, 3) := by decide +kernel
theorem dX3_takeNumber_16 : decode cX3_takeNumber 16 = .ok (.aload_n 0, 1) := by decide +kernel
theorem dX3_takeNumber_17 : decode cX3_takeNumber 17 = .ok (.getfield 9, 3) := by decide +kernel
theorem dX3_takeNumber_20 : decode cX3_takeNumber 20 = .ok (.aload_n 0, 1) := by decide +kernel
theorem dX3_takeNumber_21 : decode cX3_takeNumber 21 = .ok (.getfield 19, 3) := by decide +kernel
theorem dX3_takeNumber_24 : decode cX3_takeNumber 24 = .ok (.iaload, 1) := by decide +kernel
theorem dX3_takeNumber_25 : decode cX3_takeNumber 25 = .ok (.invokestatic 97, 3) := by decide +kernel
theorem dX3_takeNumber_28 : decode cX3_takeNumber 28 = .ok (.ifCond .eq 40, 3) := by decide +kernel
theorem dX3_takeNumber_31 : decode cX3_takeNumber 31 = .ok (.aload_n 0, 1) := by decide +kernel
theorem dX3_takeNumber_32 : decode cX3_takeNumber 32 = .ok (.bipush 10, 2) := by decide +kernel
theorem dX3_takeNumber_34 : decode cX3_takeNumber 34 = .ok (.aload_n 0, 1) := by decide +kernel
theorem dX3_takeNumber_35 : decode cX3_takeNumber 35 = .ok (.getfield 85, 3) := by decide +kernel
theorem dX3_takeNumber_38 : decode cX3_takeNumber 38 = .ok (.imul, 1) := by decide +kernel
theorem dX3_takeNumber_39 : decode cX3_takeNumber 39 = .ok (.aload_n 0, 1) := by decide +kernel
theorem dX3_takeNumber_40 : decode cX3_takeNumber 40 = .ok (.getfield 9, 3) := by decide +kernel
theorem dX3_takeNumber_43 : decode cX3_takeNumber 43 = .ok (.aload_n 0, 1) := by decide +kernel
theorem dX3_takeNumber_44 : decode cX3_takeNumber 44 = .ok (.getfield 19, 3) := by decide +kernel
theorem dX3_takeNumber_47 : decode cX3_takeNumber 47 = .ok (.iaload, 1) := by decide +kernel
theorem dX3_takeNumber_48 : decode cX3_takeNumber 48 = .ok (.iadd, 1) := by decide +kernel
theorem dX3_takeNumber_49 : decode cX3_takeNumber 49 = .ok (.bipush 48, 2) := by decide +kernel
theorem dX3_takeNumber_51 : decode cX3_takeNumber 51 = .ok (.isub, 1) := by decide +kernel
theorem dX3_takeNumber_52 : decode cX3_takeNumber 52 = .ok (.putfield 85, 3) := by decide +kernel
theorem dX3_takeNumber_55 : decode cX3_takeNumber 55 = .ok (.aload_n 0, 1) := by decide +kernel
theorem dX3_takeNumber_56 : decode cX3_takeNumber 56 = .ok (.dup, 1) := by decide +kernel
theorem dX3_takeNumber_57 : decode cX3_takeNumber 57 = .ok (.getfield 19, 3) := by decide +kernel
theorem dX3_takeNumber_60 : decode cX3_takeNumber 60 = .ok (.iconst 1, 1) := by decide +kernel
theorem dX3_takeNumber_61 : decode cX3_takeNumber 61 = .ok (.iadd, 1) := by decide +kernel
theorem dX3_takeNumber_62 : decode cX3_takeNumber 62 = .ok (.putfield 19, 3) := by decide +kernel
theorem dX3_takeNumber_65 : decode cX3_takeNumber 65 = .ok (.goto (-60), 3) := by decide +kernel
theorem dX3_takeNumber_68 : decode cX3_takeNumber 68 = .ok (.aload_n 0, 1) := by decide +kernel
theorem dX3_takeNumber_69 : decode cX3_takeNumber 69 = .ok (.aload_n 0, 1) := by decide +kernel
theorem dX3_takeNumber_70 : decode cX3_takeNumber 70 = .ok (.getfield 19, 3) := by decide +kernel
theorem dX3_takeNumber_73 : decode cX3_takeNumber 73 = .ok (.aload_n 0, 1) := by decide +kernel
theorem dX3_takeNumber_74 : decode cX3_takeNumber 74 = .ok (.getfield 88, 3) := by decide +kernel
theorem dX3_takeNumber_77 : decode cX3_takeNumber 77 = .ok (.isub, 1) := by decide +kernel
theorem dX3_takeNumber_78 : decode cX3_takeNumber 78 = .ok (.iconst 4, 1) := by decide +kernel
theorem dX3_takeNumber_79 : decode cX3_takeNumber 79 = .ok (.if_icmp .le 7, 3) := by decide +kernel
theorem dX3_takeNumber_82 : decode cX3_takeNumber 82 = .ok (.iconst (-1), 1) := by decide +kernel
theorem dX3_takeNumber_83 : decode cX3_takeNumber 83 = .ok (.goto 4, 3) := by decide +kernel
theorem dX3_takeNumber_86 : decode cX3_takeNumber 86 = .ok (.iconst 1, 1) := by decide +kernel
theorem dX3_takeNumber_87 : decode cX3_takeNumber 87 = .ok (.putfield 49, 3) := by decide +kernel
theorem dX3_takeNumber_90 : decode cX3_takeNumber 90 = .ok (.return_, 1) := by decide +kernel
theorem dX3_stands_0 : decode cX3_stands 0 = .ok (.aload_n 0, 1) := by decide +kernel
theorem dX3_stands_1 : decode cX3_stands 1 = .ok (.getfield 19, 3) := by decide +kernel
theorem dX3_stands_4 : decode cX3_stands 4 = .ok (.aload_n 0, 1) := by decide +kernel
theorem dX3_stands_5 : decode cX3_stands 5 = .ok (.getfield 88, 3) := by decide +kernel
theorem dX3_stands_8 : decode cX3_stands 8 = .ok (.isub, 1) := by decide +kernel
theorem dX3_stands_9 : decode cX3_stands 9 = .ok (.aload_n 1, 1) := by decide +kernel
theorem dX3_stands_10 : decode cX3_stands 10 = .ok (.invokevirtual 133, 3) := by decide +kernel
theorem dX3_stands_13 : decode cX3_stands 13 = .ok (.if_icmp .eq 5, 3) := by decide +kernel
theorem dX3_stands_16 : decode cX3_stands 16 = .ok (.iconst 0, 1) := by decide +kernel
theorem dX3_stands_17 : decode cX3_stands 17 = .ok (.ireturn, 1) := by decide +kernel
theorem dX3_stands_18 : decode cX3_stands 18 = .ok (.iconst 0, 1) := by decide +kernel
theorem dX3_stands_19 : decode cX3_stands 19 = .ok (.istore_n 2, 1) := by decide +kernel
theorem dX3_stands_20 : decode cX3_stands 20 = .ok (.iload_n 2, 1) := by decide +kernel
theorem dX3_stands_21 : decode cX3_stands 21 = .ok (.aload_n 1, 1) := by decide +kernel
theorem dX3_stands_22 : decode cX3_stands 22 = .ok (.invokevirtual 133, 3) := by decide +kernel
theorem dX3_stands_25 : decode cX3_stands 25 = .ok (.if_icmp .ge 30, 3) := by decide +kernel
theorem dX3_stands_28 : decode cX3_stands 28 = .ok (.aload_n 0, 1) := by decide +kernel
theorem dX3_stands_29 : decode cX3_stands 29 = .ok (.getfield 9, 3) := by decide +kernel
theorem dX3_stands_32 : decode cX3_stands 32 = .ok (.aload_n 0, 1) := by decide +kernel
theorem dX3_stands_33 : decode cX3_stands 33 = .ok (.getfield 88, 3) := by decide +kernel
theorem dX3_stands_36 : decode cX3_stands 36 = .ok (.iload_n 2, 1) := by decide +kernel
theorem dX3_stands_37 : decode cX3_stands 37 = .ok (.iadd, 1) := by decide +kernel
theorem dX3_stands_38 : decode cX3_stands 38 = .ok (.iaload, 1) := by decide +kernel
theorem dX3_stands_39 : decode cX3_stands 39 = .ok (.aload_n 1, 1) := by decide +kernel
theorem dX3_stands_40 : decode cX3_stands 40 = .ok (.iload_n 2, 1) := by decide +kernel
theorem dX3_stands_41 : decode cX3_stands 41 = .ok (.invokevirtual 138, 3) := by decide +kernel
theorem dX3_stands_44 : decode cX3_stands 44 = .ok (.if_icmp .eq 5, 3) := by decide +kernel
theorem dX3_stands_47 : decode cX3_stands 47 = .ok (.iconst 0, 1) := by decide +kernel
theorem dX3_stands_48 : decode cX3_stands 48 = .ok (.ireturn, 1) := by decide +kernel
theorem dX3_stands_49 : decode cX3_stands 49 = .ok (.iinc 2 1, 3) := by decide +kernel
theorem dX3_stands_52 : decode cX3_stands 52 = .ok (.goto (-32), 3) := by decide +kernel
theorem dX3_stands_55 : decode cX3_stands 55 = .ok (.iconst 1, 1) := by decide +kernel
theorem dX3_stands_56 : decode cX3_stands 56 = .ok (.ireturn, 1) := by decide +kernel
theorem dX3_isLetter_0 : decode cX3_isLetter 0 = .ok (.iload_n 0, 1) := by decide +kernel
theorem dX3_isLetter_1 : decode cX3_isLetter 1 = .ok (.bipush 97, 2) := by decide +kernel
theorem dX3_isLetter_3 : decode cX3_isLetter 3 = .ok (.if_icmp .lt 13, 3) := by decide +kernel
theorem dX3_isLetter_6 : decode cX3_isLetter 6 = .ok (.iload_n 0, 1) := by decide +kernel
theorem dX3_isLetter_7 : decode cX3_isLetter 7 = .ok (.bipush 122, 2) := by decide +kernel
theorem dX3_isLetter_9 : decode cX3_isLetter 9 = .ok (.if_icmp .gt 7, 3) := by decide +kernel
theorem dX3_isLetter_12 : decode cX3_isLetter 12 = .ok (.iconst 1, 1) := by decide +kernel
theorem dX3_isLetter_13 : decode cX3_isLetter 13 = .ok (.goto 4, 3) := by decide +kernel
theorem dX3_isLetter_16 : decode cX3_isLetter 16 = .ok (.iconst 0, 1) := by decide +kernel
theorem dX3_isLetter_17 : decode cX3_isLetter 17 = .ok (.ireturn, 1) := by decide +kernel
theorem dX3_isDigit_0 : decode cX3_isDigit 0 = .ok (.iload_n 0, 1) := by decide +kernel
theorem dX3_isDigit_1 : decode cX3_isDigit 1 = .ok (.bipush 48, 2) := by decide +kernel
theorem dX3_isDigit_3 : decode cX3_isDigit 3 = .ok (.if_icmp .lt 13, 3) := by decide +kernel
theorem dX3_isDigit_6 : decode cX3_isDigit 6 = .ok (.iload_n 0, 1) := by decide +kernel
theorem dX3_isDigit_7 : decode cX3_isDigit 7 = .ok (.bipush 57, 2) := by decide +kernel
theorem dX3_isDigit_9 : decode cX3_isDigit 9 = .ok (.if_icmp .gt 7, 3) := by decide +kernel
theorem dX3_isDigit_12 : decode cX3_isDigit 12 = .ok (.iconst 1, 1) := by decide +kernel
theorem dX3_isDigit_13 : decode cX3_isDigit 13 = .ok (.goto 4, 3) := by decide +kernel
theorem dX3_isDigit_16 : decode cX3_isDigit 16 = .ok (.iconst 0, 1) := by decide +kernel
theorem dX3_isDigit_17 : decode cX3_isDigit 17 = .ok (.ireturn, 1) := by decide +kernel
theorem dX3_isSign_0 : decode cX3_isSign 0 = .ok (.iload_n 0, 1) := by decide +kernel
theorem dX3_isSign_1 : decode cX3_isSign 1 = .ok (.bipush 40, 2) := by decide +kernel
theorem dX3_isSign_3 : decode cX3_isSign 3 = .ok (.if_icmp .eq 45, 3) := by decide +kernel
theorem dX3_isSign_6 : decode cX3_isSign 6 = .ok (.iload_n 0, 1) := by decide +kernel
theorem dX3_isSign_7 : decode cX3_isSign 7 = .ok (.bipush 41, 2) := by decide +kernel
theorem dX3_isSign_9 : decode cX3_isSign 9 = .ok (.if_icmp .eq 39, 3) := by decide +kernel
theorem dX3_isSign_12 : decode cX3_isSign 12 = .ok (.iload_n 0, 1) := by decide +kernel
theorem dX3_isSign_13 : decode cX3_isSign 13 = .ok (.bipush 59, 2) := by decide +kernel
theorem dX3_isSign_15 : decode cX3_isSign 15 = .ok (.if_icmp .eq 33, 3) := by decide +kernel
theorem dX3_isSign_18 : decode cX3_isSign 18 = .ok (.iload_n 0, 1) := by decide +kernel
theorem dX3_isSign_19 : decode cX3_isSign 19 = .ok (.bipush 43, 2) := by decide +kernel
theorem dX3_isSign_21 : decode cX3_isSign 21 = .ok (.if_icmp .eq 27, 3) := by decide +kernel
theorem dX3_isSign_24 : decode cX3_isSign 24 = .ok (.iload_n 0, 1) := by decide +kernel
theorem dX3_isSign_25 : decode cX3_isSign 25 = .ok (.bipush 45, 2) := by decide +kernel
theorem dX3_isSign_27 : decode cX3_isSign 27 = .ok (.if_icmp .eq 21, 3) := by decide +kernel
theorem dX3_isSign_30 : decode cX3_isSign 30 = .ok (.iload_n 0, 1) := by decide +kernel
theorem dX3_isSign_31 : decode cX3_isSign 31 = .ok (.bipush 42, 2) := by decide +kernel
theorem dX3_isSign_33 : decode cX3_isSign 33 = .ok (.if_icmp .eq 15, 3) := by decide +kernel
theorem dX3_isSign_36 : decode cX3_isSign 36 = .ok (.iload_n 0, 1) := by decide +kernel
theorem dX3_isSign_37 : decode cX3_isSign 37 = .ok (.bipush 60, 2) := by decide +kernel
theorem dX3_isSign_39 : decode cX3_isSign 39 = .ok (.if_icmp .eq 9, 3) := by decide +kernel
theorem dX3_isSign_42 : decode cX3_isSign 42 = .ok (.iload_n 0, 1) := by decide +kernel
theorem dX3_isSign_43 : decode cX3_isSign 43 = .ok (.bipush 61, 2) := by decide +kernel
theorem dX3_isSign_45 : decode cX3_isSign 45 = .ok (.if_icmp .ne 7, 3) := by decide +kernel
theorem dX3_isSign_48 : decode cX3_isSign 48 = .ok (.iconst 1, 1) := by decide +kernel
theorem dX3_isSign_49 : decode cX3_isSign 49 = .ok (.goto 4, 3) := by decide +kernel
theorem dX3_isSign_52 : decode cX3_isSign 52 = .ok (.iconst 0, 1) := by decide +kernel
theorem dX3_isSign_53 : decode cX3_isSign 53 = .ok (.ireturn, 1) := by decide +kernel
theorem dX4_init_0 : decode cX4_init 0 = .ok (.aload_n 0, 1) := by decide +kernel
theorem dX4_init_1 : decode cX4_init 1 = .ok (.invokespecial 3, 3) := by decide +kernel
theorem dX4_init_4 : decode cX4_init 4 = .ok (.aload_n 0, 1) := by decide +kernel
theorem dX4_init_5 : decode cX4_init 5 = .ok (.bipush 6, 2) := by decide +kernel
theorem dX4_init_7 : decode cX4_init 7 = .ok (.newarray .int, 2) := by decide +kernel
theorem dX4_init_9 : decode cX4_init 9 = .ok (.putfield 9, 3) := by decide +kernel
theorem dX4_init_12 : decode cX4_init 12 = .ok (.aload_n 0, 1) := by decide +kernel
theorem dX4_init_13 : decode cX4_init 13 = .ok (.sipush 160, 3) := by decide +kernel
theorem dX4_init_16 : decode cX4_init 16 = .ok (.newarray .int, 2) := by decide +kernel
theorem dX4_init_18 : decode cX4_init 18 = .ok (.putfield 15, 3) := by decide +kernel
theorem dX4_init_21 : decode cX4_init 21 = .ok (.aload_n 0, 1) := by decide +kernel
theorem dX4_init_22 : decode cX4_init 22 = .ok (.iconst (-1), 1) := by decide +kernel
theorem dX4_init_23 : decode cX4_init 23 = .ok (.putfield 18, 3) := by decide +kernel
theorem dX4_init_26 : decode cX4_init 26 = .ok (.return_, 1) := by decide +kernel
theorem dX4_show_0 : decode cX4_show 0 = .ok (.aload_n 0, 1) := by decide +kernel
theorem dX4_show_1 : decode cX4_show 1 = .ok (.getfield 9, 3) := by decide +kernel
theorem dX4_show_4 : decode cX4_show 4 = .ok (.iconst 1, 1) := by decide +kernel
theorem dX4_show_5 : decode cX4_show 5 = .ok (.iload_n 1, 1) := by decide +kernel
theorem dX4_show_6 : decode cX4_show 6 = .ok (.iastore, 1) := by decide +kernel
theorem dX4_show_7 : decode cX4_show 7 = .ok (.aload_n 0, 1) := by decide +kernel
theorem dX4_show_8 : decode cX4_show 8 = .ok (.getfield 9, 3) := by decide +kernel
theorem dX4_show_11 : decode cX4_show 11 = .ok (.iconst 2, 1) := by decide +kernel
theorem dX4_show_12 : decode cX4_show 12 = .ok (.iload_n 2, 1) := by decide +kernel
theorem dX4_show_13 : decode cX4_show 13 = .ok (.iastore, 1) := by decide +kernel
theorem dX4_show_14 : decode cX4_show 14 = .ok (.aload_n 0, 1) := by decide +kernel
theorem dX4_show_15 : decode cX4_show 15 = .ok (.iload_n 3, 1) := by decide +kernel
theorem dX4_show_16 : decode cX4_show 16 = .ok (.putfield 18, 3) := by decide +kernel
theorem dX4_show_19 : decode cX4_show 19 = .ok (.return_, 1) := by decide +kernel
theorem dX4_worth_0 : decode cX4_worth 0 = .ok (.iconst (-1), 1) := by decide +kernel
theorem dX4_worth_1 : decode cX4_worth 1 = .ok (.istore 4, 2) := by decide +kernel
theorem dX4_worth_3 : decode cX4_worth 3 = .ok (.iload_n 2, 1) := by decide +kernel
theorem dX4_worth_4 : decode cX4_worth 4 = .ok (.istore 5, 2) := by decide +kernel
theorem dX4_worth_6 : decode cX4_worth 6 = .ok (.iload 5, 2) := by decide +kernel
theorem dX4_worth_8 : decode cX4_worth 8 = .ok (.iload_n 3, 1) := by decide +kernel
theorem dX4_worth_9 : decode cX4_worth 9 = .ok (.if_icmp .ge 177, 3) := by decide +kernel
theorem dX4_worth_12 : decode cX4_worth 12 = .ok (.iload 5, 2) := by decide +kernel
theorem dX4_worth_14 : decode cX4_worth 14 = .ok (.aload_n 1, 1) := by decide +kernel
theorem dX4_worth_15 : decode cX4_worth 15 = .ok (.arraylength, 1) := by decide +kernel
theorem dX4_worth_16 : decode cX4_worth 16 = .ok (.if_icmp .ge 170, 3) := by decide +kernel
theorem dX4_worth_19 : decode cX4_worth 19 = .ok (.iload 4, 2) := by decide +kernel
theorem dX4_worth_21 : decode cX4_worth 21 = .ok (.iconst 1, 1) := by decide +kernel
theorem dX4_worth_22 : decode cX4_worth 22 = .ok (.iadd, 1) := by decide +kernel
theorem dX4_worth_23 : decode cX4_worth 23 = .ok (.aload_n 0, 1) := by decide +kernel
theorem dX4_worth_24 : decode cX4_worth 24 = .ok (.getfield 15, 3) := by decide +kernel
theorem dX4_worth_27 : decode cX4_worth 27 = .ok (.arraylength, 1) := by decide +kernel
theorem dX4_worth_28 : decode cX4_worth 28 = .ok (.if_icmp .ge 158, 3) := by decide +kernel
theorem dX4_worth_31 : decode cX4_worth 31 = .ok (.aload_n 1, 1) := by decide +kernel
theorem dX4_worth_32 : decode cX4_worth 32 = .ok (.iload 5, 2) := by decide +kernel
theorem dX4_worth_34 : decode cX4_worth 34 = .ok (.iaload, 1) := by decide +kernel
theorem dX4_worth_35 : decode cX4_worth 35 = .ok (.istore 6, 2) := by decide +kernel
theorem dX4_worth_37 : decode cX4_worth 37 = .ok (.iload 6, 2) := by decide +kernel
theorem dX4_worth_39 : decode cX4_worth 39 = .ok (.bipush (-6), 2) := by decide +kernel
theorem dX4_worth_41 : decode cX4_worth 41 = .ok (.if_icmp .lt 35, 3) := by decide +kernel
theorem dX4_worth_44 : decode cX4_worth 44 = .ok (.iinc 4 1, 3) := by decide +kernel
theorem dX4_worth_47 : decode cX4_worth 47 = .ok (.aload_n 0, 1) := by decide +kernel
theorem dX4_worth_48 : decode cX4_worth 48 = .ok (.getfield 15, 3) := by decide +kernel
theorem dX4_worth_51 : decode cX4_worth 51 = .ok (.iload 4, 2) := by decide +kernel
theorem dX4_worth_53 : decode cX4_worth 53 = .ok (.iload 6, 2) := by decide +kernel
theorem dX4_worth_55 : decode cX4_worth 55 = .ok (.ifCond .lt 8, 3) := by decide +kernel
theorem dX4_worth_58 : decode cX4_worth 58 = .ok (.iload 6, 2) := by decide +kernel
theorem dX4_worth_60 : decode cX4_worth 60 = .ok (.goto 12, 3) := by decide +kernel
theorem dX4_worth_63 : decode cX4_worth 63 = .ok (.aload_n 0, 1) := by decide +kernel
theorem dX4_worth_64 : decode cX4_worth 64 = .ok (.getfield 9, 3) := by decide +kernel
theorem dX4_worth_67 : decode cX4_worth 67 = .ok (.iconst (-1), 1) := by decide +kernel
theorem dX4_worth_68 : decode cX4_worth 68 = .ok (.iload 6, 2) := by decide +kernel
theorem dX4_worth_70 : decode cX4_worth 70 = .ok (.isub, 1) := by decide +kernel
theorem dX4_worth_71 : decode cX4_worth 71 = .ok (.iaload, 1) := by decide +kernel
theorem dX4_worth_72 : decode cX4_worth 72 = .ok (.iastore, 1) := by decide +kernel
theorem dX4_worth_73 : decode cX4_worth 73 = .ok (.goto 107, 3) := by decide +kernel
theorem dX4_worth_76 : decode cX4_worth 76 = .ok (.iload 4, 2) := by decide +kernel
theorem dX4_worth_78 : decode cX4_worth 78 = .ok (.ifCond .lt 35, 3) := by decide +kernel
theorem dX4_worth_81 : decode cX4_worth 81 = .ok (.iload 6, 2) := by decide +kernel
theorem dX4_worth_83 : decode cX4_worth 83 = .ok (.bipush (-7), 2) := by decide +kernel
theorem dX4_worth_85 : decode cX4_worth 85 = .ok (.if_icmp .ne 28, 3) := by decide +kernel
theorem dX4_worth_88 : decode cX4_worth 88 = .ok (.aload_n 0, 1) := by decide +kernel
theorem dX4_worth_89 : decode cX4_worth 89 = .ok (.getfield 15, 3) := by decide +kernel
theorem dX4_worth_92 : decode cX4_worth 92 = .ok (.iload 4, 2) := by decide +kernel
theorem dX4_worth_94 : decode cX4_worth 94 = .ok (.aload_n 0, 1) := by decide +kernel
theorem dX4_worth_95 : decode cX4_worth 95 = .ok (.getfield 15, 3) := by decide +kernel
theorem dX4_worth_98 : decode cX4_worth 98 = .ok (.iload 4, 2) := by decide +kernel
theorem dX4_worth_100 : decode cX4_worth 100 = .ok (.iaload, 1) := by decide +kernel
theorem dX4_worth_101 : decode cX4_worth 101 = .ok (.ifCond .ne 7, 3) := by decide +kernel
theorem dX4_worth_104 : decode cX4_worth 104 = .ok (.iconst 1, 1) := by decide +kernel
theorem dX4_worth_105 : decode cX4_worth 105 = .ok (.goto 4, 3) := by decide +kernel
theorem dX4_worth_108 : decode cX4_worth 108 = .ok (.iconst 0, 1) := by decide +kernel
theorem dX4_worth_109 : decode cX4_worth 109 = .ok (.iastore, 1) := by decide +kernel
theorem dX4_worth_110 : decode cX4_worth 110 = .ok (.goto 70, 3) := by decide +kernel
theorem dX4_worth_113 : decode cX4_worth 113 = .ok (.iload 4, 2) := by decide +kernel
theorem dX4_worth_115 : decode cX4_worth 115 = .ok (.ifCond .lt 28, 3) := by decide +kernel
theorem dX4_worth_118 : decode cX4_worth 118 = .ok (.iload 6, 2) := by decide +kernel
theorem dX4_worth_120 : decode cX4_worth 120 = .ok (.bipush (-8), 2) := by decide +kernel
theorem dX4_worth_122 : decode cX4_worth 122 = .ok (.if_icmp .ne 21, 3) := by decide +kernel
theorem dX4_worth_125 : decode cX4_worth 125 = .ok (.aload_n 0, 1) := by decide +kernel
theorem dX4_worth_126 : decode cX4_worth 126 = .ok (.getfield 15, 3) := by decide +kernel
theorem dX4_worth_129 : decode cX4_worth 129 = .ok (.iload 4, 2) := by decide +kernel
theorem dX4_worth_131 : decode cX4_worth 131 = .ok (.aload_n 0, 1) := by decide +kernel
theorem dX4_worth_132 : decode cX4_worth 132 = .ok (.getfield 15, 3) := by decide +kernel
theorem dX4_worth_135 : decode cX4_worth 135 = .ok (.iload 4, 2) := by decide +kernel
theorem dX4_worth_137 : decode cX4_worth 137 = .ok (.iaload, 1) := by decide +kernel
theorem dX4_worth_138 : decode cX4_worth 138 = .ok (.ineg, 1) := by decide +kernel
theorem dX4_worth_139 : decode cX4_worth 139 = .ok (.iastore, 1) := by decide +kernel
theorem dX4_worth_140 : decode cX4_worth 140 = .ok (.goto 40, 3) := by decide +kernel
theorem dX4_worth_143 : decode cX4_worth 143 = .ok (.iload 4, 2) := by decide +kernel
theorem dX4_worth_145 : decode cX4_worth 145 = .ok (.iconst 1, 1) := by decide +kernel
theorem dX4_worth_146 : decode cX4_worth 146 = .ok (.if_icmp .lt 34, 3) := by decide +kernel
theorem dX4_worth_149 : decode cX4_worth 149 = .ok (.iinc 4 (-1), 3) := by decide +kernel
theorem dX4_worth_152 : decode cX4_worth 152 = .ok (.aload_n 0, 1) := by decide +kernel
theorem dX4_worth_153 : decode cX4_worth 153 = .ok (.getfield 15, 3) := by decide +kernel
theorem dX4_worth_156 : decode cX4_worth 156 = .ok (.iload 4, 2) := by decide +kernel
theorem dX4_worth_158 : decode cX4_worth 158 = .ok (.iload 6, 2) := by decide +kernel
theorem dX4_worth_160 : decode cX4_worth 160 = .ok (.aload_n 0, 1) := by decide +kernel
theorem dX4_worth_161 : decode cX4_worth 161 = .ok (.getfield 15, 3) := by decide +kernel
theorem dX4_worth_164 : decode cX4_worth 164 = .ok (.iload 4, 2) := by decide +kernel
theorem dX4_worth_166 : decode cX4_worth 166 = .ok (.iaload, 1) := by decide +kernel
theorem dX4_worth_167 : decode cX4_worth 167 = .ok (.aload_n 0, 1) := by decide +kernel
theorem dX4_worth_168 : decode cX4_worth 168 = .ok (.getfield 15, 3) := by decide +kernel
theorem dX4_worth_171 : decode cX4_worth 171 = .ok (.iload 4, 2) := by decide +kernel
theorem dX4_worth_173 : decode cX4_worth 173 = .ok (.iconst 1, 1) := by decide +kernel
theorem dX4_worth_174 : decode cX4_worth 174 = .ok (.iadd, 1) := by decide +kernel
theorem dX4_worth_175 : decode cX4_worth 175 = .ok (.iaload, 1) := by decide +kernel
theorem dX4_worth_176 : decode cX4_worth 176 = .ok (.invokestatic 22, 3) := by decide +kernel
theorem dX4_worth_179 : decode cX4_worth 179 = .ok (.iastore, 1) := by decide +kernel
theorem dX4_worth_180 : decode cX4_worth 180 = .ok (.iinc 5 1, 3) := by decide +kernel
theorem dX4_worth_183 : decode cX4_worth 183 = .ok (.goto (-177), 3) := by decide +kernel
theorem dX4_worth_186 : decode cX4_worth 186 = .ok (.iload 4, 2) := by decide +kernel
theorem dX4_worth_188 : decode cX4_worth 188 = .ok (.ifCond .ge 7, 3) := by decide +kernel
theorem dX4_worth_191 : decode cX4_worth 191 = .ok (.iconst 0, 1) := by decide +kernel
theorem dX4_worth_192 : decode cX4_worth 192 = .ok (.goto 10, 3) := by decide +kernel
theorem dX4_worth_195 : decode cX4_worth 195 = .ok (.aload_n 0, 1) := by decide +kernel
theorem dX4_worth_196 : decode cX4_worth 196 = .ok (.getfield 15, 3) := by decide +kernel
theorem dX4_worth_199 : decode cX4_worth 199 = .ok (.iload 4, 2) := by decide +kernel
theorem dX4_worth_201 : decode cX4_worth 201 = .ok (.iaload, 1) := by decide +kernel
theorem dX4_worth_202 : decode cX4_worth 202 = .ok (.ireturn, 1) := by decide +kernel
theorem dX4_joined_0 : decode cX4_joined 0 = .ok (.iload_n 0, 1) := by decide +kernel
theorem dX4_joined_1 : decode cX4_joined 1 = .ok (.tableswitch 97 (-14) (-9) #[93, 89, 78, 67, 53, 39], 39) := by decide +kernel
theorem dX4_joined_40 : decode cX4_joined 40 = .ok (.iload_n 1, 1) := by decide +kernel
theorem dX4_joined_41 : decode cX4_joined 41 = .ok (.ifCond .ne 7, 3) := by decide +kernel
theorem dX4_joined_44 : decode cX4_joined 44 = .ok (.iload_n 2, 1) := by decide +kernel
theorem dX4_joined_45 : decode cX4_joined 45 = .ok (.ifCond .eq 7, 3) := by decide +kernel
theorem dX4_joined_48 : decode cX4_joined 48 = .ok (.iconst 1, 1) := by decide +kernel
theorem dX4_joined_49 : decode cX4_joined 49 = .ok (.goto 4, 3) := by decide +kernel
theorem dX4_joined_52 : decode cX4_joined 52 = .ok (.iconst 0, 1) := by decide +kernel
theorem dX4_joined_53 : decode cX4_joined 53 = .ok (.ireturn, 1) := by decide +kernel
theorem dX4_joined_54 : decode cX4_joined 54 = .ok (.iload_n 1, 1) := by decide +kernel
theorem dX4_joined_55 : decode cX4_joined 55 = .ok (.ifCond .eq 11, 3) := by decide +kernel
theorem dX4_joined_58 : decode cX4_joined 58 = .ok (.iload_n 2, 1) := by decide +kernel
theorem dX4_joined_59 : decode cX4_joined 59 = .ok (.ifCond .eq 7, 3) := by decide +kernel
theorem dX4_joined_62 : decode cX4_joined 62 = .ok (.iconst 1, 1) := by decide +kernel
theorem dX4_joined_63 : decode cX4_joined 63 = .ok (.goto 4, 3) := by decide +kernel
theorem dX4_joined_66 : decode cX4_joined 66 = .ok (.iconst 0, 1) := by decide +kernel
theorem dX4_joined_67 : decode cX4_joined 67 = .ok (.ireturn, 1) := by decide +kernel
theorem dX4_joined_68 : decode cX4_joined 68 = .ok (.iload_n 1, 1) := by decide +kernel
theorem dX4_joined_69 : decode cX4_joined 69 = .ok (.iload_n 2, 1) := by decide +kernel
theorem dX4_joined_70 : decode cX4_joined 70 = .ok (.if_icmp .ge 7, 3) := by decide +kernel
theorem dX4_joined_73 : decode cX4_joined 73 = .ok (.iconst 1, 1) := by decide +kernel
theorem dX4_joined_74 : decode cX4_joined 74 = .ok (.goto 4, 3) := by decide +kernel
theorem dX4_joined_77 : decode cX4_joined 77 = .ok (.iconst 0, 1) := by decide +kernel
theorem dX4_joined_78 : decode cX4_joined 78 = .ok (.ireturn, 1) := by decide +kernel
theorem dX4_joined_79 : decode cX4_joined 79 = .ok (.iload_n 1, 1) := by decide +kernel
theorem dX4_joined_80 : decode cX4_joined 80 = .ok (.iload_n 2, 1) := by decide +kernel
theorem dX4_joined_81 : decode cX4_joined 81 = .ok (.if_icmp .ne 7, 3) := by decide +kernel
theorem dX4_joined_84 : decode cX4_joined 84 = .ok (.iconst 1, 1) := by decide +kernel
theorem dX4_joined_85 : decode cX4_joined 85 = .ok (.goto 4, 3) := by decide +kernel
theorem dX4_joined_88 : decode cX4_joined 88 = .ok (.iconst 0, 1) := by decide +kernel
theorem dX4_joined_89 : decode cX4_joined 89 = .ok (.ireturn, 1) := by decide +kernel
theorem dX4_joined_90 : decode cX4_joined 90 = .ok (.iload_n 1, 1) := by decide +kernel
theorem dX4_joined_91 : decode cX4_joined 91 = .ok (.iload_n 2, 1) := by decide +kernel
theorem dX4_joined_92 : decode cX4_joined 92 = .ok (.iadd, 1) := by decide +kernel
theorem dX4_joined_93 : decode cX4_joined 93 = .ok (.ireturn, 1) := by decide +kernel
theorem dX4_joined_94 : decode cX4_joined 94 = .ok (.iload_n 1, 1) := by decide +kernel
theorem dX4_joined_95 : decode cX4_joined 95 = .ok (.iload_n 2, 1) := by decide +kernel
theorem dX4_joined_96 : decode cX4_joined 96 = .ok (.isub, 1) := by decide +kernel
theorem dX4_joined_97 : decode cX4_joined 97 = .ok (.ireturn, 1) := by decide +kernel
theorem dX4_joined_98 : decode cX4_joined 98 = .ok (.iload_n 1, 1) := by decide +kernel
theorem dX4_joined_99 : decode cX4_joined 99 = .ok (.iload_n 2, 1) := by decide +kernel
theorem dX4_joined_100 : decode cX4_joined 100 = .ok (.imul, 1) := by decide +kernel
theorem dX4_joined_101 : decode cX4_joined 101 = .ok (.ireturn, 1) := by decide +kernel
theorem dX5_init_0 : decode cX5_init 0 = .ok (.aload_n 0, 1) := by decide +kernel
theorem dX5_init_1 : decode cX5_init 1 = .ok (.invokespecial 3, 3) := by decide +kernel
theorem dX5_init_4 : decode cX5_init 4 = .ok (.aload_n 0, 1) := by decide +kernel
theorem dX5_init_5 : decode cX5_init 5 = .ok (.bipush 40, 2) := by decide +kernel
theorem dX5_init_7 : decode cX5_init 7 = .ok (.newarray .int, 2) := by decide +kernel
theorem dX5_init_9 : decode cX5_init 9 = .ok (.putfield 9, 3) := by decide +kernel
theorem dX5_init_12 : decode cX5_init 12 = .ok (.aload_n 0, 1) := by decide +kernel
theorem dX5_init_13 : decode cX5_init 13 = .ok (.iconst (-1), 1) := by decide +kernel
theorem dX5_init_14 : decode cX5_init 14 = .ok (.putfield 15, 3) := by decide +kernel
theorem dX5_init_17 : decode cX5_init 17 = .ok (.return_, 1) := by decide +kernel
theorem dX5_isMissing_0 : decode cX5_isMissing 0 = .ok (.aload_n 0, 1) := by decide +kernel
theorem dX5_isMissing_1 : decode cX5_isMissing 1 = .ok (.getfield 15, 3) := by decide +kernel
theorem dX5_isMissing_4 : decode cX5_isMissing 4 = .ok (.iconst (-1), 1) := by decide +kernel
theorem dX5_isMissing_5 : decode cX5_isMissing 5 = .ok (.if_icmp .ne 7, 3) := by decide +kernel
theorem dX5_isMissing_8 : decode cX5_isMissing 8 = .ok (.iconst 1, 1) := by decide +kernel
theorem dX5_isMissing_9 : decode cX5_isMissing 9 = .ok (.goto 4, 3) := by decide +kernel
theorem dX5_isMissing_12 : decode cX5_isMissing 12 = .ok (.iconst 0, 1) := by decide +kernel
theorem dX5_isMissing_13 : decode cX5_isMissing 13 = .ok (.ireturn, 1) := by decide +kernel
theorem dX5_become_0 : decode cX5_become 0 = .ok (.aload_n 0, 1) := by decide +kernel
theorem dX5_become_1 : decode cX5_become 1 = .ok (.iload_n 1, 1) := by decide +kernel
theorem dX5_become_2 : decode cX5_become 2 = .ok (.putfield 15, 3) := by decide +kernel
theorem dX5_become_5 : decode cX5_become 5 = .ok (.aload_n 0, 1) := by decide +kernel
theorem dX5_become_6 : decode cX5_become 6 = .ok (.iload_n 2, 1) := by decide +kernel
theorem dX5_become_7 : decode cX5_become 7 = .ok (.putfield 19, 3) := by decide +kernel
theorem dX5_become_10 : decode cX5_become 10 = .ok (.iconst 0, 1) := by decide +kernel
theorem dX5_become_11 : decode cX5_become 11 = .ok (.istore_n 3, 1) := by decide +kernel
theorem dX5_become_12 : decode cX5_become 12 = .ok (.iload_n 3, 1) := by decide +kernel
theorem dX5_become_13 : decode cX5_become 13 = .ok (.bipush 40, 2) := by decide +kernel
theorem dX5_become_15 : decode cX5_become 15 = .ok (.if_icmp .ge 16, 3) := by decide +kernel
theorem dX5_become_18 : decode cX5_become 18 = .ok (.aload_n 0, 1) := by decide +kernel
theorem dX5_become_19 : decode cX5_become 19 = .ok (.getfield 9, 3) := by decide +kernel
theorem dX5_become_22 : decode cX5_become 22 = .ok (.iload_n 3, 1) := by decide +kernel
theorem dX5_become_23 : decode cX5_become 23 = .ok (.iconst 0, 1) := by decide +kernel
theorem dX5_become_24 : decode cX5_become 24 = .ok (.iastore, 1) := by decide +kernel
theorem dX5_become_25 : decode cX5_become 25 = .ok (.iinc 3 1, 3) := by decide +kernel
theorem dX5_become_28 : decode cX5_become 28 = .ok (.goto (-16), 3) := by decide +kernel
theorem dX5_become_31 : decode cX5_become 31 = .ok (.return_, 1) := by decide +kernel
theorem dX5_reaches_0 : decode cX5_reaches 0 = .ok (.iload_n 1, 1) := by decide +kernel
theorem dX5_reaches_1 : decode cX5_reaches 1 = .ok (.ifCond .lt 15, 3) := by decide +kernel
theorem dX5_reaches_4 : decode cX5_reaches 4 = .ok (.iload_n 1, 1) := by decide +kernel
theorem dX5_reaches_5 : decode cX5_reaches 5 = .ok (.aload_n 0, 1) := by decide +kernel
theorem dX5_reaches_6 : decode cX5_reaches 6 = .ok (.getfield 19, 3) := by decide +kernel
theorem dX5_reaches_9 : decode cX5_reaches 9 = .ok (.if_icmp .ge 7, 3) := by decide +kernel
theorem dX5_reaches_12 : decode cX5_reaches 12 = .ok (.iconst 1, 1) := by decide +kernel
theorem dX5_reaches_13 : decode cX5_reaches 13 = .ok (.goto 4, 3) := by decide +kernel
theorem dX5_reaches_16 : decode cX5_reaches 16 = .ok (.iconst 0, 1) := by decide +kernel
theorem dX5_reaches_17 : decode cX5_reaches 17 = .ok (.ireturn, 1) := by decide +kernel
theorem dX5_spans_0 : decode cX5_spans 0 = .ok (.iload_n 2, 1) := by decide +kernel
theorem dX5_spans_1 : decode cX5_spans 1 = .ok (.ifCond .lt 29, 3) := by decide +kernel
theorem dX5_spans_4 : decode cX5_spans 4 = .ok (.iload_n 2, 1) := by decide +kernel
theorem dX5_spans_5 : decode cX5_spans 5 = .ok (.aload_n 0, 1) := by decide +kernel
theorem dX5_spans_6 : decode cX5_spans 6 = .ok (.getfield 19, 3) := by decide +kernel
theorem dX5_spans_9 : decode cX5_spans 9 = .ok (.if_icmp .gt 21, 3) := by decide +kernel
theorem dX5_spans_12 : decode cX5_spans 12 = .ok (.iload_n 1, 1) := by decide +kernel
theorem dX5_spans_13 : decode cX5_spans 13 = .ok (.ifCond .lt 17, 3) := by decide +kernel
theorem dX5_spans_16 : decode cX5_spans 16 = .ok (.iload_n 1, 1) := by decide +kernel
theorem dX5_spans_17 : decode cX5_spans 17 = .ok (.aload_n 0, 1) := by decide +kernel
theorem dX5_spans_18 : decode cX5_spans 18 = .ok (.getfield 19, 3) := by decide +kernel
theorem dX5_spans_21 : decode cX5_spans 21 = .ok (.iload_n 2, 1) := by decide +kernel
theorem dX5_spans_22 : decode cX5_spans 22 = .ok (.isub, 1) := by decide +kernel
theorem dX5_spans_23 : decode cX5_spans 23 = .ok (.if_icmp .gt 7, 3) := by decide +kernel
theorem dX5_spans_26 : decode cX5_spans 26 = .ok (.iconst 1, 1) := by decide +kernel
theorem dX5_spans_27 : decode cX5_spans 27 = .ok (.goto 4, 3) := by decide +kernel
theorem dX5_spans_30 : decode cX5_spans 30 = .ok (.iconst 0, 1) := by decide +kernel
theorem dX5_spans_31 : decode cX5_spans 31 = .ok (.ireturn, 1) := by decide +kernel
theorem dX5_write_0 : decode cX5_write 0 = .ok (.aload_n 0, 1) := by decide +kernel
theorem dX5_write_1 : decode cX5_write 1 = .ok (.getfield 15, 3) := by decide +kernel
theorem dX5_write_4 : decode cX5_write 4 = .ok (.ifCond .ne 14, 3) := by decide +kernel
theorem dX5_write_7 : decode cX5_write 7 = .ok (.aload_n 0, 1) := by decide +kernel
theorem dX5_write_8 : decode cX5_write 8 = .ok (.getfield 9, 3) := by decide +kernel
theorem dX5_write_11 : decode cX5_write 11 = .ok (.iload_n 1, 1) := by decide +kernel
theorem dX5_write_12 : decode cX5_write 12 = .ok (.iload_n 2, 1) := by decide +kernel
theorem dX5_write_13 : decode cX5_write 13 = .ok (.i2b, 1) := by decide +kernel
theorem dX5_write_14 : decode cX5_write 14 = .ok (.iastore, 1) := by decide +kernel
theorem dX5_write_15 : decode cX5_write 15 = .ok (.goto 29, 3) := by decide +kernel
theorem dX5_write_18 : decode cX5_write 18 = .ok (.aload_n 0, 1) := by decide +kernel
theorem dX5_write_19 : decode cX5_write 19 = .ok (.getfield 15, 3) := by decide +kernel
theorem dX5_write_22 : decode cX5_write 22 = .ok (.iconst 1, 1) := by decide +kernel
theorem dX5_write_23 : decode cX5_write 23 = .ok (.if_icmp .ne 14, 3) := by decide +kernel
theorem dX5_write_26 : decode cX5_write 26 = .ok (.aload_n 0, 1) := by decide +kernel
theorem dX5_write_27 : decode cX5_write 27 = .ok (.getfield 9, 3) := by decide +kernel
theorem dX5_write_30 : decode cX5_write 30 = .ok (.iload_n 1, 1) := by decide +kernel
theorem dX5_write_31 : decode cX5_write 31 = .ok (.iload_n 2, 1) := by decide +kernel
theorem dX5_write_32 : decode cX5_write 32 = .ok (.i2s, 1) := by decide +kernel
theorem dX5_write_33 : decode cX5_write 33 = .ok (.iastore, 1) := by decide +kernel
theorem dX5_write_34 : decode cX5_write 34 = .ok (.goto 10, 3) := by decide +kernel
theorem dX5_write_37 : decode cX5_write 37 = .ok (.aload_n 0, 1) := by decide +kernel
theorem dX5_write_38 : decode cX5_write 38 = .ok (.getfield 9, 3) := by decide +kernel
theorem dX5_write_41 : decode cX5_write 41 = .ok (.iload_n 1, 1) := by decide +kernel
theorem dX5_write_42 : decode cX5_write 42 = .ok (.iload_n 2, 1) := by decide +kernel
theorem dX5_write_43 : decode cX5_write 43 = .ok (.iastore, 1) := by decide +kernel
theorem dX5_write_44 : decode cX5_write 44 = .ok (.return_, 1) := by decide +kernel
theorem dX6_init_0 : decode cX6_init 0 = .ok (.aload_n 0, 1) := by decide +kernel
theorem dX6_init_1 : decode cX6_init 1 = .ok (.invokespecial 3, 3) := by decide +kernel
theorem dX6_init_4 : decode cX6_init 4 = .ok (.aload_n 0, 1) := by decide +kernel
theorem dX6_init_5 : decode cX6_init 5 = .ok (.bipush 7, 2) := by decide +kernel
theorem dX6_init_7 : decode cX6_init 7 = .ok (.newarray .int, 2) := by decide +kernel
theorem dX6_init_9 : decode cX6_init 9 = .ok (.putfield 9, 3) := by decide +kernel
theorem dX6_init_12 : decode cX6_init 12 = .ok (.aload_n 0, 1) := by decide +kernel
theorem dX6_init_13 : decode cX6_init 13 = .ok (.bipush 7, 2) := by decide +kernel
theorem dX6_init_15 : decode cX6_init 15 = .ok (.newarray .int, 2) := by decide +kernel
theorem dX6_init_17 : decode cX6_init 17 = .ok (.putfield 15, 3) := by decide +kernel
theorem dX6_init_20 : decode cX6_init 20 = .ok (.aload_n 0, 1) := by decide +kernel
theorem dX6_init_21 : decode cX6_init 21 = .ok (.bipush 7, 2) := by decide +kernel
theorem dX6_init_23 : decode cX6_init 23 = .ok (.newarray .int, 2) := by decide +kernel
theorem dX6_init_25 : decode cX6_init 25 = .ok (.putfield 18, 3) := by decide +kernel
theorem dX6_init_28 : decode cX6_init 28 = .ok (.return_, 1) := by decide +kernel
theorem dX6_become_0 : decode cX6_become 0 = .ok (.aload_n 1, 1) := by decide +kernel
theorem dX6_become_1 : decode cX6_become 1 = .ok (.getfield 9, 3) := by decide +kernel
theorem dX6_become_4 : decode cX6_become 4 = .ok (.iconst 0, 1) := by decide +kernel
theorem dX6_become_5 : decode cX6_become 5 = .ok (.aload_n 0, 1) := by decide +kernel
theorem dX6_become_6 : decode cX6_become 6 = .ok (.getfield 9, 3) := by decide +kernel
theorem dX6_become_9 : decode cX6_become 9 = .ok (.iconst 0, 1) := by decide +kernel
theorem dX6_become_10 : decode cX6_become 10 = .ok (.iload_n 2, 1) := by decide +kernel
theorem dX6_become_11 : decode cX6_become 11 = .ok (.invokestatic 21, 3) := by decide +kernel
theorem dX6_become_14 : decode cX6_become 14 = .ok (.aload_n 1, 1) := by decide +kernel
theorem dX6_become_15 : decode cX6_become 15 = .ok (.getfield 15, 3) := by decide +kernel
theorem dX6_become_18 : decode cX6_become 18 = .ok (.iconst 0, 1) := by decide +kernel
theorem dX6_become_19 : decode cX6_become 19 = .ok (.aload_n 0, 1) := by decide +kernel
theorem dX6_become_20 : decode cX6_become 20 = .ok (.getfield 15, 3) := by decide +kernel
theorem dX6_become_23 : decode cX6_become 23 = .ok (.iconst 0, 1) := by decide +kernel
theorem dX6_become_24 : decode cX6_become 24 = .ok (.iload_n 2, 1) := by decide +kernel
theorem dX6_become_25 : decode cX6_become 25 = .ok (.invokestatic 21, 3) := by decide +kernel
theorem dX6_become_28 : decode cX6_become 28 = .ok (.aload_n 1, 1) := by decide +kernel
theorem dX6_become_29 : decode cX6_become 29 = .ok (.getfield 18, 3) := by decide +kernel
theorem dX6_become_32 : decode cX6_become 32 = .ok (.iconst 0, 1) := by decide +kernel
theorem dX6_become_33 : decode cX6_become 33 = .ok (.aload_n 0, 1) := by decide +kernel
theorem dX6_become_34 : decode cX6_become 34 = .ok (.getfield 18, 3) := by decide +kernel
theorem dX6_become_37 : decode cX6_become 37 = .ok (.iconst 0, 1) := by decide +kernel
theorem dX6_become_38 : decode cX6_become 38 = .ok (.iload_n 3, 1) := by decide +kernel
theorem dX6_become_39 : decode cX6_become 39 = .ok (.invokestatic 21, 3) := by decide +kernel
theorem dX6_become_42 : decode cX6_become 42 = .ok (.iconst 1, 1) := by decide +kernel
theorem dX6_become_43 : decode cX6_become 43 = .ok (.iload_n 3, 1) := by decide +kernel
theorem dX6_become_44 : decode cX6_become 44 = .ok (.ishl, 1) := by decide +kernel
theorem dX6_become_45 : decode cX6_become 45 = .ok (.iconst 1, 1) := by decide +kernel
theorem dX6_become_46 : decode cX6_become 46 = .ok (.isub, 1) := by decide +kernel
theorem dX6_become_47 : decode cX6_become 47 = .ok (.istore 4, 2) := by decide +kernel
theorem dX6_become_49 : decode cX6_become 49 = .ok (.aload_n 0, 1) := by decide +kernel
theorem dX6_become_50 : decode cX6_become 50 = .ok (.aload_n 0, 1) := by decide +kernel
theorem dX6_become_51 : decode cX6_become 51 = .ok (.getfield 27, 3) := by decide +kernel
theorem dX6_become_54 : decode cX6_become 54 = .ok (.iload 4, 2) := by decide +kernel
theorem dX6_become_56 : decode cX6_become 56 = .ok (.iconst (-1), 1) := by decide +kernel
theorem dX6_become_57 : decode cX6_become 57 = .ok (.ixor, 1) := by decide +kernel
theorem dX6_become_58 : decode cX6_become 58 = .ok (.iand, 1) := by decide +kernel
theorem dX6_become_59 : decode cX6_become 59 = .ok (.aload_n 1, 1) := by decide +kernel
theorem dX6_become_60 : decode cX6_become 60 = .ok (.getfield 27, 3) := by decide +kernel
theorem dX6_become_63 : decode cX6_become 63 = .ok (.iload 4, 2) := by decide +kernel
theorem dX6_become_65 : decode cX6_become 65 = .ok (.iand, 1) := by decide +kernel
theorem dX6_become_66 : decode cX6_become 66 = .ok (.ior, 1) := by decide +kernel
theorem dX6_become_67 : decode cX6_become 67 = .ok (.putfield 27, 3) := by decide +kernel
theorem dX6_become_70 : decode cX6_become 70 = .ok (.aload_n 0, 1) := by decide +kernel
theorem dX6_become_71 : decode cX6_become 71 = .ok (.aload_n 1, 1) := by decide +kernel
theorem dX6_become_72 : decode cX6_become 72 = .ok (.getfield 31, 3) := by decide +kernel
theorem dX6_become_75 : decode cX6_become 75 = .ok (.putfield 31, 3) := by decide +kernel
theorem dX6_become_78 : decode cX6_become 78 = .ok (.aload_n 0, 1) := by decide +kernel
theorem dX6_become_79 : decode cX6_become 79 = .ok (.aload_n 1, 1) := by decide +kernel
theorem dX6_become_80 : decode cX6_become 80 = .ok (.getfield 34, 3) := by decide +kernel
theorem dX6_become_83 : decode cX6_become 83 = .ok (.putfield 34, 3) := by decide +kernel
theorem dX6_become_86 : decode cX6_become 86 = .ok (.aload_n 0, 1) := by decide +kernel
theorem dX6_become_87 : decode cX6_become 87 = .ok (.aload_n 1, 1) := by decide +kernel
theorem dX6_become_88 : decode cX6_become 88 = .ok (.getfield 37, 3) := by decide +kernel
theorem dX6_become_91 : decode cX6_become 91 = .ok (.putfield 37, 3) := by decide +kernel
theorem dX6_become_94 : decode cX6_become 94 = .ok (.aload_n 0, 1) := by decide +kernel
theorem dX6_become_95 : decode cX6_become 95 = .ok (.aload_n 1, 1) := by decide +kernel
theorem dX6_become_96 : decode cX6_become 96 = .ok (.getfield 40, 3) := by decide +kernel
theorem dX6_become_99 : decode cX6_become 99 = .ok (.putfield 40, 3) := by decide +kernel
theorem dX6_become_102 : decode cX6_become 102 = .ok (.aload_n 0, 1) := by decide +kernel
theorem dX6_become_103 : decode cX6_become 103 = .ok (.aload_n 1, 1) := by decide +kernel
theorem dX6_become_104 : decode cX6_become 104 = .ok (.getfield 43, 3) := by decide +kernel
theorem dX6_become_107 : decode cX6_become 107 = .ok (.putfield 43, 3) := by decide +kernel
theorem dX6_become_110 : decode cX6_become 110 = .ok (.return_, 1) := by decide +kernel
theorem dX7_init_0 : decode cX7_init 0 = .ok (.aload_n 0, 1) := by decide +kernel
theorem dX7_init_1 : decode cX7_init 1 = .ok (.invokespecial 3, 3) := by decide +kernel
theorem dX7_init_4 : decode cX7_init 4 = .ok (.aload_n 0, 1) := by decide +kernel
theorem dX7_init_5 : decode cX7_init 5 = .ok (.sipush 160, 3) := by decide +kernel
theorem dX7_init_8 : decode cX7_init 8 = .ok (.newarray .int, 2) := by decide +kernel
theorem dX7_init_10 : decode cX7_init 10 = .ok (.putfield 9, 3) := by decide +kernel
theorem dX7_init_13 : decode cX7_init 13 = .ok (.return_, 1) := by decide +kernel
theorem dX8_init_0 : decode cX8_init 0 = .ok (.aload_n 0, 1) := by decide +kernel
theorem dX8_init_1 : decode cX8_init 1 = .ok (.invokespecial 1, 3) := by decide +kernel
theorem dX8_init_4 : decode cX8_init 4 = .ok (.return_, 1) := by decide +kernel
theorem dJ6_bitCount_0f7a4_0 : decode cJ6_bitCount_0f7a4 0 = .ok (.iload_n 0, 1) := by decide +kernel
theorem dJ6_bitCount_0f7a4_1 : decode cJ6_bitCount_0f7a4 1 = .ok (.iload_n 0, 1) := by decide +kernel
theorem dJ6_bitCount_0f7a4_2 : decode cJ6_bitCount_0f7a4 2 = .ok (.iconst 1, 1) := by decide +kernel
theorem dJ6_bitCount_0f7a4_3 : decode cJ6_bitCount_0f7a4 3 = .ok (.iushr, 1) := by decide +kernel
theorem dJ6_bitCount_0f7a4_4 : decode cJ6_bitCount_0f7a4 4 = .ok (.ldc_w 265, 3) := by decide +kernel
theorem dJ6_bitCount_0f7a4_7 : decode cJ6_bitCount_0f7a4 7 = .ok (.iand, 1) := by decide +kernel
theorem dJ6_bitCount_0f7a4_8 : decode cJ6_bitCount_0f7a4 8 = .ok (.isub, 1) := by decide +kernel
theorem dJ6_bitCount_0f7a4_9 : decode cJ6_bitCount_0f7a4 9 = .ok (.istore_n 0, 1) := by decide +kernel
theorem dJ6_bitCount_0f7a4_10 : decode cJ6_bitCount_0f7a4 10 = .ok (.iload_n 0, 1) := by decide +kernel
theorem dJ6_bitCount_0f7a4_11 : decode cJ6_bitCount_0f7a4 11 = .ok (.ldc_w 266, 3) := by decide +kernel
theorem dJ6_bitCount_0f7a4_14 : decode cJ6_bitCount_0f7a4 14 = .ok (.iand, 1) := by decide +kernel
theorem dJ6_bitCount_0f7a4_15 : decode cJ6_bitCount_0f7a4 15 = .ok (.iload_n 0, 1) := by decide +kernel
theorem dJ6_bitCount_0f7a4_16 : decode cJ6_bitCount_0f7a4 16 = .ok (.iconst 2, 1) := by decide +kernel
theorem dJ6_bitCount_0f7a4_17 : decode cJ6_bitCount_0f7a4 17 = .ok (.iushr, 1) := by decide +kernel
theorem dJ6_bitCount_0f7a4_18 : decode cJ6_bitCount_0f7a4 18 = .ok (.ldc_w 266, 3) := by decide +kernel
theorem dJ6_bitCount_0f7a4_21 : decode cJ6_bitCount_0f7a4 21 = .ok (.iand, 1) := by decide +kernel
theorem dJ6_bitCount_0f7a4_22 : decode cJ6_bitCount_0f7a4 22 = .ok (.iadd, 1) := by decide +kernel
theorem dJ6_bitCount_0f7a4_23 : decode cJ6_bitCount_0f7a4 23 = .ok (.istore_n 0, 1) := by decide +kernel
theorem dJ6_bitCount_0f7a4_24 : decode cJ6_bitCount_0f7a4 24 = .ok (.iload_n 0, 1) := by decide +kernel
theorem dJ6_bitCount_0f7a4_25 : decode cJ6_bitCount_0f7a4 25 = .ok (.iload_n 0, 1) := by decide +kernel
theorem dJ6_bitCount_0f7a4_26 : decode cJ6_bitCount_0f7a4 26 = .ok (.iconst 4, 1) := by decide +kernel
theorem dJ6_bitCount_0f7a4_27 : decode cJ6_bitCount_0f7a4 27 = .ok (.iushr, 1) := by decide +kernel
theorem dJ6_bitCount_0f7a4_28 : decode cJ6_bitCount_0f7a4 28 = .ok (.iadd, 1) := by decide +kernel
theorem dJ6_bitCount_0f7a4_29 : decode cJ6_bitCount_0f7a4 29 = .ok (.ldc_w 267, 3) := by decide +kernel
theorem dJ6_bitCount_0f7a4_32 : decode cJ6_bitCount_0f7a4 32 = .ok (.iand, 1) := by decide +kernel
theorem dJ6_bitCount_0f7a4_33 : decode cJ6_bitCount_0f7a4 33 = .ok (.istore_n 0, 1) := by decide +kernel
theorem dJ6_bitCount_0f7a4_34 : decode cJ6_bitCount_0f7a4 34 = .ok (.iload_n 0, 1) := by decide +kernel
theorem dJ6_bitCount_0f7a4_35 : decode cJ6_bitCount_0f7a4 35 = .ok (.iload_n 0, 1) := by decide +kernel
theorem dJ6_bitCount_0f7a4_36 : decode cJ6_bitCount_0f7a4 36 = .ok (.bipush 8, 2) := by decide +kernel
theorem dJ6_bitCount_0f7a4_38 : decode cJ6_bitCount_0f7a4 38 = .ok (.iushr, 1) := by decide +kernel
theorem dJ6_bitCount_0f7a4_39 : decode cJ6_bitCount_0f7a4 39 = .ok (.iadd, 1) := by decide +kernel
theorem dJ6_bitCount_0f7a4_40 : decode cJ6_bitCount_0f7a4 40 = .ok (.istore_n 0, 1) := by decide +kernel
theorem dJ6_bitCount_0f7a4_41 : decode cJ6_bitCount_0f7a4 41 = .ok (.iload_n 0, 1) := by decide +kernel
theorem dJ6_bitCount_0f7a4_42 : decode cJ6_bitCount_0f7a4 42 = .ok (.iload_n 0, 1) := by decide +kernel
theorem dJ6_bitCount_0f7a4_43 : decode cJ6_bitCount_0f7a4 43 = .ok (.bipush 16, 2) := by decide +kernel
theorem dJ6_bitCount_0f7a4_45 : decode cJ6_bitCount_0f7a4 45 = .ok (.iushr, 1) := by decide +kernel
theorem dJ6_bitCount_0f7a4_46 : decode cJ6_bitCount_0f7a4 46 = .ok (.iadd, 1) := by decide +kernel
theorem dJ6_bitCount_0f7a4_47 : decode cJ6_bitCount_0f7a4 47 = .ok (.istore_n 0, 1) := by decide +kernel
theorem dJ6_bitCount_0f7a4_48 : decode cJ6_bitCount_0f7a4 48 = .ok (.iload_n 0, 1) := by decide +kernel
theorem dJ6_bitCount_0f7a4_49 : decode cJ6_bitCount_0f7a4 49 = .ok (.bipush 63, 2) := by decide +kernel
theorem dJ6_bitCount_0f7a4_51 : decode cJ6_bitCount_0f7a4 51 = .ok (.iand, 1) := by decide +kernel
theorem dJ6_bitCount_0f7a4_52 : decode cJ6_bitCount_0f7a4 52 = .ok (.ireturn, 1) := by decide +kernel
theorem dJ9_max_7cf53_0 : decode cJ9_max_7cf53 0 = .ok (.iload_n 0, 1) := by decide +kernel
theorem dJ9_max_7cf53_1 : decode cJ9_max_7cf53 1 = .ok (.iload_n 1, 1) := by decide +kernel
theorem dJ9_max_7cf53_2 : decode cJ9_max_7cf53 2 = .ok (.if_icmp .lt 7, 3) := by decide +kernel
theorem dJ9_max_7cf53_5 : decode cJ9_max_7cf53 5 = .ok (.iload_n 0, 1) := by decide +kernel
theorem dJ9_max_7cf53_6 : decode cJ9_max_7cf53 6 = .ok (.goto 4, 3) := by decide +kernel
theorem dJ9_max_7cf53_9 : decode cJ9_max_7cf53 9 = .ok (.iload_n 1, 1) := by decide +kernel
theorem dJ9_max_7cf53_10 : decode cJ9_max_7cf53 10 = .ok (.ireturn, 1) := by decide +kernel
theorem dJ9_min_7cf53_0 : decode cJ9_min_7cf53 0 = .ok (.iload_n 0, 1) := by decide +kernel
theorem dJ9_min_7cf53_1 : decode cJ9_min_7cf53 1 = .ok (.iload_n 1, 1) := by decide +kernel
theorem dJ9_min_7cf53_2 : decode cJ9_min_7cf53 2 = .ok (.if_icmp .gt 7, 3) := by decide +kernel
theorem dJ9_min_7cf53_5 : decode cJ9_min_7cf53 5 = .ok (.iload_n 0, 1) := by decide +kernel
theorem dJ9_min_7cf53_6 : decode cJ9_min_7cf53 6 = .ok (.goto 4, 3) := by decide +kernel
theorem dJ9_min_7cf53_9 : decode cJ9_min_7cf53 9 = .ok (.iload_n 1, 1) := by decide +kernel
theorem dJ9_min_7cf53_10 : decode cJ9_min_7cf53 10 = .ok (.ireturn, 1) := by decide +kernel
theorem dJ0_length_8abf5_0 : decode cJ0_length_8abf5 0 = .ok (.aload_n 0, 1) := by decide +kernel
theorem dJ0_length_8abf5_1 : decode cJ0_length_8abf5 1 = .ok (.getfield 9, 3) := by decide +kernel
theorem dJ0_length_8abf5_4 : decode cJ0_length_8abf5 4 = .ok (.arraylength, 1) := by decide +kernel
theorem dJ0_length_8abf5_5 : decode cJ0_length_8abf5 5 = .ok (.aload_n 0, 1) := by decide +kernel
theorem dJ0_length_8abf5_6 : decode cJ0_length_8abf5 6 = .ok (.invokevirtual 335, 3) := by decide +kernel
theorem dJ0_length_8abf5_9 : decode cJ0_length_8abf5 9 = .ok (.ishr, 1) := by decide +kernel
theorem dJ0_length_8abf5_10 : decode cJ0_length_8abf5 10 = .ok (.ireturn, 1) := by decide +kernel
theorem dJ0_charAt_5068e_0 : decode cJ0_charAt_5068e 0 = .ok (.aload_n 0, 1) := by decide +kernel
theorem dJ0_charAt_5068e_1 : decode cJ0_charAt_5068e 1 = .ok (.invokevirtual 492, 3) := by decide +kernel
theorem dJ0_charAt_5068e_4 : decode cJ0_charAt_5068e 4 = .ok (.ifCond .eq 12, 3) := by decide +kernel
theorem dJ0_charAt_5068e_7 : decode cJ0_charAt_5068e 7 = .ok (.aload_n 0, 1) := by decide +kernel
theorem dJ0_charAt_5068e_8 : decode cJ0_charAt_5068e 8 = .ok (.getfield 9, 3) := by decide +kernel
theorem dJ0_charAt_5068e_11 : decode cJ0_charAt_5068e 11 = .ok (.iload_n 1, 1) := by decide +kernel
theorem dJ0_charAt_5068e_12 : decode cJ0_charAt_5068e 12 = .ok (.invokestatic 495, 3) := by decide +kernel
theorem dJ0_charAt_5068e_15 : decode cJ0_charAt_5068e 15 = .ok (.ireturn, 1) := by decide +kernel
theorem dJ0_charAt_5068e_16 : decode cJ0_charAt_5068e 16 = .ok (.aload_n 0, 1) := by decide +kernel
theorem dJ0_charAt_5068e_17 : decode cJ0_charAt_5068e 17 = .ok (.getfield 9, 3) := by decide +kernel
theorem dJ0_charAt_5068e_20 : decode cJ0_charAt_5068e 20 = .ok (.iload_n 1, 1) := by decide +kernel
theorem dJ0_charAt_5068e_21 : decode cJ0_charAt_5068e 21 = .ok (.invokestatic 498, 3) := by decide +kernel
theorem dJ0_charAt_5068e_24 : decode cJ0_charAt_5068e 24 = .ok (.ireturn, 1) := by decide +kernel
theorem dJ0_coder_7d493_0 : decode cJ0_coder_7d493 0 = .ok (.getstatic 38, 3) := by decide +kernel
theorem dJ0_coder_7d493_3 : decode cJ0_coder_7d493 3 = .ok (.ifCond .eq 10, 3) := by decide +kernel
theorem dJ0_coder_7d493_6 : decode cJ0_coder_7d493 6 = .ok (.aload_n 0, 1) := by decide +kernel
theorem dJ0_coder_7d493_7 : decode cJ0_coder_7d493 7 = .ok (.getfield 15, 3) := by decide +kernel
theorem dJ0_coder_7d493_10 : decode cJ0_coder_7d493 10 = .ok (.goto 4, 3) := by decide +kernel
theorem dJ0_coder_7d493_13 : decode cJ0_coder_7d493 13 = .ok (.iconst 1, 1) := by decide +kernel
theorem dJ0_coder_7d493_14 : decode cJ0_coder_7d493 14 = .ok (.ireturn, 1) := by decide +kernel
theorem dJ0_isLatin1_aae02_0 : decode cJ0_isLatin1_aae02 0 = .ok (.getstatic 38, 3) := by decide +kernel
theorem dJ0_isLatin1_aae02_3 : decode cJ0_isLatin1_aae02 3 = .ok (.ifCond .eq 14, 3) := by decide +kernel
theorem dJ0_isLatin1_aae02_6 : decode cJ0_isLatin1_aae02 6 = .ok (.aload_n 0, 1) := by decide +kernel
theorem dJ0_isLatin1_aae02_7 : decode cJ0_isLatin1_aae02 7 = .ok (.getfield 15, 3) := by decide +kernel
theorem dJ0_isLatin1_aae02_10 : decode cJ0_isLatin1_aae02 10 = .ok (.ifCond .ne 7, 3) := by decide +kernel
theorem dJ0_isLatin1_aae02_13 : decode cJ0_isLatin1_aae02 13 = .ok (.iconst 1, 1) := by decide +kernel
theorem dJ0_isLatin1_aae02_14 : decode cJ0_isLatin1_aae02 14 = .ok (.goto 4, 3) := by decide +kernel
theorem dJ0_isLatin1_aae02_17 : decode cJ0_isLatin1_aae02 17 = .ok (.iconst 0, 1) := by decide +kernel
theorem dJ0_isLatin1_aae02_18 : decode cJ0_isLatin1_aae02 18 = .ok (.ireturn, 1) := by decide +kernel
theorem dJ0_checkIndex_df160_0 : decode cJ0_checkIndex_df160 0 = .ok (.iload_n 0, 1) := by decide +kernel
theorem dJ0_checkIndex_df160_1 : decode cJ0_checkIndex_df160 1 = .ok (.iload_n 1, 1) := by decide +kernel
theorem dJ0_checkIndex_df160_2 : decode cJ0_checkIndex_df160 2 = .ok (.getstatic 1053, 3) := by decide +kernel
theorem dJ0_checkIndex_df160_5 : decode cJ0_checkIndex_df160 5 = .ok (.invokestatic 1059, 3) := by decide +kernel
theorem dJ0_checkIndex_df160_8 : decode cJ0_checkIndex_df160 8 = .ok (.pop, 1) := by decide +kernel
theorem dJ0_checkIndex_df160_9 : decode cJ0_checkIndex_df160 9 = .ok (.return_, 1) := by decide +kernel
theorem dJ1_charAt_3b067_0 : decode cJ1_charAt_3b067 0 = .ok (.iload_n 1, 1) := by decide +kernel
theorem dJ1_charAt_3b067_1 : decode cJ1_charAt_3b067 1 = .ok (.aload_n 0, 1) := by decide +kernel
theorem dJ1_charAt_3b067_2 : decode cJ1_charAt_3b067 2 = .ok (.arraylength, 1) := by decide +kernel
theorem dJ1_charAt_3b067_3 : decode cJ1_charAt_3b067 3 = .ok (.invokestatic 9, 3) := by decide +kernel
theorem dJ1_charAt_3b067_6 : decode cJ1_charAt_3b067 6 = .ok (.aload_n 0, 1) := by decide +kernel
theorem dJ1_charAt_3b067_7 : decode cJ1_charAt_3b067 7 = .ok (.iload_n 1, 1) := by decide +kernel
theorem dJ1_charAt_3b067_8 : decode cJ1_charAt_3b067 8 = .ok (.baload, 1) := by decide +kernel
theorem dJ1_charAt_3b067_9 : decode cJ1_charAt_3b067 9 = .ok (.sipush 255, 3) := by decide +kernel
theorem dJ1_charAt_3b067_12 : decode cJ1_charAt_3b067 12 = .ok (.iand, 1) := by decide +kernel
theorem dJ1_charAt_3b067_13 : decode cJ1_charAt_3b067 13 = .ok (.i2c, 1) := by decide +kernel
theorem dJ1_charAt_3b067_14 : decode cJ1_charAt_3b067 14 = .ok (.ireturn, 1) := by decide +kernel
theorem dJ2_getChar_3b067_0 : decode cJ2_getChar_3b067 0 = .ok (.getstatic 44, 3) := by decide +kernel
theorem dJ2_getChar_3b067_3 : decode cJ2_getChar_3b067 3 = .ok (.ifCond .ne 25, 3) := by decide +kernel
theorem dJ2_getChar_3b067_6 : decode cJ2_getChar_3b067 6 = .ok (.iload_n 1, 1) := by decide +kernel
theorem dJ2_getChar_3b067_7 : decode cJ2_getChar_3b067 7 = .ok (.ifCond .lt 11, 3) := by decide +kernel
theorem dJ2_getChar_3b067_10 : decode cJ2_getChar_3b067 10 = .ok (.iload_n 1, 1) := by decide +kernel
theorem dJ2_getChar_3b067_11 : decode cJ2_getChar_3b067 11 = .ok (.aload_n 0, 1) := by decide +kernel
theorem dJ2_getChar_3b067_12 : decode cJ2_getChar_3b067 12 = .ok (.invokestatic 48, 3) := by decide +kernel
theorem dJ2_getChar_3b067_15 : decode cJ2_getChar_3b067 15 = .ok (.if_icmp .lt 13, 3) := by decide +kernel
theorem dJ2_getChar_3b067_18 : decode cJ2_getChar_3b067 18 = .ok (.new 52, 3) := by decide +kernel
theorem dJ2_getChar_3b067_21 : decode cJ2_getChar_3b067 21 = .ok (.dup, 1) := by decide +kernel
theorem dJ2_getChar_3b067_22 : decode cJ2_getChar_3b067 22 = .ok (.ldc 54, 2) := by decide +kernel
theorem dJ2_getChar_3b067_24 : decode cJ2_getChar_3b067 24 = .ok (.invokespecial 56, 3) := by decide +kernel
theorem dJ2_getChar_3b067_27 : decode cJ2_getChar_3b067 27 = .ok (.athrow, 1) := by decide +kernel
theorem dJ2_getChar_3b067_28 : decode cJ2_getChar_3b067 28 = .ok (.iload_n 1, 1) := by decide +kernel
theorem dJ2_getChar_3b067_29 : decode cJ2_getChar_3b067 29 = .ok (.iconst 1, 1) := by decide +kernel
theorem dJ2_getChar_3b067_30 : decode cJ2_getChar_3b067 30 = .ok (.ishl, 1) := by decide +kernel
theorem dJ2_getChar_3b067_31 : decode cJ2_getChar_3b067 31 = .ok (.istore_n 1, 1) := by decide +kernel
theorem dJ2_getChar_3b067_32 : decode cJ2_getChar_3b067 32 = .ok (.aload_n 0, 1) := by decide +kernel
theorem dJ2_getChar_3b067_33 : decode cJ2_getChar_3b067 33 = .ok (.iload_n 1, 1) := by decide +kernel
theorem dJ2_getChar_3b067_34 : decode cJ2_getChar_3b067 34 = .ok (.iinc 1 1, 3) := by decide +kernel
theorem dJ2_getChar_3b067_37 : decode cJ2_getChar_3b067 37 = .ok (.baload, 1) := by decide +kernel
theorem dJ2_getChar_3b067_38 : decode cJ2_getChar_3b067 38 = .ok (.sipush 255, 3) := by decide +kernel
theorem dJ2_getChar_3b067_41 : decode cJ2_getChar_3b067 41 = .ok (.iand, 1) := by decide +kernel
theorem dJ2_getChar_3b067_42 : decode cJ2_getChar_3b067 42 = .ok (.getstatic 59, 3) := by decide +kernel
theorem dJ2_getChar_3b067_45 : decode cJ2_getChar_3b067 45 = .ok (.ishl, 1) := by decide +kernel
theorem dJ2_getChar_3b067_46 : decode cJ2_getChar_3b067 46 = .ok (.aload_n 0, 1) := by decide +kernel
theorem dJ2_getChar_3b067_47 : decode cJ2_getChar_3b067 47 = .ok (.iload_n 1, 1) := by decide +kernel
theorem dJ2_getChar_3b067_48 : decode cJ2_getChar_3b067 48 = .ok (.baload, 1) := by decide +kernel
theorem dJ2_getChar_3b067_49 : decode cJ2_getChar_3b067 49 = .ok (.sipush 255, 3) := by decide +kernel
theorem dJ2_getChar_3b067_52 : decode cJ2_getChar_3b067 52 = .ok (.iand, 1) := by decide +kernel
theorem dJ2_getChar_3b067_53 : decode cJ2_getChar_3b067 53 = .ok (.getstatic 63, 3) := by decide +kernel
theorem dJ2_getChar_3b067_56 : decode cJ2_getChar_3b067 56 = .ok (.ishl, 1) := by decide +kernel
theorem dJ2_getChar_3b067_57 : decode cJ2_getChar_3b067 57 = .ok (.ior, 1) := by decide +kernel
theorem dJ2_getChar_3b067_58 : decode cJ2_getChar_3b067 58 = .ok (.i2c, 1) := by decide +kernel
theorem dJ2_getChar_3b067_59 : decode cJ2_getChar_3b067 59 = .ok (.ireturn, 1) := by decide +kernel
theorem dJ2_length_9d52b_0 : decode cJ2_length_9d52b 0 = .ok (.aload_n 0, 1) := by decide +kernel
theorem dJ2_length_9d52b_1 : decode cJ2_length_9d52b 1 = .ok (.arraylength, 1) := by decide +kernel
theorem dJ2_length_9d52b_2 : decode cJ2_length_9d52b 2 = .ok (.iconst 1, 1) := by decide +kernel
theorem dJ2_length_9d52b_3 : decode cJ2_length_9d52b 3 = .ok (.ishr, 1) := by decide +kernel
theorem dJ2_length_9d52b_4 : decode cJ2_length_9d52b 4 = .ok (.ireturn, 1) := by decide +kernel
theorem dJ2_charAt_3b067_0 : decode cJ2_charAt_3b067 0 = .ok (.iload_n 1, 1) := by decide +kernel
theorem dJ2_charAt_3b067_1 : decode cJ2_charAt_3b067 1 = .ok (.aload_n 0, 1) := by decide +kernel
theorem dJ2_charAt_3b067_2 : decode cJ2_charAt_3b067 2 = .ok (.invokestatic 67, 3) := by decide +kernel
theorem dJ2_charAt_3b067_5 : decode cJ2_charAt_3b067 5 = .ok (.aload_n 0, 1) := by decide +kernel
theorem dJ2_charAt_3b067_6 : decode cJ2_charAt_3b067 6 = .ok (.iload_n 1, 1) := by decide +kernel
theorem dJ2_charAt_3b067_7 : decode cJ2_charAt_3b067 7 = .ok (.invokestatic 71, 3) := by decide +kernel
theorem dJ2_charAt_3b067_10 : decode cJ2_charAt_3b067 10 = .ok (.ireturn, 1) := by decide +kernel
theorem dJ2_checkIndex_2214a_0 : decode cJ2_checkIndex_2214a 0 = .ok (.iload_n 0, 1) := by decide +kernel
theorem dJ2_checkIndex_2214a_1 : decode cJ2_checkIndex_2214a 1 = .ok (.aload_n 1, 1) := by decide +kernel
theorem dJ2_checkIndex_2214a_2 : decode cJ2_checkIndex_2214a 2 = .ok (.invokestatic 48, 3) := by decide +kernel
theorem dJ2_checkIndex_2214a_5 : decode cJ2_checkIndex_2214a 5 = .ok (.invokestatic 414, 3) := by decide +kernel
theorem dJ2_checkIndex_2214a_8 : decode cJ2_checkIndex_2214a 8 = .ok (.return_, 1) := by decide +kernel
theorem dJ3_checkIndex_8e157_0 : decode cJ3_checkIndex_8e157 0 = .ok (.iload_n 0, 1) := by decide +kernel
theorem dJ3_checkIndex_8e157_1 : decode cJ3_checkIndex_8e157 1 = .ok (.ifCond .lt 8, 3) := by decide +kernel
theorem dJ3_checkIndex_8e157_4 : decode cJ3_checkIndex_8e157 4 = .ok (.iload_n 0, 1) := by decide +kernel
theorem dJ3_checkIndex_8e157_5 : decode cJ3_checkIndex_8e157 5 = .ok (.iload_n 1, 1) := by decide +kernel
theorem dJ3_checkIndex_8e157_6 : decode cJ3_checkIndex_8e157 6 = .ok (.if_icmp .lt 10, 3) := by decide +kernel
theorem dJ3_checkIndex_8e157_9 : decode cJ3_checkIndex_8e157 9 = .ok (.aload_n 2, 1) := by decide +kernel
theorem dJ3_checkIndex_8e157_10 : decode cJ3_checkIndex_8e157 10 = .ok (.iload_n 0, 1) := by decide +kernel
theorem dJ3_checkIndex_8e157_11 : decode cJ3_checkIndex_8e157 11 = .ok (.iload_n 1, 1) := by decide +kernel
theorem dJ3_checkIndex_8e157_12 : decode cJ3_checkIndex_8e157 12 = .ok (.invokestatic 95, 3) := by decide +kernel
theorem dJ3_checkIndex_8e157_15 : decode cJ3_checkIndex_8e157 15 = .ok (.athrow, 1) := by decide +kernel
theorem dJ3_checkIndex_8e157_16 : decode cJ3_checkIndex_8e157 16 = .ok (.iload_n 0, 1) := by decide +kernel
theorem dJ3_checkIndex_8e157_17 : decode cJ3_checkIndex_8e157 17 = .ok (.ireturn, 1) := by decide +kernel
