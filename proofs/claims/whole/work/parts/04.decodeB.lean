theorem zd_P_init_0 : decode zc_P_init 0 = .ok (.aload_n 0, 1) := by decide +kernel
theorem zd_P_init_1 : decode zc_P_init 1 = .ok (.invokespecial 3, 3) := by decide +kernel
theorem zd_P_init_4 : decode zc_P_init 4 = .ok (.aload_n 0, 1) := by decide +kernel
theorem zd_P_init_5 : decode zc_P_init 5 = .ok (.bipush 8, 2) := by decide +kernel
theorem zd_P_init_7 : decode zc_P_init 7 = .ok (.newarray .int, 2) := by decide +kernel
theorem zd_P_init_9 : decode zc_P_init 9 = .ok (.putfield 9, 3) := by decide +kernel
theorem zd_P_init_12 : decode zc_P_init 12 = .ok (.aload_n 0, 1) := by decide +kernel
theorem zd_P_init_13 : decode zc_P_init 13 = .ok (.bipush 40, 2) := by decide +kernel
theorem zd_P_init_15 : decode zc_P_init 15 = .ok (.newarray .int, 2) := by decide +kernel
theorem zd_P_init_17 : decode zc_P_init 17 = .ok (.putfield 15, 3) := by decide +kernel
theorem zd_P_init_20 : decode zc_P_init 20 = .ok (.aload_n 0, 1) := by decide +kernel
theorem zd_P_init_21 : decode zc_P_init 21 = .ok (.sipush 600, 3) := by decide +kernel
theorem zd_P_init_24 : decode zc_P_init 24 = .ok (.newarray .int, 2) := by decide +kernel
theorem zd_P_init_26 : decode zc_P_init 26 = .ok (.putfield 18, 3) := by decide +kernel
theorem zd_P_init_29 : decode zc_P_init 29 = .ok (.aload_n 0, 1) := by decide +kernel
theorem zd_P_init_30 : decode zc_P_init 30 = .ok (.sipush 600, 3) := by decide +kernel
theorem zd_P_init_33 : decode zc_P_init 33 = .ok (.newarray .int, 2) := by decide +kernel
theorem zd_P_init_35 : decode zc_P_init 35 = .ok (.putfield 21, 3) := by decide +kernel
theorem zd_P_init_38 : decode zc_P_init 38 = .ok (.aload_n 0, 1) := by decide +kernel
theorem zd_P_init_39 : decode zc_P_init 39 = .ok (.sipush 600, 3) := by decide +kernel
theorem zd_P_init_42 : decode zc_P_init 42 = .ok (.newarray .int, 2) := by decide +kernel
theorem zd_P_init_44 : decode zc_P_init 44 = .ok (.putfield 24, 3) := by decide +kernel
theorem zd_P_init_47 : decode zc_P_init 47 = .ok (.aload_n 0, 1) := by decide +kernel
theorem zd_P_init_48 : decode zc_P_init 48 = .ok (.bipush 40, 2) := by decide +kernel
theorem zd_P_init_50 : decode zc_P_init 50 = .ok (.newarray .int, 2) := by decide +kernel
theorem zd_P_init_52 : decode zc_P_init 52 = .ok (.putfield 27, 3) := by decide +kernel
theorem zd_P_init_55 : decode zc_P_init 55 = .ok (.aload_n 0, 1) := by decide +kernel
theorem zd_P_init_56 : decode zc_P_init 56 = .ok (.bipush 40, 2) := by decide +kernel
theorem zd_P_init_58 : decode zc_P_init 58 = .ok (.newarray .int, 2) := by decide +kernel
theorem zd_P_init_60 : decode zc_P_init 60 = .ok (.putfield 30, 3) := by decide +kernel
theorem zd_P_init_63 : decode zc_P_init 63 = .ok (.aload_n 0, 1) := by decide +kernel
theorem zd_P_init_64 : decode zc_P_init 64 = .ok (.bipush 40, 2) := by decide +kernel
theorem zd_P_init_66 : decode zc_P_init 66 = .ok (.newarray .int, 2) := by decide +kernel
theorem zd_P_init_68 : decode zc_P_init 68 = .ok (.putfield 33, 3) := by decide +kernel
theorem zd_P_init_71 : decode zc_P_init 71 = .ok (.aload_n 0, 1) := by decide +kernel
theorem zd_P_init_72 : decode zc_P_init 72 = .ok (.iconst (-1), 1) := by decide +kernel
theorem zd_P_init_73 : decode zc_P_init 73 = .ok (.putfield 36, 3) := by decide +kernel
theorem zd_P_init_76 : decode zc_P_init 76 = .ok (.aload_n 0, 1) := by decide +kernel
theorem zd_P_init_77 : decode zc_P_init 77 = .ok (.iconst 1, 1) := by decide +kernel
theorem zd_P_init_78 : decode zc_P_init 78 = .ok (.putfield 40, 3) := by decide +kernel
theorem zd_P_init_81 : decode zc_P_init 81 = .ok (.aload_n 0, 1) := by decide +kernel
theorem zd_P_init_82 : decode zc_P_init 82 = .ok (.iconst 1, 1) := by decide +kernel
theorem zd_P_init_83 : decode zc_P_init 83 = .ok (.putfield 43, 3) := by decide +kernel
theorem zd_P_init_86 : decode zc_P_init 86 = .ok (.return_, 1) := by decide +kernel
theorem zd_P_find_0 : decode zc_P_find 0 = .ok (.aload_n 0, 1) := by decide +kernel
theorem zd_P_find_1 : decode zc_P_find 1 = .ok (.getfield 36, 3) := by decide +kernel
theorem zd_P_find_4 : decode zc_P_find 4 = .ok (.iload_n 2, 1) := by decide +kernel
theorem zd_P_find_5 : decode zc_P_find 5 = .ok (.if_icmp .ne 4, 3) := by decide +kernel
theorem zd_P_find_8 : decode zc_P_find 8 = .ok (.return_, 1) := by decide +kernel
theorem zd_P_find_9 : decode zc_P_find 9 = .ok (.aload_n 0, 1) := by decide +kernel
theorem zd_P_find_10 : decode zc_P_find 10 = .ok (.aload_n 1, 1) := by decide +kernel
theorem zd_P_find_11 : decode zc_P_find 11 = .ok (.iload_n 2, 1) := by decide +kernel
theorem zd_P_find_12 : decode zc_P_find 12 = .ok (.invokevirtual 46, 3) := by decide +kernel
theorem zd_P_find_15 : decode zc_P_find 15 = .ok (.aload_n 0, 1) := by decide +kernel
theorem zd_P_find_16 : decode zc_P_find 16 = .ok (.aload_n 1, 1) := by decide +kernel
theorem zd_P_find_17 : decode zc_P_find 17 = .ok (.iload_n 2, 1) := by decide +kernel
theorem zd_P_find_18 : decode zc_P_find 18 = .ok (.invokevirtual 50, 3) := by decide +kernel
theorem zd_P_find_21 : decode zc_P_find 21 = .ok (.aload_n 0, 1) := by decide +kernel
theorem zd_P_find_22 : decode zc_P_find 22 = .ok (.aload_n 1, 1) := by decide +kernel
theorem zd_P_find_23 : decode zc_P_find 23 = .ok (.iload_n 2, 1) := by decide +kernel
theorem zd_P_find_24 : decode zc_P_find 24 = .ok (.invokevirtual 53, 3) := by decide +kernel
theorem zd_P_find_27 : decode zc_P_find 27 = .ok (.iconst 0, 1) := by decide +kernel
theorem zd_P_find_28 : decode zc_P_find 28 = .ok (.istore_n 3, 1) := by decide +kernel
theorem zd_P_find_29 : decode zc_P_find 29 = .ok (.iload_n 3, 1) := by decide +kernel
theorem zd_P_find_30 : decode zc_P_find 30 = .ok (.sipush 10000, 3) := by decide +kernel
theorem zd_P_find_33 : decode zc_P_find 33 = .ok (.if_icmp .ge 30, 3) := by decide +kernel
theorem zd_P_find_36 : decode zc_P_find 36 = .ok (.aload_n 0, 1) := by decide +kernel
theorem zd_P_find_37 : decode zc_P_find 37 = .ok (.invokevirtual 56, 3) := by decide +kernel
theorem zd_P_find_40 : decode zc_P_find 40 = .ok (.istore 4, 2) := by decide +kernel
theorem zd_P_find_42 : decode zc_P_find 42 = .ok (.iload 4, 2) := by decide +kernel
theorem zd_P_find_44 : decode zc_P_find 44 = .ok (.iconst (-1), 1) := by decide +kernel
theorem zd_P_find_45 : decode zc_P_find 45 = .ok (.if_icmp .ne 6, 3) := by decide +kernel
theorem zd_P_find_48 : decode zc_P_find 48 = .ok (.goto 15, 3) := by decide +kernel
theorem zd_P_find_51 : decode zc_P_find 51 = .ok (.aload_n 0, 1) := by decide +kernel
theorem zd_P_find_52 : decode zc_P_find 52 = .ok (.iload 4, 2) := by decide +kernel
theorem zd_P_find_54 : decode zc_P_find 54 = .ok (.invokevirtual 60, 3) := by decide +kernel
theorem zd_P_find_57 : decode zc_P_find 57 = .ok (.iinc 3 1, 3) := by decide +kernel
theorem zd_P_find_60 : decode zc_P_find 60 = .ok (.goto (-31), 3) := by decide +kernel
theorem zd_P_find_63 : decode zc_P_find 63 = .ok (.aload_n 0, 1) := by decide +kernel
theorem zd_P_find_64 : decode zc_P_find 64 = .ok (.iload_n 2, 1) := by decide +kernel
theorem zd_P_find_65 : decode zc_P_find 65 = .ok (.putfield 36, 3) := by decide +kernel
theorem zd_P_find_68 : decode zc_P_find 68 = .ok (.return_, 1) := by decide +kernel
theorem zd_P_addFirings_0 : decode zc_P_addFirings 0 = .ok (.aload_n 0, 1) := by decide +kernel
theorem zd_P_addFirings_1 : decode zc_P_addFirings 1 = .ok (.iconst 0, 1) := by decide +kernel
theorem zd_P_addFirings_2 : decode zc_P_addFirings 2 = .ok (.putfield 64, 3) := by decide +kernel
theorem zd_P_addFirings_5 : decode zc_P_addFirings 5 = .ok (.aload_n 0, 1) := by decide +kernel
theorem zd_P_addFirings_6 : decode zc_P_addFirings 6 = .ok (.iconst 0, 1) := by decide +kernel
theorem zd_P_addFirings_7 : decode zc_P_addFirings 7 = .ok (.putfield 67, 3) := by decide +kernel
theorem zd_P_addFirings_10 : decode zc_P_addFirings 10 = .ok (.iconst 0, 1) := by decide +kernel
theorem zd_P_addFirings_11 : decode zc_P_addFirings 11 = .ok (.istore_n 3, 1) := by decide +kernel
theorem zd_P_addFirings_12 : decode zc_P_addFirings 12 = .ok (.iload_n 3, 1) := by decide +kernel
theorem zd_P_addFirings_13 : decode zc_P_addFirings 13 = .ok (.aload_n 1, 1) := by decide +kernel
theorem zd_P_addFirings_14 : decode zc_P_addFirings 14 = .ok (.getfield 70, 3) := by decide +kernel
theorem zd_P_addFirings_17 : decode zc_P_addFirings 17 = .ok (.if_icmp .ge 36, 3) := by decide +kernel
theorem zd_P_addFirings_20 : decode zc_P_addFirings 20 = .ok (.aload_n 1, 1) := by decide +kernel
theorem zd_P_addFirings_21 : decode zc_P_addFirings 21 = .ok (.getfield 75, 3) := by decide +kernel
theorem zd_P_addFirings_24 : decode zc_P_addFirings 24 = .ok (.iload_n 3, 1) := by decide +kernel
theorem zd_P_addFirings_25 : decode zc_P_addFirings 25 = .ok (.iaload, 1) := by decide +kernel
theorem zd_P_addFirings_26 : decode zc_P_addFirings 26 = .ok (.iload_n 2, 1) := by decide +kernel
theorem zd_P_addFirings_27 : decode zc_P_addFirings 27 = .ok (.if_icmp .ne 20, 3) := by decide +kernel
theorem zd_P_addFirings_30 : decode zc_P_addFirings 30 = .ok (.aload_n 0, 1) := by decide +kernel
theorem zd_P_addFirings_31 : decode zc_P_addFirings 31 = .ok (.iload_n 3, 1) := by decide +kernel
theorem zd_P_addFirings_32 : decode zc_P_addFirings 32 = .ok (.aload_n 1, 1) := by decide +kernel
theorem zd_P_addFirings_33 : decode zc_P_addFirings 33 = .ok (.getfield 78, 3) := by decide +kernel
theorem zd_P_addFirings_36 : decode zc_P_addFirings 36 = .ok (.iload_n 3, 1) := by decide +kernel
theorem zd_P_addFirings_37 : decode zc_P_addFirings 37 = .ok (.iaload, 1) := by decide +kernel
theorem zd_P_addFirings_38 : decode zc_P_addFirings 38 = .ok (.aload_n 1, 1) := by decide +kernel
theorem zd_P_addFirings_39 : decode zc_P_addFirings 39 = .ok (.getfield 81, 3) := by decide +kernel
theorem zd_P_addFirings_42 : decode zc_P_addFirings 42 = .ok (.iload_n 3, 1) := by decide +kernel
theorem zd_P_addFirings_43 : decode zc_P_addFirings 43 = .ok (.iaload, 1) := by decide +kernel
theorem zd_P_addFirings_44 : decode zc_P_addFirings 44 = .ok (.invokevirtual 84, 3) := by decide +kernel
theorem zd_P_addFirings_47 : decode zc_P_addFirings 47 = .ok (.iinc 3 1, 3) := by decide +kernel
theorem zd_P_addFirings_50 : decode zc_P_addFirings 50 = .ok (.goto (-38), 3) := by decide +kernel
theorem zd_P_addFirings_53 : decode zc_P_addFirings 53 = .ok (.return_, 1) := by decide +kernel
theorem zd_P_addFiringsOf_0 : decode zc_P_addFiringsOf 0 = .ok (.aload_n 0, 1) := by decide +kernel
theorem zd_P_addFiringsOf_1 : decode zc_P_addFiringsOf 1 = .ok (.getfield 64, 3) := by decide +kernel
theorem zd_P_addFiringsOf_4 : decode zc_P_addFiringsOf 4 = .ok (.iload_n 2, 1) := by decide +kernel
theorem zd_P_addFiringsOf_5 : decode zc_P_addFiringsOf 5 = .ok (.iadd, 1) := by decide +kernel
theorem zd_P_addFiringsOf_6 : decode zc_P_addFiringsOf 6 = .ok (.bipush 40, 2) := by decide +kernel
theorem zd_P_addFiringsOf_8 : decode zc_P_addFiringsOf 8 = .ok (.if_icmp .le 4, 3) := by decide +kernel
theorem zd_P_addFiringsOf_11 : decode zc_P_addFiringsOf 11 = .ok (.return_, 1) := by decide +kernel
theorem zd_P_addFiringsOf_12 : decode zc_P_addFiringsOf 12 = .ok (.aload_n 0, 1) := by decide +kernel
theorem zd_P_addFiringsOf_13 : decode zc_P_addFiringsOf 13 = .ok (.getfield 9, 3) := by decide +kernel
theorem zd_P_addFiringsOf_16 : decode zc_P_addFiringsOf 16 = .ok (.iload_n 1, 1) := by decide +kernel
theorem zd_P_addFiringsOf_17 : decode zc_P_addFiringsOf 17 = .ok (.aload_n 0, 1) := by decide +kernel
theorem zd_P_addFiringsOf_18 : decode zc_P_addFiringsOf 18 = .ok (.getfield 64, 3) := by decide +kernel
theorem zd_P_addFiringsOf_21 : decode zc_P_addFiringsOf 21 = .ok (.iastore, 1) := by decide +kernel
theorem zd_P_addFiringsOf_22 : decode zc_P_addFiringsOf 22 = .ok (.aload_n 0, 1) := by decide +kernel
theorem zd_P_addFiringsOf_23 : decode zc_P_addFiringsOf 23 = .ok (.aload_n 0, 1) := by decide +kernel
theorem zd_P_addFiringsOf_24 : decode zc_P_addFiringsOf 24 = .ok (.getfield 64, 3) := by decide +kernel
theorem zd_P_addFiringsOf_27 : decode zc_P_addFiringsOf 27 = .ok (.iload_n 2, 1) := by decide +kernel
theorem zd_P_addFiringsOf_28 : decode zc_P_addFiringsOf 28 = .ok (.iadd, 1) := by decide +kernel
theorem zd_P_addFiringsOf_29 : decode zc_P_addFiringsOf 29 = .ok (.iconst 1, 1) := by decide +kernel
theorem zd_P_addFiringsOf_30 : decode zc_P_addFiringsOf 30 = .ok (.isub, 1) := by decide +kernel
theorem zd_P_addFiringsOf_31 : decode zc_P_addFiringsOf 31 = .ok (.aload_n 0, 1) := by decide +kernel
theorem zd_P_addFiringsOf_32 : decode zc_P_addFiringsOf 32 = .ok (.getfield 64, 3) := by decide +kernel
theorem zd_P_addFiringsOf_35 : decode zc_P_addFiringsOf 35 = .ok (.iconst 1, 1) := by decide +kernel
theorem zd_P_addFiringsOf_36 : decode zc_P_addFiringsOf 36 = .ok (.invokevirtual 88, 3) := by decide +kernel
theorem zd_P_addFiringsOf_39 : decode zc_P_addFiringsOf 39 = .ok (.iconst 0, 1) := by decide +kernel
theorem zd_P_addFiringsOf_40 : decode zc_P_addFiringsOf 40 = .ok (.istore 4, 2) := by decide +kernel
theorem zd_P_addFiringsOf_42 : decode zc_P_addFiringsOf 42 = .ok (.iload 4, 2) := by decide +kernel
theorem zd_P_addFiringsOf_44 : decode zc_P_addFiringsOf 44 = .ok (.iload_n 2, 1) := by decide +kernel
theorem zd_P_addFiringsOf_45 : decode zc_P_addFiringsOf 45 = .ok (.if_icmp .ge 49, 3) := by decide +kernel
theorem zd_P_addFiringsOf_48 : decode zc_P_addFiringsOf 48 = .ok (.aload_n 0, 1) := by decide +kernel
theorem zd_P_addFiringsOf_49 : decode zc_P_addFiringsOf 49 = .ok (.getfield 15, 3) := by decide +kernel
theorem zd_P_addFiringsOf_52 : decode zc_P_addFiringsOf 52 = .ok (.aload_n 0, 1) := by decide +kernel
theorem zd_P_addFiringsOf_53 : decode zc_P_addFiringsOf 53 = .ok (.getfield 64, 3) := by decide +kernel
theorem zd_P_addFiringsOf_56 : decode zc_P_addFiringsOf 56 = .ok (.iload_n 3, 1) := by decide +kernel
theorem zd_P_addFiringsOf_57 : decode zc_P_addFiringsOf 57 = .ok (.iastore, 1) := by decide +kernel
theorem zd_P_addFiringsOf_58 : decode zc_P_addFiringsOf 58 = .ok (.iload 4, 2) := by decide +kernel
theorem zd_P_addFiringsOf_60 : decode zc_P_addFiringsOf 60 = .ok (.ifCond .le 18, 3) := by decide +kernel
theorem zd_P_addFiringsOf_63 : decode zc_P_addFiringsOf 63 = .ok (.aload_n 0, 1) := by decide +kernel
theorem zd_P_addFiringsOf_64 : decode zc_P_addFiringsOf 64 = .ok (.aload_n 0, 1) := by decide +kernel
theorem zd_P_addFiringsOf_65 : decode zc_P_addFiringsOf 65 = .ok (.getfield 64, 3) := by decide +kernel
theorem zd_P_addFiringsOf_68 : decode zc_P_addFiringsOf 68 = .ok (.iconst 1, 1) := by decide +kernel
theorem zd_P_addFiringsOf_69 : decode zc_P_addFiringsOf 69 = .ok (.isub, 1) := by decide +kernel
theorem zd_P_addFiringsOf_70 : decode zc_P_addFiringsOf 70 = .ok (.aload_n 0, 1) := by decide +kernel
theorem zd_P_addFiringsOf_71 : decode zc_P_addFiringsOf 71 = .ok (.getfield 64, 3) := by decide +kernel
theorem zd_P_addFiringsOf_74 : decode zc_P_addFiringsOf 74 = .ok (.iconst 0, 1) := by decide +kernel
theorem zd_P_addFiringsOf_75 : decode zc_P_addFiringsOf 75 = .ok (.invokevirtual 88, 3) := by decide +kernel
theorem zd_P_addFiringsOf_78 : decode zc_P_addFiringsOf 78 = .ok (.aload_n 0, 1) := by decide +kernel
theorem zd_P_addFiringsOf_79 : decode zc_P_addFiringsOf 79 = .ok (.dup, 1) := by decide +kernel
theorem zd_P_addFiringsOf_80 : decode zc_P_addFiringsOf 80 = .ok (.getfield 64, 3) := by decide +kernel
theorem zd_P_addFiringsOf_83 : decode zc_P_addFiringsOf 83 = .ok (.iconst 1, 1) := by decide +kernel
theorem zd_P_addFiringsOf_84 : decode zc_P_addFiringsOf 84 = .ok (.iadd, 1) := by decide +kernel
theorem zd_P_addFiringsOf_85 : decode zc_P_addFiringsOf 85 = .ok (.putfield 64, 3) := by decide +kernel
theorem zd_P_addFiringsOf_88 : decode zc_P_addFiringsOf 88 = .ok (.iinc 4 1, 3) := by decide +kernel
theorem zd_P_addFiringsOf_91 : decode zc_P_addFiringsOf 91 = .ok (.goto (-49), 3) := by decide +kernel
theorem zd_P_addFiringsOf_94 : decode zc_P_addFiringsOf 94 = .ok (.return_, 1) := by decide +kernel
theorem zd_P_addWaits_0 : decode zc_P_addWaits 0 = .ok (.iconst 0, 1) := by decide +kernel
theorem zd_P_addWaits_1 : decode zc_P_addWaits 1 = .ok (.istore_n 3, 1) := by decide +kernel
theorem zd_P_addWaits_2 : decode zc_P_addWaits 2 = .ok (.iload_n 3, 1) := by decide +kernel
theorem zd_P_addWaits_3 : decode zc_P_addWaits 3 = .ok (.aload_n 1, 1) := by decide +kernel
theorem zd_P_addWaits_4 : decode zc_P_addWaits 4 = .ok (.getfield 91, 3) := by decide +kernel
theorem zd_P_addWaits_7 : decode zc_P_addWaits 7 = .ok (.if_icmp .ge 30, 3) := by decide +kernel
theorem zd_P_addWaits_10 : decode zc_P_addWaits 10 = .ok (.aload_n 1, 1) := by decide +kernel
theorem zd_P_addWaits_11 : decode zc_P_addWaits 11 = .ok (.getfield 75, 3) := by decide +kernel
theorem zd_P_addWaits_14 : decode zc_P_addWaits 14 = .ok (.aload_n 1, 1) := by decide +kernel
theorem zd_P_addWaits_15 : decode zc_P_addWaits 15 = .ok (.getfield 94, 3) := by decide +kernel
theorem zd_P_addWaits_18 : decode zc_P_addWaits 18 = .ok (.iload_n 3, 1) := by decide +kernel
theorem zd_P_addWaits_19 : decode zc_P_addWaits 19 = .ok (.iaload, 1) := by decide +kernel
theorem zd_P_addWaits_20 : decode zc_P_addWaits 20 = .ok (.iaload, 1) := by decide +kernel
theorem zd_P_addWaits_21 : decode zc_P_addWaits 21 = .ok (.iload_n 2, 1) := by decide +kernel
theorem zd_P_addWaits_22 : decode zc_P_addWaits 22 = .ok (.if_icmp .ne 9, 3) := by decide +kernel
theorem zd_P_addWaits_25 : decode zc_P_addWaits 25 = .ok (.aload_n 0, 1) := by decide +kernel
theorem zd_P_addWaits_26 : decode zc_P_addWaits 26 = .ok (.aload_n 1, 1) := by decide +kernel
theorem zd_P_addWaits_27 : decode zc_P_addWaits 27 = .ok (.iload_n 3, 1) := by decide +kernel
theorem zd_P_addWaits_28 : decode zc_P_addWaits 28 = .ok (.invokevirtual 97, 3) := by decide +kernel
theorem zd_P_addWaits_31 : decode zc_P_addWaits 31 = .ok (.iinc 3 1, 3) := by decide +kernel
theorem zd_P_addWaits_34 : decode zc_P_addWaits 34 = .ok (.goto (-32), 3) := by decide +kernel
theorem zd_P_addWaits_37 : decode zc_P_addWaits 37 = .ok (.return_, 1) := by decide +kernel
theorem zd_P_addWaitsOf_0 : decode zc_P_addWaitsOf 0 = .ok (.aload_n 1, 1) := by decide +kernel
theorem zd_P_addWaitsOf_1 : decode zc_P_addWaitsOf 1 = .ok (.getfield 94, 3) := by decide +kernel
theorem zd_P_addWaitsOf_4 : decode zc_P_addWaitsOf 4 = .ok (.iload_n 2, 1) := by decide +kernel
theorem zd_P_addWaitsOf_5 : decode zc_P_addWaitsOf 5 = .ok (.iaload, 1) := by decide +kernel
theorem zd_P_addWaitsOf_6 : decode zc_P_addWaitsOf 6 = .ok (.istore_n 3, 1) := by decide +kernel
theorem zd_P_addWaitsOf_7 : decode zc_P_addWaitsOf 7 = .ok (.aload_n 1, 1) := by decide +kernel
theorem zd_P_addWaitsOf_8 : decode zc_P_addWaitsOf 8 = .ok (.getfield 100, 3) := by decide +kernel
theorem zd_P_addWaitsOf_11 : decode zc_P_addWaitsOf 11 = .ok (.iload_n 2, 1) := by decide +kernel
theorem zd_P_addWaitsOf_12 : decode zc_P_addWaitsOf 12 = .ok (.iaload, 1) := by decide +kernel
theorem zd_P_addWaitsOf_13 : decode zc_P_addWaitsOf 13 = .ok (.istore 4, 2) := by decide +kernel
theorem zd_P_addWaitsOf_15 : decode zc_P_addWaitsOf 15 = .ok (.aload_n 1, 1) := by decide +kernel
theorem zd_P_addWaitsOf_16 : decode zc_P_addWaitsOf 16 = .ok (.getfield 103, 3) := by decide +kernel
theorem zd_P_addWaitsOf_19 : decode zc_P_addWaitsOf 19 = .ok (.iload_n 2, 1) := by decide +kernel
theorem zd_P_addWaitsOf_20 : decode zc_P_addWaitsOf 20 = .ok (.iaload, 1) := by decide +kernel
theorem zd_P_addWaitsOf_21 : decode zc_P_addWaitsOf 21 = .ok (.istore 5, 2) := by decide +kernel
theorem zd_P_addWaitsOf_23 : decode zc_P_addWaitsOf 23 = .ok (.aload_n 1, 1) := by decide +kernel
theorem zd_P_addWaitsOf_24 : decode zc_P_addWaitsOf 24 = .ok (.getfield 78, 3) := by decide +kernel
theorem zd_P_addWaitsOf_27 : decode zc_P_addWaitsOf 27 = .ok (.iload_n 3, 1) := by decide +kernel
theorem zd_P_addWaitsOf_28 : decode zc_P_addWaitsOf 28 = .ok (.iaload, 1) := by decide +kernel
theorem zd_P_addWaitsOf_29 : decode zc_P_addWaitsOf 29 = .ok (.istore 6, 2) := by decide +kernel
theorem zd_P_addWaitsOf_31 : decode zc_P_addWaitsOf 31 = .ok (.iload 5, 2) := by decide +kernel
theorem zd_P_addWaitsOf_33 : decode zc_P_addWaitsOf 33 = .ok (.ifCond .le 8, 3) := by decide +kernel
theorem zd_P_addWaitsOf_36 : decode zc_P_addWaitsOf 36 = .ok (.iload 6, 2) := by decide +kernel
theorem zd_P_addWaitsOf_38 : decode zc_P_addWaitsOf 38 = .ok (.ifCond .gt 4, 3) := by decide +kernel
theorem zd_P_addWaitsOf_41 : decode zc_P_addWaitsOf 41 = .ok (.return_, 1) := by decide +kernel
theorem zd_P_addWaitsOf_42 : decode zc_P_addWaitsOf 42 = .ok (.iconst 0, 1) := by decide +kernel
theorem zd_P_addWaitsOf_43 : decode zc_P_addWaitsOf 43 = .ok (.istore 7, 2) := by decide +kernel
theorem zd_P_addWaitsOf_45 : decode zc_P_addWaitsOf 45 = .ok (.iload 7, 2) := by decide +kernel
theorem zd_P_addWaitsOf_47 : decode zc_P_addWaitsOf 47 = .ok (.aload_n 1, 1) := by decide +kernel
theorem zd_P_addWaitsOf_48 : decode zc_P_addWaitsOf 48 = .ok (.getfield 78, 3) := by decide +kernel
theorem zd_P_addWaitsOf_51 : decode zc_P_addWaitsOf 51 = .ok (.iload 4, 2) := by decide +kernel
theorem zd_P_addWaitsOf_53 : decode zc_P_addWaitsOf 53 = .ok (.iaload, 1) := by decide +kernel
theorem zd_P_addWaitsOf_54 : decode zc_P_addWaitsOf 54 = .ok (.if_icmp .ge 84, 3) := by decide +kernel
theorem zd_P_addWaitsOf_57 : decode zc_P_addWaitsOf 57 = .ok (.iload 7, 2) := by decide +kernel
theorem zd_P_addWaitsOf_59 : decode zc_P_addWaitsOf 59 = .ok (.iconst 1, 1) := by decide +kernel
theorem zd_P_addWaitsOf_60 : decode zc_P_addWaitsOf 60 = .ok (.iadd, 1) := by decide +kernel
theorem zd_P_addWaitsOf_61 : decode zc_P_addWaitsOf 61 = .ok (.aload_n 1, 1) := by decide +kernel
theorem zd_P_addWaitsOf_62 : decode zc_P_addWaitsOf 62 = .ok (.getfield 106, 3) := by decide +kernel
theorem zd_P_addWaitsOf_65 : decode zc_P_addWaitsOf 65 = .ok (.iload_n 2, 1) := by decide +kernel
theorem zd_P_addWaitsOf_66 : decode zc_P_addWaitsOf 66 = .ok (.iaload, 1) := by decide +kernel
theorem zd_P_addWaitsOf_67 : decode zc_P_addWaitsOf 67 = .ok (.imul, 1) := by decide +kernel
theorem zd_P_addWaitsOf_68 : decode zc_P_addWaitsOf 68 = .ok (.aload_n 1, 1) := by decide +kernel
theorem zd_P_addWaitsOf_69 : decode zc_P_addWaitsOf 69 = .ok (.getfield 109, 3) := by decide +kernel
theorem zd_P_addWaitsOf_72 : decode zc_P_addWaitsOf 72 = .ok (.iload_n 2, 1) := by decide +kernel
theorem zd_P_addWaitsOf_73 : decode zc_P_addWaitsOf 73 = .ok (.iaload, 1) := by decide +kernel
theorem zd_P_addWaitsOf_74 : decode zc_P_addWaitsOf 74 = .ok (.isub, 1) := by decide +kernel
theorem zd_P_addWaitsOf_75 : decode zc_P_addWaitsOf 75 = .ok (.iconst 1, 1) := by decide +kernel
theorem zd_P_addWaitsOf_76 : decode zc_P_addWaitsOf 76 = .ok (.isub, 1) := by decide +kernel
theorem zd_P_addWaitsOf_77 : decode zc_P_addWaitsOf 77 = .ok (.istore 8, 2) := by decide +kernel
theorem zd_P_addWaitsOf_79 : decode zc_P_addWaitsOf 79 = .ok (.iload 8, 2) := by decide +kernel
theorem zd_P_addWaitsOf_81 : decode zc_P_addWaitsOf 81 = .ok (.iload 5, 2) := by decide +kernel
theorem zd_P_addWaitsOf_83 : decode zc_P_addWaitsOf 83 = .ok (.invokestatic 112, 3) := by decide +kernel
theorem zd_P_addWaitsOf_86 : decode zc_P_addWaitsOf 86 = .ok (.istore 9, 2) := by decide +kernel
theorem zd_P_addWaitsOf_88 : decode zc_P_addWaitsOf 88 = .ok (.iload 9, 2) := by decide +kernel
theorem zd_P_addWaitsOf_90 : decode zc_P_addWaitsOf 90 = .ok (.iload 6, 2) := by decide +kernel
theorem zd_P_addWaitsOf_92 : decode zc_P_addWaitsOf 92 = .ok (.invokestatic 118, 3) := by decide +kernel
theorem zd_P_addWaitsOf_95 : decode zc_P_addWaitsOf 95 = .ok (.istore 10, 2) := by decide +kernel
theorem zd_P_addWaitsOf_97 : decode zc_P_addWaitsOf 97 = .ok (.iload 9, 2) := by decide +kernel
theorem zd_P_addWaitsOf_99 : decode zc_P_addWaitsOf 99 = .ok (.iload 6, 2) := by decide +kernel
theorem zd_P_addWaitsOf_101 : decode zc_P_addWaitsOf 101 = .ok (.invokestatic 112, 3) := by decide +kernel
theorem zd_P_addWaitsOf_104 : decode zc_P_addWaitsOf 104 = .ok (.ineg, 1) := by decide +kernel
theorem zd_P_addWaitsOf_105 : decode zc_P_addWaitsOf 105 = .ok (.istore 11, 2) := by decide +kernel
theorem zd_P_addWaitsOf_107 : decode zc_P_addWaitsOf 107 = .ok (.aload_n 0, 1) := by decide +kernel
theorem zd_P_addWaitsOf_108 : decode zc_P_addWaitsOf 108 = .ok (.aload_n 0, 1) := by decide +kernel
theorem zd_P_addWaitsOf_109 : decode zc_P_addWaitsOf 109 = .ok (.getfield 9, 3) := by decide +kernel
theorem zd_P_addWaitsOf_112 : decode zc_P_addWaitsOf 112 = .ok (.iload_n 3, 1) := by decide +kernel
theorem zd_P_addWaitsOf_113 : decode zc_P_addWaitsOf 113 = .ok (.iaload, 1) := by decide +kernel
theorem zd_P_addWaitsOf_114 : decode zc_P_addWaitsOf 114 = .ok (.iload 10, 2) := by decide +kernel
theorem zd_P_addWaitsOf_116 : decode zc_P_addWaitsOf 116 = .ok (.iadd, 1) := by decide +kernel
theorem zd_P_addWaitsOf_117 : decode zc_P_addWaitsOf 117 = .ok (.aload_n 0, 1) := by decide +kernel
theorem zd_P_addWaitsOf_118 : decode zc_P_addWaitsOf 118 = .ok (.getfield 9, 3) := by decide +kernel
theorem zd_P_addWaitsOf_121 : decode zc_P_addWaitsOf 121 = .ok (.iload 4, 2) := by decide +kernel
theorem zd_P_addWaitsOf_123 : decode zc_P_addWaitsOf 123 = .ok (.iaload, 1) := by decide +kernel
theorem zd_P_addWaitsOf_124 : decode zc_P_addWaitsOf 124 = .ok (.iload 7, 2) := by decide +kernel
theorem zd_P_addWaitsOf_126 : decode zc_P_addWaitsOf 126 = .ok (.iadd, 1) := by decide +kernel
theorem zd_P_addWaitsOf_127 : decode zc_P_addWaitsOf 127 = .ok (.iload 11, 2) := by decide +kernel
theorem zd_P_addWaitsOf_129 : decode zc_P_addWaitsOf 129 = .ok (.invokevirtual 88, 3) := by decide +kernel
theorem zd_P_addWaitsOf_132 : decode zc_P_addWaitsOf 132 = .ok (.iinc 7 1, 3) := by decide +kernel
theorem zd_P_addWaitsOf_135 : decode zc_P_addWaitsOf 135 = .ok (.goto (-90), 3) := by decide +kernel
theorem zd_P_addWaitsOf_138 : decode zc_P_addWaitsOf 138 = .ok (.return_, 1) := by decide +kernel
theorem zd_P_addEdge_0 : decode zc_P_addEdge 0 = .ok (.aload_n 0, 1) := by decide +kernel
theorem zd_P_addEdge_1 : decode zc_P_addEdge 1 = .ok (.getfield 67, 3) := by decide +kernel
theorem zd_P_addEdge_4 : decode zc_P_addEdge 4 = .ok (.sipush 600, 3) := by decide +kernel
theorem zd_P_addEdge_7 : decode zc_P_addEdge 7 = .ok (.if_icmp .ge 55, 3) := by decide +kernel
theorem zd_P_addEdge_10 : decode zc_P_addEdge 10 = .ok (.iload_n 1, 1) := by decide +kernel
theorem zd_P_addEdge_11 : decode zc_P_addEdge 11 = .ok (.bipush 40, 2) := by decide +kernel
theorem zd_P_addEdge_13 : decode zc_P_addEdge 13 = .ok (.if_icmp .ge 49, 3) := by decide +kernel
theorem zd_P_addEdge_16 : decode zc_P_addEdge 16 = .ok (.iload_n 2, 1) := by decide +kernel
theorem zd_P_addEdge_17 : decode zc_P_addEdge 17 = .ok (.bipush 40, 2) := by decide +kernel
theorem zd_P_addEdge_19 : decode zc_P_addEdge 19 = .ok (.if_icmp .ge 43, 3) := by decide +kernel
theorem zd_P_addEdge_22 : decode zc_P_addEdge 22 = .ok (.aload_n 0, 1) := by decide +kernel
theorem zd_P_addEdge_23 : decode zc_P_addEdge 23 = .ok (.getfield 18, 3) := by decide +kernel
theorem zd_P_addEdge_26 : decode zc_P_addEdge 26 = .ok (.aload_n 0, 1) := by decide +kernel
theorem zd_P_addEdge_27 : decode zc_P_addEdge 27 = .ok (.getfield 67, 3) := by decide +kernel
theorem zd_P_addEdge_30 : decode zc_P_addEdge 30 = .ok (.iload_n 1, 1) := by decide +kernel
theorem zd_P_addEdge_31 : decode zc_P_addEdge 31 = .ok (.iastore, 1) := by decide +kernel
theorem zd_P_addEdge_32 : decode zc_P_addEdge 32 = .ok (.aload_n 0, 1) := by decide +kernel
theorem zd_P_addEdge_33 : decode zc_P_addEdge 33 = .ok (.getfield 21, 3) := by decide +kernel
theorem zd_P_addEdge_36 : decode zc_P_addEdge 36 = .ok (.aload_n 0, 1) := by decide +kernel
theorem zd_P_addEdge_37 : decode zc_P_addEdge 37 = .ok (.getfield 67, 3) := by decide +kernel
theorem zd_P_addEdge_40 : decode zc_P_addEdge 40 = .ok (.iload_n 2, 1) := by decide +kernel
theorem zd_P_addEdge_41 : decode zc_P_addEdge 41 = .ok (.iastore, 1) := by decide +kernel
theorem zd_P_addEdge_42 : decode zc_P_addEdge 42 = .ok (.aload_n 0, 1) := by decide +kernel
theorem zd_P_addEdge_43 : decode zc_P_addEdge 43 = .ok (.getfield 24, 3) := by decide +kernel
theorem zd_P_addEdge_46 : decode zc_P_addEdge 46 = .ok (.aload_n 0, 1) := by decide +kernel
theorem zd_P_addEdge_47 : decode zc_P_addEdge 47 = .ok (.getfield 67, 3) := by decide +kernel
theorem zd_P_addEdge_50 : decode zc_P_addEdge 50 = .ok (.iload_n 3, 1) := by decide +kernel
theorem zd_P_addEdge_51 : decode zc_P_addEdge 51 = .ok (.iastore, 1) := by decide +kernel
theorem zd_P_addEdge_52 : decode zc_P_addEdge 52 = .ok (.aload_n 0, 1) := by decide +kernel
theorem zd_P_addEdge_53 : decode zc_P_addEdge 53 = .ok (.dup, 1) := by decide +kernel
theorem zd_P_addEdge_54 : decode zc_P_addEdge 54 = .ok (.getfield 67, 3) := by decide +kernel
theorem zd_P_addEdge_57 : decode zc_P_addEdge 57 = .ok (.iconst 1, 1) := by decide +kernel
theorem zd_P_addEdge_58 : decode zc_P_addEdge 58 = .ok (.iadd, 1) := by decide +kernel
theorem zd_P_addEdge_59 : decode zc_P_addEdge 59 = .ok (.putfield 67, 3) := by decide +kernel
theorem zd_P_addEdge_62 : decode zc_P_addEdge 62 = .ok (.return_, 1) := by decide +kernel
theorem zd_P_beginWithSlowestActor_0 : decode zc_P_beginWithSlowestActor 0 = .ok (.aload_n 0, 1) := by decide +kernel
theorem zd_P_beginWithSlowestActor_1 : decode zc_P_beginWithSlowestActor 1 = .ok (.iconst 0, 1) := by decide +kernel
theorem zd_P_beginWithSlowestActor_2 : decode zc_P_beginWithSlowestActor 2 = .ok (.putfield 40, 3) := by decide +kernel
theorem zd_P_beginWithSlowestActor_5 : decode zc_P_beginWithSlowestActor 5 = .ok (.aload_n 0, 1) := by decide +kernel
theorem zd_P_beginWithSlowestActor_6 : decode zc_P_beginWithSlowestActor 6 = .ok (.iconst 1, 1) := by decide +kernel
theorem zd_P_beginWithSlowestActor_7 : decode zc_P_beginWithSlowestActor 7 = .ok (.putfield 43, 3) := by decide +kernel
theorem zd_P_beginWithSlowestActor_10 : decode zc_P_beginWithSlowestActor 10 = .ok (.iconst 0, 1) := by decide +kernel
theorem zd_P_beginWithSlowestActor_11 : decode zc_P_beginWithSlowestActor 11 = .ok (.istore_n 3, 1) := by decide +kernel
theorem zd_P_beginWithSlowestActor_12 : decode zc_P_beginWithSlowestActor 12 = .ok (.iload_n 3, 1) := by decide +kernel
theorem zd_P_beginWithSlowestActor_13 : decode zc_P_beginWithSlowestActor 13 = .ok (.aload_n 1, 1) := by decide +kernel
theorem zd_P_beginWithSlowestActor_14 : decode zc_P_beginWithSlowestActor 14 = .ok (.getfield 70, 3) := by decide +kernel
theorem zd_P_beginWithSlowestActor_17 : decode zc_P_beginWithSlowestActor 17 = .ok (.if_icmp .ge 43, 3) := by decide +kernel
theorem zd_P_beginWithSlowestActor_20 : decode zc_P_beginWithSlowestActor 20 = .ok (.aload_n 1, 1) := by decide +kernel
theorem zd_P_beginWithSlowestActor_21 : decode zc_P_beginWithSlowestActor 21 = .ok (.getfield 75, 3) := by decide +kernel
theorem zd_P_beginWithSlowestActor_24 : decode zc_P_beginWithSlowestActor 24 = .ok (.iload_n 3, 1) := by decide +kernel
theorem zd_P_beginWithSlowestActor_25 : decode zc_P_beginWithSlowestActor 25 = .ok (.iaload, 1) := by decide +kernel
theorem zd_P_beginWithSlowestActor_26 : decode zc_P_beginWithSlowestActor 26 = .ok (.iload_n 2, 1) := by decide +kernel
theorem zd_P_beginWithSlowestActor_27 : decode zc_P_beginWithSlowestActor 27 = .ok (.if_icmp .ne 27, 3) := by decide +kernel
theorem zd_P_beginWithSlowestActor_30 : decode zc_P_beginWithSlowestActor 30 = .ok (.aload_n 0, 1) := by decide +kernel
theorem zd_P_beginWithSlowestActor_31 : decode zc_P_beginWithSlowestActor 31 = .ok (.aload_n 0, 1) := by decide +kernel
theorem zd_P_beginWithSlowestActor_32 : decode zc_P_beginWithSlowestActor 32 = .ok (.getfield 40, 3) := by decide +kernel
theorem zd_P_beginWithSlowestActor_35 : decode zc_P_beginWithSlowestActor 35 = .ok (.aload_n 1, 1) := by decide +kernel
theorem zd_P_beginWithSlowestActor_36 : decode zc_P_beginWithSlowestActor 36 = .ok (.getfield 78, 3) := by decide +kernel
theorem zd_P_beginWithSlowestActor_39 : decode zc_P_beginWithSlowestActor 39 = .ok (.iload_n 3, 1) := by decide +kernel
theorem zd_P_beginWithSlowestActor_40 : decode zc_P_beginWithSlowestActor 40 = .ok (.iaload, 1) := by decide +kernel
theorem zd_P_beginWithSlowestActor_41 : decode zc_P_beginWithSlowestActor 41 = .ok (.aload_n 1, 1) := by decide +kernel
theorem zd_P_beginWithSlowestActor_42 : decode zc_P_beginWithSlowestActor 42 = .ok (.getfield 81, 3) := by decide +kernel
theorem zd_P_beginWithSlowestActor_45 : decode zc_P_beginWithSlowestActor 45 = .ok (.iload_n 3, 1) := by decide +kernel
theorem zd_P_beginWithSlowestActor_46 : decode zc_P_beginWithSlowestActor 46 = .ok (.iaload, 1) := by decide +kernel
theorem zd_P_beginWithSlowestActor_47 : decode zc_P_beginWithSlowestActor 47 = .ok (.imul, 1) := by decide +kernel
theorem zd_P_beginWithSlowestActor_48 : decode zc_P_beginWithSlowestActor 48 = .ok (.invokestatic 121, 3) := by decide +kernel
theorem zd_P_beginWithSlowestActor_51 : decode zc_P_beginWithSlowestActor 51 = .ok (.putfield 40, 3) := by decide +kernel
theorem zd_P_beginWithSlowestActor_54 : decode zc_P_beginWithSlowestActor 54 = .ok (.iinc 3 1, 3) := by decide +kernel
theorem zd_P_beginWithSlowestActor_57 : decode zc_P_beginWithSlowestActor 57 = .ok (.goto (-45), 3) := by decide +kernel
theorem zd_P_beginWithSlowestActor_60 : decode zc_P_beginWithSlowestActor 60 = .ok (.return_, 1) := by decide +kernel
theorem zd_P_nodeOnSlowerLoop_0 : decode zc_P_nodeOnSlowerLoop 0 = .ok (.iconst 0, 1) := by decide +kernel
theorem zd_P_nodeOnSlowerLoop_1 : decode zc_P_nodeOnSlowerLoop 1 = .ok (.istore_n 1, 1) := by decide +kernel
theorem zd_P_nodeOnSlowerLoop_2 : decode zc_P_nodeOnSlowerLoop 2 = .ok (.iload_n 1, 1) := by decide +kernel
theorem zd_P_nodeOnSlowerLoop_3 : decode zc_P_nodeOnSlowerLoop 3 = .ok (.aload_n 0, 1) := by decide +kernel
theorem zd_P_nodeOnSlowerLoop_4 : decode zc_P_nodeOnSlowerLoop 4 = .ok (.getfield 64, 3) := by decide +kernel
theorem zd_P_nodeOnSlowerLoop_7 : decode zc_P_nodeOnSlowerLoop 7 = .ok (.if_icmp .ge 23, 3) := by decide +kernel
theorem zd_P_nodeOnSlowerLoop_10 : decode zc_P_nodeOnSlowerLoop 10 = .ok (.aload_n 0, 1) := by decide +kernel
theorem zd_P_nodeOnSlowerLoop_11 : decode zc_P_nodeOnSlowerLoop 11 = .ok (.getfield 27, 3) := by decide +kernel
theorem zd_P_nodeOnSlowerLoop_14 : decode zc_P_nodeOnSlowerLoop 14 = .ok (.iload_n 1, 1) := by decide +kernel
theorem zd_P_nodeOnSlowerLoop_15 : decode zc_P_nodeOnSlowerLoop 15 = .ok (.iconst 0, 1) := by decide +kernel
theorem zd_P_nodeOnSlowerLoop_16 : decode zc_P_nodeOnSlowerLoop 16 = .ok (.iastore, 1) := by decide +kernel
theorem zd_P_nodeOnSlowerLoop_17 : decode zc_P_nodeOnSlowerLoop 17 = .ok (.aload_n 0, 1) := by decide +kernel
theorem zd_P_nodeOnSlowerLoop_18 : decode zc_P_nodeOnSlowerLoop 18 = .ok (.getfield 30, 3) := by decide +kernel
theorem zd_P_nodeOnSlowerLoop_21 : decode zc_P_nodeOnSlowerLoop 21 = .ok (.iload_n 1, 1) := by decide +kernel
theorem zd_P_nodeOnSlowerLoop_22 : decode zc_P_nodeOnSlowerLoop 22 = .ok (.iconst (-1), 1) := by decide +kernel
theorem zd_P_nodeOnSlowerLoop_23 : decode zc_P_nodeOnSlowerLoop 23 = .ok (.iastore, 1) := by decide +kernel
theorem zd_P_nodeOnSlowerLoop_24 : decode zc_P_nodeOnSlowerLoop 24 = .ok (.iinc 1 1, 3) := by decide +kernel
theorem zd_P_nodeOnSlowerLoop_27 : decode zc_P_nodeOnSlowerLoop 27 = .ok (.goto (-25), 3) := by decide +kernel
theorem zd_P_nodeOnSlowerLoop_30 : decode zc_P_nodeOnSlowerLoop 30 = .ok (.iconst 0, 1) := by decide +kernel
theorem zd_P_nodeOnSlowerLoop_31 : decode zc_P_nodeOnSlowerLoop 31 = .ok (.istore_n 1, 1) := by decide +kernel
theorem zd_P_nodeOnSlowerLoop_32 : decode zc_P_nodeOnSlowerLoop 32 = .ok (.iload_n 1, 1) := by decide +kernel
theorem zd_P_nodeOnSlowerLoop_33 : decode zc_P_nodeOnSlowerLoop 33 = .ok (.sipush 1000, 3) := by decide +kernel
theorem zd_P_nodeOnSlowerLoop_36 : decode zc_P_nodeOnSlowerLoop 36 = .ok (.if_icmp .ge 30, 3) := by decide +kernel
theorem zd_P_nodeOnSlowerLoop_39 : decode zc_P_nodeOnSlowerLoop 39 = .ok (.aload_n 0, 1) := by decide +kernel
theorem zd_P_nodeOnSlowerLoop_40 : decode zc_P_nodeOnSlowerLoop 40 = .ok (.invokevirtual 124, 3) := by decide +kernel
theorem zd_P_nodeOnSlowerLoop_43 : decode zc_P_nodeOnSlowerLoop 43 = .ok (.ifCond .ne 5, 3) := by decide +kernel
theorem zd_P_nodeOnSlowerLoop_46 : decode zc_P_nodeOnSlowerLoop 46 = .ok (.iconst (-1), 1) := by decide +kernel
theorem zd_P_nodeOnSlowerLoop_47 : decode zc_P_nodeOnSlowerLoop 47 = .ok (.ireturn, 1) := by decide +kernel
theorem zd_P_nodeOnSlowerLoop_48 : decode zc_P_nodeOnSlowerLoop 48 = .ok (.aload_n 0, 1) := by decide +kernel
theorem zd_P_nodeOnSlowerLoop_49 : decode zc_P_nodeOnSlowerLoop 49 = .ok (.invokevirtual 128, 3) := by decide +kernel
theorem zd_P_nodeOnSlowerLoop_52 : decode zc_P_nodeOnSlowerLoop 52 = .ok (.istore_n 2, 1) := by decide +kernel
theorem zd_P_nodeOnSlowerLoop_53 : decode zc_P_nodeOnSlowerLoop 53 = .ok (.iload_n 2, 1) := by decide +kernel
theorem zd_P_nodeOnSlowerLoop_54 : decode zc_P_nodeOnSlowerLoop 54 = .ok (.iconst (-1), 1) := by decide +kernel
theorem zd_P_nodeOnSlowerLoop_55 : decode zc_P_nodeOnSlowerLoop 55 = .ok (.if_icmp .eq 5, 3) := by decide +kernel
theorem zd_P_nodeOnSlowerLoop_58 : decode zc_P_nodeOnSlowerLoop 58 = .ok (.iload_n 2, 1) := by decide +kernel
theorem zd_P_nodeOnSlowerLoop_59 : decode zc_P_nodeOnSlowerLoop 59 = .ok (.ireturn, 1) := by decide +kernel
theorem zd_P_nodeOnSlowerLoop_60 : decode zc_P_nodeOnSlowerLoop 60 = .ok (.iinc 1 1, 3) := by decide +kernel
theorem zd_P_nodeOnSlowerLoop_63 : decode zc_P_nodeOnSlowerLoop 63 = .ok (.goto (-31), 3) := by decide +kernel
theorem zd_P_nodeOnSlowerLoop_66 : decode zc_P_nodeOnSlowerLoop 66 = .ok (.iconst (-1), 1) := by decide +kernel
theorem zd_P_nodeOnSlowerLoop_67 : decode zc_P_nodeOnSlowerLoop 67 = .ok (.ireturn, 1) := by decide +kernel
theorem zd_P_raiseAll_0 : decode zc_P_raiseAll 0 = .ok (.iconst 0, 1) := by decide +kernel
theorem zd_P_raiseAll_1 : decode zc_P_raiseAll 1 = .ok (.istore_n 1, 1) := by decide +kernel
theorem zd_P_raiseAll_2 : decode zc_P_raiseAll 2 = .ok (.iconst 0, 1) := by decide +kernel
theorem zd_P_raiseAll_3 : decode zc_P_raiseAll 3 = .ok (.istore_n 2, 1) := by decide +kernel
theorem zd_P_raiseAll_4 : decode zc_P_raiseAll 4 = .ok (.iload_n 2, 1) := by decide +kernel
theorem zd_P_raiseAll_5 : decode zc_P_raiseAll 5 = .ok (.aload_n 0, 1) := by decide +kernel
theorem zd_P_raiseAll_6 : decode zc_P_raiseAll 6 = .ok (.getfield 67, 3) := by decide +kernel
theorem zd_P_raiseAll_9 : decode zc_P_raiseAll 9 = .ok (.if_icmp .ge 87, 3) := by decide +kernel
theorem zd_P_raiseAll_12 : decode zc_P_raiseAll 12 = .ok (.aload_n 0, 1) := by decide +kernel
theorem zd_P_raiseAll_13 : decode zc_P_raiseAll 13 = .ok (.getfield 18, 3) := by decide +kernel
theorem zd_P_raiseAll_16 : decode zc_P_raiseAll 16 = .ok (.iload_n 2, 1) := by decide +kernel
theorem zd_P_raiseAll_17 : decode zc_P_raiseAll 17 = .ok (.iaload, 1) := by decide +kernel
theorem zd_P_raiseAll_18 : decode zc_P_raiseAll 18 = .ok (.istore_n 3, 1) := by decide +kernel
theorem zd_P_raiseAll_19 : decode zc_P_raiseAll 19 = .ok (.aload_n 0, 1) := by decide +kernel
theorem zd_P_raiseAll_20 : decode zc_P_raiseAll 20 = .ok (.getfield 21, 3) := by decide +kernel
theorem zd_P_raiseAll_23 : decode zc_P_raiseAll 23 = .ok (.iload_n 2, 1) := by decide +kernel
theorem zd_P_raiseAll_24 : decode zc_P_raiseAll 24 = .ok (.iaload, 1) := by decide +kernel
theorem zd_P_raiseAll_25 : decode zc_P_raiseAll 25 = .ok (.istore 4, 2) := by decide +kernel
theorem zd_P_raiseAll_27 : decode zc_P_raiseAll 27 = .ok (.aload_n 0, 1) := by decide +kernel
theorem zd_P_raiseAll_28 : decode zc_P_raiseAll 28 = .ok (.getfield 27, 3) := by decide +kernel
theorem zd_P_raiseAll_31 : decode zc_P_raiseAll 31 = .ok (.iload_n 3, 1) := by decide +kernel
theorem zd_P_raiseAll_32 : decode zc_P_raiseAll 32 = .ok (.iaload, 1) := by decide +kernel
theorem zd_P_raiseAll_33 : decode zc_P_raiseAll 33 = .ok (.aload_n 0, 1) := by decide +kernel
theorem zd_P_raiseAll_34 : decode zc_P_raiseAll 34 = .ok (.getfield 15, 3) := by decide +kernel
theorem zd_P_raiseAll_37 : decode zc_P_raiseAll 37 = .ok (.iload_n 3, 1) := by decide +kernel
theorem zd_P_raiseAll_38 : decode zc_P_raiseAll 38 = .ok (.iaload, 1) := by decide +kernel
theorem zd_P_raiseAll_39 : decode zc_P_raiseAll 39 = .ok (.aload_n 0, 1) := by decide +kernel
theorem zd_P_raiseAll_40 : decode zc_P_raiseAll 40 = .ok (.getfield 43, 3) := by decide +kernel
theorem zd_P_raiseAll_43 : decode zc_P_raiseAll 43 = .ok (.imul, 1) := by decide +kernel
theorem zd_P_raiseAll_44 : decode zc_P_raiseAll 44 = .ok (.iadd, 1) := by decide +kernel
theorem zd_P_raiseAll_45 : decode zc_P_raiseAll 45 = .ok (.aload_n 0, 1) := by decide +kernel
theorem zd_P_raiseAll_46 : decode zc_P_raiseAll 46 = .ok (.getfield 24, 3) := by decide +kernel
theorem zd_P_raiseAll_49 : decode zc_P_raiseAll 49 = .ok (.iload_n 2, 1) := by decide +kernel
theorem zd_P_raiseAll_50 : decode zc_P_raiseAll 50 = .ok (.iaload, 1) := by decide +kernel
theorem zd_P_raiseAll_51 : decode zc_P_raiseAll 51 = .ok (.aload_n 0, 1) := by decide +kernel
theorem zd_P_raiseAll_52 : decode zc_P_raiseAll 52 = .ok (.getfield 40, 3) := by decide +kernel
theorem zd_P_raiseAll_55 : decode zc_P_raiseAll 55 = .ok (.imul, 1) := by decide +kernel
theorem zd_P_raiseAll_56 : decode zc_P_raiseAll 56 = .ok (.isub, 1) := by decide +kernel
theorem zd_P_raiseAll_57 : decode zc_P_raiseAll 57 = .ok (.istore 5, 2) := by decide +kernel
theorem zd_P_raiseAll_59 : decode zc_P_raiseAll 59 = .ok (.iload 5, 2) := by decide +kernel
theorem zd_P_raiseAll_61 : decode zc_P_raiseAll 61 = .ok (.aload_n 0, 1) := by decide +kernel
theorem zd_P_raiseAll_62 : decode zc_P_raiseAll 62 = .ok (.getfield 27, 3) := by decide +kernel
theorem zd_P_raiseAll_65 : decode zc_P_raiseAll 65 = .ok (.iload 4, 2) := by decide +kernel
theorem zd_P_raiseAll_67 : decode zc_P_raiseAll 67 = .ok (.iaload, 1) := by decide +kernel
theorem zd_P_raiseAll_68 : decode zc_P_raiseAll 68 = .ok (.if_icmp .le 22, 3) := by decide +kernel
theorem zd_P_raiseAll_71 : decode zc_P_raiseAll 71 = .ok (.aload_n 0, 1) := by decide +kernel
theorem zd_P_raiseAll_72 : decode zc_P_raiseAll 72 = .ok (.getfield 27, 3) := by decide +kernel
theorem zd_P_raiseAll_75 : decode zc_P_raiseAll 75 = .ok (.iload 4, 2) := by decide +kernel
theorem zd_P_raiseAll_77 : decode zc_P_raiseAll 77 = .ok (.iload 5, 2) := by decide +kernel
theorem zd_P_raiseAll_79 : decode zc_P_raiseAll 79 = .ok (.iastore, 1) := by decide +kernel
theorem zd_P_raiseAll_80 : decode zc_P_raiseAll 80 = .ok (.aload_n 0, 1) := by decide +kernel
theorem zd_P_raiseAll_81 : decode zc_P_raiseAll 81 = .ok (.getfield 30, 3) := by decide +kernel
theorem zd_P_raiseAll_84 : decode zc_P_raiseAll 84 = .ok (.iload 4, 2) := by decide +kernel
theorem zd_P_raiseAll_86 : decode zc_P_raiseAll 86 = .ok (.iload_n 2, 1) := by decide +kernel
theorem zd_P_raiseAll_87 : decode zc_P_raiseAll 87 = .ok (.iastore, 1) := by decide +kernel
theorem zd_P_raiseAll_88 : decode zc_P_raiseAll 88 = .ok (.iconst 1, 1) := by decide +kernel
theorem zd_P_raiseAll_89 : decode zc_P_raiseAll 89 = .ok (.istore_n 1, 1) := by decide +kernel
theorem zd_P_raiseAll_90 : decode zc_P_raiseAll 90 = .ok (.iinc 2 1, 3) := by decide +kernel
theorem zd_P_raiseAll_93 : decode zc_P_raiseAll 93 = .ok (.goto (-89), 3) := by decide +kernel
theorem zd_P_raiseAll_96 : decode zc_P_raiseAll 96 = .ok (.iload_n 1, 1) := by decide +kernel
theorem zd_P_raiseAll_97 : decode zc_P_raiseAll 97 = .ok (.ireturn, 1) := by decide +kernel
theorem zd_P_nodeOnLoopOfRaises_0 : decode zc_P_nodeOnLoopOfRaises 0 = .ok (.iconst 0, 1) := by decide +kernel
theorem zd_P_nodeOnLoopOfRaises_1 : decode zc_P_nodeOnLoopOfRaises 1 = .ok (.istore_n 1, 1) := by decide +kernel
theorem zd_P_nodeOnLoopOfRaises_2 : decode zc_P_nodeOnLoopOfRaises 2 = .ok (.iload_n 1, 1) := by decide +kernel
theorem zd_P_nodeOnLoopOfRaises_3 : decode zc_P_nodeOnLoopOfRaises 3 = .ok (.aload_n 0, 1) := by decide +kernel
theorem zd_P_nodeOnLoopOfRaises_4 : decode zc_P_nodeOnLoopOfRaises 4 = .ok (.getfield 64, 3) := by decide +kernel
theorem zd_P_nodeOnLoopOfRaises_7 : decode zc_P_nodeOnLoopOfRaises 7 = .ok (.if_icmp .ge 16, 3) := by decide +kernel
theorem zd_P_nodeOnLoopOfRaises_10 : decode zc_P_nodeOnLoopOfRaises 10 = .ok (.aload_n 0, 1) := by decide +kernel
theorem zd_P_nodeOnLoopOfRaises_11 : decode zc_P_nodeOnLoopOfRaises 11 = .ok (.getfield 33, 3) := by decide +kernel
theorem zd_P_nodeOnLoopOfRaises_14 : decode zc_P_nodeOnLoopOfRaises 14 = .ok (.iload_n 1, 1) := by decide +kernel
theorem zd_P_nodeOnLoopOfRaises_15 : decode zc_P_nodeOnLoopOfRaises 15 = .ok (.iconst (-1), 1) := by decide +kernel
theorem zd_P_nodeOnLoopOfRaises_16 : decode zc_P_nodeOnLoopOfRaises 16 = .ok (.iastore, 1) := by decide +kernel
theorem zd_P_nodeOnLoopOfRaises_17 : decode zc_P_nodeOnLoopOfRaises 17 = .ok (.iinc 1 1, 3) := by decide +kernel
theorem zd_P_nodeOnLoopOfRaises_20 : decode zc_P_nodeOnLoopOfRaises 20 = .ok (.goto (-18), 3) := by decide +kernel
theorem zd_P_nodeOnLoopOfRaises_23 : decode zc_P_nodeOnLoopOfRaises 23 = .ok (.iconst 0, 1) := by decide +kernel
theorem zd_P_nodeOnLoopOfRaises_24 : decode zc_P_nodeOnLoopOfRaises 24 = .ok (.istore_n 1, 1) := by decide +kernel
theorem zd_P_nodeOnLoopOfRaises_25 : decode zc_P_nodeOnLoopOfRaises 25 = .ok (.iload_n 1, 1) := by decide +kernel
theorem zd_P_nodeOnLoopOfRaises_26 : decode zc_P_nodeOnLoopOfRaises 26 = .ok (.aload_n 0, 1) := by decide +kernel
theorem zd_P_nodeOnLoopOfRaises_27 : decode zc_P_nodeOnLoopOfRaises 27 = .ok (.getfield 64, 3) := by decide +kernel
theorem zd_P_nodeOnLoopOfRaises_30 : decode zc_P_nodeOnLoopOfRaises 30 = .ok (.if_icmp .ge 72, 3) := by decide +kernel
theorem zd_P_nodeOnLoopOfRaises_33 : decode zc_P_nodeOnLoopOfRaises 33 = .ok (.iload_n 1, 1) := by decide +kernel
theorem zd_P_nodeOnLoopOfRaises_34 : decode zc_P_nodeOnLoopOfRaises 34 = .ok (.istore_n 2, 1) := by decide +kernel
theorem zd_P_nodeOnLoopOfRaises_35 : decode zc_P_nodeOnLoopOfRaises 35 = .ok (.iconst 0, 1) := by decide +kernel
theorem zd_P_nodeOnLoopOfRaises_36 : decode zc_P_nodeOnLoopOfRaises 36 = .ok (.istore_n 3, 1) := by decide +kernel
theorem zd_P_nodeOnLoopOfRaises_37 : decode zc_P_nodeOnLoopOfRaises 37 = .ok (.iload_n 3, 1) := by decide +kernel
theorem zd_P_nodeOnLoopOfRaises_38 : decode zc_P_nodeOnLoopOfRaises 38 = .ok (.aload_n 0, 1) := by decide +kernel
theorem zd_P_nodeOnLoopOfRaises_39 : decode zc_P_nodeOnLoopOfRaises 39 = .ok (.getfield 64, 3) := by decide +kernel
theorem zd_P_nodeOnLoopOfRaises_42 : decode zc_P_nodeOnLoopOfRaises 42 = .ok (.if_icmp .gt 37, 3) := by decide +kernel
theorem zd_P_nodeOnLoopOfRaises_45 : decode zc_P_nodeOnLoopOfRaises 45 = .ok (.iload_n 2, 1) := by decide +kernel
theorem zd_P_nodeOnLoopOfRaises_46 : decode zc_P_nodeOnLoopOfRaises 46 = .ok (.iconst (-1), 1) := by decide +kernel
theorem zd_P_nodeOnLoopOfRaises_47 : decode zc_P_nodeOnLoopOfRaises 47 = .ok (.if_icmp .eq 32, 3) := by decide +kernel
theorem zd_P_nodeOnLoopOfRaises_50 : decode zc_P_nodeOnLoopOfRaises 50 = .ok (.aload_n 0, 1) := by decide +kernel
theorem zd_P_nodeOnLoopOfRaises_51 : decode zc_P_nodeOnLoopOfRaises 51 = .ok (.getfield 33, 3) := by decide +kernel
theorem zd_P_nodeOnLoopOfRaises_54 : decode zc_P_nodeOnLoopOfRaises 54 = .ok (.iload_n 2, 1) := by decide +kernel
theorem zd_P_nodeOnLoopOfRaises_55 : decode zc_P_nodeOnLoopOfRaises 55 = .ok (.iaload, 1) := by decide +kernel
theorem zd_P_nodeOnLoopOfRaises_56 : decode zc_P_nodeOnLoopOfRaises 56 = .ok (.iconst (-1), 1) := by decide +kernel
theorem zd_P_nodeOnLoopOfRaises_57 : decode zc_P_nodeOnLoopOfRaises 57 = .ok (.if_icmp .ne 22, 3) := by decide +kernel
theorem zd_P_nodeOnLoopOfRaises_60 : decode zc_P_nodeOnLoopOfRaises 60 = .ok (.aload_n 0, 1) := by decide +kernel
theorem zd_P_nodeOnLoopOfRaises_61 : decode zc_P_nodeOnLoopOfRaises 61 = .ok (.getfield 33, 3) := by decide +kernel
theorem zd_P_nodeOnLoopOfRaises_64 : decode zc_P_nodeOnLoopOfRaises 64 = .ok (.iload_n 2, 1) := by decide +kernel
theorem zd_P_nodeOnLoopOfRaises_65 : decode zc_P_nodeOnLoopOfRaises 65 = .ok (.iload_n 1, 1) := by decide +kernel
theorem zd_P_nodeOnLoopOfRaises_66 : decode zc_P_nodeOnLoopOfRaises 66 = .ok (.iastore, 1) := by decide +kernel
theorem zd_P_nodeOnLoopOfRaises_67 : decode zc_P_nodeOnLoopOfRaises 67 = .ok (.aload_n 0, 1) := by decide +kernel
theorem zd_P_nodeOnLoopOfRaises_68 : decode zc_P_nodeOnLoopOfRaises 68 = .ok (.iload_n 2, 1) := by decide +kernel
theorem zd_P_nodeOnLoopOfRaises_69 : decode zc_P_nodeOnLoopOfRaises 69 = .ok (.invokevirtual 131, 3) := by decide +kernel
theorem zd_P_nodeOnLoopOfRaises_72 : decode zc_P_nodeOnLoopOfRaises 72 = .ok (.istore_n 2, 1) := by decide +kernel
theorem zd_P_nodeOnLoopOfRaises_73 : decode zc_P_nodeOnLoopOfRaises 73 = .ok (.iinc 3 1, 3) := by decide +kernel
theorem zd_P_nodeOnLoopOfRaises_76 : decode zc_P_nodeOnLoopOfRaises 76 = .ok (.goto (-39), 3) := by decide +kernel
theorem zd_P_nodeOnLoopOfRaises_79 : decode zc_P_nodeOnLoopOfRaises 79 = .ok (.iload_n 2, 1) := by decide +kernel
theorem zd_P_nodeOnLoopOfRaises_80 : decode zc_P_nodeOnLoopOfRaises 80 = .ok (.iconst (-1), 1) := by decide +kernel
theorem zd_P_nodeOnLoopOfRaises_81 : decode zc_P_nodeOnLoopOfRaises 81 = .ok (.if_icmp .eq 15, 3) := by decide +kernel
theorem zd_P_nodeOnLoopOfRaises_84 : decode zc_P_nodeOnLoopOfRaises 84 = .ok (.aload_n 0, 1) := by decide +kernel
theorem zd_P_nodeOnLoopOfRaises_85 : decode zc_P_nodeOnLoopOfRaises 85 = .ok (.getfield 33, 3) := by decide +kernel
theorem zd_P_nodeOnLoopOfRaises_88 : decode zc_P_nodeOnLoopOfRaises 88 = .ok (.iload_n 2, 1) := by decide +kernel
theorem zd_P_nodeOnLoopOfRaises_89 : decode zc_P_nodeOnLoopOfRaises 89 = .ok (.iaload, 1) := by decide +kernel
theorem zd_P_nodeOnLoopOfRaises_90 : decode zc_P_nodeOnLoopOfRaises 90 = .ok (.iload_n 1, 1) := by decide +kernel
theorem zd_P_nodeOnLoopOfRaises_91 : decode zc_P_nodeOnLoopOfRaises 91 = .ok (.if_icmp .ne 5, 3) := by decide +kernel
theorem zd_P_nodeOnLoopOfRaises_94 : decode zc_P_nodeOnLoopOfRaises 94 = .ok (.iload_n 2, 1) := by decide +kernel
theorem zd_P_nodeOnLoopOfRaises_95 : decode zc_P_nodeOnLoopOfRaises 95 = .ok (.ireturn, 1) := by decide +kernel
theorem zd_P_nodeOnLoopOfRaises_96 : decode zc_P_nodeOnLoopOfRaises 96 = .ok (.iinc 1 1, 3) := by decide +kernel
theorem zd_P_nodeOnLoopOfRaises_99 : decode zc_P_nodeOnLoopOfRaises 99 = .ok (.goto (-74), 3) := by decide +kernel
theorem zd_P_nodeOnLoopOfRaises_102 : decode zc_P_nodeOnLoopOfRaises 102 = .ok (.iconst (-1), 1) := by decide +kernel
theorem zd_P_nodeOnLoopOfRaises_103 : decode zc_P_nodeOnLoopOfRaises 103 = .ok (.ireturn, 1) := by decide +kernel
theorem zd_P_nodeAhead_0 : decode zc_P_nodeAhead 0 = .ok (.aload_n 0, 1) := by decide +kernel
theorem zd_P_nodeAhead_1 : decode zc_P_nodeAhead 1 = .ok (.getfield 30, 3) := by decide +kernel
theorem zd_P_nodeAhead_4 : decode zc_P_nodeAhead 4 = .ok (.iload_n 1, 1) := by decide +kernel
theorem zd_P_nodeAhead_5 : decode zc_P_nodeAhead 5 = .ok (.iaload, 1) := by decide +kernel
theorem zd_P_nodeAhead_6 : decode zc_P_nodeAhead 6 = .ok (.istore_n 2, 1) := by decide +kernel
theorem zd_P_nodeAhead_7 : decode zc_P_nodeAhead 7 = .ok (.iload_n 2, 1) := by decide +kernel
theorem zd_P_nodeAhead_8 : decode zc_P_nodeAhead 8 = .ok (.iconst (-1), 1) := by decide +kernel
theorem zd_P_nodeAhead_9 : decode zc_P_nodeAhead 9 = .ok (.if_icmp .ne 7, 3) := by decide +kernel
theorem zd_P_nodeAhead_12 : decode zc_P_nodeAhead 12 = .ok (.iconst (-1), 1) := by decide +kernel
theorem zd_P_nodeAhead_13 : decode zc_P_nodeAhead 13 = .ok (.goto 9, 3) := by decide +kernel
theorem zd_P_nodeAhead_16 : decode zc_P_nodeAhead 16 = .ok (.aload_n 0, 1) := by decide +kernel
theorem zd_P_nodeAhead_17 : decode zc_P_nodeAhead 17 = .ok (.getfield 18, 3) := by decide +kernel
theorem zd_P_nodeAhead_20 : decode zc_P_nodeAhead 20 = .ok (.iload_n 2, 1) := by decide +kernel
theorem zd_P_nodeAhead_21 : decode zc_P_nodeAhead 21 = .ok (.iaload, 1) := by decide +kernel
theorem zd_P_nodeAhead_22 : decode zc_P_nodeAhead 22 = .ok (.ireturn, 1) := by decide +kernel
theorem zd_P_takeRatioOf_0 : decode zc_P_takeRatioOf 0 = .ok (.iconst 0, 1) := by decide +kernel
theorem zd_P_takeRatioOf_1 : decode zc_P_takeRatioOf 1 = .ok (.istore_n 2, 1) := by decide +kernel
theorem zd_P_takeRatioOf_2 : decode zc_P_takeRatioOf 2 = .ok (.iconst 0, 1) := by decide +kernel
theorem zd_P_takeRatioOf_3 : decode zc_P_takeRatioOf 3 = .ok (.istore_n 3, 1) := by decide +kernel
theorem zd_P_takeRatioOf_4 : decode zc_P_takeRatioOf 4 = .ok (.iload_n 1, 1) := by decide +kernel
theorem zd_P_takeRatioOf_5 : decode zc_P_takeRatioOf 5 = .ok (.istore 4, 2) := by decide +kernel
theorem zd_P_takeRatioOf_7 : decode zc_P_takeRatioOf 7 = .ok (.iconst 0, 1) := by decide +kernel
theorem zd_P_takeRatioOf_8 : decode zc_P_takeRatioOf 8 = .ok (.istore 5, 2) := by decide +kernel
theorem zd_P_takeRatioOf_10 : decode zc_P_takeRatioOf 10 = .ok (.iload 5, 2) := by decide +kernel
theorem zd_P_takeRatioOf_12 : decode zc_P_takeRatioOf 12 = .ok (.aload_n 0, 1) := by decide +kernel
theorem zd_P_takeRatioOf_13 : decode zc_P_takeRatioOf 13 = .ok (.getfield 64, 3) := by decide +kernel
theorem zd_P_takeRatioOf_16 : decode zc_P_takeRatioOf 16 = .ok (.if_icmp .ge 74, 3) := by decide +kernel
theorem zd_P_takeRatioOf_19 : decode zc_P_takeRatioOf 19 = .ok (.iload 4, 2) := by decide +kernel
theorem zd_P_takeRatioOf_21 : decode zc_P_takeRatioOf 21 = .ok (.iconst (-1), 1) := by decide +kernel
theorem zd_P_takeRatioOf_22 : decode zc_P_takeRatioOf 22 = .ok (.if_icmp .eq 68, 3) := by decide +kernel
theorem zd_P_takeRatioOf_25 : decode zc_P_takeRatioOf 25 = .ok (.aload_n 0, 1) := by decide +kernel
theorem zd_P_takeRatioOf_26 : decode zc_P_takeRatioOf 26 = .ok (.getfield 30, 3) := by decide +kernel
theorem zd_P_takeRatioOf_29 : decode zc_P_takeRatioOf 29 = .ok (.iload 4, 2) := by decide +kernel
theorem zd_P_takeRatioOf_31 : decode zc_P_takeRatioOf 31 = .ok (.iaload, 1) := by decide +kernel
theorem zd_P_takeRatioOf_32 : decode zc_P_takeRatioOf 32 = .ok (.iconst (-1), 1) := by decide +kernel
theorem zd_P_takeRatioOf_33 : decode zc_P_takeRatioOf 33 = .ok (.if_icmp .eq 57, 3) := by decide +kernel
theorem zd_P_takeRatioOf_36 : decode zc_P_takeRatioOf 36 = .ok (.iload_n 3, 1) := by decide +kernel
theorem zd_P_takeRatioOf_37 : decode zc_P_takeRatioOf 37 = .ok (.aload_n 0, 1) := by decide +kernel
theorem zd_P_takeRatioOf_38 : decode zc_P_takeRatioOf 38 = .ok (.getfield 24, 3) := by decide +kernel
theorem zd_P_takeRatioOf_41 : decode zc_P_takeRatioOf 41 = .ok (.aload_n 0, 1) := by decide +kernel
theorem zd_P_takeRatioOf_42 : decode zc_P_takeRatioOf 42 = .ok (.getfield 30, 3) := by decide +kernel
theorem zd_P_takeRatioOf_45 : decode zc_P_takeRatioOf 45 = .ok (.iload 4, 2) := by decide +kernel
theorem zd_P_takeRatioOf_47 : decode zc_P_takeRatioOf 47 = .ok (.iaload, 1) := by decide +kernel
theorem zd_P_takeRatioOf_48 : decode zc_P_takeRatioOf 48 = .ok (.iaload, 1) := by decide +kernel
theorem zd_P_takeRatioOf_49 : decode zc_P_takeRatioOf 49 = .ok (.iadd, 1) := by decide +kernel
theorem zd_P_takeRatioOf_50 : decode zc_P_takeRatioOf 50 = .ok (.istore_n 3, 1) := by decide +kernel
theorem zd_P_takeRatioOf_51 : decode zc_P_takeRatioOf 51 = .ok (.aload_n 0, 1) := by decide +kernel
theorem zd_P_takeRatioOf_52 : decode zc_P_takeRatioOf 52 = .ok (.getfield 18, 3) := by decide +kernel
theorem zd_P_takeRatioOf_55 : decode zc_P_takeRatioOf 55 = .ok (.aload_n 0, 1) := by decide +kernel
theorem zd_P_takeRatioOf_56 : decode zc_P_takeRatioOf 56 = .ok (.getfield 30, 3) := by decide +kernel
theorem zd_P_takeRatioOf_59 : decode zc_P_takeRatioOf 59 = .ok (.iload 4, 2) := by decide +kernel
theorem zd_P_takeRatioOf_61 : decode zc_P_takeRatioOf 61 = .ok (.iaload, 1) := by decide +kernel
theorem zd_P_takeRatioOf_62 : decode zc_P_takeRatioOf 62 = .ok (.iaload, 1) := by decide +kernel
theorem zd_P_takeRatioOf_63 : decode zc_P_takeRatioOf 63 = .ok (.istore 4, 2) := by decide +kernel
theorem zd_P_takeRatioOf_65 : decode zc_P_takeRatioOf 65 = .ok (.iload_n 2, 1) := by decide +kernel
theorem zd_P_takeRatioOf_66 : decode zc_P_takeRatioOf 66 = .ok (.aload_n 0, 1) := by decide +kernel
theorem zd_P_takeRatioOf_67 : decode zc_P_takeRatioOf 67 = .ok (.getfield 15, 3) := by decide +kernel
theorem zd_P_takeRatioOf_70 : decode zc_P_takeRatioOf 70 = .ok (.iload 4, 2) := by decide +kernel
theorem zd_P_takeRatioOf_72 : decode zc_P_takeRatioOf 72 = .ok (.iaload, 1) := by decide +kernel
theorem zd_P_takeRatioOf_73 : decode zc_P_takeRatioOf 73 = .ok (.iadd, 1) := by decide +kernel
theorem zd_P_takeRatioOf_74 : decode zc_P_takeRatioOf 74 = .ok (.istore_n 2, 1) := by decide +kernel
theorem zd_P_takeRatioOf_75 : decode zc_P_takeRatioOf 75 = .ok (.iload 4, 2) := by decide +kernel
theorem zd_P_takeRatioOf_77 : decode zc_P_takeRatioOf 77 = .ok (.iload_n 1, 1) := by decide +kernel
theorem zd_P_takeRatioOf_78 : decode zc_P_takeRatioOf 78 = .ok (.if_icmp .ne 6, 3) := by decide +kernel
theorem zd_P_takeRatioOf_81 : decode zc_P_takeRatioOf 81 = .ok (.goto 9, 3) := by decide +kernel
theorem zd_P_takeRatioOf_84 : decode zc_P_takeRatioOf 84 = .ok (.iinc 5 1, 3) := by decide +kernel
theorem zd_P_takeRatioOf_87 : decode zc_P_takeRatioOf 87 = .ok (.goto (-77), 3) := by decide +kernel
theorem zd_P_takeRatioOf_90 : decode zc_P_takeRatioOf 90 = .ok (.iload_n 2, 1) := by decide +kernel
theorem zd_P_takeRatioOf_91 : decode zc_P_takeRatioOf 91 = .ok (.iload_n 3, 1) := by decide +kernel
theorem zd_P_takeRatioOf_92 : decode zc_P_takeRatioOf 92 = .ok (.invokestatic 135, 3) := by decide +kernel
theorem zd_P_takeRatioOf_95 : decode zc_P_takeRatioOf 95 = .ok (.istore 5, 2) := by decide +kernel
theorem zd_P_takeRatioOf_97 : decode zc_P_takeRatioOf 97 = .ok (.iload_n 3, 1) := by decide +kernel
theorem zd_P_takeRatioOf_98 : decode zc_P_takeRatioOf 98 = .ok (.ifCond .le 23, 3) := by decide +kernel
theorem zd_P_takeRatioOf_101 : decode zc_P_takeRatioOf 101 = .ok (.aload_n 0, 1) := by decide +kernel
theorem zd_P_takeRatioOf_102 : decode zc_P_takeRatioOf 102 = .ok (.iload_n 2, 1) := by decide +kernel
theorem zd_P_takeRatioOf_103 : decode zc_P_takeRatioOf 103 = .ok (.iload 5, 2) := by decide +kernel
theorem zd_P_takeRatioOf_105 : decode zc_P_takeRatioOf 105 = .ok (.invokestatic 138, 3) := by decide +kernel
theorem zd_P_takeRatioOf_108 : decode zc_P_takeRatioOf 108 = .ok (.putfield 40, 3) := by decide +kernel
theorem zd_P_takeRatioOf_111 : decode zc_P_takeRatioOf 111 = .ok (.aload_n 0, 1) := by decide +kernel
theorem zd_P_takeRatioOf_112 : decode zc_P_takeRatioOf 112 = .ok (.iload_n 3, 1) := by decide +kernel
theorem zd_P_takeRatioOf_113 : decode zc_P_takeRatioOf 113 = .ok (.iload 5, 2) := by decide +kernel
theorem zd_P_takeRatioOf_115 : decode zc_P_takeRatioOf 115 = .ok (.invokestatic 138, 3) := by decide +kernel
theorem zd_P_takeRatioOf_118 : decode zc_P_takeRatioOf 118 = .ok (.putfield 43, 3) := by decide +kernel
theorem zd_P_takeRatioOf_121 : decode zc_P_takeRatioOf 121 = .ok (.return_, 1) := by decide +kernel
theorem zd_M_init_0 : decode zc_M_init 0 = .ok (.aload_n 0, 1) := by decide +kernel
theorem zd_M_init_1 : decode zc_M_init 1 = .ok (.invokespecial 3, 3) := by decide +kernel
theorem zd_M_init_4 : decode zc_M_init 4 = .ok (.aload_n 0, 1) := by decide +kernel
theorem zd_M_init_5 : decode zc_M_init 5 = .ok (.bipush 8, 2) := by decide +kernel
theorem zd_M_init_7 : decode zc_M_init 7 = .ok (.bipush 8, 2) := by decide +kernel
theorem zd_M_init_9 : decode zc_M_init 9 = .ok (.multianewarray 9 2, 4) := by decide +kernel
theorem zd_M_init_13 : decode zc_M_init 13 = .ok (.putfield 11, 3) := by decide +kernel
theorem zd_M_init_16 : decode zc_M_init 16 = .ok (.return_, 1) := by decide +kernel
theorem zd_M_ofAll_0 : decode zc_M_ofAll 0 = .ok (.aload_n 1, 1) := by decide +kernel
theorem zd_M_ofAll_1 : decode zc_M_ofAll 1 = .ok (.getfield 16, 3) := by decide +kernel
theorem zd_M_ofAll_4 : decode zc_M_ofAll 4 = .ok (.iconst 1, 1) := by decide +kernel
theorem zd_M_ofAll_5 : decode zc_M_ofAll 5 = .ok (.isub, 1) := by decide +kernel
theorem zd_M_ofAll_6 : decode zc_M_ofAll 6 = .ok (.istore_n 2, 1) := by decide +kernel
theorem zd_M_ofAll_7 : decode zc_M_ofAll 7 = .ok (.iload_n 2, 1) := by decide +kernel
theorem zd_M_ofAll_8 : decode zc_M_ofAll 8 = .ok (.ifCond .lt 75, 3) := by decide +kernel
theorem zd_M_ofAll_11 : decode zc_M_ofAll 11 = .ok (.aload_n 0, 1) := by decide +kernel
theorem zd_M_ofAll_12 : decode zc_M_ofAll 12 = .ok (.getfield 11, 3) := by decide +kernel
theorem zd_M_ofAll_15 : decode zc_M_ofAll 15 = .ok (.iload_n 2, 1) := by decide +kernel
theorem zd_M_ofAll_16 : decode zc_M_ofAll 16 = .ok (.aaload, 1) := by decide +kernel
theorem zd_M_ofAll_17 : decode zc_M_ofAll 17 = .ok (.iload_n 2, 1) := by decide +kernel
theorem zd_M_ofAll_18 : decode zc_M_ofAll 18 = .ok (.iconst 0, 1) := by decide +kernel
theorem zd_M_ofAll_19 : decode zc_M_ofAll 19 = .ok (.iastore, 1) := by decide +kernel
theorem zd_M_ofAll_20 : decode zc_M_ofAll 20 = .ok (.aload_n 1, 1) := by decide +kernel
theorem zd_M_ofAll_21 : decode zc_M_ofAll 21 = .ok (.getfield 22, 3) := by decide +kernel
theorem zd_M_ofAll_24 : decode zc_M_ofAll 24 = .ok (.iload_n 2, 1) := by decide +kernel
theorem zd_M_ofAll_25 : decode zc_M_ofAll 25 = .ok (.iaload, 1) := by decide +kernel
theorem zd_M_ofAll_26 : decode zc_M_ofAll 26 = .ok (.istore_n 3, 1) := by decide +kernel
theorem zd_M_ofAll_27 : decode zc_M_ofAll 27 = .ok (.iload_n 2, 1) := by decide +kernel
theorem zd_M_ofAll_28 : decode zc_M_ofAll 28 = .ok (.iconst 1, 1) := by decide +kernel
theorem zd_M_ofAll_29 : decode zc_M_ofAll 29 = .ok (.iadd, 1) := by decide +kernel
theorem zd_M_ofAll_30 : decode zc_M_ofAll 30 = .ok (.istore 4, 2) := by decide +kernel
theorem zd_M_ofAll_32 : decode zc_M_ofAll 32 = .ok (.iload 4, 2) := by decide +kernel
theorem zd_M_ofAll_34 : decode zc_M_ofAll 34 = .ok (.aload_n 1, 1) := by decide +kernel
theorem zd_M_ofAll_35 : decode zc_M_ofAll 35 = .ok (.getfield 16, 3) := by decide +kernel
theorem zd_M_ofAll_38 : decode zc_M_ofAll 38 = .ok (.if_icmp .ge 39, 3) := by decide +kernel
theorem zd_M_ofAll_41 : decode zc_M_ofAll 41 = .ok (.iload_n 3, 1) := by decide +kernel
theorem zd_M_ofAll_42 : decode zc_M_ofAll 42 = .ok (.aload_n 1, 1) := by decide +kernel
theorem zd_M_ofAll_43 : decode zc_M_ofAll 43 = .ok (.getfield 22, 3) := by decide +kernel
theorem zd_M_ofAll_46 : decode zc_M_ofAll 46 = .ok (.iload 4, 2) := by decide +kernel
theorem zd_M_ofAll_48 : decode zc_M_ofAll 48 = .ok (.iaload, 1) := by decide +kernel
theorem zd_M_ofAll_49 : decode zc_M_ofAll 49 = .ok (.invokestatic 26, 3) := by decide +kernel
theorem zd_M_ofAll_52 : decode zc_M_ofAll 52 = .ok (.istore_n 3, 1) := by decide +kernel
theorem zd_M_ofAll_53 : decode zc_M_ofAll 53 = .ok (.aload_n 0, 1) := by decide +kernel
theorem zd_M_ofAll_54 : decode zc_M_ofAll 54 = .ok (.getfield 11, 3) := by decide +kernel
theorem zd_M_ofAll_57 : decode zc_M_ofAll 57 = .ok (.iload_n 2, 1) := by decide +kernel
theorem zd_M_ofAll_58 : decode zc_M_ofAll 58 = .ok (.aaload, 1) := by decide +kernel
theorem zd_M_ofAll_59 : decode zc_M_ofAll 59 = .ok (.iload 4, 2) := by decide +kernel
theorem zd_M_ofAll_61 : decode zc_M_ofAll 61 = .ok (.aload_n 0, 1) := by decide +kernel
theorem zd_M_ofAll_62 : decode zc_M_ofAll 62 = .ok (.aload_n 1, 1) := by decide +kernel
theorem zd_M_ofAll_63 : decode zc_M_ofAll 63 = .ok (.iload_n 2, 1) := by decide +kernel
theorem zd_M_ofAll_64 : decode zc_M_ofAll 64 = .ok (.iload 4, 2) := by decide +kernel
theorem zd_M_ofAll_66 : decode zc_M_ofAll 66 = .ok (.iload_n 3, 1) := by decide +kernel
theorem zd_M_ofAll_67 : decode zc_M_ofAll 67 = .ok (.invokevirtual 30, 3) := by decide +kernel
theorem zd_M_ofAll_70 : decode zc_M_ofAll 70 = .ok (.iastore, 1) := by decide +kernel
theorem zd_M_ofAll_71 : decode zc_M_ofAll 71 = .ok (.iinc 4 1, 3) := by decide +kernel
theorem zd_M_ofAll_74 : decode zc_M_ofAll 74 = .ok (.goto (-42), 3) := by decide +kernel
theorem zd_M_ofAll_77 : decode zc_M_ofAll 77 = .ok (.iinc 2 (-1), 3) := by decide +kernel
theorem zd_M_ofAll_80 : decode zc_M_ofAll 80 = .ok (.goto (-73), 3) := by decide +kernel
theorem zd_M_ofAll_83 : decode zc_M_ofAll 83 = .ok (.aload_n 0, 1) := by decide +kernel
theorem zd_M_ofAll_84 : decode zc_M_ofAll 84 = .ok (.getfield 11, 3) := by decide +kernel
theorem zd_M_ofAll_87 : decode zc_M_ofAll 87 = .ok (.iconst 0, 1) := by decide +kernel
theorem zd_M_ofAll_88 : decode zc_M_ofAll 88 = .ok (.aaload, 1) := by decide +kernel
theorem zd_M_ofAll_89 : decode zc_M_ofAll 89 = .ok (.aload_n 1, 1) := by decide +kernel
theorem zd_M_ofAll_90 : decode zc_M_ofAll 90 = .ok (.getfield 16, 3) := by decide +kernel
theorem zd_M_ofAll_93 : decode zc_M_ofAll 93 = .ok (.iconst 1, 1) := by decide +kernel
theorem zd_M_ofAll_94 : decode zc_M_ofAll 94 = .ok (.isub, 1) := by decide +kernel
theorem zd_M_ofAll_95 : decode zc_M_ofAll 95 = .ok (.iaload, 1) := by decide +kernel
theorem zd_M_ofAll_96 : decode zc_M_ofAll 96 = .ok (.ireturn, 1) := by decide +kernel
theorem zd_M_ofBestCut_0 : decode zc_M_ofBestCut 0 = .ok (.ldc 36, 2) := by decide +kernel
theorem zd_M_ofBestCut_2 : decode zc_M_ofBestCut 2 = .ok (.istore 5, 2) := by decide +kernel
theorem zd_M_ofBestCut_4 : decode zc_M_ofBestCut 4 = .ok (.iload_n 2, 1) := by decide +kernel
theorem zd_M_ofBestCut_5 : decode zc_M_ofBestCut 5 = .ok (.istore 6, 2) := by decide +kernel
theorem zd_M_ofBestCut_7 : decode zc_M_ofBestCut 7 = .ok (.iload 6, 2) := by decide +kernel
theorem zd_M_ofBestCut_9 : decode zc_M_ofBestCut 9 = .ok (.iload_n 3, 1) := by decide +kernel
theorem zd_M_ofBestCut_10 : decode zc_M_ofBestCut 10 = .ok (.if_icmp .ge 62, 3) := by decide +kernel
theorem zd_M_ofBestCut_13 : decode zc_M_ofBestCut 13 = .ok (.aload_n 1, 1) := by decide +kernel
theorem zd_M_ofBestCut_14 : decode zc_M_ofBestCut 14 = .ok (.getfield 22, 3) := by decide +kernel
theorem zd_M_ofBestCut_17 : decode zc_M_ofBestCut 17 = .ok (.iload 6, 2) := by decide +kernel
theorem zd_M_ofBestCut_19 : decode zc_M_ofBestCut 19 = .ok (.iaload, 1) := by decide +kernel
theorem zd_M_ofBestCut_20 : decode zc_M_ofBestCut 20 = .ok (.aload_n 1, 1) := by decide +kernel
theorem zd_M_ofBestCut_21 : decode zc_M_ofBestCut 21 = .ok (.getfield 37, 3) := by decide +kernel
theorem zd_M_ofBestCut_24 : decode zc_M_ofBestCut 24 = .ok (.iload 6, 2) := by decide +kernel
theorem zd_M_ofBestCut_26 : decode zc_M_ofBestCut 26 = .ok (.iaload, 1) := by decide +kernel
theorem zd_M_ofBestCut_27 : decode zc_M_ofBestCut 27 = .ok (.imul, 1) := by decide +kernel
theorem zd_M_ofBestCut_28 : decode zc_M_ofBestCut 28 = .ok (.iload 4, 2) := by decide +kernel
theorem zd_M_ofBestCut_30 : decode zc_M_ofBestCut 30 = .ok (.invokestatic 40, 3) := by decide +kernel
theorem zd_M_ofBestCut_33 : decode zc_M_ofBestCut 33 = .ok (.istore 7, 2) := by decide +kernel
theorem zd_M_ofBestCut_35 : decode zc_M_ofBestCut 35 = .ok (.iload 5, 2) := by decide +kernel
theorem zd_M_ofBestCut_37 : decode zc_M_ofBestCut 37 = .ok (.aload_n 0, 1) := by decide +kernel
theorem zd_M_ofBestCut_38 : decode zc_M_ofBestCut 38 = .ok (.getfield 11, 3) := by decide +kernel
theorem zd_M_ofBestCut_41 : decode zc_M_ofBestCut 41 = .ok (.iload_n 2, 1) := by decide +kernel
theorem zd_M_ofBestCut_42 : decode zc_M_ofBestCut 42 = .ok (.aaload, 1) := by decide +kernel
theorem zd_M_ofBestCut_43 : decode zc_M_ofBestCut 43 = .ok (.iload 6, 2) := by decide +kernel
theorem zd_M_ofBestCut_45 : decode zc_M_ofBestCut 45 = .ok (.iaload, 1) := by decide +kernel
theorem zd_M_ofBestCut_46 : decode zc_M_ofBestCut 46 = .ok (.aload_n 0, 1) := by decide +kernel
theorem zd_M_ofBestCut_47 : decode zc_M_ofBestCut 47 = .ok (.getfield 11, 3) := by decide +kernel
theorem zd_M_ofBestCut_50 : decode zc_M_ofBestCut 50 = .ok (.iload 6, 2) := by decide +kernel
theorem zd_M_ofBestCut_52 : decode zc_M_ofBestCut 52 = .ok (.iconst 1, 1) := by decide +kernel
theorem zd_M_ofBestCut_53 : decode zc_M_ofBestCut 53 = .ok (.iadd, 1) := by decide +kernel
theorem zd_M_ofBestCut_54 : decode zc_M_ofBestCut 54 = .ok (.aaload, 1) := by decide +kernel
theorem zd_M_ofBestCut_55 : decode zc_M_ofBestCut 55 = .ok (.iload_n 3, 1) := by decide +kernel
theorem zd_M_ofBestCut_56 : decode zc_M_ofBestCut 56 = .ok (.iaload, 1) := by decide +kernel
theorem zd_M_ofBestCut_57 : decode zc_M_ofBestCut 57 = .ok (.iadd, 1) := by decide +kernel
theorem zd_M_ofBestCut_58 : decode zc_M_ofBestCut 58 = .ok (.iload 7, 2) := by decide +kernel
theorem zd_M_ofBestCut_60 : decode zc_M_ofBestCut 60 = .ok (.iadd, 1) := by decide +kernel
theorem zd_M_ofBestCut_61 : decode zc_M_ofBestCut 61 = .ok (.invokestatic 43, 3) := by decide +kernel
theorem zd_M_ofBestCut_64 : decode zc_M_ofBestCut 64 = .ok (.istore 5, 2) := by decide +kernel
theorem zd_M_ofBestCut_66 : decode zc_M_ofBestCut 66 = .ok (.iinc 6 1, 3) := by decide +kernel
theorem zd_M_ofBestCut_69 : decode zc_M_ofBestCut 69 = .ok (.goto (-62), 3) := by decide +kernel
theorem zd_M_ofBestCut_72 : decode zc_M_ofBestCut 72 = .ok (.iload 5, 2) := by decide +kernel
theorem zd_M_ofBestCut_74 : decode zc_M_ofBestCut 74 = .ok (.ireturn, 1) := by decide +kernel
