theorem zd_X_isPlain_0 : decode zc_X_isPlain 0 = .ok (.aload_n 0, 1) := by decide +kernel
theorem zd_X_isPlain_1 : decode zc_X_isPlain 1 = .ok (.invokevirtual 138, 3) := by decide +kernel
theorem zd_X_isPlain_4 : decode zc_X_isPlain 4 = .ok (.aload_n 0, 1) := by decide +kernel
theorem zd_X_isPlain_5 : decode zc_X_isPlain 5 = .ok (.getfield 126, 3) := by decide +kernel
theorem zd_X_isPlain_8 : decode zc_X_isPlain 8 = .ok (.iconst (-1), 1) := by decide +kernel
theorem zd_X_isPlain_9 : decode zc_X_isPlain 9 = .ok (.if_icmp .ne 14, 3) := by decide +kernel
theorem zd_X_isPlain_12 : decode zc_X_isPlain 12 = .ok (.aload_n 0, 1) := by decide +kernel
theorem zd_X_isPlain_13 : decode zc_X_isPlain 13 = .ok (.getfield 108, 3) := by decide +kernel
theorem zd_X_isPlain_16 : decode zc_X_isPlain 16 = .ok (.ifCond .ne 7, 3) := by decide +kernel
theorem zd_X_isPlain_19 : decode zc_X_isPlain 19 = .ok (.iconst 1, 1) := by decide +kernel
theorem zd_X_isPlain_20 : decode zc_X_isPlain 20 = .ok (.goto 4, 3) := by decide +kernel
theorem zd_X_isPlain_23 : decode zc_X_isPlain 23 = .ok (.iconst 0, 1) := by decide +kernel
theorem zd_X_isPlain_24 : decode zc_X_isPlain 24 = .ok (.ireturn, 1) := by decide +kernel
theorem zd_X_uneven_0 : decode zc_X_uneven 0 = .ok (.aload_n 0, 1) := by decide +kernel
theorem zd_X_uneven_1 : decode zc_X_uneven 1 = .ok (.iconst 0, 1) := by decide +kernel
theorem zd_X_uneven_2 : decode zc_X_uneven 2 = .ok (.putfield 82, 3) := by decide +kernel
theorem zd_X_uneven_5 : decode zc_X_uneven 5 = .ok (.aload_n 0, 1) := by decide +kernel
theorem zd_X_uneven_6 : decode zc_X_uneven 6 = .ok (.invokevirtual 138, 3) := by decide +kernel
theorem zd_X_uneven_9 : decode zc_X_uneven 9 = .ok (.aload_n 0, 1) := by decide +kernel
theorem zd_X_uneven_10 : decode zc_X_uneven 10 = .ok (.getfield 126, 3) := by decide +kernel
theorem zd_X_uneven_13 : decode zc_X_uneven 13 = .ok (.ireturn, 1) := by decide +kernel
theorem zd_X_count_0 : decode zc_X_count 0 = .ok (.aload_n 0, 1) := by decide +kernel
theorem zd_X_count_1 : decode zc_X_count 1 = .ok (.iconst 0, 1) := by decide +kernel
theorem zd_X_count_2 : decode zc_X_count 2 = .ok (.putfield 82, 3) := by decide +kernel
theorem zd_X_count_5 : decode zc_X_count 5 = .ok (.iload_n 1, 1) := by decide +kernel
theorem zd_X_count_6 : decode zc_X_count 6 = .ok (.iconst 0, 1) := by decide +kernel
theorem zd_X_count_7 : decode zc_X_count 7 = .ok (.aload_n 0, 1) := by decide +kernel
theorem zd_X_count_8 : decode zc_X_count 8 = .ok (.getfield 7, 3) := by decide +kernel
theorem zd_X_count_11 : decode zc_X_count 11 = .ok (.iconst 1, 1) := by decide +kernel
theorem zd_X_count_12 : decode zc_X_count 12 = .ok (.isub, 1) := by decide +kernel
theorem zd_X_count_13 : decode zc_X_count 13 = .ok (.invokestatic 85, 3) := by decide +kernel
theorem zd_X_count_16 : decode zc_X_count 16 = .ok (.ifCond .ne 5, 3) := by decide +kernel
theorem zd_X_count_19 : decode zc_X_count 19 = .ok (.iconst (-1), 1) := by decide +kernel
theorem zd_X_count_20 : decode zc_X_count 20 = .ok (.ireturn, 1) := by decide +kernel
theorem zd_X_count_21 : decode zc_X_count 21 = .ok (.aload_n 0, 1) := by decide +kernel
theorem zd_X_count_22 : decode zc_X_count 22 = .ok (.invokevirtual 138, 3) := by decide +kernel
theorem zd_X_count_25 : decode zc_X_count 25 = .ok (.aload_n 0, 1) := by decide +kernel
theorem zd_X_count_26 : decode zc_X_count 26 = .ok (.getfield 126, 3) := by decide +kernel
theorem zd_X_count_29 : decode zc_X_count 29 = .ok (.iconst (-1), 1) := by decide +kernel
theorem zd_X_count_30 : decode zc_X_count 30 = .ok (.if_icmp .eq 9, 3) := by decide +kernel
theorem zd_X_count_33 : decode zc_X_count 33 = .ok (.aload_n 0, 1) := by decide +kernel
theorem zd_X_count_34 : decode zc_X_count 34 = .ok (.iconst 1, 1) := by decide +kernel
theorem zd_X_count_35 : decode zc_X_count 35 = .ok (.invokevirtual 141, 3) := by decide +kernel
theorem zd_X_count_38 : decode zc_X_count 38 = .ok (.ireturn, 1) := by decide +kernel
theorem zd_X_count_39 : decode zc_X_count 39 = .ok (.aload_n 0, 1) := by decide +kernel
theorem zd_X_count_40 : decode zc_X_count 40 = .ok (.getfield 108, 3) := by decide +kernel
theorem zd_X_count_43 : decode zc_X_count 43 = .ok (.ifCond .eq 11, 3) := by decide +kernel
theorem zd_X_count_46 : decode zc_X_count 46 = .ok (.aload_n 0, 1) := by decide +kernel
theorem zd_X_count_47 : decode zc_X_count 47 = .ok (.iconst 2, 1) := by decide +kernel
theorem zd_X_count_48 : decode zc_X_count 48 = .ok (.invokevirtual 141, 3) := by decide +kernel
theorem zd_X_count_51 : decode zc_X_count 51 = .ok (.goto 9, 3) := by decide +kernel
theorem zd_X_count_54 : decode zc_X_count 54 = .ok (.aload_n 0, 1) := by decide +kernel
theorem zd_X_count_55 : decode zc_X_count 55 = .ok (.getfield 42, 3) := by decide +kernel
theorem zd_X_count_58 : decode zc_X_count 58 = .ok (.iload_n 1, 1) := by decide +kernel
theorem zd_X_count_59 : decode zc_X_count 59 = .ok (.iaload, 1) := by decide +kernel
theorem zd_X_count_60 : decode zc_X_count 60 = .ok (.ireturn, 1) := by decide +kernel
theorem zd_X_order_0 : decode zc_X_order 0 = .ok (.aload_n 0, 1) := by decide +kernel
theorem zd_X_order_1 : decode zc_X_order 1 = .ok (.aload_n 0, 1) := by decide +kernel
theorem zd_X_order_2 : decode zc_X_order 2 = .ok (.invokevirtual 144, 3) := by decide +kernel
theorem zd_X_order_5 : decode zc_X_order 5 = .ok (.ifCond .eq 21, 3) := by decide +kernel
theorem zd_X_order_8 : decode zc_X_order 8 = .ok (.iload_n 1, 1) := by decide +kernel
theorem zd_X_order_9 : decode zc_X_order 9 = .ok (.iconst 0, 1) := by decide +kernel
theorem zd_X_order_10 : decode zc_X_order 10 = .ok (.aload_n 0, 1) := by decide +kernel
theorem zd_X_order_11 : decode zc_X_order 11 = .ok (.getfield 120, 3) := by decide +kernel
theorem zd_X_order_14 : decode zc_X_order 14 = .ok (.iconst 1, 1) := by decide +kernel
theorem zd_X_order_15 : decode zc_X_order 15 = .ok (.isub, 1) := by decide +kernel
theorem zd_X_order_16 : decode zc_X_order 16 = .ok (.invokestatic 85, 3) := by decide +kernel
theorem zd_X_order_19 : decode zc_X_order 19 = .ok (.ifCond .eq 7, 3) := by decide +kernel
theorem zd_X_order_22 : decode zc_X_order 22 = .ok (.iconst 0, 1) := by decide +kernel
theorem zd_X_order_23 : decode zc_X_order 23 = .ok (.goto 4, 3) := by decide +kernel
theorem zd_X_order_26 : decode zc_X_order 26 = .ok (.iconst 1, 1) := by decide +kernel
theorem zd_X_order_27 : decode zc_X_order 27 = .ok (.putfield 82, 3) := by decide +kernel
theorem zd_X_order_30 : decode zc_X_order 30 = .ok (.aload_n 0, 1) := by decide +kernel
theorem zd_X_order_31 : decode zc_X_order 31 = .ok (.getfield 82, 3) := by decide +kernel
theorem zd_X_order_34 : decode zc_X_order 34 = .ok (.ifCond .ne 12, 3) := by decide +kernel
theorem zd_X_order_37 : decode zc_X_order 37 = .ok (.aload_n 0, 1) := by decide +kernel
theorem zd_X_order_38 : decode zc_X_order 38 = .ok (.getfield 54, 3) := by decide +kernel
theorem zd_X_order_41 : decode zc_X_order 41 = .ok (.iload_n 1, 1) := by decide +kernel
theorem zd_X_order_42 : decode zc_X_order 42 = .ok (.iaload, 1) := by decide +kernel
theorem zd_X_order_43 : decode zc_X_order 43 = .ok (.goto 4, 3) := by decide +kernel
theorem zd_X_order_46 : decode zc_X_order 46 = .ok (.iconst 0, 1) := by decide +kernel
theorem zd_X_order_47 : decode zc_X_order 47 = .ok (.ireturn, 1) := by decide +kernel
theorem zd_X_left_0 : decode zc_X_left 0 = .ok (.aload_n 0, 1) := by decide +kernel
theorem zd_X_left_1 : decode zc_X_left 1 = .ok (.iconst 0, 1) := by decide +kernel
theorem zd_X_left_2 : decode zc_X_left 2 = .ok (.putfield 82, 3) := by decide +kernel
theorem zd_X_left_5 : decode zc_X_left 5 = .ok (.iload_n 1, 1) := by decide +kernel
theorem zd_X_left_6 : decode zc_X_left 6 = .ok (.iconst 0, 1) := by decide +kernel
theorem zd_X_left_7 : decode zc_X_left 7 = .ok (.aload_n 0, 1) := by decide +kernel
theorem zd_X_left_8 : decode zc_X_left 8 = .ok (.getfield 7, 3) := by decide +kernel
theorem zd_X_left_11 : decode zc_X_left 11 = .ok (.iconst 1, 1) := by decide +kernel
theorem zd_X_left_12 : decode zc_X_left 12 = .ok (.isub, 1) := by decide +kernel
theorem zd_X_left_13 : decode zc_X_left 13 = .ok (.invokestatic 85, 3) := by decide +kernel
theorem zd_X_left_16 : decode zc_X_left 16 = .ok (.ifCond .eq 19, 3) := by decide +kernel
theorem zd_X_left_19 : decode zc_X_left 19 = .ok (.aload_n 0, 1) := by decide +kernel
theorem zd_X_left_20 : decode zc_X_left 20 = .ok (.invokevirtual 144, 3) := by decide +kernel
theorem zd_X_left_23 : decode zc_X_left 23 = .ok (.ifCond .eq 12, 3) := by decide +kernel
theorem zd_X_left_26 : decode zc_X_left 26 = .ok (.aload_n 0, 1) := by decide +kernel
theorem zd_X_left_27 : decode zc_X_left 27 = .ok (.getfield 45, 3) := by decide +kernel
theorem zd_X_left_30 : decode zc_X_left 30 = .ok (.iload_n 1, 1) := by decide +kernel
theorem zd_X_left_31 : decode zc_X_left 31 = .ok (.iaload, 1) := by decide +kernel
theorem zd_X_left_32 : decode zc_X_left 32 = .ok (.goto 4, 3) := by decide +kernel
theorem zd_X_left_35 : decode zc_X_left 35 = .ok (.iconst (-1), 1) := by decide +kernel
theorem zd_X_left_36 : decode zc_X_left 36 = .ok (.ireturn, 1) := by decide +kernel
theorem zd_X_peak_0 : decode zc_X_peak 0 = .ok (.aload_n 0, 1) := by decide +kernel
theorem zd_X_peak_1 : decode zc_X_peak 1 = .ok (.iconst 0, 1) := by decide +kernel
theorem zd_X_peak_2 : decode zc_X_peak 2 = .ok (.putfield 82, 3) := by decide +kernel
theorem zd_X_peak_5 : decode zc_X_peak 5 = .ok (.iload_n 1, 1) := by decide +kernel
theorem zd_X_peak_6 : decode zc_X_peak 6 = .ok (.iconst 0, 1) := by decide +kernel
theorem zd_X_peak_7 : decode zc_X_peak 7 = .ok (.aload_n 0, 1) := by decide +kernel
theorem zd_X_peak_8 : decode zc_X_peak 8 = .ok (.getfield 89, 3) := by decide +kernel
theorem zd_X_peak_11 : decode zc_X_peak 11 = .ok (.iconst 1, 1) := by decide +kernel
theorem zd_X_peak_12 : decode zc_X_peak 12 = .ok (.isub, 1) := by decide +kernel
theorem zd_X_peak_13 : decode zc_X_peak 13 = .ok (.invokestatic 85, 3) := by decide +kernel
theorem zd_X_peak_16 : decode zc_X_peak 16 = .ok (.ifCond .eq 19, 3) := by decide +kernel
theorem zd_X_peak_19 : decode zc_X_peak 19 = .ok (.aload_n 0, 1) := by decide +kernel
theorem zd_X_peak_20 : decode zc_X_peak 20 = .ok (.invokevirtual 144, 3) := by decide +kernel
theorem zd_X_peak_23 : decode zc_X_peak 23 = .ok (.ifCond .eq 12, 3) := by decide +kernel
theorem zd_X_peak_26 : decode zc_X_peak 26 = .ok (.aload_n 0, 1) := by decide +kernel
theorem zd_X_peak_27 : decode zc_X_peak 27 = .ok (.getfield 51, 3) := by decide +kernel
theorem zd_X_peak_30 : decode zc_X_peak 30 = .ok (.iload_n 1, 1) := by decide +kernel
theorem zd_X_peak_31 : decode zc_X_peak 31 = .ok (.iaload, 1) := by decide +kernel
theorem zd_X_peak_32 : decode zc_X_peak 32 = .ok (.goto 4, 3) := by decide +kernel
theorem zd_X_peak_35 : decode zc_X_peak 35 = .ok (.iconst (-1), 1) := by decide +kernel
theorem zd_X_peak_36 : decode zc_X_peak 36 = .ok (.ireturn, 1) := by decide +kernel
theorem zd_X_comesToAll_0 : decode zc_X_comesToAll 0 = .ok (.iconst 0, 1) := by decide +kernel
theorem zd_X_comesToAll_1 : decode zc_X_comesToAll 1 = .ok (.istore_n 3, 1) := by decide +kernel
theorem zd_X_comesToAll_2 : decode zc_X_comesToAll 2 = .ok (.iload_n 3, 1) := by decide +kernel
theorem zd_X_comesToAll_3 : decode zc_X_comesToAll 3 = .ok (.aload_n 0, 1) := by decide +kernel
theorem zd_X_comesToAll_4 : decode zc_X_comesToAll 4 = .ok (.getfield 7, 3) := by decide +kernel
theorem zd_X_comesToAll_7 : decode zc_X_comesToAll 7 = .ok (.if_icmp .ge 25, 3) := by decide +kernel
theorem zd_X_comesToAll_10 : decode zc_X_comesToAll 10 = .ok (.aload_n 0, 1) := by decide +kernel
theorem zd_X_comesToAll_11 : decode zc_X_comesToAll 11 = .ok (.getfield 57, 3) := by decide +kernel
theorem zd_X_comesToAll_14 : decode zc_X_comesToAll 14 = .ok (.iload_n 3, 1) := by decide +kernel
theorem zd_X_comesToAll_15 : decode zc_X_comesToAll 15 = .ok (.iload_n 3, 1) := by decide +kernel
theorem zd_X_comesToAll_16 : decode zc_X_comesToAll 16 = .ok (.iload_n 1, 1) := by decide +kernel
theorem zd_X_comesToAll_17 : decode zc_X_comesToAll 17 = .ok (.if_icmp .ne 7, 3) := by decide +kernel
theorem zd_X_comesToAll_20 : decode zc_X_comesToAll 20 = .ok (.iconst 1, 1) := by decide +kernel
theorem zd_X_comesToAll_21 : decode zc_X_comesToAll 21 = .ok (.goto 4, 3) := by decide +kernel
theorem zd_X_comesToAll_24 : decode zc_X_comesToAll 24 = .ok (.iconst 0, 1) := by decide +kernel
theorem zd_X_comesToAll_25 : decode zc_X_comesToAll 25 = .ok (.bastore, 1) := by decide +kernel
theorem zd_X_comesToAll_26 : decode zc_X_comesToAll 26 = .ok (.iinc 3 1, 3) := by decide +kernel
theorem zd_X_comesToAll_29 : decode zc_X_comesToAll 29 = .ok (.goto (-27), 3) := by decide +kernel
theorem zd_X_comesToAll_32 : decode zc_X_comesToAll 32 = .ok (.iconst 1, 1) := by decide +kernel
theorem zd_X_comesToAll_33 : decode zc_X_comesToAll 33 = .ok (.istore_n 3, 1) := by decide +kernel
theorem zd_X_comesToAll_34 : decode zc_X_comesToAll 34 = .ok (.iload_n 3, 1) := by decide +kernel
theorem zd_X_comesToAll_35 : decode zc_X_comesToAll 35 = .ok (.ifCond .eq 105, 3) := by decide +kernel
theorem zd_X_comesToAll_38 : decode zc_X_comesToAll 38 = .ok (.iconst 0, 1) := by decide +kernel
theorem zd_X_comesToAll_39 : decode zc_X_comesToAll 39 = .ok (.istore_n 3, 1) := by decide +kernel
theorem zd_X_comesToAll_40 : decode zc_X_comesToAll 40 = .ok (.iconst 0, 1) := by decide +kernel
theorem zd_X_comesToAll_41 : decode zc_X_comesToAll 41 = .ok (.istore 4, 2) := by decide +kernel
theorem zd_X_comesToAll_43 : decode zc_X_comesToAll 43 = .ok (.iload 4, 2) := by decide +kernel
theorem zd_X_comesToAll_45 : decode zc_X_comesToAll 45 = .ok (.aload_n 0, 1) := by decide +kernel
theorem zd_X_comesToAll_46 : decode zc_X_comesToAll 46 = .ok (.getfield 89, 3) := by decide +kernel
theorem zd_X_comesToAll_49 : decode zc_X_comesToAll 49 = .ok (.if_icmp .ge 88, 3) := by decide +kernel
theorem zd_X_comesToAll_52 : decode zc_X_comesToAll 52 = .ok (.iload_n 2, 1) := by decide +kernel
theorem zd_X_comesToAll_53 : decode zc_X_comesToAll 53 = .ok (.ifCond .eq 13, 3) := by decide +kernel
theorem zd_X_comesToAll_56 : decode zc_X_comesToAll 56 = .ok (.aload_n 0, 1) := by decide +kernel
theorem zd_X_comesToAll_57 : decode zc_X_comesToAll 57 = .ok (.getfield 20, 3) := by decide +kernel
theorem zd_X_comesToAll_60 : decode zc_X_comesToAll 60 = .ok (.iload 4, 2) := by decide +kernel
theorem zd_X_comesToAll_62 : decode zc_X_comesToAll 62 = .ok (.iaload, 1) := by decide +kernel
theorem zd_X_comesToAll_63 : decode zc_X_comesToAll 63 = .ok (.goto 10, 3) := by decide +kernel
theorem zd_X_comesToAll_66 : decode zc_X_comesToAll 66 = .ok (.aload_n 0, 1) := by decide +kernel
theorem zd_X_comesToAll_67 : decode zc_X_comesToAll 67 = .ok (.getfield 17, 3) := by decide +kernel
theorem zd_X_comesToAll_70 : decode zc_X_comesToAll 70 = .ok (.iload 4, 2) := by decide +kernel
theorem zd_X_comesToAll_72 : decode zc_X_comesToAll 72 = .ok (.iaload, 1) := by decide +kernel
theorem zd_X_comesToAll_73 : decode zc_X_comesToAll 73 = .ok (.istore 5, 2) := by decide +kernel
theorem zd_X_comesToAll_75 : decode zc_X_comesToAll 75 = .ok (.iload_n 2, 1) := by decide +kernel
theorem zd_X_comesToAll_76 : decode zc_X_comesToAll 76 = .ok (.ifCond .eq 13, 3) := by decide +kernel
theorem zd_X_comesToAll_79 : decode zc_X_comesToAll 79 = .ok (.aload_n 0, 1) := by decide +kernel
theorem zd_X_comesToAll_80 : decode zc_X_comesToAll 80 = .ok (.getfield 17, 3) := by decide +kernel
theorem zd_X_comesToAll_83 : decode zc_X_comesToAll 83 = .ok (.iload 4, 2) := by decide +kernel
theorem zd_X_comesToAll_85 : decode zc_X_comesToAll 85 = .ok (.iaload, 1) := by decide +kernel
theorem zd_X_comesToAll_86 : decode zc_X_comesToAll 86 = .ok (.goto 10, 3) := by decide +kernel
theorem zd_X_comesToAll_89 : decode zc_X_comesToAll 89 = .ok (.aload_n 0, 1) := by decide +kernel
theorem zd_X_comesToAll_90 : decode zc_X_comesToAll 90 = .ok (.getfield 20, 3) := by decide +kernel
theorem zd_X_comesToAll_93 : decode zc_X_comesToAll 93 = .ok (.iload 4, 2) := by decide +kernel
theorem zd_X_comesToAll_95 : decode zc_X_comesToAll 95 = .ok (.iaload, 1) := by decide +kernel
theorem zd_X_comesToAll_96 : decode zc_X_comesToAll 96 = .ok (.istore 6, 2) := by decide +kernel
theorem zd_X_comesToAll_98 : decode zc_X_comesToAll 98 = .ok (.aload_n 0, 1) := by decide +kernel
theorem zd_X_comesToAll_99 : decode zc_X_comesToAll 99 = .ok (.getfield 57, 3) := by decide +kernel
theorem zd_X_comesToAll_102 : decode zc_X_comesToAll 102 = .ok (.iload 5, 2) := by decide +kernel
theorem zd_X_comesToAll_104 : decode zc_X_comesToAll 104 = .ok (.baload, 1) := by decide +kernel
theorem zd_X_comesToAll_105 : decode zc_X_comesToAll 105 = .ok (.ifCond .eq 26, 3) := by decide +kernel
theorem zd_X_comesToAll_108 : decode zc_X_comesToAll 108 = .ok (.aload_n 0, 1) := by decide +kernel
theorem zd_X_comesToAll_109 : decode zc_X_comesToAll 109 = .ok (.getfield 57, 3) := by decide +kernel
theorem zd_X_comesToAll_112 : decode zc_X_comesToAll 112 = .ok (.iload 6, 2) := by decide +kernel
theorem zd_X_comesToAll_114 : decode zc_X_comesToAll 114 = .ok (.baload, 1) := by decide +kernel
theorem zd_X_comesToAll_115 : decode zc_X_comesToAll 115 = .ok (.ifCond .eq 6, 3) := by decide +kernel
theorem zd_X_comesToAll_118 : decode zc_X_comesToAll 118 = .ok (.goto 13, 3) := by decide +kernel
theorem zd_X_comesToAll_121 : decode zc_X_comesToAll 121 = .ok (.aload_n 0, 1) := by decide +kernel
theorem zd_X_comesToAll_122 : decode zc_X_comesToAll 122 = .ok (.getfield 57, 3) := by decide +kernel
theorem zd_X_comesToAll_125 : decode zc_X_comesToAll 125 = .ok (.iload 6, 2) := by decide +kernel
theorem zd_X_comesToAll_127 : decode zc_X_comesToAll 127 = .ok (.iconst 1, 1) := by decide +kernel
theorem zd_X_comesToAll_128 : decode zc_X_comesToAll 128 = .ok (.bastore, 1) := by decide +kernel
theorem zd_X_comesToAll_129 : decode zc_X_comesToAll 129 = .ok (.iconst 1, 1) := by decide +kernel
theorem zd_X_comesToAll_130 : decode zc_X_comesToAll 130 = .ok (.istore_n 3, 1) := by decide +kernel
theorem zd_X_comesToAll_131 : decode zc_X_comesToAll 131 = .ok (.iinc 4 1, 3) := by decide +kernel
theorem zd_X_comesToAll_134 : decode zc_X_comesToAll 134 = .ok (.goto (-91), 3) := by decide +kernel
theorem zd_X_comesToAll_137 : decode zc_X_comesToAll 137 = .ok (.goto (-103), 3) := by decide +kernel
theorem zd_X_comesToAll_140 : decode zc_X_comesToAll 140 = .ok (.iconst 0, 1) := by decide +kernel
theorem zd_X_comesToAll_141 : decode zc_X_comesToAll 141 = .ok (.istore 4, 2) := by decide +kernel
theorem zd_X_comesToAll_143 : decode zc_X_comesToAll 143 = .ok (.iload 4, 2) := by decide +kernel
theorem zd_X_comesToAll_145 : decode zc_X_comesToAll 145 = .ok (.aload_n 0, 1) := by decide +kernel
theorem zd_X_comesToAll_146 : decode zc_X_comesToAll 146 = .ok (.getfield 7, 3) := by decide +kernel
theorem zd_X_comesToAll_149 : decode zc_X_comesToAll 149 = .ok (.if_icmp .ge 37, 3) := by decide +kernel
theorem zd_X_comesToAll_152 : decode zc_X_comesToAll 152 = .ok (.aload_n 0, 1) := by decide +kernel
theorem zd_X_comesToAll_153 : decode zc_X_comesToAll 153 = .ok (.getfield 32, 3) := by decide +kernel
theorem zd_X_comesToAll_156 : decode zc_X_comesToAll 156 = .ok (.iload 4, 2) := by decide +kernel
theorem zd_X_comesToAll_158 : decode zc_X_comesToAll 158 = .ok (.iaload, 1) := by decide +kernel
theorem zd_X_comesToAll_159 : decode zc_X_comesToAll 159 = .ok (.aload_n 0, 1) := by decide +kernel
theorem zd_X_comesToAll_160 : decode zc_X_comesToAll 160 = .ok (.getfield 32, 3) := by decide +kernel
theorem zd_X_comesToAll_163 : decode zc_X_comesToAll 163 = .ok (.iload_n 1, 1) := by decide +kernel
theorem zd_X_comesToAll_164 : decode zc_X_comesToAll 164 = .ok (.iaload, 1) := by decide +kernel
theorem zd_X_comesToAll_165 : decode zc_X_comesToAll 165 = .ok (.if_icmp .ne 15, 3) := by decide +kernel
theorem zd_X_comesToAll_168 : decode zc_X_comesToAll 168 = .ok (.aload_n 0, 1) := by decide +kernel
theorem zd_X_comesToAll_169 : decode zc_X_comesToAll 169 = .ok (.getfield 57, 3) := by decide +kernel
theorem zd_X_comesToAll_172 : decode zc_X_comesToAll 172 = .ok (.iload 4, 2) := by decide +kernel
theorem zd_X_comesToAll_174 : decode zc_X_comesToAll 174 = .ok (.baload, 1) := by decide +kernel
theorem zd_X_comesToAll_175 : decode zc_X_comesToAll 175 = .ok (.ifCond .ne 5, 3) := by decide +kernel
theorem zd_X_comesToAll_178 : decode zc_X_comesToAll 178 = .ok (.iconst 0, 1) := by decide +kernel
theorem zd_X_comesToAll_179 : decode zc_X_comesToAll 179 = .ok (.ireturn, 1) := by decide +kernel
theorem zd_X_comesToAll_180 : decode zc_X_comesToAll 180 = .ok (.iinc 4 1, 3) := by decide +kernel
theorem zd_X_comesToAll_183 : decode zc_X_comesToAll 183 = .ok (.goto (-40), 3) := by decide +kernel
theorem zd_X_comesToAll_186 : decode zc_X_comesToAll 186 = .ok (.iconst 1, 1) := by decide +kernel
theorem zd_X_comesToAll_187 : decode zc_X_comesToAll 187 = .ok (.ireturn, 1) := by decide +kernel
theorem zd_X_edge_0 : decode zc_X_edge 0 = .ok (.aload_n 0, 1) := by decide +kernel
theorem zd_X_edge_1 : decode zc_X_edge 1 = .ok (.getfield 64, 3) := by decide +kernel
theorem zd_X_edge_4 : decode zc_X_edge 4 = .ok (.aload_n 0, 1) := by decide +kernel
theorem zd_X_edge_5 : decode zc_X_edge 5 = .ok (.getfield 148, 3) := by decide +kernel
theorem zd_X_edge_8 : decode zc_X_edge 8 = .ok (.iload_n 1, 1) := by decide +kernel
theorem zd_X_edge_9 : decode zc_X_edge 9 = .ok (.iastore, 1) := by decide +kernel
theorem zd_X_edge_10 : decode zc_X_edge 10 = .ok (.aload_n 0, 1) := by decide +kernel
theorem zd_X_edge_11 : decode zc_X_edge 11 = .ok (.getfield 67, 3) := by decide +kernel
theorem zd_X_edge_14 : decode zc_X_edge 14 = .ok (.aload_n 0, 1) := by decide +kernel
theorem zd_X_edge_15 : decode zc_X_edge 15 = .ok (.getfield 148, 3) := by decide +kernel
theorem zd_X_edge_18 : decode zc_X_edge 18 = .ok (.iload_n 2, 1) := by decide +kernel
theorem zd_X_edge_19 : decode zc_X_edge 19 = .ok (.iastore, 1) := by decide +kernel
theorem zd_X_edge_20 : decode zc_X_edge 20 = .ok (.aload_n 0, 1) := by decide +kernel
theorem zd_X_edge_21 : decode zc_X_edge 21 = .ok (.getfield 70, 3) := by decide +kernel
theorem zd_X_edge_24 : decode zc_X_edge 24 = .ok (.aload_n 0, 1) := by decide +kernel
theorem zd_X_edge_25 : decode zc_X_edge 25 = .ok (.getfield 148, 3) := by decide +kernel
theorem zd_X_edge_28 : decode zc_X_edge 28 = .ok (.iload_n 3, 1) := by decide +kernel
theorem zd_X_edge_29 : decode zc_X_edge 29 = .ok (.iastore, 1) := by decide +kernel
theorem zd_X_edge_30 : decode zc_X_edge 30 = .ok (.aload_n 0, 1) := by decide +kernel
theorem zd_X_edge_31 : decode zc_X_edge 31 = .ok (.getfield 73, 3) := by decide +kernel
theorem zd_X_edge_34 : decode zc_X_edge 34 = .ok (.aload_n 0, 1) := by decide +kernel
theorem zd_X_edge_35 : decode zc_X_edge 35 = .ok (.getfield 148, 3) := by decide +kernel
theorem zd_X_edge_38 : decode zc_X_edge 38 = .ok (.iload 4, 2) := by decide +kernel
theorem zd_X_edge_40 : decode zc_X_edge 40 = .ok (.iastore, 1) := by decide +kernel
theorem zd_X_edge_41 : decode zc_X_edge 41 = .ok (.aload_n 0, 1) := by decide +kernel
theorem zd_X_edge_42 : decode zc_X_edge 42 = .ok (.dup, 1) := by decide +kernel
theorem zd_X_edge_43 : decode zc_X_edge 43 = .ok (.getfield 148, 3) := by decide +kernel
theorem zd_X_edge_46 : decode zc_X_edge 46 = .ok (.iconst 1, 1) := by decide +kernel
theorem zd_X_edge_47 : decode zc_X_edge 47 = .ok (.iadd, 1) := by decide +kernel
theorem zd_X_edge_48 : decode zc_X_edge 48 = .ok (.putfield 148, 3) := by decide +kernel
theorem zd_X_edge_51 : decode zc_X_edge 51 = .ok (.return_, 1) := by decide +kernel
theorem zd_X_down_0 : decode zc_X_down 0 = .ok (.iload_n 0, 1) := by decide +kernel
theorem zd_X_down_1 : decode zc_X_down 1 = .ok (.ifCond .lt 9, 3) := by decide +kernel
theorem zd_X_down_4 : decode zc_X_down 4 = .ok (.iload_n 0, 1) := by decide +kernel
theorem zd_X_down_5 : decode zc_X_down 5 = .ok (.iload_n 1, 1) := by decide +kernel
theorem zd_X_down_6 : decode zc_X_down 6 = .ok (.idiv, 1) := by decide +kernel
theorem zd_X_down_7 : decode zc_X_down 7 = .ok (.goto 11, 3) := by decide +kernel
theorem zd_X_down_10 : decode zc_X_down 10 = .ok (.iload_n 1, 1) := by decide +kernel
theorem zd_X_down_11 : decode zc_X_down 11 = .ok (.iconst 1, 1) := by decide +kernel
theorem zd_X_down_12 : decode zc_X_down 12 = .ok (.isub, 1) := by decide +kernel
theorem zd_X_down_13 : decode zc_X_down 13 = .ok (.iload_n 0, 1) := by decide +kernel
theorem zd_X_down_14 : decode zc_X_down 14 = .ok (.isub, 1) := by decide +kernel
theorem zd_X_down_15 : decode zc_X_down 15 = .ok (.iload_n 1, 1) := by decide +kernel
theorem zd_X_down_16 : decode zc_X_down 16 = .ok (.idiv, 1) := by decide +kernel
theorem zd_X_down_17 : decode zc_X_down 17 = .ok (.ineg, 1) := by decide +kernel
theorem zd_X_down_18 : decode zc_X_down 18 = .ok (.ireturn, 1) := by decide +kernel
theorem zd_X_build_0 : decode zc_X_build 0 = .ok (.aload_n 0, 1) := by decide +kernel
theorem zd_X_build_1 : decode zc_X_build 1 = .ok (.iconst 0, 1) := by decide +kernel
theorem zd_X_build_2 : decode zc_X_build 2 = .ok (.putfield 151, 3) := by decide +kernel
theorem zd_X_build_5 : decode zc_X_build 5 = .ok (.aload_n 0, 1) := by decide +kernel
theorem zd_X_build_6 : decode zc_X_build 6 = .ok (.iconst 0, 1) := by decide +kernel
theorem zd_X_build_7 : decode zc_X_build 7 = .ok (.putfield 148, 3) := by decide +kernel
theorem zd_X_build_10 : decode zc_X_build 10 = .ok (.iconst 0, 1) := by decide +kernel
theorem zd_X_build_11 : decode zc_X_build 11 = .ok (.istore_n 2, 1) := by decide +kernel
theorem zd_X_build_12 : decode zc_X_build 12 = .ok (.iload_n 2, 1) := by decide +kernel
theorem zd_X_build_13 : decode zc_X_build 13 = .ok (.aload_n 0, 1) := by decide +kernel
theorem zd_X_build_14 : decode zc_X_build 14 = .ok (.getfield 7, 3) := by decide +kernel
theorem zd_X_build_17 : decode zc_X_build 17 = .ok (.if_icmp .ge 117, 3) := by decide +kernel
theorem zd_X_build_20 : decode zc_X_build 20 = .ok (.aload_n 0, 1) := by decide +kernel
theorem zd_X_build_21 : decode zc_X_build 21 = .ok (.getfield 32, 3) := by decide +kernel
theorem zd_X_build_24 : decode zc_X_build 24 = .ok (.iload_n 2, 1) := by decide +kernel
theorem zd_X_build_25 : decode zc_X_build 25 = .ok (.iaload, 1) := by decide +kernel
theorem zd_X_build_26 : decode zc_X_build 26 = .ok (.iload_n 1, 1) := by decide +kernel
theorem zd_X_build_27 : decode zc_X_build 27 = .ok (.if_icmp .eq 6, 3) := by decide +kernel
theorem zd_X_build_30 : decode zc_X_build 30 = .ok (.goto 98, 3) := by decide +kernel
theorem zd_X_build_33 : decode zc_X_build 33 = .ok (.aload_n 0, 1) := by decide +kernel
theorem zd_X_build_34 : decode zc_X_build 34 = .ok (.getfield 61, 3) := by decide +kernel
theorem zd_X_build_37 : decode zc_X_build 37 = .ok (.iload_n 2, 1) := by decide +kernel
theorem zd_X_build_38 : decode zc_X_build 38 = .ok (.aload_n 0, 1) := by decide +kernel
theorem zd_X_build_39 : decode zc_X_build 39 = .ok (.getfield 151, 3) := by decide +kernel
theorem zd_X_build_42 : decode zc_X_build 42 = .ok (.iastore, 1) := by decide +kernel
theorem zd_X_build_43 : decode zc_X_build 43 = .ok (.aload_n 0, 1) := by decide +kernel
theorem zd_X_build_44 : decode zc_X_build 44 = .ok (.dup, 1) := by decide +kernel
theorem zd_X_build_45 : decode zc_X_build 45 = .ok (.getfield 151, 3) := by decide +kernel
theorem zd_X_build_48 : decode zc_X_build 48 = .ok (.aload_n 0, 1) := by decide +kernel
theorem zd_X_build_49 : decode zc_X_build 49 = .ok (.getfield 42, 3) := by decide +kernel
theorem zd_X_build_52 : decode zc_X_build 52 = .ok (.iload_n 2, 1) := by decide +kernel
theorem zd_X_build_53 : decode zc_X_build 53 = .ok (.iaload, 1) := by decide +kernel
theorem zd_X_build_54 : decode zc_X_build 54 = .ok (.iadd, 1) := by decide +kernel
theorem zd_X_build_55 : decode zc_X_build 55 = .ok (.putfield 151, 3) := by decide +kernel
theorem zd_X_build_58 : decode zc_X_build 58 = .ok (.iconst 0, 1) := by decide +kernel
theorem zd_X_build_59 : decode zc_X_build 59 = .ok (.istore_n 3, 1) := by decide +kernel
theorem zd_X_build_60 : decode zc_X_build 60 = .ok (.iload_n 3, 1) := by decide +kernel
theorem zd_X_build_61 : decode zc_X_build 61 = .ok (.aload_n 0, 1) := by decide +kernel
theorem zd_X_build_62 : decode zc_X_build 62 = .ok (.getfield 42, 3) := by decide +kernel
theorem zd_X_build_65 : decode zc_X_build 65 = .ok (.iload_n 2, 1) := by decide +kernel
theorem zd_X_build_66 : decode zc_X_build 66 = .ok (.iaload, 1) := by decide +kernel
theorem zd_X_build_67 : decode zc_X_build 67 = .ok (.if_icmp .ge 61, 3) := by decide +kernel
theorem zd_X_build_70 : decode zc_X_build 70 = .ok (.aload_n 0, 1) := by decide +kernel
theorem zd_X_build_71 : decode zc_X_build 71 = .ok (.aload_n 0, 1) := by decide +kernel
theorem zd_X_build_72 : decode zc_X_build 72 = .ok (.getfield 61, 3) := by decide +kernel
theorem zd_X_build_75 : decode zc_X_build 75 = .ok (.iload_n 2, 1) := by decide +kernel
theorem zd_X_build_76 : decode zc_X_build 76 = .ok (.iaload, 1) := by decide +kernel
theorem zd_X_build_77 : decode zc_X_build 77 = .ok (.iload_n 3, 1) := by decide +kernel
theorem zd_X_build_78 : decode zc_X_build 78 = .ok (.ifCond .ne 14, 3) := by decide +kernel
theorem zd_X_build_81 : decode zc_X_build 81 = .ok (.aload_n 0, 1) := by decide +kernel
theorem zd_X_build_82 : decode zc_X_build 82 = .ok (.getfield 42, 3) := by decide +kernel
theorem zd_X_build_85 : decode zc_X_build 85 = .ok (.iload_n 2, 1) := by decide +kernel
theorem zd_X_build_86 : decode zc_X_build 86 = .ok (.iaload, 1) := by decide +kernel
theorem zd_X_build_87 : decode zc_X_build 87 = .ok (.iconst 1, 1) := by decide +kernel
theorem zd_X_build_88 : decode zc_X_build 88 = .ok (.isub, 1) := by decide +kernel
theorem zd_X_build_89 : decode zc_X_build 89 = .ok (.goto 6, 3) := by decide +kernel
theorem zd_X_build_92 : decode zc_X_build 92 = .ok (.iload_n 3, 1) := by decide +kernel
theorem zd_X_build_93 : decode zc_X_build 93 = .ok (.iconst 1, 1) := by decide +kernel
theorem zd_X_build_94 : decode zc_X_build 94 = .ok (.isub, 1) := by decide +kernel
theorem zd_X_build_95 : decode zc_X_build 95 = .ok (.iadd, 1) := by decide +kernel
theorem zd_X_build_96 : decode zc_X_build 96 = .ok (.aload_n 0, 1) := by decide +kernel
theorem zd_X_build_97 : decode zc_X_build 97 = .ok (.getfield 61, 3) := by decide +kernel
theorem zd_X_build_100 : decode zc_X_build 100 = .ok (.iload_n 2, 1) := by decide +kernel
theorem zd_X_build_101 : decode zc_X_build 101 = .ok (.iaload, 1) := by decide +kernel
theorem zd_X_build_102 : decode zc_X_build 102 = .ok (.iload_n 3, 1) := by decide +kernel
theorem zd_X_build_103 : decode zc_X_build 103 = .ok (.iadd, 1) := by decide +kernel
theorem zd_X_build_104 : decode zc_X_build 104 = .ok (.aload_n 0, 1) := by decide +kernel
theorem zd_X_build_105 : decode zc_X_build 105 = .ok (.getfield 13, 3) := by decide +kernel
theorem zd_X_build_108 : decode zc_X_build 108 = .ok (.iload_n 2, 1) := by decide +kernel
theorem zd_X_build_109 : decode zc_X_build 109 = .ok (.iaload, 1) := by decide +kernel
theorem zd_X_build_110 : decode zc_X_build 110 = .ok (.iload_n 3, 1) := by decide +kernel
theorem zd_X_build_111 : decode zc_X_build 111 = .ok (.ifCond .ne 7, 3) := by decide +kernel
theorem zd_X_build_114 : decode zc_X_build 114 = .ok (.iconst 1, 1) := by decide +kernel
theorem zd_X_build_115 : decode zc_X_build 115 = .ok (.goto 4, 3) := by decide +kernel
theorem zd_X_build_118 : decode zc_X_build 118 = .ok (.iconst 0, 1) := by decide +kernel
theorem zd_X_build_119 : decode zc_X_build 119 = .ok (.invokevirtual 154, 3) := by decide +kernel
theorem zd_X_build_122 : decode zc_X_build 122 = .ok (.iinc 3 1, 3) := by decide +kernel
theorem zd_X_build_125 : decode zc_X_build 125 = .ok (.goto (-65), 3) := by decide +kernel
theorem zd_X_build_128 : decode zc_X_build 128 = .ok (.iinc 2 1, 3) := by decide +kernel
theorem zd_X_build_131 : decode zc_X_build 131 = .ok (.goto (-119), 3) := by decide +kernel
theorem zd_X_build_134 : decode zc_X_build 134 = .ok (.iconst 0, 1) := by decide +kernel
theorem zd_X_build_135 : decode zc_X_build 135 = .ok (.istore_n 2, 1) := by decide +kernel
theorem zd_X_build_136 : decode zc_X_build 136 = .ok (.iload_n 2, 1) := by decide +kernel
theorem zd_X_build_137 : decode zc_X_build 137 = .ok (.aload_n 0, 1) := by decide +kernel
theorem zd_X_build_138 : decode zc_X_build 138 = .ok (.getfield 89, 3) := by decide +kernel
theorem zd_X_build_141 : decode zc_X_build 141 = .ok (.if_icmp .ge 155, 3) := by decide +kernel
theorem zd_X_build_144 : decode zc_X_build 144 = .ok (.aload_n 0, 1) := by decide +kernel
theorem zd_X_build_145 : decode zc_X_build 145 = .ok (.getfield 32, 3) := by decide +kernel
theorem zd_X_build_148 : decode zc_X_build 148 = .ok (.aload_n 0, 1) := by decide +kernel
theorem zd_X_build_149 : decode zc_X_build 149 = .ok (.getfield 17, 3) := by decide +kernel
theorem zd_X_build_152 : decode zc_X_build 152 = .ok (.iload_n 2, 1) := by decide +kernel
theorem zd_X_build_153 : decode zc_X_build 153 = .ok (.iaload, 1) := by decide +kernel
theorem zd_X_build_154 : decode zc_X_build 154 = .ok (.iaload, 1) := by decide +kernel
theorem zd_X_build_155 : decode zc_X_build 155 = .ok (.iload_n 1, 1) := by decide +kernel
theorem zd_X_build_156 : decode zc_X_build 156 = .ok (.if_icmp .eq 6, 3) := by decide +kernel
theorem zd_X_build_159 : decode zc_X_build 159 = .ok (.goto 131, 3) := by decide +kernel
theorem zd_X_build_162 : decode zc_X_build 162 = .ok (.aload_n 0, 1) := by decide +kernel
theorem zd_X_build_163 : decode zc_X_build 163 = .ok (.getfield 42, 3) := by decide +kernel
theorem zd_X_build_166 : decode zc_X_build 166 = .ok (.aload_n 0, 1) := by decide +kernel
theorem zd_X_build_167 : decode zc_X_build 167 = .ok (.getfield 17, 3) := by decide +kernel
theorem zd_X_build_170 : decode zc_X_build 170 = .ok (.iload_n 2, 1) := by decide +kernel
theorem zd_X_build_171 : decode zc_X_build 171 = .ok (.iaload, 1) := by decide +kernel
theorem zd_X_build_172 : decode zc_X_build 172 = .ok (.iaload, 1) := by decide +kernel
theorem zd_X_build_173 : decode zc_X_build 173 = .ok (.istore_n 3, 1) := by decide +kernel
theorem zd_X_build_174 : decode zc_X_build 174 = .ok (.iconst 0, 1) := by decide +kernel
theorem zd_X_build_175 : decode zc_X_build 175 = .ok (.istore 4, 2) := by decide +kernel
theorem zd_X_build_177 : decode zc_X_build 177 = .ok (.iload 4, 2) := by decide +kernel
theorem zd_X_build_179 : decode zc_X_build 179 = .ok (.aload_n 0, 1) := by decide +kernel
theorem zd_X_build_180 : decode zc_X_build 180 = .ok (.getfield 42, 3) := by decide +kernel
theorem zd_X_build_183 : decode zc_X_build 183 = .ok (.aload_n 0, 1) := by decide +kernel
theorem zd_X_build_184 : decode zc_X_build 184 = .ok (.getfield 20, 3) := by decide +kernel
theorem zd_X_build_187 : decode zc_X_build 187 = .ok (.iload_n 2, 1) := by decide +kernel
theorem zd_X_build_188 : decode zc_X_build 188 = .ok (.iaload, 1) := by decide +kernel
theorem zd_X_build_189 : decode zc_X_build 189 = .ok (.iaload, 1) := by decide +kernel
theorem zd_X_build_190 : decode zc_X_build 190 = .ok (.if_icmp .ge 100, 3) := by decide +kernel
theorem zd_X_build_193 : decode zc_X_build 193 = .ok (.aload_n 0, 1) := by decide +kernel
theorem zd_X_build_194 : decode zc_X_build 194 = .ok (.getfield 29, 3) := by decide +kernel
theorem zd_X_build_197 : decode zc_X_build 197 = .ok (.iload_n 2, 1) := by decide +kernel
theorem zd_X_build_198 : decode zc_X_build 198 = .ok (.iaload, 1) := by decide +kernel
theorem zd_X_build_199 : decode zc_X_build 199 = .ok (.aload_n 0, 1) := by decide +kernel
theorem zd_X_build_200 : decode zc_X_build 200 = .ok (.getfield 26, 3) := by decide +kernel
theorem zd_X_build_203 : decode zc_X_build 203 = .ok (.iload_n 2, 1) := by decide +kernel
theorem zd_X_build_204 : decode zc_X_build 204 = .ok (.iaload, 1) := by decide +kernel
theorem zd_X_build_205 : decode zc_X_build 205 = .ok (.iload 4, 2) := by decide +kernel
theorem zd_X_build_207 : decode zc_X_build 207 = .ok (.iconst 1, 1) := by decide +kernel
theorem zd_X_build_208 : decode zc_X_build 208 = .ok (.iadd, 1) := by decide +kernel
theorem zd_X_build_209 : decode zc_X_build 209 = .ok (.imul, 1) := by decide +kernel
theorem zd_X_build_210 : decode zc_X_build 210 = .ok (.isub, 1) := by decide +kernel
theorem zd_X_build_211 : decode zc_X_build 211 = .ok (.aload_n 0, 1) := by decide +kernel
theorem zd_X_build_212 : decode zc_X_build 212 = .ok (.getfield 23, 3) := by decide +kernel
theorem zd_X_build_215 : decode zc_X_build 215 = .ok (.iload_n 2, 1) := by decide +kernel
theorem zd_X_build_216 : decode zc_X_build 216 = .ok (.iaload, 1) := by decide +kernel
theorem zd_X_build_217 : decode zc_X_build 217 = .ok (.invokestatic 158, 3) := by decide +kernel
theorem zd_X_build_220 : decode zc_X_build 220 = .ok (.ineg, 1) := by decide +kernel
theorem zd_X_build_221 : decode zc_X_build 221 = .ok (.iconst 1, 1) := by decide +kernel
theorem zd_X_build_222 : decode zc_X_build 222 = .ok (.isub, 1) := by decide +kernel
theorem zd_X_build_223 : decode zc_X_build 223 = .ok (.istore 5, 2) := by decide +kernel
theorem zd_X_build_225 : decode zc_X_build 225 = .ok (.iload 5, 2) := by decide +kernel
theorem zd_X_build_227 : decode zc_X_build 227 = .ok (.iload_n 3, 1) := by decide +kernel
theorem zd_X_build_228 : decode zc_X_build 228 = .ok (.invokestatic 158, 3) := by decide +kernel
theorem zd_X_build_231 : decode zc_X_build 231 = .ok (.ineg, 1) := by decide +kernel
theorem zd_X_build_232 : decode zc_X_build 232 = .ok (.istore 6, 2) := by decide +kernel
theorem zd_X_build_234 : decode zc_X_build 234 = .ok (.aload_n 0, 1) := by decide +kernel
theorem zd_X_build_235 : decode zc_X_build 235 = .ok (.aload_n 0, 1) := by decide +kernel
theorem zd_X_build_236 : decode zc_X_build 236 = .ok (.getfield 61, 3) := by decide +kernel
theorem zd_X_build_239 : decode zc_X_build 239 = .ok (.aload_n 0, 1) := by decide +kernel
theorem zd_X_build_240 : decode zc_X_build 240 = .ok (.getfield 17, 3) := by decide +kernel
theorem zd_X_build_243 : decode zc_X_build 243 = .ok (.iload_n 2, 1) := by decide +kernel
theorem zd_X_build_244 : decode zc_X_build 244 = .ok (.iaload, 1) := by decide +kernel
theorem zd_X_build_245 : decode zc_X_build 245 = .ok (.iaload, 1) := by decide +kernel
theorem zd_X_build_246 : decode zc_X_build 246 = .ok (.iload 5, 2) := by decide +kernel
theorem zd_X_build_248 : decode zc_X_build 248 = .ok (.iadd, 1) := by decide +kernel
theorem zd_X_build_249 : decode zc_X_build 249 = .ok (.iload 6, 2) := by decide +kernel
theorem zd_X_build_251 : decode zc_X_build 251 = .ok (.iload_n 3, 1) := by decide +kernel
theorem zd_X_build_252 : decode zc_X_build 252 = .ok (.imul, 1) := by decide +kernel
theorem zd_X_build_253 : decode zc_X_build 253 = .ok (.iadd, 1) := by decide +kernel
theorem zd_X_build_254 : decode zc_X_build 254 = .ok (.aload_n 0, 1) := by decide +kernel
theorem zd_X_build_255 : decode zc_X_build 255 = .ok (.getfield 61, 3) := by decide +kernel
theorem zd_X_build_258 : decode zc_X_build 258 = .ok (.aload_n 0, 1) := by decide +kernel
theorem zd_X_build_259 : decode zc_X_build 259 = .ok (.getfield 20, 3) := by decide +kernel
theorem zd_X_build_262 : decode zc_X_build 262 = .ok (.iload_n 2, 1) := by decide +kernel
theorem zd_X_build_263 : decode zc_X_build 263 = .ok (.iaload, 1) := by decide +kernel
theorem zd_X_build_264 : decode zc_X_build 264 = .ok (.iaload, 1) := by decide +kernel
theorem zd_X_build_265 : decode zc_X_build 265 = .ok (.iload 4, 2) := by decide +kernel
theorem zd_X_build_267 : decode zc_X_build 267 = .ok (.iadd, 1) := by decide +kernel
theorem zd_X_build_268 : decode zc_X_build 268 = .ok (.aload_n 0, 1) := by decide +kernel
theorem zd_X_build_269 : decode zc_X_build 269 = .ok (.getfield 13, 3) := by decide +kernel
theorem zd_X_build_272 : decode zc_X_build 272 = .ok (.aload_n 0, 1) := by decide +kernel
theorem zd_X_build_273 : decode zc_X_build 273 = .ok (.getfield 17, 3) := by decide +kernel
theorem zd_X_build_276 : decode zc_X_build 276 = .ok (.iload_n 2, 1) := by decide +kernel
theorem zd_X_build_277 : decode zc_X_build 277 = .ok (.iaload, 1) := by decide +kernel
theorem zd_X_build_278 : decode zc_X_build 278 = .ok (.iaload, 1) := by decide +kernel
theorem zd_X_build_279 : decode zc_X_build 279 = .ok (.iload 6, 2) := by decide +kernel
theorem zd_X_build_281 : decode zc_X_build 281 = .ok (.invokevirtual 154, 3) := by decide +kernel
theorem zd_X_build_284 : decode zc_X_build 284 = .ok (.iinc 4 1, 3) := by decide +kernel
theorem zd_X_build_287 : decode zc_X_build 287 = .ok (.goto (-110), 3) := by decide +kernel
theorem zd_X_build_290 : decode zc_X_build 290 = .ok (.iinc 2 1, 3) := by decide +kernel
theorem zd_X_build_293 : decode zc_X_build 293 = .ok (.goto (-157), 3) := by decide +kernel
theorem zd_X_build_296 : decode zc_X_build 296 = .ok (.return_, 1) := by decide +kernel
theorem zd_X_isSlower_0 : decode zc_X_isSlower 0 = .ok (.iconst 0, 1) := by decide +kernel
theorem zd_X_isSlower_1 : decode zc_X_isSlower 1 = .ok (.istore_n 3, 1) := by decide +kernel
theorem zd_X_isSlower_2 : decode zc_X_isSlower 2 = .ok (.iload_n 3, 1) := by decide +kernel
theorem zd_X_isSlower_3 : decode zc_X_isSlower 3 = .ok (.aload_n 0, 1) := by decide +kernel
theorem zd_X_isSlower_4 : decode zc_X_isSlower 4 = .ok (.getfield 151, 3) := by decide +kernel
theorem zd_X_isSlower_7 : decode zc_X_isSlower 7 = .ok (.if_icmp .ge 16, 3) := by decide +kernel
theorem zd_X_isSlower_10 : decode zc_X_isSlower 10 = .ok (.aload_n 0, 1) := by decide +kernel
theorem zd_X_isSlower_11 : decode zc_X_isSlower 11 = .ok (.getfield 76, 3) := by decide +kernel
theorem zd_X_isSlower_14 : decode zc_X_isSlower 14 = .ok (.iload_n 3, 1) := by decide +kernel
theorem zd_X_isSlower_15 : decode zc_X_isSlower 15 = .ok (.lconst 0, 1) := by decide +kernel
theorem zd_X_isSlower_16 : decode zc_X_isSlower 16 = .ok (.lastore, 1) := by decide +kernel
theorem zd_X_isSlower_17 : decode zc_X_isSlower 17 = .ok (.iinc 3 1, 3) := by decide +kernel
theorem zd_X_isSlower_20 : decode zc_X_isSlower 20 = .ok (.goto (-18), 3) := by decide +kernel
theorem zd_X_isSlower_23 : decode zc_X_isSlower 23 = .ok (.iconst 1, 1) := by decide +kernel
theorem zd_X_isSlower_24 : decode zc_X_isSlower 24 = .ok (.istore_n 3, 1) := by decide +kernel
theorem zd_X_isSlower_25 : decode zc_X_isSlower 25 = .ok (.iconst 0, 1) := by decide +kernel
theorem zd_X_isSlower_26 : decode zc_X_isSlower 26 = .ok (.istore 4, 2) := by decide +kernel
theorem zd_X_isSlower_28 : decode zc_X_isSlower 28 = .ok (.iload 4, 2) := by decide +kernel
theorem zd_X_isSlower_30 : decode zc_X_isSlower 30 = .ok (.aload_n 0, 1) := by decide +kernel
theorem zd_X_isSlower_31 : decode zc_X_isSlower 31 = .ok (.getfield 151, 3) := by decide +kernel
theorem zd_X_isSlower_34 : decode zc_X_isSlower 34 = .ok (.if_icmp .gt 107, 3) := by decide +kernel
theorem zd_X_isSlower_37 : decode zc_X_isSlower 37 = .ok (.iload_n 3, 1) := by decide +kernel
theorem zd_X_isSlower_38 : decode zc_X_isSlower 38 = .ok (.ifCond .eq 103, 3) := by decide +kernel
theorem zd_X_isSlower_41 : decode zc_X_isSlower 41 = .ok (.iconst 0, 1) := by decide +kernel
theorem zd_X_isSlower_42 : decode zc_X_isSlower 42 = .ok (.istore_n 3, 1) := by decide +kernel
theorem zd_X_isSlower_43 : decode zc_X_isSlower 43 = .ok (.iconst 0, 1) := by decide +kernel
theorem zd_X_isSlower_44 : decode zc_X_isSlower 44 = .ok (.istore 5, 2) := by decide +kernel
theorem zd_X_isSlower_46 : decode zc_X_isSlower 46 = .ok (.iload 5, 2) := by decide +kernel
theorem zd_X_isSlower_48 : decode zc_X_isSlower 48 = .ok (.aload_n 0, 1) := by decide +kernel
theorem zd_X_isSlower_49 : decode zc_X_isSlower 49 = .ok (.getfield 148, 3) := by decide +kernel
theorem zd_X_isSlower_52 : decode zc_X_isSlower 52 = .ok (.if_icmp .ge 83, 3) := by decide +kernel
theorem zd_X_isSlower_55 : decode zc_X_isSlower 55 = .ok (.aload_n 0, 1) := by decide +kernel
theorem zd_X_isSlower_56 : decode zc_X_isSlower 56 = .ok (.getfield 76, 3) := by decide +kernel
theorem zd_X_isSlower_59 : decode zc_X_isSlower 59 = .ok (.aload_n 0, 1) := by decide +kernel
theorem zd_X_isSlower_60 : decode zc_X_isSlower 60 = .ok (.getfield 64, 3) := by decide +kernel
theorem zd_X_isSlower_63 : decode zc_X_isSlower 63 = .ok (.iload 5, 2) := by decide +kernel
theorem zd_X_isSlower_65 : decode zc_X_isSlower 65 = .ok (.iaload, 1) := by decide +kernel
theorem zd_X_isSlower_66 : decode zc_X_isSlower 66 = .ok (.laload, 1) := by decide +kernel
theorem zd_X_isSlower_67 : decode zc_X_isSlower 67 = .ok (.aload_n 0, 1) := by decide +kernel
theorem zd_X_isSlower_68 : decode zc_X_isSlower 68 = .ok (.getfield 70, 3) := by decide +kernel
theorem zd_X_isSlower_71 : decode zc_X_isSlower 71 = .ok (.iload 5, 2) := by decide +kernel
theorem zd_X_isSlower_73 : decode zc_X_isSlower 73 = .ok (.iaload, 1) := by decide +kernel
theorem zd_X_isSlower_74 : decode zc_X_isSlower 74 = .ok (.i2l, 1) := by decide +kernel
theorem zd_X_isSlower_75 : decode zc_X_isSlower 75 = .ok (.bipush 24, 2) := by decide +kernel
theorem zd_X_isSlower_77 : decode zc_X_isSlower 77 = .ok (.lshl, 1) := by decide +kernel
theorem zd_X_isSlower_78 : decode zc_X_isSlower 78 = .ok (.ladd, 1) := by decide +kernel
theorem zd_X_isSlower_79 : decode zc_X_isSlower 79 = .ok (.lload_n 1, 1) := by decide +kernel
theorem zd_X_isSlower_80 : decode zc_X_isSlower 80 = .ok (.aload_n 0, 1) := by decide +kernel
theorem zd_X_isSlower_81 : decode zc_X_isSlower 81 = .ok (.getfield 73, 3) := by decide +kernel
theorem zd_X_isSlower_84 : decode zc_X_isSlower 84 = .ok (.iload 5, 2) := by decide +kernel
theorem zd_X_isSlower_86 : decode zc_X_isSlower 86 = .ok (.iaload, 1) := by decide +kernel
theorem zd_X_isSlower_87 : decode zc_X_isSlower 87 = .ok (.i2l, 1) := by decide +kernel
theorem zd_X_isSlower_88 : decode zc_X_isSlower 88 = .ok (.lmul, 1) := by decide +kernel
theorem zd_X_isSlower_89 : decode zc_X_isSlower 89 = .ok (.lsub, 1) := by decide +kernel
theorem zd_X_isSlower_90 : decode zc_X_isSlower 90 = .ok (.lstore 6, 2) := by decide +kernel
theorem zd_X_isSlower_92 : decode zc_X_isSlower 92 = .ok (.lload 6, 2) := by decide +kernel
theorem zd_X_isSlower_94 : decode zc_X_isSlower 94 = .ok (.aload_n 0, 1) := by decide +kernel
theorem zd_X_isSlower_95 : decode zc_X_isSlower 95 = .ok (.getfield 76, 3) := by decide +kernel
theorem zd_X_isSlower_98 : decode zc_X_isSlower 98 = .ok (.aload_n 0, 1) := by decide +kernel
theorem zd_X_isSlower_99 : decode zc_X_isSlower 99 = .ok (.getfield 67, 3) := by decide +kernel
theorem zd_X_isSlower_102 : decode zc_X_isSlower 102 = .ok (.iload 5, 2) := by decide +kernel
theorem zd_X_isSlower_104 : decode zc_X_isSlower 104 = .ok (.iaload, 1) := by decide +kernel
theorem zd_X_isSlower_105 : decode zc_X_isSlower 105 = .ok (.laload, 1) := by decide +kernel
theorem zd_X_isSlower_106 : decode zc_X_isSlower 106 = .ok (.lcmp, 1) := by decide +kernel
theorem zd_X_isSlower_107 : decode zc_X_isSlower 107 = .ok (.ifCond .gt 6, 3) := by decide +kernel
theorem zd_X_isSlower_110 : decode zc_X_isSlower 110 = .ok (.goto 19, 3) := by decide +kernel
theorem zd_X_isSlower_113 : decode zc_X_isSlower 113 = .ok (.aload_n 0, 1) := by decide +kernel
theorem zd_X_isSlower_114 : decode zc_X_isSlower 114 = .ok (.getfield 76, 3) := by decide +kernel
theorem zd_X_isSlower_117 : decode zc_X_isSlower 117 = .ok (.aload_n 0, 1) := by decide +kernel
theorem zd_X_isSlower_118 : decode zc_X_isSlower 118 = .ok (.getfield 67, 3) := by decide +kernel
theorem zd_X_isSlower_121 : decode zc_X_isSlower 121 = .ok (.iload 5, 2) := by decide +kernel
theorem zd_X_isSlower_123 : decode zc_X_isSlower 123 = .ok (.iaload, 1) := by decide +kernel
theorem zd_X_isSlower_124 : decode zc_X_isSlower 124 = .ok (.lload 6, 2) := by decide +kernel
theorem zd_X_isSlower_126 : decode zc_X_isSlower 126 = .ok (.lastore, 1) := by decide +kernel
theorem zd_X_isSlower_127 : decode zc_X_isSlower 127 = .ok (.iconst 1, 1) := by decide +kernel
theorem zd_X_isSlower_128 : decode zc_X_isSlower 128 = .ok (.istore_n 3, 1) := by decide +kernel
theorem zd_X_isSlower_129 : decode zc_X_isSlower 129 = .ok (.iinc 5 1, 3) := by decide +kernel
theorem zd_X_isSlower_132 : decode zc_X_isSlower 132 = .ok (.goto (-86), 3) := by decide +kernel
theorem zd_X_isSlower_135 : decode zc_X_isSlower 135 = .ok (.iinc 4 1, 3) := by decide +kernel
theorem zd_X_isSlower_138 : decode zc_X_isSlower 138 = .ok (.goto (-110), 3) := by decide +kernel
theorem zd_X_isSlower_141 : decode zc_X_isSlower 141 = .ok (.iload_n 3, 1) := by decide +kernel
theorem zd_X_isSlower_142 : decode zc_X_isSlower 142 = .ok (.ireturn, 1) := by decide +kernel
theorem zd_X_findPace_0 : decode zc_X_findPace 0 = .ok (.aload_n 0, 1) := by decide +kernel
theorem zd_X_findPace_1 : decode zc_X_findPace 1 = .ok (.iload_n 1, 1) := by decide +kernel
theorem zd_X_findPace_2 : decode zc_X_findPace 2 = .ok (.invokevirtual 162, 3) := by decide +kernel
theorem zd_X_findPace_5 : decode zc_X_findPace 5 = .ok (.lconst 0, 1) := by decide +kernel
theorem zd_X_findPace_6 : decode zc_X_findPace 6 = .ok (.lstore_n 2, 1) := by decide +kernel
theorem zd_X_findPace_7 : decode zc_X_findPace 7 = .ok (.ldc2_w 166, 3) := by decide +kernel
theorem zd_X_findPace_10 : decode zc_X_findPace 10 = .ok (.lstore 4, 2) := by decide +kernel
theorem zd_X_findPace_12 : decode zc_X_findPace 12 = .ok (.lload 4, 2) := by decide +kernel
theorem zd_X_findPace_14 : decode zc_X_findPace 14 = .ok (.lload_n 2, 1) := by decide +kernel
theorem zd_X_findPace_15 : decode zc_X_findPace 15 = .ok (.lsub, 1) := by decide +kernel
theorem zd_X_findPace_16 : decode zc_X_findPace 16 = .ok (.lconst 1, 1) := by decide +kernel
theorem zd_X_findPace_17 : decode zc_X_findPace 17 = .ok (.lcmp, 1) := by decide +kernel
theorem zd_X_findPace_18 : decode zc_X_findPace 18 = .ok (.ifCond .le 33, 3) := by decide +kernel
theorem zd_X_findPace_21 : decode zc_X_findPace 21 = .ok (.lload_n 2, 1) := by decide +kernel
theorem zd_X_findPace_22 : decode zc_X_findPace 22 = .ok (.lload 4, 2) := by decide +kernel
theorem zd_X_findPace_24 : decode zc_X_findPace 24 = .ok (.ladd, 1) := by decide +kernel
theorem zd_X_findPace_25 : decode zc_X_findPace 25 = .ok (.iconst 1, 1) := by decide +kernel
theorem zd_X_findPace_26 : decode zc_X_findPace 26 = .ok (.lshr, 1) := by decide +kernel
theorem zd_X_findPace_27 : decode zc_X_findPace 27 = .ok (.lstore 6, 2) := by decide +kernel
theorem zd_X_findPace_29 : decode zc_X_findPace 29 = .ok (.aload_n 0, 1) := by decide +kernel
theorem zd_X_findPace_30 : decode zc_X_findPace 30 = .ok (.lload 6, 2) := by decide +kernel
theorem zd_X_findPace_32 : decode zc_X_findPace 32 = .ok (.invokevirtual 168, 3) := by decide +kernel
theorem zd_X_findPace_35 : decode zc_X_findPace 35 = .ok (.ifCond .eq 9, 3) := by decide +kernel
theorem zd_X_findPace_38 : decode zc_X_findPace 38 = .ok (.lload 6, 2) := by decide +kernel
theorem zd_X_findPace_40 : decode zc_X_findPace 40 = .ok (.lstore_n 2, 1) := by decide +kernel
theorem zd_X_findPace_41 : decode zc_X_findPace 41 = .ok (.goto 7, 3) := by decide +kernel
theorem zd_X_findPace_44 : decode zc_X_findPace 44 = .ok (.lload 6, 2) := by decide +kernel
theorem zd_X_findPace_46 : decode zc_X_findPace 46 = .ok (.lstore 4, 2) := by decide +kernel
theorem zd_X_findPace_48 : decode zc_X_findPace 48 = .ok (.goto (-36), 3) := by decide +kernel
theorem zd_X_findPace_51 : decode zc_X_findPace 51 = .ok (.aload_n 0, 1) := by decide +kernel
theorem zd_X_findPace_52 : decode zc_X_findPace 52 = .ok (.iconst 1, 1) := by decide +kernel
theorem zd_X_findPace_53 : decode zc_X_findPace 53 = .ok (.putfield 172, 3) := by decide +kernel
theorem zd_X_findPace_56 : decode zc_X_findPace 56 = .ok (.lload 4, 2) := by decide +kernel
theorem zd_X_findPace_58 : decode zc_X_findPace 58 = .ok (.aload_n 0, 1) := by decide +kernel
theorem zd_X_findPace_59 : decode zc_X_findPace 59 = .ok (.getfield 172, 3) := by decide +kernel
theorem zd_X_findPace_62 : decode zc_X_findPace 62 = .ok (.i2l, 1) := by decide +kernel
theorem zd_X_findPace_63 : decode zc_X_findPace 63 = .ok (.lmul, 1) := by decide +kernel
theorem zd_X_findPace_64 : decode zc_X_findPace 64 = .ok (.bipush 24, 2) := by decide +kernel
theorem zd_X_findPace_66 : decode zc_X_findPace 66 = .ok (.lshr, 1) := by decide +kernel
theorem zd_X_findPace_67 : decode zc_X_findPace 67 = .ok (.bipush 24, 2) := by decide +kernel
theorem zd_X_findPace_69 : decode zc_X_findPace 69 = .ok (.lshl, 1) := by decide +kernel
theorem zd_X_findPace_70 : decode zc_X_findPace 70 = .ok (.lload_n 2, 1) := by decide +kernel
theorem zd_X_findPace_71 : decode zc_X_findPace 71 = .ok (.aload_n 0, 1) := by decide +kernel
theorem zd_X_findPace_72 : decode zc_X_findPace 72 = .ok (.getfield 172, 3) := by decide +kernel
theorem zd_X_findPace_75 : decode zc_X_findPace 75 = .ok (.i2l, 1) := by decide +kernel
theorem zd_X_findPace_76 : decode zc_X_findPace 76 = .ok (.lmul, 1) := by decide +kernel
theorem zd_X_findPace_77 : decode zc_X_findPace 77 = .ok (.lcmp, 1) := by decide +kernel
theorem zd_X_findPace_78 : decode zc_X_findPace 78 = .ok (.ifCond .gt 26, 3) := by decide +kernel
theorem zd_X_findPace_81 : decode zc_X_findPace 81 = .ok (.aload_n 0, 1) := by decide +kernel
theorem zd_X_findPace_82 : decode zc_X_findPace 82 = .ok (.getfield 172, 3) := by decide +kernel
theorem zd_X_findPace_85 : decode zc_X_findPace 85 = .ok (.sipush 2100, 3) := by decide +kernel
theorem zd_X_findPace_88 : decode zc_X_findPace 88 = .ok (.if_icmp .ge 16, 3) := by decide +kernel
theorem zd_X_findPace_91 : decode zc_X_findPace 91 = .ok (.aload_n 0, 1) := by decide +kernel
theorem zd_X_findPace_92 : decode zc_X_findPace 92 = .ok (.dup, 1) := by decide +kernel
theorem zd_X_findPace_93 : decode zc_X_findPace 93 = .ok (.getfield 172, 3) := by decide +kernel
theorem zd_X_findPace_96 : decode zc_X_findPace 96 = .ok (.iconst 1, 1) := by decide +kernel
theorem zd_X_findPace_97 : decode zc_X_findPace 97 = .ok (.iadd, 1) := by decide +kernel
theorem zd_X_findPace_98 : decode zc_X_findPace 98 = .ok (.putfield 172, 3) := by decide +kernel
theorem zd_X_findPace_101 : decode zc_X_findPace 101 = .ok (.goto (-45), 3) := by decide +kernel
theorem zd_X_findPace_104 : decode zc_X_findPace 104 = .ok (.aload_n 0, 1) := by decide +kernel
theorem zd_X_findPace_105 : decode zc_X_findPace 105 = .ok (.lload 4, 2) := by decide +kernel
theorem zd_X_findPace_107 : decode zc_X_findPace 107 = .ok (.aload_n 0, 1) := by decide +kernel
theorem zd_X_findPace_108 : decode zc_X_findPace 108 = .ok (.getfield 172, 3) := by decide +kernel
theorem zd_X_findPace_111 : decode zc_X_findPace 111 = .ok (.i2l, 1) := by decide +kernel
theorem zd_X_findPace_112 : decode zc_X_findPace 112 = .ok (.lmul, 1) := by decide +kernel
theorem zd_X_findPace_113 : decode zc_X_findPace 113 = .ok (.bipush 24, 2) := by decide +kernel
theorem zd_X_findPace_115 : decode zc_X_findPace 115 = .ok (.lshr, 1) := by decide +kernel
theorem zd_X_findPace_116 : decode zc_X_findPace 116 = .ok (.l2i, 1) := by decide +kernel
theorem zd_X_findPace_117 : decode zc_X_findPace 117 = .ok (.putfield 175, 3) := by decide +kernel
theorem zd_X_findPace_120 : decode zc_X_findPace 120 = .ok (.return_, 1) := by decide +kernel
theorem zd_X_pace_0 : decode zc_X_pace 0 = .ok (.aload_n 0, 1) := by decide +kernel
theorem zd_X_pace_1 : decode zc_X_pace 1 = .ok (.iconst 0, 1) := by decide +kernel
theorem zd_X_pace_2 : decode zc_X_pace 2 = .ok (.putfield 82, 3) := by decide +kernel
theorem zd_X_pace_5 : decode zc_X_pace 5 = .ok (.iload_n 1, 1) := by decide +kernel
theorem zd_X_pace_6 : decode zc_X_pace 6 = .ok (.iconst 0, 1) := by decide +kernel
theorem zd_X_pace_7 : decode zc_X_pace 7 = .ok (.aload_n 0, 1) := by decide +kernel
theorem zd_X_pace_8 : decode zc_X_pace 8 = .ok (.getfield 7, 3) := by decide +kernel
theorem zd_X_pace_11 : decode zc_X_pace 11 = .ok (.iconst 1, 1) := by decide +kernel
theorem zd_X_pace_12 : decode zc_X_pace 12 = .ok (.isub, 1) := by decide +kernel
theorem zd_X_pace_13 : decode zc_X_pace 13 = .ok (.invokestatic 85, 3) := by decide +kernel
theorem zd_X_pace_16 : decode zc_X_pace 16 = .ok (.ifCond .eq 12, 3) := by decide +kernel
theorem zd_X_pace_19 : decode zc_X_pace 19 = .ok (.iload_n 2, 1) := by decide +kernel
theorem zd_X_pace_20 : decode zc_X_pace 20 = .ok (.iconst 0, 1) := by decide +kernel
theorem zd_X_pace_21 : decode zc_X_pace 21 = .ok (.iconst 1, 1) := by decide +kernel
theorem zd_X_pace_22 : decode zc_X_pace 22 = .ok (.invokestatic 85, 3) := by decide +kernel
theorem zd_X_pace_25 : decode zc_X_pace 25 = .ok (.ifCond .ne 9, 3) := by decide +kernel
theorem zd_X_pace_28 : decode zc_X_pace 28 = .ok (.aload_n 0, 1) := by decide +kernel
theorem zd_X_pace_29 : decode zc_X_pace 29 = .ok (.iconst 1, 1) := by decide +kernel
theorem zd_X_pace_30 : decode zc_X_pace 30 = .ok (.invokevirtual 141, 3) := by decide +kernel
theorem zd_X_pace_33 : decode zc_X_pace 33 = .ok (.ireturn, 1) := by decide +kernel
theorem zd_X_pace_34 : decode zc_X_pace 34 = .ok (.aload_n 0, 1) := by decide +kernel
theorem zd_X_pace_35 : decode zc_X_pace 35 = .ok (.invokevirtual 144, 3) := by decide +kernel
theorem zd_X_pace_38 : decode zc_X_pace 38 = .ok (.ifCond .ne 9, 3) := by decide +kernel
theorem zd_X_pace_41 : decode zc_X_pace 41 = .ok (.aload_n 0, 1) := by decide +kernel
theorem zd_X_pace_42 : decode zc_X_pace 42 = .ok (.iconst 2, 1) := by decide +kernel
theorem zd_X_pace_43 : decode zc_X_pace 43 = .ok (.invokevirtual 141, 3) := by decide +kernel
theorem zd_X_pace_46 : decode zc_X_pace 46 = .ok (.ireturn, 1) := by decide +kernel
theorem zd_X_pace_47 : decode zc_X_pace 47 = .ok (.iconst 0, 1) := by decide +kernel
theorem zd_X_pace_48 : decode zc_X_pace 48 = .ok (.istore_n 3, 1) := by decide +kernel
theorem zd_X_pace_49 : decode zc_X_pace 49 = .ok (.iconst 0, 1) := by decide +kernel
theorem zd_X_pace_50 : decode zc_X_pace 50 = .ok (.istore 4, 2) := by decide +kernel
theorem zd_X_pace_52 : decode zc_X_pace 52 = .ok (.iload 4, 2) := by decide +kernel
theorem zd_X_pace_54 : decode zc_X_pace 54 = .ok (.aload_n 0, 1) := by decide +kernel
theorem zd_X_pace_55 : decode zc_X_pace 55 = .ok (.getfield 7, 3) := by decide +kernel
theorem zd_X_pace_58 : decode zc_X_pace 58 = .ok (.if_icmp .ge 55, 3) := by decide +kernel
theorem zd_X_pace_61 : decode zc_X_pace 61 = .ok (.aload_n 0, 1) := by decide +kernel
theorem zd_X_pace_62 : decode zc_X_pace 62 = .ok (.getfield 45, 3) := by decide +kernel
theorem zd_X_pace_65 : decode zc_X_pace 65 = .ok (.iload 4, 2) := by decide +kernel
theorem zd_X_pace_67 : decode zc_X_pace 67 = .ok (.iaload, 1) := by decide +kernel
theorem zd_X_pace_68 : decode zc_X_pace 68 = .ok (.ifCond .eq 9, 3) := by decide +kernel
theorem zd_X_pace_71 : decode zc_X_pace 71 = .ok (.aload_n 0, 1) := by decide +kernel
theorem zd_X_pace_72 : decode zc_X_pace 72 = .ok (.iconst 2, 1) := by decide +kernel
theorem zd_X_pace_73 : decode zc_X_pace 73 = .ok (.invokevirtual 141, 3) := by decide +kernel
theorem zd_X_pace_76 : decode zc_X_pace 76 = .ok (.ireturn, 1) := by decide +kernel
theorem zd_X_pace_77 : decode zc_X_pace 77 = .ok (.iload_n 3, 1) := by decide +kernel
theorem zd_X_pace_78 : decode zc_X_pace 78 = .ok (.aload_n 0, 1) := by decide +kernel
theorem zd_X_pace_79 : decode zc_X_pace 79 = .ok (.getfield 32, 3) := by decide +kernel
theorem zd_X_pace_82 : decode zc_X_pace 82 = .ok (.iload 4, 2) := by decide +kernel
theorem zd_X_pace_84 : decode zc_X_pace 84 = .ok (.iaload, 1) := by decide +kernel
theorem zd_X_pace_85 : decode zc_X_pace 85 = .ok (.aload_n 0, 1) := by decide +kernel
theorem zd_X_pace_86 : decode zc_X_pace 86 = .ok (.getfield 32, 3) := by decide +kernel
theorem zd_X_pace_89 : decode zc_X_pace 89 = .ok (.iload_n 1, 1) := by decide +kernel
theorem zd_X_pace_90 : decode zc_X_pace 90 = .ok (.iaload, 1) := by decide +kernel
theorem zd_X_pace_91 : decode zc_X_pace 91 = .ok (.if_icmp .ne 13, 3) := by decide +kernel
theorem zd_X_pace_94 : decode zc_X_pace 94 = .ok (.aload_n 0, 1) := by decide +kernel
theorem zd_X_pace_95 : decode zc_X_pace 95 = .ok (.getfield 42, 3) := by decide +kernel
theorem zd_X_pace_98 : decode zc_X_pace 98 = .ok (.iload 4, 2) := by decide +kernel
theorem zd_X_pace_100 : decode zc_X_pace 100 = .ok (.iaload, 1) := by decide +kernel
theorem zd_X_pace_101 : decode zc_X_pace 101 = .ok (.goto 4, 3) := by decide +kernel
theorem zd_X_pace_104 : decode zc_X_pace 104 = .ok (.iconst 0, 1) := by decide +kernel
theorem zd_X_pace_105 : decode zc_X_pace 105 = .ok (.iadd, 1) := by decide +kernel
theorem zd_X_pace_106 : decode zc_X_pace 106 = .ok (.istore_n 3, 1) := by decide +kernel
theorem zd_X_pace_107 : decode zc_X_pace 107 = .ok (.iinc 4 1, 3) := by decide +kernel
theorem zd_X_pace_110 : decode zc_X_pace 110 = .ok (.goto (-58), 3) := by decide +kernel
theorem zd_X_pace_113 : decode zc_X_pace 113 = .ok (.aload_n 0, 1) := by decide +kernel
theorem zd_X_pace_114 : decode zc_X_pace 114 = .ok (.iload_n 1, 1) := by decide +kernel
theorem zd_X_pace_115 : decode zc_X_pace 115 = .ok (.iconst 0, 1) := by decide +kernel
theorem zd_X_pace_116 : decode zc_X_pace 116 = .ok (.invokevirtual 178, 3) := by decide +kernel
theorem zd_X_pace_119 : decode zc_X_pace 119 = .ok (.ifCond .eq 12, 3) := by decide +kernel
theorem zd_X_pace_122 : decode zc_X_pace 122 = .ok (.aload_n 0, 1) := by decide +kernel
theorem zd_X_pace_123 : decode zc_X_pace 123 = .ok (.iload_n 1, 1) := by decide +kernel
theorem zd_X_pace_124 : decode zc_X_pace 124 = .ok (.iconst 1, 1) := by decide +kernel
theorem zd_X_pace_125 : decode zc_X_pace 125 = .ok (.invokevirtual 178, 3) := by decide +kernel
theorem zd_X_pace_128 : decode zc_X_pace 128 = .ok (.ifCond .ne 9, 3) := by decide +kernel
theorem zd_X_pace_131 : decode zc_X_pace 131 = .ok (.aload_n 0, 1) := by decide +kernel
theorem zd_X_pace_132 : decode zc_X_pace 132 = .ok (.iconst 2, 1) := by decide +kernel
theorem zd_X_pace_133 : decode zc_X_pace 133 = .ok (.invokevirtual 141, 3) := by decide +kernel
theorem zd_X_pace_136 : decode zc_X_pace 136 = .ok (.ireturn, 1) := by decide +kernel
theorem zd_X_pace_137 : decode zc_X_pace 137 = .ok (.iload_n 3, 1) := by decide +kernel
theorem zd_X_pace_138 : decode zc_X_pace 138 = .ok (.bipush 40, 2) := by decide +kernel
theorem zd_X_pace_140 : decode zc_X_pace 140 = .ok (.if_icmp .le 9, 3) := by decide +kernel
theorem zd_X_pace_143 : decode zc_X_pace 143 = .ok (.aload_n 0, 1) := by decide +kernel
theorem zd_X_pace_144 : decode zc_X_pace 144 = .ok (.iconst 3, 1) := by decide +kernel
theorem zd_X_pace_145 : decode zc_X_pace 145 = .ok (.invokevirtual 141, 3) := by decide +kernel
theorem zd_X_pace_148 : decode zc_X_pace 148 = .ok (.ireturn, 1) := by decide +kernel
theorem zd_X_pace_149 : decode zc_X_pace 149 = .ok (.aload_n 0, 1) := by decide +kernel
theorem zd_X_pace_150 : decode zc_X_pace 150 = .ok (.aload_n 0, 1) := by decide +kernel
theorem zd_X_pace_151 : decode zc_X_pace 151 = .ok (.getfield 32, 3) := by decide +kernel
theorem zd_X_pace_154 : decode zc_X_pace 154 = .ok (.iload_n 1, 1) := by decide +kernel
theorem zd_X_pace_155 : decode zc_X_pace 155 = .ok (.iaload, 1) := by decide +kernel
theorem zd_X_pace_156 : decode zc_X_pace 156 = .ok (.invokevirtual 182, 3) := by decide +kernel
theorem zd_X_pace_159 : decode zc_X_pace 159 = .ok (.iload_n 2, 1) := by decide +kernel
theorem zd_X_pace_160 : decode zc_X_pace 160 = .ok (.ifCond .ne 10, 3) := by decide +kernel
theorem zd_X_pace_163 : decode zc_X_pace 163 = .ok (.aload_n 0, 1) := by decide +kernel
theorem zd_X_pace_164 : decode zc_X_pace 164 = .ok (.getfield 175, 3) := by decide +kernel
theorem zd_X_pace_167 : decode zc_X_pace 167 = .ok (.goto 7, 3) := by decide +kernel
theorem zd_X_pace_170 : decode zc_X_pace 170 = .ok (.aload_n 0, 1) := by decide +kernel
theorem zd_X_pace_171 : decode zc_X_pace 171 = .ok (.getfield 172, 3) := by decide +kernel
theorem zd_X_pace_174 : decode zc_X_pace 174 = .ok (.ireturn, 1) := by decide +kernel
theorem zd_X_isChain_0 : decode zc_X_isChain 0 = .ok (.aload_n 0, 1) := by decide +kernel
theorem zd_X_isChain_1 : decode zc_X_isChain 1 = .ok (.getfield 89, 3) := by decide +kernel
theorem zd_X_isChain_4 : decode zc_X_isChain 4 = .ok (.aload_n 0, 1) := by decide +kernel
theorem zd_X_isChain_5 : decode zc_X_isChain 5 = .ok (.getfield 7, 3) := by decide +kernel
theorem zd_X_isChain_8 : decode zc_X_isChain 8 = .ok (.iconst 1, 1) := by decide +kernel
theorem zd_X_isChain_9 : decode zc_X_isChain 9 = .ok (.isub, 1) := by decide +kernel
theorem zd_X_isChain_10 : decode zc_X_isChain 10 = .ok (.if_icmp .eq 5, 3) := by decide +kernel
theorem zd_X_isChain_13 : decode zc_X_isChain 13 = .ok (.iconst 0, 1) := by decide +kernel
theorem zd_X_isChain_14 : decode zc_X_isChain 14 = .ok (.ireturn, 1) := by decide +kernel
theorem zd_X_isChain_15 : decode zc_X_isChain 15 = .ok (.iconst 0, 1) := by decide +kernel
theorem zd_X_isChain_16 : decode zc_X_isChain 16 = .ok (.istore_n 1, 1) := by decide +kernel
theorem zd_X_isChain_17 : decode zc_X_isChain 17 = .ok (.iload_n 1, 1) := by decide +kernel
theorem zd_X_isChain_18 : decode zc_X_isChain 18 = .ok (.aload_n 0, 1) := by decide +kernel
theorem zd_X_isChain_19 : decode zc_X_isChain 19 = .ok (.getfield 89, 3) := by decide +kernel
theorem zd_X_isChain_22 : decode zc_X_isChain 22 = .ok (.if_icmp .ge 42, 3) := by decide +kernel
theorem zd_X_isChain_25 : decode zc_X_isChain 25 = .ok (.aload_n 0, 1) := by decide +kernel
theorem zd_X_isChain_26 : decode zc_X_isChain 26 = .ok (.getfield 17, 3) := by decide +kernel
theorem zd_X_isChain_29 : decode zc_X_isChain 29 = .ok (.iload_n 1, 1) := by decide +kernel
theorem zd_X_isChain_30 : decode zc_X_isChain 30 = .ok (.iaload, 1) := by decide +kernel
theorem zd_X_isChain_31 : decode zc_X_isChain 31 = .ok (.iload_n 1, 1) := by decide +kernel
theorem zd_X_isChain_32 : decode zc_X_isChain 32 = .ok (.if_icmp .ne 24, 3) := by decide +kernel
theorem zd_X_isChain_35 : decode zc_X_isChain 35 = .ok (.aload_n 0, 1) := by decide +kernel
theorem zd_X_isChain_36 : decode zc_X_isChain 36 = .ok (.getfield 20, 3) := by decide +kernel
theorem zd_X_isChain_39 : decode zc_X_isChain 39 = .ok (.iload_n 1, 1) := by decide +kernel
theorem zd_X_isChain_40 : decode zc_X_isChain 40 = .ok (.iaload, 1) := by decide +kernel
theorem zd_X_isChain_41 : decode zc_X_isChain 41 = .ok (.iload_n 1, 1) := by decide +kernel
theorem zd_X_isChain_42 : decode zc_X_isChain 42 = .ok (.iconst 1, 1) := by decide +kernel
theorem zd_X_isChain_43 : decode zc_X_isChain 43 = .ok (.iadd, 1) := by decide +kernel
theorem zd_X_isChain_44 : decode zc_X_isChain 44 = .ok (.if_icmp .ne 12, 3) := by decide +kernel
theorem zd_X_isChain_47 : decode zc_X_isChain 47 = .ok (.aload_n 0, 1) := by decide +kernel
theorem zd_X_isChain_48 : decode zc_X_isChain 48 = .ok (.getfield 29, 3) := by decide +kernel
theorem zd_X_isChain_51 : decode zc_X_isChain 51 = .ok (.iload_n 1, 1) := by decide +kernel
theorem zd_X_isChain_52 : decode zc_X_isChain 52 = .ok (.iaload, 1) := by decide +kernel
theorem zd_X_isChain_53 : decode zc_X_isChain 53 = .ok (.ifCond .eq 5, 3) := by decide +kernel
theorem zd_X_isChain_56 : decode zc_X_isChain 56 = .ok (.iconst 0, 1) := by decide +kernel
theorem zd_X_isChain_57 : decode zc_X_isChain 57 = .ok (.ireturn, 1) := by decide +kernel
theorem zd_X_isChain_58 : decode zc_X_isChain 58 = .ok (.iinc 1 1, 3) := by decide +kernel
theorem zd_X_isChain_61 : decode zc_X_isChain 61 = .ok (.goto (-44), 3) := by decide +kernel
theorem zd_X_isChain_64 : decode zc_X_isChain 64 = .ok (.iconst 1, 1) := by decide +kernel
theorem zd_X_isChain_65 : decode zc_X_isChain 65 = .ok (.ireturn, 1) := by decide +kernel
theorem zd_X_divisorOf_0 : decode zc_X_divisorOf 0 = .ok (.aload_n 0, 1) := by decide +kernel
theorem zd_X_divisorOf_1 : decode zc_X_divisorOf 1 = .ok (.getfield 42, 3) := by decide +kernel
theorem zd_X_divisorOf_4 : decode zc_X_divisorOf 4 = .ok (.iload_n 1, 1) := by decide +kernel
theorem zd_X_divisorOf_5 : decode zc_X_divisorOf 5 = .ok (.iaload, 1) := by decide +kernel
theorem zd_X_divisorOf_6 : decode zc_X_divisorOf 6 = .ok (.i2l, 1) := by decide +kernel
theorem zd_X_divisorOf_7 : decode zc_X_divisorOf 7 = .ok (.lstore_n 3, 1) := by decide +kernel
theorem zd_X_divisorOf_8 : decode zc_X_divisorOf 8 = .ok (.iload_n 1, 1) := by decide +kernel
theorem zd_X_divisorOf_9 : decode zc_X_divisorOf 9 = .ok (.iconst 1, 1) := by decide +kernel
theorem zd_X_divisorOf_10 : decode zc_X_divisorOf 10 = .ok (.iadd, 1) := by decide +kernel
theorem zd_X_divisorOf_11 : decode zc_X_divisorOf 11 = .ok (.istore 5, 2) := by decide +kernel
theorem zd_X_divisorOf_13 : decode zc_X_divisorOf 13 = .ok (.iload 5, 2) := by decide +kernel
theorem zd_X_divisorOf_15 : decode zc_X_divisorOf 15 = .ok (.iload_n 2, 1) := by decide +kernel
theorem zd_X_divisorOf_16 : decode zc_X_divisorOf 16 = .ok (.if_icmp .gt 22, 3) := by decide +kernel
theorem zd_X_divisorOf_19 : decode zc_X_divisorOf 19 = .ok (.lload_n 3, 1) := by decide +kernel
theorem zd_X_divisorOf_20 : decode zc_X_divisorOf 20 = .ok (.aload_n 0, 1) := by decide +kernel
theorem zd_X_divisorOf_21 : decode zc_X_divisorOf 21 = .ok (.getfield 42, 3) := by decide +kernel
theorem zd_X_divisorOf_24 : decode zc_X_divisorOf 24 = .ok (.iload 5, 2) := by decide +kernel
theorem zd_X_divisorOf_26 : decode zc_X_divisorOf 26 = .ok (.iaload, 1) := by decide +kernel
theorem zd_X_divisorOf_27 : decode zc_X_divisorOf 27 = .ok (.i2l, 1) := by decide +kernel
theorem zd_X_divisorOf_28 : decode zc_X_divisorOf 28 = .ok (.invokestatic 96, 3) := by decide +kernel
theorem zd_X_divisorOf_31 : decode zc_X_divisorOf 31 = .ok (.lstore_n 3, 1) := by decide +kernel
theorem zd_X_divisorOf_32 : decode zc_X_divisorOf 32 = .ok (.iinc 5 1, 3) := by decide +kernel
theorem zd_X_divisorOf_35 : decode zc_X_divisorOf 35 = .ok (.goto (-22), 3) := by decide +kernel
theorem zd_X_divisorOf_38 : decode zc_X_divisorOf 38 = .ok (.lload_n 3, 1) := by decide +kernel
theorem zd_X_divisorOf_39 : decode zc_X_divisorOf 39 = .ok (.l2i, 1) := by decide +kernel
theorem zd_X_divisorOf_40 : decode zc_X_divisorOf 40 = .ok (.ireturn, 1) := by decide +kernel
theorem zd_X_room_0 : decode zc_X_room 0 = .ok (.aload_n 0, 1) := by decide +kernel
theorem zd_X_room_1 : decode zc_X_room 1 = .ok (.iconst 0, 1) := by decide +kernel
theorem zd_X_room_2 : decode zc_X_room 2 = .ok (.putfield 82, 3) := by decide +kernel
theorem zd_X_room_5 : decode zc_X_room 5 = .ok (.aload_n 0, 1) := by decide +kernel
theorem zd_X_room_6 : decode zc_X_room 6 = .ok (.invokevirtual 185, 3) := by decide +kernel
theorem zd_X_room_9 : decode zc_X_room 9 = .ok (.ifCond .eq 10, 3) := by decide +kernel
theorem zd_X_room_12 : decode zc_X_room 12 = .ok (.aload_n 0, 1) := by decide +kernel
theorem zd_X_room_13 : decode zc_X_room 13 = .ok (.invokevirtual 144, 3) := by decide +kernel
theorem zd_X_room_16 : decode zc_X_room 16 = .ok (.ifCond .ne 5, 3) := by decide +kernel
theorem zd_X_room_19 : decode zc_X_room 19 = .ok (.iconst (-1), 1) := by decide +kernel
theorem zd_X_room_20 : decode zc_X_room 20 = .ok (.ireturn, 1) := by decide +kernel
theorem zd_X_room_21 : decode zc_X_room 21 = .ok (.iconst 0, 1) := by decide +kernel
theorem zd_X_room_22 : decode zc_X_room 22 = .ok (.istore_n 1, 1) := by decide +kernel
theorem zd_X_room_23 : decode zc_X_room 23 = .ok (.iload_n 1, 1) := by decide +kernel
theorem zd_X_room_24 : decode zc_X_room 24 = .ok (.aload_n 0, 1) := by decide +kernel
theorem zd_X_room_25 : decode zc_X_room 25 = .ok (.getfield 7, 3) := by decide +kernel
theorem zd_X_room_28 : decode zc_X_room 28 = .ok (.if_icmp .ge 144, 3) := by decide +kernel
theorem zd_X_room_31 : decode zc_X_room 31 = .ok (.iconst 0, 1) := by decide +kernel
theorem zd_X_room_32 : decode zc_X_room 32 = .ok (.istore_n 2, 1) := by decide +kernel
theorem zd_X_room_33 : decode zc_X_room 33 = .ok (.iload_n 2, 1) := by decide +kernel
theorem zd_X_room_34 : decode zc_X_room 34 = .ok (.iload_n 1, 1) := by decide +kernel
theorem zd_X_room_35 : decode zc_X_room 35 = .ok (.iadd, 1) := by decide +kernel
theorem zd_X_room_36 : decode zc_X_room 36 = .ok (.aload_n 0, 1) := by decide +kernel
theorem zd_X_room_37 : decode zc_X_room 37 = .ok (.getfield 7, 3) := by decide +kernel
theorem zd_X_room_40 : decode zc_X_room 40 = .ok (.if_icmp .ge 126, 3) := by decide +kernel
theorem zd_X_room_43 : decode zc_X_room 43 = .ok (.iload_n 2, 1) := by decide +kernel
theorem zd_X_room_44 : decode zc_X_room 44 = .ok (.iload_n 1, 1) := by decide +kernel
theorem zd_X_room_45 : decode zc_X_room 45 = .ok (.iadd, 1) := by decide +kernel
theorem zd_X_room_46 : decode zc_X_room 46 = .ok (.istore_n 3, 1) := by decide +kernel
theorem zd_X_room_47 : decode zc_X_room 47 = .ok (.iload_n 1, 1) := by decide +kernel
theorem zd_X_room_48 : decode zc_X_room 48 = .ok (.ifCond .ne 7, 3) := by decide +kernel
theorem zd_X_room_51 : decode zc_X_room 51 = .ok (.iconst 0, 1) := by decide +kernel
theorem zd_X_room_52 : decode zc_X_room 52 = .ok (.goto 4, 3) := by decide +kernel
theorem zd_X_room_55 : decode zc_X_room 55 = .ok (.iconst (-1), 1) := by decide +kernel
theorem zd_X_room_56 : decode zc_X_room 56 = .ok (.istore 4, 2) := by decide +kernel
theorem zd_X_room_58 : decode zc_X_room 58 = .ok (.iload_n 2, 1) := by decide +kernel
theorem zd_X_room_59 : decode zc_X_room 59 = .ok (.istore 5, 2) := by decide +kernel
theorem zd_X_room_61 : decode zc_X_room 61 = .ok (.iload 5, 2) := by decide +kernel
theorem zd_X_room_63 : decode zc_X_room 63 = .ok (.iload_n 3, 1) := by decide +kernel
theorem zd_X_room_64 : decode zc_X_room 64 = .ok (.if_icmp .ge 83, 3) := by decide +kernel
theorem zd_X_room_67 : decode zc_X_room 67 = .ok (.aload_n 0, 1) := by decide +kernel
theorem zd_X_room_68 : decode zc_X_room 68 = .ok (.getfield 79, 3) := by decide +kernel
theorem zd_X_room_71 : decode zc_X_room 71 = .ok (.bipush 8, 2) := by decide +kernel
theorem zd_X_room_73 : decode zc_X_room 73 = .ok (.iload_n 2, 1) := by decide +kernel
theorem zd_X_room_74 : decode zc_X_room 74 = .ok (.imul, 1) := by decide +kernel
theorem zd_X_room_75 : decode zc_X_room 75 = .ok (.iload 5, 2) := by decide +kernel
theorem zd_X_room_77 : decode zc_X_room 77 = .ok (.iadd, 1) := by decide +kernel
theorem zd_X_room_78 : decode zc_X_room 78 = .ok (.iaload, 1) := by decide +kernel
theorem zd_X_room_79 : decode zc_X_room 79 = .ok (.aload_n 0, 1) := by decide +kernel
theorem zd_X_room_80 : decode zc_X_room 80 = .ok (.getfield 79, 3) := by decide +kernel
theorem zd_X_room_83 : decode zc_X_room 83 = .ok (.bipush 8, 2) := by decide +kernel
theorem zd_X_room_85 : decode zc_X_room 85 = .ok (.iload 5, 2) := by decide +kernel
theorem zd_X_room_87 : decode zc_X_room 87 = .ok (.iconst 1, 1) := by decide +kernel
theorem zd_X_room_88 : decode zc_X_room 88 = .ok (.iadd, 1) := by decide +kernel
theorem zd_X_room_89 : decode zc_X_room 89 = .ok (.imul, 1) := by decide +kernel
theorem zd_X_room_90 : decode zc_X_room 90 = .ok (.iload_n 3, 1) := by decide +kernel
theorem zd_X_room_91 : decode zc_X_room 91 = .ok (.iadd, 1) := by decide +kernel
theorem zd_X_room_92 : decode zc_X_room 92 = .ok (.iaload, 1) := by decide +kernel
theorem zd_X_room_93 : decode zc_X_room 93 = .ok (.iadd, 1) := by decide +kernel
theorem zd_X_room_94 : decode zc_X_room 94 = .ok (.aload_n 0, 1) := by decide +kernel
theorem zd_X_room_95 : decode zc_X_room 95 = .ok (.getfield 42, 3) := by decide +kernel
theorem zd_X_room_98 : decode zc_X_room 98 = .ok (.iload 5, 2) := by decide +kernel
theorem zd_X_room_100 : decode zc_X_room 100 = .ok (.iaload, 1) := by decide +kernel
theorem zd_X_room_101 : decode zc_X_room 101 = .ok (.aload_n 0, 1) := by decide +kernel
theorem zd_X_room_102 : decode zc_X_room 102 = .ok (.getfield 23, 3) := by decide +kernel
theorem zd_X_room_105 : decode zc_X_room 105 = .ok (.iload 5, 2) := by decide +kernel
theorem zd_X_room_107 : decode zc_X_room 107 = .ok (.iaload, 1) := by decide +kernel
theorem zd_X_room_108 : decode zc_X_room 108 = .ok (.imul, 1) := by decide +kernel
theorem zd_X_room_109 : decode zc_X_room 109 = .ok (.aload_n 0, 1) := by decide +kernel
theorem zd_X_room_110 : decode zc_X_room 110 = .ok (.iload_n 2, 1) := by decide +kernel
theorem zd_X_room_111 : decode zc_X_room 111 = .ok (.iload_n 3, 1) := by decide +kernel
theorem zd_X_room_112 : decode zc_X_room 112 = .ok (.invokevirtual 188, 3) := by decide +kernel
theorem zd_X_room_115 : decode zc_X_room 115 = .ok (.idiv, 1) := by decide +kernel
theorem zd_X_room_116 : decode zc_X_room 116 = .ok (.iadd, 1) := by decide +kernel
theorem zd_X_room_117 : decode zc_X_room 117 = .ok (.istore 6, 2) := by decide +kernel
theorem zd_X_room_119 : decode zc_X_room 119 = .ok (.iload 4, 2) := by decide +kernel
theorem zd_X_room_121 : decode zc_X_room 121 = .ok (.iconst (-1), 1) := by decide +kernel
theorem zd_X_room_122 : decode zc_X_room 122 = .ok (.if_icmp .eq 10, 3) := by decide +kernel
theorem zd_X_room_125 : decode zc_X_room 125 = .ok (.iload 6, 2) := by decide +kernel
theorem zd_X_room_127 : decode zc_X_room 127 = .ok (.iload 4, 2) := by decide +kernel
theorem zd_X_room_129 : decode zc_X_room 129 = .ok (.if_icmp .ge 8, 3) := by decide +kernel
theorem zd_X_room_132 : decode zc_X_room 132 = .ok (.iload 6, 2) := by decide +kernel
theorem zd_X_room_134 : decode zc_X_room 134 = .ok (.goto 5, 3) := by decide +kernel
theorem zd_X_room_137 : decode zc_X_room 137 = .ok (.iload 4, 2) := by decide +kernel
theorem zd_X_room_139 : decode zc_X_room 139 = .ok (.istore 4, 2) := by decide +kernel
theorem zd_X_room_141 : decode zc_X_room 141 = .ok (.iinc 5 1, 3) := by decide +kernel
theorem zd_X_room_144 : decode zc_X_room 144 = .ok (.goto (-83), 3) := by decide +kernel
theorem zd_X_room_147 : decode zc_X_room 147 = .ok (.aload_n 0, 1) := by decide +kernel
theorem zd_X_room_148 : decode zc_X_room 148 = .ok (.getfield 79, 3) := by decide +kernel
theorem zd_X_room_151 : decode zc_X_room 151 = .ok (.bipush 8, 2) := by decide +kernel
theorem zd_X_room_153 : decode zc_X_room 153 = .ok (.iload_n 2, 1) := by decide +kernel
theorem zd_X_room_154 : decode zc_X_room 154 = .ok (.imul, 1) := by decide +kernel
theorem zd_X_room_155 : decode zc_X_room 155 = .ok (.iload_n 3, 1) := by decide +kernel
theorem zd_X_room_156 : decode zc_X_room 156 = .ok (.iadd, 1) := by decide +kernel
theorem zd_X_room_157 : decode zc_X_room 157 = .ok (.iload 4, 2) := by decide +kernel
theorem zd_X_room_159 : decode zc_X_room 159 = .ok (.iastore, 1) := by decide +kernel
theorem zd_X_room_160 : decode zc_X_room 160 = .ok (.iinc 2 1, 3) := by decide +kernel
theorem zd_X_room_163 : decode zc_X_room 163 = .ok (.goto (-130), 3) := by decide +kernel
theorem zd_X_room_166 : decode zc_X_room 166 = .ok (.iinc 1 1, 3) := by decide +kernel
theorem zd_X_room_169 : decode zc_X_room 169 = .ok (.goto (-146), 3) := by decide +kernel
theorem zd_X_room_172 : decode zc_X_room 172 = .ok (.aload_n 0, 1) := by decide +kernel
theorem zd_X_room_173 : decode zc_X_room 173 = .ok (.getfield 79, 3) := by decide +kernel
theorem zd_X_room_176 : decode zc_X_room 176 = .ok (.aload_n 0, 1) := by decide +kernel
theorem zd_X_room_177 : decode zc_X_room 177 = .ok (.getfield 7, 3) := by decide +kernel
theorem zd_X_room_180 : decode zc_X_room 180 = .ok (.iconst 1, 1) := by decide +kernel
theorem zd_X_room_181 : decode zc_X_room 181 = .ok (.isub, 1) := by decide +kernel
theorem zd_X_room_182 : decode zc_X_room 182 = .ok (.iaload, 1) := by decide +kernel
theorem zd_X_room_183 : decode zc_X_room 183 = .ok (.ireturn, 1) := by decide +kernel
theorem zd_X_total_0 : decode zc_X_total 0 = .ok (.aload_n 0, 1) := by decide +kernel
theorem zd_X_total_1 : decode zc_X_total 1 = .ok (.iconst 0, 1) := by decide +kernel
theorem zd_X_total_2 : decode zc_X_total 2 = .ok (.putfield 82, 3) := by decide +kernel
theorem zd_X_total_5 : decode zc_X_total 5 = .ok (.aload_n 0, 1) := by decide +kernel
theorem zd_X_total_6 : decode zc_X_total 6 = .ok (.invokevirtual 138, 3) := by decide +kernel
theorem zd_X_total_9 : decode zc_X_total 9 = .ok (.iload_n 1, 1) := by decide +kernel
theorem zd_X_total_10 : decode zc_X_total 10 = .ok (.ifCond .ne 10, 3) := by decide +kernel
theorem zd_X_total_13 : decode zc_X_total 13 = .ok (.aload_n 0, 1) := by decide +kernel
theorem zd_X_total_14 : decode zc_X_total 14 = .ok (.getfield 7, 3) := by decide +kernel
theorem zd_X_total_17 : decode zc_X_total 17 = .ok (.goto 40, 3) := by decide +kernel
theorem zd_X_total_20 : decode zc_X_total 20 = .ok (.iload_n 1, 1) := by decide +kernel
theorem zd_X_total_21 : decode zc_X_total 21 = .ok (.iconst 1, 1) := by decide +kernel
theorem zd_X_total_22 : decode zc_X_total 22 = .ok (.if_icmp .ne 10, 3) := by decide +kernel
theorem zd_X_total_25 : decode zc_X_total 25 = .ok (.aload_n 0, 1) := by decide +kernel
theorem zd_X_total_26 : decode zc_X_total 26 = .ok (.getfield 89, 3) := by decide +kernel
theorem zd_X_total_29 : decode zc_X_total 29 = .ok (.goto 28, 3) := by decide +kernel
theorem zd_X_total_32 : decode zc_X_total 32 = .ok (.iload_n 1, 1) := by decide +kernel
theorem zd_X_total_33 : decode zc_X_total 33 = .ok (.iconst 2, 1) := by decide +kernel
theorem zd_X_total_34 : decode zc_X_total 34 = .ok (.if_icmp .ne 10, 3) := by decide +kernel
theorem zd_X_total_37 : decode zc_X_total 37 = .ok (.aload_n 0, 1) := by decide +kernel
theorem zd_X_total_38 : decode zc_X_total 38 = .ok (.getfield 111, 3) := by decide +kernel
theorem zd_X_total_41 : decode zc_X_total 41 = .ok (.goto 16, 3) := by decide +kernel
theorem zd_X_total_44 : decode zc_X_total 44 = .ok (.iload_n 1, 1) := by decide +kernel
theorem zd_X_total_45 : decode zc_X_total 45 = .ok (.iconst 3, 1) := by decide +kernel
theorem zd_X_total_46 : decode zc_X_total 46 = .ok (.if_icmp .ne 10, 3) := by decide +kernel
theorem zd_X_total_49 : decode zc_X_total 49 = .ok (.aload_n 0, 1) := by decide +kernel
theorem zd_X_total_50 : decode zc_X_total 50 = .ok (.getfield 120, 3) := by decide +kernel
theorem zd_X_total_53 : decode zc_X_total 53 = .ok (.goto 4, 3) := by decide +kernel
theorem zd_X_total_56 : decode zc_X_total 56 = .ok (.iconst (-1), 1) := by decide +kernel
theorem zd_X_total_57 : decode zc_X_total 57 = .ok (.ireturn, 1) := by decide +kernel
