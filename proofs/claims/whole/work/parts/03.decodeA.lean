theorem zd_C_init_0 : decode zc_C_init 0 = .ok (.aload_n 0, 1) := by decide +kernel
theorem zd_C_init_1 : decode zc_C_init 1 = .ok (.invokespecial 3, 3) := by decide +kernel
theorem zd_C_init_4 : decode zc_C_init 4 = .ok (.aload_n 0, 1) := by decide +kernel
theorem zd_C_init_5 : decode zc_C_init 5 = .ok (.new 9, 3) := by decide +kernel
theorem zd_C_init_8 : decode zc_C_init 8 = .ok (.dup, 1) := by decide +kernel
theorem zd_C_init_9 : decode zc_C_init 9 = .ok (.invokespecial 11, 3) := by decide +kernel
theorem zd_C_init_12 : decode zc_C_init 12 = .ok (.putfield 12, 3) := by decide +kernel
theorem zd_C_init_15 : decode zc_C_init 15 = .ok (.aload_n 0, 1) := by decide +kernel
theorem zd_C_init_16 : decode zc_C_init 16 = .ok (.new 16, 3) := by decide +kernel
theorem zd_C_init_19 : decode zc_C_init 19 = .ok (.dup, 1) := by decide +kernel
theorem zd_C_init_20 : decode zc_C_init 20 = .ok (.invokespecial 18, 3) := by decide +kernel
theorem zd_C_init_23 : decode zc_C_init 23 = .ok (.putfield 19, 3) := by decide +kernel
theorem zd_C_init_26 : decode zc_C_init 26 = .ok (.aload_n 0, 1) := by decide +kernel
theorem zd_C_init_27 : decode zc_C_init 27 = .ok (.new 23, 3) := by decide +kernel
theorem zd_C_init_30 : decode zc_C_init 30 = .ok (.dup, 1) := by decide +kernel
theorem zd_C_init_31 : decode zc_C_init 31 = .ok (.invokespecial 25, 3) := by decide +kernel
theorem zd_C_init_34 : decode zc_C_init 34 = .ok (.putfield 26, 3) := by decide +kernel
theorem zd_C_init_37 : decode zc_C_init 37 = .ok (.aload_n 0, 1) := by decide +kernel
theorem zd_C_init_38 : decode zc_C_init 38 = .ok (.new 30, 3) := by decide +kernel
theorem zd_C_init_41 : decode zc_C_init 41 = .ok (.dup, 1) := by decide +kernel
theorem zd_C_init_42 : decode zc_C_init 42 = .ok (.invokespecial 32, 3) := by decide +kernel
theorem zd_C_init_45 : decode zc_C_init 45 = .ok (.putfield 33, 3) := by decide +kernel
theorem zd_C_init_48 : decode zc_C_init 48 = .ok (.return_, 1) := by decide +kernel
theorem zd_C_graph_0 : decode zc_C_graph 0 = .ok (.iload_n 1, 1) := by decide +kernel
theorem zd_C_graph_1 : decode zc_C_graph 1 = .ok (.iconst 1, 1) := by decide +kernel
theorem zd_C_graph_2 : decode zc_C_graph 2 = .ok (.bipush 8, 2) := by decide +kernel
theorem zd_C_graph_4 : decode zc_C_graph 4 = .ok (.invokestatic 37, 3) := by decide +kernel
theorem zd_C_graph_7 : decode zc_C_graph 7 = .ok (.ifCond .ne 5, 3) := by decide +kernel
theorem zd_C_graph_10 : decode zc_C_graph 10 = .ok (.iconst 0, 1) := by decide +kernel
theorem zd_C_graph_11 : decode zc_C_graph 11 = .ok (.ireturn, 1) := by decide +kernel
theorem zd_C_graph_12 : decode zc_C_graph 12 = .ok (.aload_n 0, 1) := by decide +kernel
theorem zd_C_graph_13 : decode zc_C_graph 13 = .ok (.getfield 12, 3) := by decide +kernel
theorem zd_C_graph_16 : decode zc_C_graph 16 = .ok (.iload_n 1, 1) := by decide +kernel
theorem zd_C_graph_17 : decode zc_C_graph 17 = .ok (.invokevirtual 41, 3) := by decide +kernel
theorem zd_C_graph_20 : decode zc_C_graph 20 = .ok (.aload_n 0, 1) := by decide +kernel
theorem zd_C_graph_21 : decode zc_C_graph 21 = .ok (.invokevirtual 45, 3) := by decide +kernel
theorem zd_C_graph_24 : decode zc_C_graph 24 = .ok (.iconst 1, 1) := by decide +kernel
theorem zd_C_graph_25 : decode zc_C_graph 25 = .ok (.ireturn, 1) := by decide +kernel
theorem zd_C_time_0 : decode zc_C_time 0 = .ok (.aload_n 0, 1) := by decide +kernel
theorem zd_C_time_1 : decode zc_C_time 1 = .ok (.getfield 12, 3) := by decide +kernel
theorem zd_C_time_4 : decode zc_C_time 4 = .ok (.iload_n 1, 1) := by decide +kernel
theorem zd_C_time_5 : decode zc_C_time 5 = .ok (.invokevirtual 48, 3) := by decide +kernel
theorem zd_C_time_8 : decode zc_C_time 8 = .ok (.ifCond .eq 13, 3) := by decide +kernel
theorem zd_C_time_11 : decode zc_C_time 11 = .ok (.iload_n 2, 1) := by decide +kernel
theorem zd_C_time_12 : decode zc_C_time 12 = .ok (.iconst 1, 1) := by decide +kernel
theorem zd_C_time_13 : decode zc_C_time 13 = .ok (.bipush 9, 2) := by decide +kernel
theorem zd_C_time_15 : decode zc_C_time 15 = .ok (.invokestatic 37, 3) := by decide +kernel
theorem zd_C_time_18 : decode zc_C_time 18 = .ok (.ifCond .ne 5, 3) := by decide +kernel
theorem zd_C_time_21 : decode zc_C_time 21 = .ok (.iconst 0, 1) := by decide +kernel
theorem zd_C_time_22 : decode zc_C_time 22 = .ok (.ireturn, 1) := by decide +kernel
theorem zd_C_time_23 : decode zc_C_time 23 = .ok (.aload_n 0, 1) := by decide +kernel
theorem zd_C_time_24 : decode zc_C_time 24 = .ok (.getfield 12, 3) := by decide +kernel
theorem zd_C_time_27 : decode zc_C_time 27 = .ok (.getfield 52, 3) := by decide +kernel
theorem zd_C_time_30 : decode zc_C_time 30 = .ok (.iload_n 1, 1) := by decide +kernel
theorem zd_C_time_31 : decode zc_C_time 31 = .ok (.iload_n 2, 1) := by decide +kernel
theorem zd_C_time_32 : decode zc_C_time 32 = .ok (.iastore, 1) := by decide +kernel
theorem zd_C_time_33 : decode zc_C_time 33 = .ok (.aload_n 0, 1) := by decide +kernel
theorem zd_C_time_34 : decode zc_C_time 34 = .ok (.invokevirtual 45, 3) := by decide +kernel
theorem zd_C_time_37 : decode zc_C_time 37 = .ok (.iconst 1, 1) := by decide +kernel
theorem zd_C_time_38 : decode zc_C_time 38 = .ok (.ireturn, 1) := by decide +kernel
theorem zd_C_channel_0 : decode zc_C_channel 0 = .ok (.aload_n 0, 1) := by decide +kernel
theorem zd_C_channel_1 : decode zc_C_channel 1 = .ok (.getfield 12, 3) := by decide +kernel
theorem zd_C_channel_4 : decode zc_C_channel 4 = .ok (.iload_n 1, 1) := by decide +kernel
theorem zd_C_channel_5 : decode zc_C_channel 5 = .ok (.invokevirtual 48, 3) := by decide +kernel
theorem zd_C_channel_8 : decode zc_C_channel 8 = .ok (.ifCond .eq 26, 3) := by decide +kernel
theorem zd_C_channel_11 : decode zc_C_channel 11 = .ok (.aload_n 0, 1) := by decide +kernel
theorem zd_C_channel_12 : decode zc_C_channel 12 = .ok (.getfield 12, 3) := by decide +kernel
theorem zd_C_channel_15 : decode zc_C_channel 15 = .ok (.iload_n 2, 1) := by decide +kernel
theorem zd_C_channel_16 : decode zc_C_channel 16 = .ok (.invokevirtual 48, 3) := by decide +kernel
theorem zd_C_channel_19 : decode zc_C_channel 19 = .ok (.ifCond .eq 15, 3) := by decide +kernel
theorem zd_C_channel_22 : decode zc_C_channel 22 = .ok (.aload_n 0, 1) := by decide +kernel
theorem zd_C_channel_23 : decode zc_C_channel 23 = .ok (.getfield 12, 3) := by decide +kernel
theorem zd_C_channel_26 : decode zc_C_channel 26 = .ok (.getfield 56, 3) := by decide +kernel
theorem zd_C_channel_29 : decode zc_C_channel 29 = .ok (.bipush 14, 2) := by decide +kernel
theorem zd_C_channel_31 : decode zc_C_channel 31 = .ok (.if_icmp .lt 5, 3) := by decide +kernel
theorem zd_C_channel_34 : decode zc_C_channel 34 = .ok (.iconst (-1), 1) := by decide +kernel
theorem zd_C_channel_35 : decode zc_C_channel 35 = .ok (.ireturn, 1) := by decide +kernel
theorem zd_C_channel_36 : decode zc_C_channel 36 = .ok (.iload_n 3, 1) := by decide +kernel
theorem zd_C_channel_37 : decode zc_C_channel 37 = .ok (.iconst 1, 1) := by decide +kernel
theorem zd_C_channel_38 : decode zc_C_channel 38 = .ok (.bipush 9, 2) := by decide +kernel
theorem zd_C_channel_40 : decode zc_C_channel 40 = .ok (.invokestatic 37, 3) := by decide +kernel
theorem zd_C_channel_43 : decode zc_C_channel 43 = .ok (.ifCond .eq 25, 3) := by decide +kernel
theorem zd_C_channel_46 : decode zc_C_channel 46 = .ok (.iload 4, 2) := by decide +kernel
theorem zd_C_channel_48 : decode zc_C_channel 48 = .ok (.iconst 1, 1) := by decide +kernel
theorem zd_C_channel_49 : decode zc_C_channel 49 = .ok (.bipush 9, 2) := by decide +kernel
theorem zd_C_channel_51 : decode zc_C_channel 51 = .ok (.invokestatic 37, 3) := by decide +kernel
theorem zd_C_channel_54 : decode zc_C_channel 54 = .ok (.ifCond .eq 14, 3) := by decide +kernel
theorem zd_C_channel_57 : decode zc_C_channel 57 = .ok (.iload 5, 2) := by decide +kernel
theorem zd_C_channel_59 : decode zc_C_channel 59 = .ok (.iconst 0, 1) := by decide +kernel
theorem zd_C_channel_60 : decode zc_C_channel 60 = .ok (.bipush 99, 2) := by decide +kernel
theorem zd_C_channel_62 : decode zc_C_channel 62 = .ok (.invokestatic 37, 3) := by decide +kernel
theorem zd_C_channel_65 : decode zc_C_channel 65 = .ok (.ifCond .ne 5, 3) := by decide +kernel
theorem zd_C_channel_68 : decode zc_C_channel 68 = .ok (.iconst (-1), 1) := by decide +kernel
theorem zd_C_channel_69 : decode zc_C_channel 69 = .ok (.ireturn, 1) := by decide +kernel
theorem zd_C_channel_70 : decode zc_C_channel 70 = .ok (.aload_n 0, 1) := by decide +kernel
theorem zd_C_channel_71 : decode zc_C_channel 71 = .ok (.invokevirtual 45, 3) := by decide +kernel
theorem zd_C_channel_74 : decode zc_C_channel 74 = .ok (.aload_n 0, 1) := by decide +kernel
theorem zd_C_channel_75 : decode zc_C_channel 75 = .ok (.getfield 12, 3) := by decide +kernel
theorem zd_C_channel_78 : decode zc_C_channel 78 = .ok (.iload_n 1, 1) := by decide +kernel
theorem zd_C_channel_79 : decode zc_C_channel 79 = .ok (.iload_n 2, 1) := by decide +kernel
theorem zd_C_channel_80 : decode zc_C_channel 80 = .ok (.iload_n 3, 1) := by decide +kernel
theorem zd_C_channel_81 : decode zc_C_channel 81 = .ok (.iload 4, 2) := by decide +kernel
theorem zd_C_channel_83 : decode zc_C_channel 83 = .ok (.iload 5, 2) := by decide +kernel
theorem zd_C_channel_85 : decode zc_C_channel 85 = .ok (.invokevirtual 60, 3) := by decide +kernel
theorem zd_C_channel_88 : decode zc_C_channel 88 = .ok (.ireturn, 1) := by decide +kernel
theorem zd_C_uneven_0 : decode zc_C_uneven 0 = .ok (.aload_n 0, 1) := by decide +kernel
theorem zd_C_uneven_1 : decode zc_C_uneven 1 = .ok (.getfield 12, 3) := by decide +kernel
theorem zd_C_uneven_4 : decode zc_C_uneven 4 = .ok (.getfield 64, 3) := by decide +kernel
theorem zd_C_uneven_7 : decode zc_C_uneven 7 = .ok (.ireturn, 1) := by decide +kernel
theorem zd_C_count_0 : decode zc_C_count 0 = .ok (.aload_n 0, 1) := by decide +kernel
theorem zd_C_count_1 : decode zc_C_count 1 = .ok (.getfield 12, 3) := by decide +kernel
theorem zd_C_count_4 : decode zc_C_count 4 = .ok (.iload_n 1, 1) := by decide +kernel
theorem zd_C_count_5 : decode zc_C_count 5 = .ok (.invokevirtual 48, 3) := by decide +kernel
theorem zd_C_count_8 : decode zc_C_count 8 = .ok (.ifCond .ne 5, 3) := by decide +kernel
theorem zd_C_count_11 : decode zc_C_count 11 = .ok (.iconst (-1), 1) := by decide +kernel
theorem zd_C_count_12 : decode zc_C_count 12 = .ok (.ireturn, 1) := by decide +kernel
theorem zd_C_count_13 : decode zc_C_count 13 = .ok (.aload_n 0, 1) := by decide +kernel
theorem zd_C_count_14 : decode zc_C_count 14 = .ok (.getfield 12, 3) := by decide +kernel
theorem zd_C_count_17 : decode zc_C_count 17 = .ok (.invokevirtual 67, 3) := by decide +kernel
theorem zd_C_count_20 : decode zc_C_count 20 = .ok (.ifCond .eq 13, 3) := by decide +kernel
theorem zd_C_count_23 : decode zc_C_count 23 = .ok (.new 71, 3) := by decide +kernel
theorem zd_C_count_26 : decode zc_C_count 26 = .ok (.dup, 1) := by decide +kernel
theorem zd_C_count_27 : decode zc_C_count 27 = .ok (.ldc 73, 2) := by decide +kernel
theorem zd_C_count_29 : decode zc_C_count 29 = .ok (.invokespecial 75, 3) := by decide +kernel
theorem zd_C_count_32 : decode zc_C_count 32 = .ok (.athrow, 1) := by decide +kernel
theorem zd_C_count_33 : decode zc_C_count 33 = .ok (.aload_n 0, 1) := by decide +kernel
theorem zd_C_count_34 : decode zc_C_count 34 = .ok (.getfield 12, 3) := by decide +kernel
theorem zd_C_count_37 : decode zc_C_count 37 = .ok (.invokevirtual 78, 3) := by decide +kernel
theorem zd_C_count_40 : decode zc_C_count 40 = .ok (.ifCond .eq 13, 3) := by decide +kernel
theorem zd_C_count_43 : decode zc_C_count 43 = .ok (.new 81, 3) := by decide +kernel
theorem zd_C_count_46 : decode zc_C_count 46 = .ok (.dup, 1) := by decide +kernel
theorem zd_C_count_47 : decode zc_C_count 47 = .ok (.ldc 83, 2) := by decide +kernel
theorem zd_C_count_49 : decode zc_C_count 49 = .ok (.invokespecial 85, 3) := by decide +kernel
theorem zd_C_count_52 : decode zc_C_count 52 = .ok (.athrow, 1) := by decide +kernel
theorem zd_C_count_53 : decode zc_C_count 53 = .ok (.aload_n 0, 1) := by decide +kernel
theorem zd_C_count_54 : decode zc_C_count 54 = .ok (.getfield 12, 3) := by decide +kernel
theorem zd_C_count_57 : decode zc_C_count 57 = .ok (.getfield 86, 3) := by decide +kernel
theorem zd_C_count_60 : decode zc_C_count 60 = .ok (.iload_n 1, 1) := by decide +kernel
theorem zd_C_count_61 : decode zc_C_count 61 = .ok (.iaload, 1) := by decide +kernel
theorem zd_C_count_62 : decode zc_C_count 62 = .ok (.ireturn, 1) := by decide +kernel
theorem zd_C_order_0 : decode zc_C_order 0 = .ok (.aload_n 0, 1) := by decide +kernel
theorem zd_C_order_1 : decode zc_C_order 1 = .ok (.invokevirtual 89, 3) := by decide +kernel
theorem zd_C_order_4 : decode zc_C_order 4 = .ok (.ifCond .eq 20, 3) := by decide +kernel
theorem zd_C_order_7 : decode zc_C_order 7 = .ok (.iload_n 1, 1) := by decide +kernel
theorem zd_C_order_8 : decode zc_C_order 8 = .ok (.iconst 0, 1) := by decide +kernel
theorem zd_C_order_9 : decode zc_C_order 9 = .ok (.aload_n 0, 1) := by decide +kernel
theorem zd_C_order_10 : decode zc_C_order 10 = .ok (.getfield 19, 3) := by decide +kernel
theorem zd_C_order_13 : decode zc_C_order 13 = .ok (.getfield 92, 3) := by decide +kernel
theorem zd_C_order_16 : decode zc_C_order 16 = .ok (.iconst 1, 1) := by decide +kernel
theorem zd_C_order_17 : decode zc_C_order 17 = .ok (.isub, 1) := by decide +kernel
theorem zd_C_order_18 : decode zc_C_order 18 = .ok (.invokestatic 37, 3) := by decide +kernel
theorem zd_C_order_21 : decode zc_C_order 21 = .ok (.ifCond .ne 13, 3) := by decide +kernel
theorem zd_C_order_24 : decode zc_C_order 24 = .ok (.new 95, 3) := by decide +kernel
theorem zd_C_order_27 : decode zc_C_order 27 = .ok (.dup, 1) := by decide +kernel
theorem zd_C_order_28 : decode zc_C_order 28 = .ok (.ldc 97, 2) := by decide +kernel
theorem zd_C_order_30 : decode zc_C_order 30 = .ok (.invokespecial 99, 3) := by decide +kernel
theorem zd_C_order_33 : decode zc_C_order 33 = .ok (.athrow, 1) := by decide +kernel
theorem zd_C_order_34 : decode zc_C_order 34 = .ok (.aload_n 0, 1) := by decide +kernel
theorem zd_C_order_35 : decode zc_C_order 35 = .ok (.getfield 19, 3) := by decide +kernel
theorem zd_C_order_38 : decode zc_C_order 38 = .ok (.getfield 100, 3) := by decide +kernel
theorem zd_C_order_41 : decode zc_C_order 41 = .ok (.iload_n 1, 1) := by decide +kernel
theorem zd_C_order_42 : decode zc_C_order 42 = .ok (.iaload, 1) := by decide +kernel
theorem zd_C_order_43 : decode zc_C_order 43 = .ok (.ireturn, 1) := by decide +kernel
theorem zd_C_left_0 : decode zc_C_left 0 = .ok (.aload_n 0, 1) := by decide +kernel
theorem zd_C_left_1 : decode zc_C_left 1 = .ok (.getfield 12, 3) := by decide +kernel
theorem zd_C_left_4 : decode zc_C_left 4 = .ok (.iload_n 1, 1) := by decide +kernel
theorem zd_C_left_5 : decode zc_C_left 5 = .ok (.invokevirtual 48, 3) := by decide +kernel
theorem zd_C_left_8 : decode zc_C_left 8 = .ok (.ifCond .eq 22, 3) := by decide +kernel
theorem zd_C_left_11 : decode zc_C_left 11 = .ok (.aload_n 0, 1) := by decide +kernel
theorem zd_C_left_12 : decode zc_C_left 12 = .ok (.invokevirtual 89, 3) := by decide +kernel
theorem zd_C_left_15 : decode zc_C_left 15 = .ok (.ifCond .eq 15, 3) := by decide +kernel
theorem zd_C_left_18 : decode zc_C_left 18 = .ok (.aload_n 0, 1) := by decide +kernel
theorem zd_C_left_19 : decode zc_C_left 19 = .ok (.getfield 19, 3) := by decide +kernel
theorem zd_C_left_22 : decode zc_C_left 22 = .ok (.getfield 103, 3) := by decide +kernel
theorem zd_C_left_25 : decode zc_C_left 25 = .ok (.iload_n 1, 1) := by decide +kernel
theorem zd_C_left_26 : decode zc_C_left 26 = .ok (.iaload, 1) := by decide +kernel
theorem zd_C_left_27 : decode zc_C_left 27 = .ok (.goto 4, 3) := by decide +kernel
theorem zd_C_left_30 : decode zc_C_left 30 = .ok (.iconst (-1), 1) := by decide +kernel
theorem zd_C_left_31 : decode zc_C_left 31 = .ok (.ireturn, 1) := by decide +kernel
theorem zd_C_peak_0 : decode zc_C_peak 0 = .ok (.aload_n 0, 1) := by decide +kernel
theorem zd_C_peak_1 : decode zc_C_peak 1 = .ok (.getfield 12, 3) := by decide +kernel
theorem zd_C_peak_4 : decode zc_C_peak 4 = .ok (.iload_n 1, 1) := by decide +kernel
theorem zd_C_peak_5 : decode zc_C_peak 5 = .ok (.invokevirtual 106, 3) := by decide +kernel
theorem zd_C_peak_8 : decode zc_C_peak 8 = .ok (.ifCond .eq 22, 3) := by decide +kernel
theorem zd_C_peak_11 : decode zc_C_peak 11 = .ok (.aload_n 0, 1) := by decide +kernel
theorem zd_C_peak_12 : decode zc_C_peak 12 = .ok (.invokevirtual 89, 3) := by decide +kernel
theorem zd_C_peak_15 : decode zc_C_peak 15 = .ok (.ifCond .eq 15, 3) := by decide +kernel
theorem zd_C_peak_18 : decode zc_C_peak 18 = .ok (.aload_n 0, 1) := by decide +kernel
theorem zd_C_peak_19 : decode zc_C_peak 19 = .ok (.getfield 19, 3) := by decide +kernel
theorem zd_C_peak_22 : decode zc_C_peak 22 = .ok (.getfield 109, 3) := by decide +kernel
theorem zd_C_peak_25 : decode zc_C_peak 25 = .ok (.iload_n 1, 1) := by decide +kernel
theorem zd_C_peak_26 : decode zc_C_peak 26 = .ok (.iaload, 1) := by decide +kernel
theorem zd_C_peak_27 : decode zc_C_peak 27 = .ok (.goto 4, 3) := by decide +kernel
theorem zd_C_peak_30 : decode zc_C_peak 30 = .ok (.iconst (-1), 1) := by decide +kernel
theorem zd_C_peak_31 : decode zc_C_peak 31 = .ok (.ireturn, 1) := by decide +kernel
theorem zd_C_pace_0 : decode zc_C_pace 0 = .ok (.aload_n 0, 1) := by decide +kernel
theorem zd_C_pace_1 : decode zc_C_pace 1 = .ok (.getfield 12, 3) := by decide +kernel
theorem zd_C_pace_4 : decode zc_C_pace 4 = .ok (.iload_n 1, 1) := by decide +kernel
theorem zd_C_pace_5 : decode zc_C_pace 5 = .ok (.invokevirtual 48, 3) := by decide +kernel
theorem zd_C_pace_8 : decode zc_C_pace 8 = .ok (.ifCond .eq 12, 3) := by decide +kernel
theorem zd_C_pace_11 : decode zc_C_pace 11 = .ok (.iload_n 2, 1) := by decide +kernel
theorem zd_C_pace_12 : decode zc_C_pace 12 = .ok (.iconst 0, 1) := by decide +kernel
theorem zd_C_pace_13 : decode zc_C_pace 13 = .ok (.iconst 1, 1) := by decide +kernel
theorem zd_C_pace_14 : decode zc_C_pace 14 = .ok (.invokestatic 37, 3) := by decide +kernel
theorem zd_C_pace_17 : decode zc_C_pace 17 = .ok (.ifCond .ne 13, 3) := by decide +kernel
theorem zd_C_pace_20 : decode zc_C_pace 20 = .ok (.new 95, 3) := by decide +kernel
theorem zd_C_pace_23 : decode zc_C_pace 23 = .ok (.dup, 1) := by decide +kernel
theorem zd_C_pace_24 : decode zc_C_pace 24 = .ok (.ldc 112, 2) := by decide +kernel
theorem zd_C_pace_26 : decode zc_C_pace 26 = .ok (.invokespecial 99, 3) := by decide +kernel
theorem zd_C_pace_29 : decode zc_C_pace 29 = .ok (.athrow, 1) := by decide +kernel
theorem zd_C_pace_30 : decode zc_C_pace 30 = .ok (.aload_n 0, 1) := by decide +kernel
theorem zd_C_pace_31 : decode zc_C_pace 31 = .ok (.invokevirtual 89, 3) := by decide +kernel
theorem zd_C_pace_34 : decode zc_C_pace 34 = .ok (.ifCond .eq 28, 3) := by decide +kernel
theorem zd_C_pace_37 : decode zc_C_pace 37 = .ok (.aload_n 0, 1) := by decide +kernel
theorem zd_C_pace_38 : decode zc_C_pace 38 = .ok (.getfield 19, 3) := by decide +kernel
theorem zd_C_pace_41 : decode zc_C_pace 41 = .ok (.aload_n 0, 1) := by decide +kernel
theorem zd_C_pace_42 : decode zc_C_pace 42 = .ok (.getfield 12, 3) := by decide +kernel
theorem zd_C_pace_45 : decode zc_C_pace 45 = .ok (.invokevirtual 114, 3) := by decide +kernel
theorem zd_C_pace_48 : decode zc_C_pace 48 = .ok (.ifCond .eq 14, 3) := by decide +kernel
theorem zd_C_pace_51 : decode zc_C_pace 51 = .ok (.aload_n 0, 1) := by decide +kernel
theorem zd_C_pace_52 : decode zc_C_pace 52 = .ok (.getfield 12, 3) := by decide +kernel
theorem zd_C_pace_55 : decode zc_C_pace 55 = .ok (.iload_n 1, 1) := by decide +kernel
theorem zd_C_pace_56 : decode zc_C_pace 56 = .ok (.invokevirtual 118, 3) := by decide +kernel
theorem zd_C_pace_59 : decode zc_C_pace 59 = .ok (.ifCond .ne 13, 3) := by decide +kernel
theorem zd_C_pace_62 : decode zc_C_pace 62 = .ok (.new 71, 3) := by decide +kernel
theorem zd_C_pace_65 : decode zc_C_pace 65 = .ok (.dup, 1) := by decide +kernel
theorem zd_C_pace_66 : decode zc_C_pace 66 = .ok (.ldc 121, 2) := by decide +kernel
theorem zd_C_pace_68 : decode zc_C_pace 68 = .ok (.invokespecial 75, 3) := by decide +kernel
theorem zd_C_pace_71 : decode zc_C_pace 71 = .ok (.athrow, 1) := by decide +kernel
theorem zd_C_pace_72 : decode zc_C_pace 72 = .ok (.aload_n 0, 1) := by decide +kernel
theorem zd_C_pace_73 : decode zc_C_pace 73 = .ok (.getfield 12, 3) := by decide +kernel
theorem zd_C_pace_76 : decode zc_C_pace 76 = .ok (.iload_n 1, 1) := by decide +kernel
theorem zd_C_pace_77 : decode zc_C_pace 77 = .ok (.invokevirtual 123, 3) := by decide +kernel
theorem zd_C_pace_80 : decode zc_C_pace 80 = .ok (.bipush 40, 2) := by decide +kernel
theorem zd_C_pace_82 : decode zc_C_pace 82 = .ok (.if_icmp .le 13, 3) := by decide +kernel
theorem zd_C_pace_85 : decode zc_C_pace 85 = .ok (.new 81, 3) := by decide +kernel
theorem zd_C_pace_88 : decode zc_C_pace 88 = .ok (.dup, 1) := by decide +kernel
theorem zd_C_pace_89 : decode zc_C_pace 89 = .ok (.ldc 127, 2) := by decide +kernel
theorem zd_C_pace_91 : decode zc_C_pace 91 = .ok (.invokespecial 85, 3) := by decide +kernel
theorem zd_C_pace_94 : decode zc_C_pace 94 = .ok (.athrow, 1) := by decide +kernel
theorem zd_C_pace_95 : decode zc_C_pace 95 = .ok (.aload_n 0, 1) := by decide +kernel
theorem zd_C_pace_96 : decode zc_C_pace 96 = .ok (.getfield 26, 3) := by decide +kernel
theorem zd_C_pace_99 : decode zc_C_pace 99 = .ok (.aload_n 0, 1) := by decide +kernel
theorem zd_C_pace_100 : decode zc_C_pace 100 = .ok (.getfield 12, 3) := by decide +kernel
theorem zd_C_pace_103 : decode zc_C_pace 103 = .ok (.aload_n 0, 1) := by decide +kernel
theorem zd_C_pace_104 : decode zc_C_pace 104 = .ok (.getfield 12, 3) := by decide +kernel
theorem zd_C_pace_107 : decode zc_C_pace 107 = .ok (.getfield 129, 3) := by decide +kernel
theorem zd_C_pace_110 : decode zc_C_pace 110 = .ok (.iload_n 1, 1) := by decide +kernel
theorem zd_C_pace_111 : decode zc_C_pace 111 = .ok (.iaload, 1) := by decide +kernel
theorem zd_C_pace_112 : decode zc_C_pace 112 = .ok (.invokevirtual 132, 3) := by decide +kernel
theorem zd_C_pace_115 : decode zc_C_pace 115 = .ok (.iload_n 2, 1) := by decide +kernel
theorem zd_C_pace_116 : decode zc_C_pace 116 = .ok (.ifCond .ne 13, 3) := by decide +kernel
theorem zd_C_pace_119 : decode zc_C_pace 119 = .ok (.aload_n 0, 1) := by decide +kernel
theorem zd_C_pace_120 : decode zc_C_pace 120 = .ok (.getfield 26, 3) := by decide +kernel
theorem zd_C_pace_123 : decode zc_C_pace 123 = .ok (.getfield 136, 3) := by decide +kernel
theorem zd_C_pace_126 : decode zc_C_pace 126 = .ok (.goto 10, 3) := by decide +kernel
theorem zd_C_pace_129 : decode zc_C_pace 129 = .ok (.aload_n 0, 1) := by decide +kernel
theorem zd_C_pace_130 : decode zc_C_pace 130 = .ok (.getfield 26, 3) := by decide +kernel
theorem zd_C_pace_133 : decode zc_C_pace 133 = .ok (.getfield 139, 3) := by decide +kernel
theorem zd_C_pace_136 : decode zc_C_pace 136 = .ok (.ireturn, 1) := by decide +kernel
theorem zd_C_room_0 : decode zc_C_room 0 = .ok (.aload_n 0, 1) := by decide +kernel
theorem zd_C_room_1 : decode zc_C_room 1 = .ok (.getfield 12, 3) := by decide +kernel
theorem zd_C_room_4 : decode zc_C_room 4 = .ok (.invokevirtual 142, 3) := by decide +kernel
theorem zd_C_room_7 : decode zc_C_room 7 = .ok (.ifCond .eq 27, 3) := by decide +kernel
theorem zd_C_room_10 : decode zc_C_room 10 = .ok (.aload_n 0, 1) := by decide +kernel
theorem zd_C_room_11 : decode zc_C_room 11 = .ok (.getfield 12, 3) := by decide +kernel
theorem zd_C_room_14 : decode zc_C_room 14 = .ok (.invokevirtual 78, 3) := by decide +kernel
theorem zd_C_room_17 : decode zc_C_room 17 = .ok (.ifCond .ne 17, 3) := by decide +kernel
theorem zd_C_room_20 : decode zc_C_room 20 = .ok (.aload_n 0, 1) := by decide +kernel
theorem zd_C_room_21 : decode zc_C_room 21 = .ok (.getfield 33, 3) := by decide +kernel
theorem zd_C_room_24 : decode zc_C_room 24 = .ok (.aload_n 0, 1) := by decide +kernel
theorem zd_C_room_25 : decode zc_C_room 25 = .ok (.getfield 12, 3) := by decide +kernel
theorem zd_C_room_28 : decode zc_C_room 28 = .ok (.invokevirtual 145, 3) := by decide +kernel
theorem zd_C_room_31 : decode zc_C_room 31 = .ok (.goto 4, 3) := by decide +kernel
theorem zd_C_room_34 : decode zc_C_room 34 = .ok (.iconst (-1), 1) := by decide +kernel
theorem zd_C_room_35 : decode zc_C_room 35 = .ok (.ireturn, 1) := by decide +kernel
theorem zd_C_total_0 : decode zc_C_total 0 = .ok (.iload_n 1, 1) := by decide +kernel
theorem zd_C_total_1 : decode zc_C_total 1 = .ok (.tableswitch 74 0 3 #[31, 39, 47, 55], 31) := by decide +kernel
theorem zd_C_total_32 : decode zc_C_total 32 = .ok (.aload_n 0, 1) := by decide +kernel
theorem zd_C_total_33 : decode zc_C_total 33 = .ok (.getfield 12, 3) := by decide +kernel
theorem zd_C_total_36 : decode zc_C_total 36 = .ok (.getfield 149, 3) := by decide +kernel
theorem zd_C_total_39 : decode zc_C_total 39 = .ok (.ireturn, 1) := by decide +kernel
theorem zd_C_total_40 : decode zc_C_total 40 = .ok (.aload_n 0, 1) := by decide +kernel
theorem zd_C_total_41 : decode zc_C_total 41 = .ok (.getfield 12, 3) := by decide +kernel
theorem zd_C_total_44 : decode zc_C_total 44 = .ok (.getfield 56, 3) := by decide +kernel
theorem zd_C_total_47 : decode zc_C_total 47 = .ok (.ireturn, 1) := by decide +kernel
theorem zd_C_total_48 : decode zc_C_total 48 = .ok (.aload_n 0, 1) := by decide +kernel
theorem zd_C_total_49 : decode zc_C_total 49 = .ok (.getfield 12, 3) := by decide +kernel
theorem zd_C_total_52 : decode zc_C_total 52 = .ok (.invokevirtual 152, 3) := by decide +kernel
theorem zd_C_total_55 : decode zc_C_total 55 = .ok (.ireturn, 1) := by decide +kernel
theorem zd_C_total_56 : decode zc_C_total 56 = .ok (.aload_n 0, 1) := by decide +kernel
theorem zd_C_total_57 : decode zc_C_total 57 = .ok (.invokevirtual 89, 3) := by decide +kernel
theorem zd_C_total_60 : decode zc_C_total 60 = .ok (.ifCond .eq 13, 3) := by decide +kernel
theorem zd_C_total_63 : decode zc_C_total 63 = .ok (.aload_n 0, 1) := by decide +kernel
theorem zd_C_total_64 : decode zc_C_total 64 = .ok (.getfield 19, 3) := by decide +kernel
theorem zd_C_total_67 : decode zc_C_total 67 = .ok (.getfield 92, 3) := by decide +kernel
theorem zd_C_total_70 : decode zc_C_total 70 = .ok (.goto 4, 3) := by decide +kernel
theorem zd_C_total_73 : decode zc_C_total 73 = .ok (.iconst 0, 1) := by decide +kernel
theorem zd_C_total_74 : decode zc_C_total 74 = .ok (.ireturn, 1) := by decide +kernel
theorem zd_C_total_75 : decode zc_C_total 75 = .ok (.iconst (-1), 1) := by decide +kernel
theorem zd_C_total_76 : decode zc_C_total 76 = .ok (.ireturn, 1) := by decide +kernel
theorem zd_C_forgetAnswers_0 : decode zc_C_forgetAnswers 0 = .ok (.aload_n 0, 1) := by decide +kernel
theorem zd_C_forgetAnswers_1 : decode zc_C_forgetAnswers 1 = .ok (.getfield 19, 3) := by decide +kernel
theorem zd_C_forgetAnswers_4 : decode zc_C_forgetAnswers 4 = .ok (.iconst 0, 1) := by decide +kernel
theorem zd_C_forgetAnswers_5 : decode zc_C_forgetAnswers 5 = .ok (.putfield 156, 3) := by decide +kernel
theorem zd_C_forgetAnswers_8 : decode zc_C_forgetAnswers 8 = .ok (.aload_n 0, 1) := by decide +kernel
theorem zd_C_forgetAnswers_9 : decode zc_C_forgetAnswers 9 = .ok (.getfield 26, 3) := by decide +kernel
theorem zd_C_forgetAnswers_12 : decode zc_C_forgetAnswers 12 = .ok (.iconst (-1), 1) := by decide +kernel
theorem zd_C_forgetAnswers_13 : decode zc_C_forgetAnswers 13 = .ok (.putfield 160, 3) := by decide +kernel
theorem zd_C_forgetAnswers_16 : decode zc_C_forgetAnswers 16 = .ok (.return_, 1) := by decide +kernel
theorem zd_C_findRound_0 : decode zc_C_findRound 0 = .ok (.aload_n 0, 1) := by decide +kernel
theorem zd_C_findRound_1 : decode zc_C_findRound 1 = .ok (.getfield 12, 3) := by decide +kernel
theorem zd_C_findRound_4 : decode zc_C_findRound 4 = .ok (.invokevirtual 67, 3) := by decide +kernel
theorem zd_C_findRound_7 : decode zc_C_findRound 7 = .ok (.ifCond .ne 13, 3) := by decide +kernel
theorem zd_C_findRound_10 : decode zc_C_findRound 10 = .ok (.aload_n 0, 1) := by decide +kernel
theorem zd_C_findRound_11 : decode zc_C_findRound 11 = .ok (.getfield 12, 3) := by decide +kernel
theorem zd_C_findRound_14 : decode zc_C_findRound 14 = .ok (.invokevirtual 78, 3) := by decide +kernel
theorem zd_C_findRound_17 : decode zc_C_findRound 17 = .ok (.ifCond .eq 5, 3) := by decide +kernel
theorem zd_C_findRound_20 : decode zc_C_findRound 20 = .ok (.iconst 0, 1) := by decide +kernel
theorem zd_C_findRound_21 : decode zc_C_findRound 21 = .ok (.ireturn, 1) := by decide +kernel
theorem zd_C_findRound_22 : decode zc_C_findRound 22 = .ok (.aload_n 0, 1) := by decide +kernel
theorem zd_C_findRound_23 : decode zc_C_findRound 23 = .ok (.getfield 19, 3) := by decide +kernel
theorem zd_C_findRound_26 : decode zc_C_findRound 26 = .ok (.getfield 156, 3) := by decide +kernel
theorem zd_C_findRound_29 : decode zc_C_findRound 29 = .ok (.ifCond .ne 14, 3) := by decide +kernel
theorem zd_C_findRound_32 : decode zc_C_findRound 32 = .ok (.aload_n 0, 1) := by decide +kernel
theorem zd_C_findRound_33 : decode zc_C_findRound 33 = .ok (.getfield 19, 3) := by decide +kernel
theorem zd_C_findRound_36 : decode zc_C_findRound 36 = .ok (.aload_n 0, 1) := by decide +kernel
theorem zd_C_findRound_37 : decode zc_C_findRound 37 = .ok (.getfield 12, 3) := by decide +kernel
theorem zd_C_findRound_40 : decode zc_C_findRound 40 = .ok (.invokevirtual 163, 3) := by decide +kernel
theorem zd_C_findRound_43 : decode zc_C_findRound 43 = .ok (.iconst 1, 1) := by decide +kernel
theorem zd_C_findRound_44 : decode zc_C_findRound 44 = .ok (.ireturn, 1) := by decide +kernel
theorem zd_C_isWithin_0 : decode zc_C_isWithin 0 = .ok (.iload_n 0, 1) := by decide +kernel
theorem zd_C_isWithin_1 : decode zc_C_isWithin 1 = .ok (.iload_n 1, 1) := by decide +kernel
theorem zd_C_isWithin_2 : decode zc_C_isWithin 2 = .ok (.if_icmp .lt 12, 3) := by decide +kernel
theorem zd_C_isWithin_5 : decode zc_C_isWithin 5 = .ok (.iload_n 0, 1) := by decide +kernel
theorem zd_C_isWithin_6 : decode zc_C_isWithin 6 = .ok (.iload_n 2, 1) := by decide +kernel
theorem zd_C_isWithin_7 : decode zc_C_isWithin 7 = .ok (.if_icmp .gt 7, 3) := by decide +kernel
theorem zd_C_isWithin_10 : decode zc_C_isWithin 10 = .ok (.iconst 1, 1) := by decide +kernel
theorem zd_C_isWithin_11 : decode zc_C_isWithin 11 = .ok (.goto 4, 3) := by decide +kernel
theorem zd_C_isWithin_14 : decode zc_C_isWithin 14 = .ok (.iconst 0, 1) := by decide +kernel
theorem zd_C_isWithin_15 : decode zc_C_isWithin 15 = .ok (.ireturn, 1) := by decide +kernel
theorem zd_C_commonDivisor_0 : decode zc_C_commonDivisor 0 = .ok (.iload_n 0, 1) := by decide +kernel
theorem zd_C_commonDivisor_1 : decode zc_C_commonDivisor 1 = .ok (.istore_n 2, 1) := by decide +kernel
theorem zd_C_commonDivisor_2 : decode zc_C_commonDivisor 2 = .ok (.iload_n 1, 1) := by decide +kernel
theorem zd_C_commonDivisor_3 : decode zc_C_commonDivisor 3 = .ok (.istore_n 3, 1) := by decide +kernel
theorem zd_C_commonDivisor_4 : decode zc_C_commonDivisor 4 = .ok (.iconst 0, 1) := by decide +kernel
theorem zd_C_commonDivisor_5 : decode zc_C_commonDivisor 5 = .ok (.istore 4, 2) := by decide +kernel
theorem zd_C_commonDivisor_7 : decode zc_C_commonDivisor 7 = .ok (.iload 4, 2) := by decide +kernel
theorem zd_C_commonDivisor_9 : decode zc_C_commonDivisor 9 = .ok (.bipush 100, 2) := by decide +kernel
theorem zd_C_commonDivisor_11 : decode zc_C_commonDivisor 11 = .ok (.if_icmp .ge 23, 3) := by decide +kernel
theorem zd_C_commonDivisor_14 : decode zc_C_commonDivisor 14 = .ok (.iload_n 3, 1) := by decide +kernel
theorem zd_C_commonDivisor_15 : decode zc_C_commonDivisor 15 = .ok (.ifCond .eq 19, 3) := by decide +kernel
theorem zd_C_commonDivisor_18 : decode zc_C_commonDivisor 18 = .ok (.iload_n 2, 1) := by decide +kernel
theorem zd_C_commonDivisor_19 : decode zc_C_commonDivisor 19 = .ok (.iload_n 3, 1) := by decide +kernel
theorem zd_C_commonDivisor_20 : decode zc_C_commonDivisor 20 = .ok (.irem, 1) := by decide +kernel
theorem zd_C_commonDivisor_21 : decode zc_C_commonDivisor 21 = .ok (.istore 5, 2) := by decide +kernel
theorem zd_C_commonDivisor_23 : decode zc_C_commonDivisor 23 = .ok (.iload_n 3, 1) := by decide +kernel
theorem zd_C_commonDivisor_24 : decode zc_C_commonDivisor 24 = .ok (.istore_n 2, 1) := by decide +kernel
theorem zd_C_commonDivisor_25 : decode zc_C_commonDivisor 25 = .ok (.iload 5, 2) := by decide +kernel
theorem zd_C_commonDivisor_27 : decode zc_C_commonDivisor 27 = .ok (.istore_n 3, 1) := by decide +kernel
theorem zd_C_commonDivisor_28 : decode zc_C_commonDivisor 28 = .ok (.iinc 4 1, 3) := by decide +kernel
theorem zd_C_commonDivisor_31 : decode zc_C_commonDivisor 31 = .ok (.goto (-24), 3) := by decide +kernel
theorem zd_C_commonDivisor_34 : decode zc_C_commonDivisor 34 = .ok (.iload_n 2, 1) := by decide +kernel
theorem zd_C_commonDivisor_35 : decode zc_C_commonDivisor 35 = .ok (.ireturn, 1) := by decide +kernel
theorem zd_C_divided_0 : decode zc_C_divided 0 = .ok (.iload_n 1, 1) := by decide +kernel
theorem zd_C_divided_1 : decode zc_C_divided 1 = .ok (.ifCond .ne 7, 3) := by decide +kernel
theorem zd_C_divided_4 : decode zc_C_divided 4 = .ok (.iconst 0, 1) := by decide +kernel
theorem zd_C_divided_5 : decode zc_C_divided 5 = .ok (.goto 6, 3) := by decide +kernel
theorem zd_C_divided_8 : decode zc_C_divided 8 = .ok (.iload_n 0, 1) := by decide +kernel
theorem zd_C_divided_9 : decode zc_C_divided 9 = .ok (.iload_n 1, 1) := by decide +kernel
theorem zd_C_divided_10 : decode zc_C_divided 10 = .ok (.idiv, 1) := by decide +kernel
theorem zd_C_divided_11 : decode zc_C_divided 11 = .ok (.ireturn, 1) := by decide +kernel
theorem zd_N_init_0 : decode zc_N_init 0 = .ok (.aload_n 0, 1) := by decide +kernel
theorem zd_N_init_1 : decode zc_N_init 1 = .ok (.invokespecial 3, 3) := by decide +kernel
theorem zd_N_init_4 : decode zc_N_init 4 = .ok (.aload_n 0, 1) := by decide +kernel
theorem zd_N_init_5 : decode zc_N_init 5 = .ok (.bipush 8, 2) := by decide +kernel
theorem zd_N_init_7 : decode zc_N_init 7 = .ok (.newarray .int, 2) := by decide +kernel
theorem zd_N_init_9 : decode zc_N_init 9 = .ok (.putfield 9, 3) := by decide +kernel
theorem zd_N_init_12 : decode zc_N_init 12 = .ok (.aload_n 0, 1) := by decide +kernel
theorem zd_N_init_13 : decode zc_N_init 13 = .ok (.bipush 8, 2) := by decide +kernel
theorem zd_N_init_15 : decode zc_N_init 15 = .ok (.newarray .int, 2) := by decide +kernel
theorem zd_N_init_17 : decode zc_N_init 17 = .ok (.putfield 15, 3) := by decide +kernel
theorem zd_N_init_20 : decode zc_N_init 20 = .ok (.aload_n 0, 1) := by decide +kernel
theorem zd_N_init_21 : decode zc_N_init 21 = .ok (.bipush 8, 2) := by decide +kernel
theorem zd_N_init_23 : decode zc_N_init 23 = .ok (.newarray .int, 2) := by decide +kernel
theorem zd_N_init_25 : decode zc_N_init 25 = .ok (.putfield 18, 3) := by decide +kernel
theorem zd_N_init_28 : decode zc_N_init 28 = .ok (.aload_n 0, 1) := by decide +kernel
theorem zd_N_init_29 : decode zc_N_init 29 = .ok (.bipush 14, 2) := by decide +kernel
theorem zd_N_init_31 : decode zc_N_init 31 = .ok (.newarray .int, 2) := by decide +kernel
theorem zd_N_init_33 : decode zc_N_init 33 = .ok (.putfield 21, 3) := by decide +kernel
theorem zd_N_init_36 : decode zc_N_init 36 = .ok (.aload_n 0, 1) := by decide +kernel
theorem zd_N_init_37 : decode zc_N_init 37 = .ok (.bipush 14, 2) := by decide +kernel
theorem zd_N_init_39 : decode zc_N_init 39 = .ok (.newarray .int, 2) := by decide +kernel
theorem zd_N_init_41 : decode zc_N_init 41 = .ok (.putfield 24, 3) := by decide +kernel
theorem zd_N_init_44 : decode zc_N_init 44 = .ok (.aload_n 0, 1) := by decide +kernel
theorem zd_N_init_45 : decode zc_N_init 45 = .ok (.bipush 14, 2) := by decide +kernel
theorem zd_N_init_47 : decode zc_N_init 47 = .ok (.newarray .int, 2) := by decide +kernel
theorem zd_N_init_49 : decode zc_N_init 49 = .ok (.putfield 27, 3) := by decide +kernel
theorem zd_N_init_52 : decode zc_N_init 52 = .ok (.aload_n 0, 1) := by decide +kernel
theorem zd_N_init_53 : decode zc_N_init 53 = .ok (.bipush 14, 2) := by decide +kernel
theorem zd_N_init_55 : decode zc_N_init 55 = .ok (.newarray .int, 2) := by decide +kernel
theorem zd_N_init_57 : decode zc_N_init 57 = .ok (.putfield 30, 3) := by decide +kernel
theorem zd_N_init_60 : decode zc_N_init 60 = .ok (.aload_n 0, 1) := by decide +kernel
theorem zd_N_init_61 : decode zc_N_init 61 = .ok (.bipush 14, 2) := by decide +kernel
theorem zd_N_init_63 : decode zc_N_init 63 = .ok (.newarray .int, 2) := by decide +kernel
theorem zd_N_init_65 : decode zc_N_init 65 = .ok (.putfield 33, 3) := by decide +kernel
theorem zd_N_init_68 : decode zc_N_init 68 = .ok (.aload_n 0, 1) := by decide +kernel
theorem zd_N_init_69 : decode zc_N_init 69 = .ok (.iconst 1, 1) := by decide +kernel
theorem zd_N_init_70 : decode zc_N_init 70 = .ok (.invokevirtual 36, 3) := by decide +kernel
theorem zd_N_init_73 : decode zc_N_init 73 = .ok (.return_, 1) := by decide +kernel
theorem zd_N_begin_0 : decode zc_N_begin 0 = .ok (.aload_n 0, 1) := by decide +kernel
theorem zd_N_begin_1 : decode zc_N_begin 1 = .ok (.iload_n 1, 1) := by decide +kernel
theorem zd_N_begin_2 : decode zc_N_begin 2 = .ok (.putfield 40, 3) := by decide +kernel
theorem zd_N_begin_5 : decode zc_N_begin 5 = .ok (.aload_n 0, 1) := by decide +kernel
theorem zd_N_begin_6 : decode zc_N_begin 6 = .ok (.iconst 0, 1) := by decide +kernel
theorem zd_N_begin_7 : decode zc_N_begin 7 = .ok (.putfield 44, 3) := by decide +kernel
theorem zd_N_begin_10 : decode zc_N_begin 10 = .ok (.aload_n 0, 1) := by decide +kernel
theorem zd_N_begin_11 : decode zc_N_begin 11 = .ok (.iconst (-1), 1) := by decide +kernel
theorem zd_N_begin_12 : decode zc_N_begin 12 = .ok (.putfield 47, 3) := by decide +kernel
theorem zd_N_begin_15 : decode zc_N_begin 15 = .ok (.iconst 0, 1) := by decide +kernel
theorem zd_N_begin_16 : decode zc_N_begin 16 = .ok (.istore_n 2, 1) := by decide +kernel
theorem zd_N_begin_17 : decode zc_N_begin 17 = .ok (.iload_n 2, 1) := by decide +kernel
theorem zd_N_begin_18 : decode zc_N_begin 18 = .ok (.bipush 8, 2) := by decide +kernel
theorem zd_N_begin_20 : decode zc_N_begin 20 = .ok (.if_icmp .ge 30, 3) := by decide +kernel
theorem zd_N_begin_23 : decode zc_N_begin 23 = .ok (.aload_n 0, 1) := by decide +kernel
theorem zd_N_begin_24 : decode zc_N_begin 24 = .ok (.getfield 9, 3) := by decide +kernel
theorem zd_N_begin_27 : decode zc_N_begin 27 = .ok (.iload_n 2, 1) := by decide +kernel
theorem zd_N_begin_28 : decode zc_N_begin 28 = .ok (.iconst 1, 1) := by decide +kernel
theorem zd_N_begin_29 : decode zc_N_begin 29 = .ok (.iastore, 1) := by decide +kernel
theorem zd_N_begin_30 : decode zc_N_begin 30 = .ok (.aload_n 0, 1) := by decide +kernel
theorem zd_N_begin_31 : decode zc_N_begin 31 = .ok (.getfield 15, 3) := by decide +kernel
theorem zd_N_begin_34 : decode zc_N_begin 34 = .ok (.iload_n 2, 1) := by decide +kernel
theorem zd_N_begin_35 : decode zc_N_begin 35 = .ok (.iconst 1, 1) := by decide +kernel
theorem zd_N_begin_36 : decode zc_N_begin 36 = .ok (.iastore, 1) := by decide +kernel
theorem zd_N_begin_37 : decode zc_N_begin 37 = .ok (.aload_n 0, 1) := by decide +kernel
theorem zd_N_begin_38 : decode zc_N_begin 38 = .ok (.getfield 18, 3) := by decide +kernel
theorem zd_N_begin_41 : decode zc_N_begin 41 = .ok (.iload_n 2, 1) := by decide +kernel
theorem zd_N_begin_42 : decode zc_N_begin 42 = .ok (.iload_n 2, 1) := by decide +kernel
theorem zd_N_begin_43 : decode zc_N_begin 43 = .ok (.iastore, 1) := by decide +kernel
theorem zd_N_begin_44 : decode zc_N_begin 44 = .ok (.iinc 2 1, 3) := by decide +kernel
theorem zd_N_begin_47 : decode zc_N_begin 47 = .ok (.goto (-30), 3) := by decide +kernel
theorem zd_N_begin_50 : decode zc_N_begin 50 = .ok (.return_, 1) := by decide +kernel
theorem zd_N_hasActor_0 : decode zc_N_hasActor 0 = .ok (.iload_n 1, 1) := by decide +kernel
theorem zd_N_hasActor_1 : decode zc_N_hasActor 1 = .ok (.ifCond .lt 15, 3) := by decide +kernel
theorem zd_N_hasActor_4 : decode zc_N_hasActor 4 = .ok (.iload_n 1, 1) := by decide +kernel
theorem zd_N_hasActor_5 : decode zc_N_hasActor 5 = .ok (.aload_n 0, 1) := by decide +kernel
theorem zd_N_hasActor_6 : decode zc_N_hasActor 6 = .ok (.getfield 40, 3) := by decide +kernel
theorem zd_N_hasActor_9 : decode zc_N_hasActor 9 = .ok (.if_icmp .ge 7, 3) := by decide +kernel
theorem zd_N_hasActor_12 : decode zc_N_hasActor 12 = .ok (.iconst 1, 1) := by decide +kernel
theorem zd_N_hasActor_13 : decode zc_N_hasActor 13 = .ok (.goto 4, 3) := by decide +kernel
theorem zd_N_hasActor_16 : decode zc_N_hasActor 16 = .ok (.iconst 0, 1) := by decide +kernel
theorem zd_N_hasActor_17 : decode zc_N_hasActor 17 = .ok (.ireturn, 1) := by decide +kernel
theorem zd_N_hasChannel_0 : decode zc_N_hasChannel 0 = .ok (.iload_n 1, 1) := by decide +kernel
theorem zd_N_hasChannel_1 : decode zc_N_hasChannel 1 = .ok (.ifCond .lt 15, 3) := by decide +kernel
theorem zd_N_hasChannel_4 : decode zc_N_hasChannel 4 = .ok (.iload_n 1, 1) := by decide +kernel
theorem zd_N_hasChannel_5 : decode zc_N_hasChannel 5 = .ok (.aload_n 0, 1) := by decide +kernel
theorem zd_N_hasChannel_6 : decode zc_N_hasChannel 6 = .ok (.getfield 44, 3) := by decide +kernel
theorem zd_N_hasChannel_9 : decode zc_N_hasChannel 9 = .ok (.if_icmp .ge 7, 3) := by decide +kernel
theorem zd_N_hasChannel_12 : decode zc_N_hasChannel 12 = .ok (.iconst 1, 1) := by decide +kernel
theorem zd_N_hasChannel_13 : decode zc_N_hasChannel 13 = .ok (.goto 4, 3) := by decide +kernel
theorem zd_N_hasChannel_16 : decode zc_N_hasChannel 16 = .ok (.iconst 0, 1) := by decide +kernel
theorem zd_N_hasChannel_17 : decode zc_N_hasChannel 17 = .ok (.ireturn, 1) := by decide +kernel
theorem zd_N_add_0 : decode zc_N_add 0 = .ok (.aload_n 0, 1) := by decide +kernel
theorem zd_N_add_1 : decode zc_N_add 1 = .ok (.getfield 44, 3) := by decide +kernel
theorem zd_N_add_4 : decode zc_N_add 4 = .ok (.istore 6, 2) := by decide +kernel
theorem zd_N_add_6 : decode zc_N_add 6 = .ok (.iload 6, 2) := by decide +kernel
theorem zd_N_add_8 : decode zc_N_add 8 = .ok (.bipush 14, 2) := by decide +kernel
theorem zd_N_add_10 : decode zc_N_add 10 = .ok (.if_icmp .lt 5, 3) := by decide +kernel
theorem zd_N_add_13 : decode zc_N_add 13 = .ok (.iconst (-1), 1) := by decide +kernel
theorem zd_N_add_14 : decode zc_N_add 14 = .ok (.ireturn, 1) := by decide +kernel
theorem zd_N_add_15 : decode zc_N_add 15 = .ok (.aload_n 0, 1) := by decide +kernel
theorem zd_N_add_16 : decode zc_N_add 16 = .ok (.getfield 21, 3) := by decide +kernel
theorem zd_N_add_19 : decode zc_N_add 19 = .ok (.iload 6, 2) := by decide +kernel
theorem zd_N_add_21 : decode zc_N_add 21 = .ok (.iload_n 1, 1) := by decide +kernel
theorem zd_N_add_22 : decode zc_N_add 22 = .ok (.iastore, 1) := by decide +kernel
theorem zd_N_add_23 : decode zc_N_add 23 = .ok (.aload_n 0, 1) := by decide +kernel
theorem zd_N_add_24 : decode zc_N_add 24 = .ok (.getfield 24, 3) := by decide +kernel
theorem zd_N_add_27 : decode zc_N_add 27 = .ok (.iload 6, 2) := by decide +kernel
theorem zd_N_add_29 : decode zc_N_add 29 = .ok (.iload_n 2, 1) := by decide +kernel
theorem zd_N_add_30 : decode zc_N_add 30 = .ok (.iastore, 1) := by decide +kernel
theorem zd_N_add_31 : decode zc_N_add 31 = .ok (.aload_n 0, 1) := by decide +kernel
theorem zd_N_add_32 : decode zc_N_add 32 = .ok (.getfield 27, 3) := by decide +kernel
theorem zd_N_add_35 : decode zc_N_add 35 = .ok (.iload 6, 2) := by decide +kernel
theorem zd_N_add_37 : decode zc_N_add 37 = .ok (.iload_n 3, 1) := by decide +kernel
theorem zd_N_add_38 : decode zc_N_add 38 = .ok (.iastore, 1) := by decide +kernel
theorem zd_N_add_39 : decode zc_N_add 39 = .ok (.aload_n 0, 1) := by decide +kernel
theorem zd_N_add_40 : decode zc_N_add 40 = .ok (.getfield 30, 3) := by decide +kernel
theorem zd_N_add_43 : decode zc_N_add 43 = .ok (.iload 6, 2) := by decide +kernel
theorem zd_N_add_45 : decode zc_N_add 45 = .ok (.iload 4, 2) := by decide +kernel
theorem zd_N_add_47 : decode zc_N_add 47 = .ok (.iastore, 1) := by decide +kernel
theorem zd_N_add_48 : decode zc_N_add 48 = .ok (.aload_n 0, 1) := by decide +kernel
theorem zd_N_add_49 : decode zc_N_add 49 = .ok (.getfield 33, 3) := by decide +kernel
theorem zd_N_add_52 : decode zc_N_add 52 = .ok (.iload 6, 2) := by decide +kernel
theorem zd_N_add_54 : decode zc_N_add 54 = .ok (.iload 5, 2) := by decide +kernel
theorem zd_N_add_56 : decode zc_N_add 56 = .ok (.iastore, 1) := by decide +kernel
theorem zd_N_add_57 : decode zc_N_add 57 = .ok (.aload_n 0, 1) := by decide +kernel
theorem zd_N_add_58 : decode zc_N_add 58 = .ok (.iload 6, 2) := by decide +kernel
theorem zd_N_add_60 : decode zc_N_add 60 = .ok (.iconst 1, 1) := by decide +kernel
theorem zd_N_add_61 : decode zc_N_add 61 = .ok (.iadd, 1) := by decide +kernel
theorem zd_N_add_62 : decode zc_N_add 62 = .ok (.putfield 44, 3) := by decide +kernel
theorem zd_N_add_65 : decode zc_N_add 65 = .ok (.aload_n 0, 1) := by decide +kernel
theorem zd_N_add_66 : decode zc_N_add 66 = .ok (.iload 6, 2) := by decide +kernel
theorem zd_N_add_68 : decode zc_N_add 68 = .ok (.invokevirtual 50, 3) := by decide +kernel
theorem zd_N_add_71 : decode zc_N_add 71 = .ok (.iload 6, 2) := by decide +kernel
theorem zd_N_add_73 : decode zc_N_add 73 = .ok (.ireturn, 1) := by decide +kernel
theorem zd_N_balance_0 : decode zc_N_balance 0 = .ok (.aload_n 0, 1) := by decide +kernel
theorem zd_N_balance_1 : decode zc_N_balance 1 = .ok (.getfield 15, 3) := by decide +kernel
theorem zd_N_balance_4 : decode zc_N_balance 4 = .ok (.aload_n 0, 1) := by decide +kernel
theorem zd_N_balance_5 : decode zc_N_balance 5 = .ok (.getfield 21, 3) := by decide +kernel
theorem zd_N_balance_8 : decode zc_N_balance 8 = .ok (.iload_n 1, 1) := by decide +kernel
theorem zd_N_balance_9 : decode zc_N_balance 9 = .ok (.iaload, 1) := by decide +kernel
theorem zd_N_balance_10 : decode zc_N_balance 10 = .ok (.iaload, 1) := by decide +kernel
theorem zd_N_balance_11 : decode zc_N_balance 11 = .ok (.aload_n 0, 1) := by decide +kernel
theorem zd_N_balance_12 : decode zc_N_balance 12 = .ok (.getfield 27, 3) := by decide +kernel
theorem zd_N_balance_15 : decode zc_N_balance 15 = .ok (.iload_n 1, 1) := by decide +kernel
theorem zd_N_balance_16 : decode zc_N_balance 16 = .ok (.iaload, 1) := by decide +kernel
theorem zd_N_balance_17 : decode zc_N_balance 17 = .ok (.imul, 1) := by decide +kernel
theorem zd_N_balance_18 : decode zc_N_balance 18 = .ok (.istore_n 2, 1) := by decide +kernel
theorem zd_N_balance_19 : decode zc_N_balance 19 = .ok (.aload_n 0, 1) := by decide +kernel
theorem zd_N_balance_20 : decode zc_N_balance 20 = .ok (.getfield 15, 3) := by decide +kernel
theorem zd_N_balance_23 : decode zc_N_balance 23 = .ok (.aload_n 0, 1) := by decide +kernel
theorem zd_N_balance_24 : decode zc_N_balance 24 = .ok (.getfield 24, 3) := by decide +kernel
theorem zd_N_balance_27 : decode zc_N_balance 27 = .ok (.iload_n 1, 1) := by decide +kernel
theorem zd_N_balance_28 : decode zc_N_balance 28 = .ok (.iaload, 1) := by decide +kernel
theorem zd_N_balance_29 : decode zc_N_balance 29 = .ok (.iaload, 1) := by decide +kernel
theorem zd_N_balance_30 : decode zc_N_balance 30 = .ok (.aload_n 0, 1) := by decide +kernel
theorem zd_N_balance_31 : decode zc_N_balance 31 = .ok (.getfield 30, 3) := by decide +kernel
theorem zd_N_balance_34 : decode zc_N_balance 34 = .ok (.iload_n 1, 1) := by decide +kernel
theorem zd_N_balance_35 : decode zc_N_balance 35 = .ok (.iaload, 1) := by decide +kernel
theorem zd_N_balance_36 : decode zc_N_balance 36 = .ok (.imul, 1) := by decide +kernel
theorem zd_N_balance_37 : decode zc_N_balance 37 = .ok (.istore_n 3, 1) := by decide +kernel
theorem zd_N_balance_38 : decode zc_N_balance 38 = .ok (.aload_n 0, 1) := by decide +kernel
theorem zd_N_balance_39 : decode zc_N_balance 39 = .ok (.getfield 18, 3) := by decide +kernel
theorem zd_N_balance_42 : decode zc_N_balance 42 = .ok (.aload_n 0, 1) := by decide +kernel
theorem zd_N_balance_43 : decode zc_N_balance 43 = .ok (.getfield 21, 3) := by decide +kernel
theorem zd_N_balance_46 : decode zc_N_balance 46 = .ok (.iload_n 1, 1) := by decide +kernel
theorem zd_N_balance_47 : decode zc_N_balance 47 = .ok (.iaload, 1) := by decide +kernel
theorem zd_N_balance_48 : decode zc_N_balance 48 = .ok (.iaload, 1) := by decide +kernel
theorem zd_N_balance_49 : decode zc_N_balance 49 = .ok (.istore 4, 2) := by decide +kernel
theorem zd_N_balance_51 : decode zc_N_balance 51 = .ok (.aload_n 0, 1) := by decide +kernel
theorem zd_N_balance_52 : decode zc_N_balance 52 = .ok (.getfield 18, 3) := by decide +kernel
theorem zd_N_balance_55 : decode zc_N_balance 55 = .ok (.aload_n 0, 1) := by decide +kernel
theorem zd_N_balance_56 : decode zc_N_balance 56 = .ok (.getfield 24, 3) := by decide +kernel
theorem zd_N_balance_59 : decode zc_N_balance 59 = .ok (.iload_n 1, 1) := by decide +kernel
theorem zd_N_balance_60 : decode zc_N_balance 60 = .ok (.iaload, 1) := by decide +kernel
theorem zd_N_balance_61 : decode zc_N_balance 61 = .ok (.iaload, 1) := by decide +kernel
theorem zd_N_balance_62 : decode zc_N_balance 62 = .ok (.istore 5, 2) := by decide +kernel
theorem zd_N_balance_64 : decode zc_N_balance 64 = .ok (.iload 4, 2) := by decide +kernel
theorem zd_N_balance_66 : decode zc_N_balance 66 = .ok (.iload 5, 2) := by decide +kernel
theorem zd_N_balance_68 : decode zc_N_balance 68 = .ok (.if_icmp .eq 45, 3) := by decide +kernel
theorem zd_N_balance_71 : decode zc_N_balance 71 = .ok (.iload_n 2, 1) := by decide +kernel
theorem zd_N_balance_72 : decode zc_N_balance 72 = .ok (.iload_n 3, 1) := by decide +kernel
theorem zd_N_balance_73 : decode zc_N_balance 73 = .ok (.invokestatic 53, 3) := by decide +kernel
theorem zd_N_balance_76 : decode zc_N_balance 76 = .ok (.istore 6, 2) := by decide +kernel
theorem zd_N_balance_78 : decode zc_N_balance 78 = .ok (.aload_n 0, 1) := by decide +kernel
theorem zd_N_balance_79 : decode zc_N_balance 79 = .ok (.iload 4, 2) := by decide +kernel
theorem zd_N_balance_81 : decode zc_N_balance 81 = .ok (.iload_n 3, 1) := by decide +kernel
theorem zd_N_balance_82 : decode zc_N_balance 82 = .ok (.iload 6, 2) := by decide +kernel
theorem zd_N_balance_84 : decode zc_N_balance 84 = .ok (.invokestatic 57, 3) := by decide +kernel
theorem zd_N_balance_87 : decode zc_N_balance 87 = .ok (.invokevirtual 60, 3) := by decide +kernel
theorem zd_N_balance_90 : decode zc_N_balance 90 = .ok (.aload_n 0, 1) := by decide +kernel
theorem zd_N_balance_91 : decode zc_N_balance 91 = .ok (.iload 5, 2) := by decide +kernel
theorem zd_N_balance_93 : decode zc_N_balance 93 = .ok (.iload_n 2, 1) := by decide +kernel
theorem zd_N_balance_94 : decode zc_N_balance 94 = .ok (.iload 6, 2) := by decide +kernel
theorem zd_N_balance_96 : decode zc_N_balance 96 = .ok (.invokestatic 57, 3) := by decide +kernel
theorem zd_N_balance_99 : decode zc_N_balance 99 = .ok (.invokevirtual 60, 3) := by decide +kernel
theorem zd_N_balance_102 : decode zc_N_balance 102 = .ok (.aload_n 0, 1) := by decide +kernel
theorem zd_N_balance_103 : decode zc_N_balance 103 = .ok (.iload 4, 2) := by decide +kernel
theorem zd_N_balance_105 : decode zc_N_balance 105 = .ok (.iload 5, 2) := by decide +kernel
theorem zd_N_balance_107 : decode zc_N_balance 107 = .ok (.invokevirtual 64, 3) := by decide +kernel
theorem zd_N_balance_110 : decode zc_N_balance 110 = .ok (.goto 21, 3) := by decide +kernel
theorem zd_N_balance_113 : decode zc_N_balance 113 = .ok (.iload_n 2, 1) := by decide +kernel
theorem zd_N_balance_114 : decode zc_N_balance 114 = .ok (.iload_n 3, 1) := by decide +kernel
theorem zd_N_balance_115 : decode zc_N_balance 115 = .ok (.if_icmp .eq 16, 3) := by decide +kernel
theorem zd_N_balance_118 : decode zc_N_balance 118 = .ok (.aload_n 0, 1) := by decide +kernel
theorem zd_N_balance_119 : decode zc_N_balance 119 = .ok (.getfield 47, 3) := by decide +kernel
theorem zd_N_balance_122 : decode zc_N_balance 122 = .ok (.iconst (-1), 1) := by decide +kernel
theorem zd_N_balance_123 : decode zc_N_balance 123 = .ok (.if_icmp .ne 8, 3) := by decide +kernel
theorem zd_N_balance_126 : decode zc_N_balance 126 = .ok (.aload_n 0, 1) := by decide +kernel
theorem zd_N_balance_127 : decode zc_N_balance 127 = .ok (.iload_n 1, 1) := by decide +kernel
theorem zd_N_balance_128 : decode zc_N_balance 128 = .ok (.putfield 47, 3) := by decide +kernel
theorem zd_N_balance_131 : decode zc_N_balance 131 = .ok (.return_, 1) := by decide +kernel
theorem zd_N_multiply_0 : decode zc_N_multiply 0 = .ok (.iconst 0, 1) := by decide +kernel
theorem zd_N_multiply_1 : decode zc_N_multiply 1 = .ok (.istore_n 3, 1) := by decide +kernel
theorem zd_N_multiply_2 : decode zc_N_multiply 2 = .ok (.iload_n 3, 1) := by decide +kernel
theorem zd_N_multiply_3 : decode zc_N_multiply 3 = .ok (.aload_n 0, 1) := by decide +kernel
theorem zd_N_multiply_4 : decode zc_N_multiply 4 = .ok (.getfield 40, 3) := by decide +kernel
theorem zd_N_multiply_7 : decode zc_N_multiply 7 = .ok (.if_icmp .ge 29, 3) := by decide +kernel
theorem zd_N_multiply_10 : decode zc_N_multiply 10 = .ok (.aload_n 0, 1) := by decide +kernel
theorem zd_N_multiply_11 : decode zc_N_multiply 11 = .ok (.getfield 18, 3) := by decide +kernel
theorem zd_N_multiply_14 : decode zc_N_multiply 14 = .ok (.iload_n 3, 1) := by decide +kernel
theorem zd_N_multiply_15 : decode zc_N_multiply 15 = .ok (.iaload, 1) := by decide +kernel
theorem zd_N_multiply_16 : decode zc_N_multiply 16 = .ok (.iload_n 1, 1) := by decide +kernel
theorem zd_N_multiply_17 : decode zc_N_multiply 17 = .ok (.if_icmp .ne 13, 3) := by decide +kernel
theorem zd_N_multiply_20 : decode zc_N_multiply 20 = .ok (.aload_n 0, 1) := by decide +kernel
theorem zd_N_multiply_21 : decode zc_N_multiply 21 = .ok (.getfield 15, 3) := by decide +kernel
theorem zd_N_multiply_24 : decode zc_N_multiply 24 = .ok (.iload_n 3, 1) := by decide +kernel
theorem zd_N_multiply_25 : decode zc_N_multiply 25 = .ok (.dup2, 1) := by decide +kernel
theorem zd_N_multiply_26 : decode zc_N_multiply 26 = .ok (.iaload, 1) := by decide +kernel
theorem zd_N_multiply_27 : decode zc_N_multiply 27 = .ok (.iload_n 2, 1) := by decide +kernel
theorem zd_N_multiply_28 : decode zc_N_multiply 28 = .ok (.imul, 1) := by decide +kernel
theorem zd_N_multiply_29 : decode zc_N_multiply 29 = .ok (.iastore, 1) := by decide +kernel
theorem zd_N_multiply_30 : decode zc_N_multiply 30 = .ok (.iinc 3 1, 3) := by decide +kernel
theorem zd_N_multiply_33 : decode zc_N_multiply 33 = .ok (.goto (-31), 3) := by decide +kernel
theorem zd_N_multiply_36 : decode zc_N_multiply 36 = .ok (.return_, 1) := by decide +kernel
theorem zd_N_join_0 : decode zc_N_join 0 = .ok (.iload_n 1, 1) := by decide +kernel
theorem zd_N_join_1 : decode zc_N_join 1 = .ok (.iload_n 2, 1) := by decide +kernel
theorem zd_N_join_2 : decode zc_N_join 2 = .ok (.invokestatic 67, 3) := by decide +kernel
theorem zd_N_join_5 : decode zc_N_join 5 = .ok (.istore_n 3, 1) := by decide +kernel
theorem zd_N_join_6 : decode zc_N_join 6 = .ok (.iload_n 1, 1) := by decide +kernel
theorem zd_N_join_7 : decode zc_N_join 7 = .ok (.iload_n 2, 1) := by decide +kernel
theorem zd_N_join_8 : decode zc_N_join 8 = .ok (.invokestatic 72, 3) := by decide +kernel
theorem zd_N_join_11 : decode zc_N_join 11 = .ok (.istore 4, 2) := by decide +kernel
theorem zd_N_join_13 : decode zc_N_join 13 = .ok (.iconst 0, 1) := by decide +kernel
theorem zd_N_join_14 : decode zc_N_join 14 = .ok (.istore 5, 2) := by decide +kernel
theorem zd_N_join_16 : decode zc_N_join 16 = .ok (.iload 5, 2) := by decide +kernel
theorem zd_N_join_18 : decode zc_N_join 18 = .ok (.aload_n 0, 1) := by decide +kernel
theorem zd_N_join_19 : decode zc_N_join 19 = .ok (.getfield 40, 3) := by decide +kernel
theorem zd_N_join_22 : decode zc_N_join 22 = .ok (.if_icmp .ge 29, 3) := by decide +kernel
theorem zd_N_join_25 : decode zc_N_join 25 = .ok (.aload_n 0, 1) := by decide +kernel
theorem zd_N_join_26 : decode zc_N_join 26 = .ok (.getfield 18, 3) := by decide +kernel
theorem zd_N_join_29 : decode zc_N_join 29 = .ok (.iload 5, 2) := by decide +kernel
theorem zd_N_join_31 : decode zc_N_join 31 = .ok (.iaload, 1) := by decide +kernel
theorem zd_N_join_32 : decode zc_N_join 32 = .ok (.iload 4, 2) := by decide +kernel
theorem zd_N_join_34 : decode zc_N_join 34 = .ok (.if_icmp .ne 11, 3) := by decide +kernel
theorem zd_N_join_37 : decode zc_N_join 37 = .ok (.aload_n 0, 1) := by decide +kernel
theorem zd_N_join_38 : decode zc_N_join 38 = .ok (.getfield 18, 3) := by decide +kernel
theorem zd_N_join_41 : decode zc_N_join 41 = .ok (.iload 5, 2) := by decide +kernel
theorem zd_N_join_43 : decode zc_N_join 43 = .ok (.iload_n 3, 1) := by decide +kernel
theorem zd_N_join_44 : decode zc_N_join 44 = .ok (.iastore, 1) := by decide +kernel
theorem zd_N_join_45 : decode zc_N_join 45 = .ok (.iinc 5 1, 3) := by decide +kernel
theorem zd_N_join_48 : decode zc_N_join 48 = .ok (.goto (-32), 3) := by decide +kernel
theorem zd_N_join_51 : decode zc_N_join 51 = .ok (.return_, 1) := by decide +kernel
theorem zd_N_parts_0 : decode zc_N_parts 0 = .ok (.iconst 0, 1) := by decide +kernel
theorem zd_N_parts_1 : decode zc_N_parts 1 = .ok (.istore_n 1, 1) := by decide +kernel
theorem zd_N_parts_2 : decode zc_N_parts 2 = .ok (.iconst 0, 1) := by decide +kernel
theorem zd_N_parts_3 : decode zc_N_parts 3 = .ok (.istore_n 2, 1) := by decide +kernel
theorem zd_N_parts_4 : decode zc_N_parts 4 = .ok (.iload_n 2, 1) := by decide +kernel
theorem zd_N_parts_5 : decode zc_N_parts 5 = .ok (.aload_n 0, 1) := by decide +kernel
theorem zd_N_parts_6 : decode zc_N_parts 6 = .ok (.getfield 40, 3) := by decide +kernel
theorem zd_N_parts_9 : decode zc_N_parts 9 = .ok (.if_icmp .ge 22, 3) := by decide +kernel
theorem zd_N_parts_12 : decode zc_N_parts 12 = .ok (.aload_n 0, 1) := by decide +kernel
theorem zd_N_parts_13 : decode zc_N_parts 13 = .ok (.getfield 18, 3) := by decide +kernel
theorem zd_N_parts_16 : decode zc_N_parts 16 = .ok (.iload_n 2, 1) := by decide +kernel
theorem zd_N_parts_17 : decode zc_N_parts 17 = .ok (.iaload, 1) := by decide +kernel
theorem zd_N_parts_18 : decode zc_N_parts 18 = .ok (.iload_n 2, 1) := by decide +kernel
theorem zd_N_parts_19 : decode zc_N_parts 19 = .ok (.if_icmp .ne 6, 3) := by decide +kernel
theorem zd_N_parts_22 : decode zc_N_parts 22 = .ok (.iinc 1 1, 3) := by decide +kernel
theorem zd_N_parts_25 : decode zc_N_parts 25 = .ok (.iinc 2 1, 3) := by decide +kernel
theorem zd_N_parts_28 : decode zc_N_parts 28 = .ok (.goto (-24), 3) := by decide +kernel
theorem zd_N_parts_31 : decode zc_N_parts 31 = .ok (.iload_n 1, 1) := by decide +kernel
theorem zd_N_parts_32 : decode zc_N_parts 32 = .ok (.ireturn, 1) := by decide +kernel
theorem zd_N_isUneven_0 : decode zc_N_isUneven 0 = .ok (.aload_n 0, 1) := by decide +kernel
theorem zd_N_isUneven_1 : decode zc_N_isUneven 1 = .ok (.getfield 47, 3) := by decide +kernel
theorem zd_N_isUneven_4 : decode zc_N_isUneven 4 = .ok (.iconst (-1), 1) := by decide +kernel
theorem zd_N_isUneven_5 : decode zc_N_isUneven 5 = .ok (.if_icmp .eq 7, 3) := by decide +kernel
theorem zd_N_isUneven_8 : decode zc_N_isUneven 8 = .ok (.iconst 1, 1) := by decide +kernel
theorem zd_N_isUneven_9 : decode zc_N_isUneven 9 = .ok (.goto 4, 3) := by decide +kernel
theorem zd_N_isUneven_12 : decode zc_N_isUneven 12 = .ok (.iconst 0, 1) := by decide +kernel
theorem zd_N_isUneven_13 : decode zc_N_isUneven 13 = .ok (.ireturn, 1) := by decide +kernel
theorem zd_N_isGreat_0 : decode zc_N_isGreat 0 = .ok (.iconst 0, 1) := by decide +kernel
theorem zd_N_isGreat_1 : decode zc_N_isGreat 1 = .ok (.istore_n 1, 1) := by decide +kernel
theorem zd_N_isGreat_2 : decode zc_N_isGreat 2 = .ok (.iconst 0, 1) := by decide +kernel
theorem zd_N_isGreat_3 : decode zc_N_isGreat 3 = .ok (.istore_n 2, 1) := by decide +kernel
theorem zd_N_isGreat_4 : decode zc_N_isGreat 4 = .ok (.iload_n 2, 1) := by decide +kernel
theorem zd_N_isGreat_5 : decode zc_N_isGreat 5 = .ok (.aload_n 0, 1) := by decide +kernel
theorem zd_N_isGreat_6 : decode zc_N_isGreat 6 = .ok (.getfield 40, 3) := by decide +kernel
theorem zd_N_isGreat_9 : decode zc_N_isGreat 9 = .ok (.if_icmp .ge 18, 3) := by decide +kernel
theorem zd_N_isGreat_12 : decode zc_N_isGreat 12 = .ok (.iload_n 1, 1) := by decide +kernel
theorem zd_N_isGreat_13 : decode zc_N_isGreat 13 = .ok (.aload_n 0, 1) := by decide +kernel
theorem zd_N_isGreat_14 : decode zc_N_isGreat 14 = .ok (.getfield 15, 3) := by decide +kernel
theorem zd_N_isGreat_17 : decode zc_N_isGreat 17 = .ok (.iload_n 2, 1) := by decide +kernel
theorem zd_N_isGreat_18 : decode zc_N_isGreat 18 = .ok (.iaload, 1) := by decide +kernel
theorem zd_N_isGreat_19 : decode zc_N_isGreat 19 = .ok (.iadd, 1) := by decide +kernel
theorem zd_N_isGreat_20 : decode zc_N_isGreat 20 = .ok (.istore_n 1, 1) := by decide +kernel
theorem zd_N_isGreat_21 : decode zc_N_isGreat 21 = .ok (.iinc 2 1, 3) := by decide +kernel
theorem zd_N_isGreat_24 : decode zc_N_isGreat 24 = .ok (.goto (-20), 3) := by decide +kernel
theorem zd_N_isGreat_27 : decode zc_N_isGreat 27 = .ok (.iload_n 1, 1) := by decide +kernel
theorem zd_N_isGreat_28 : decode zc_N_isGreat 28 = .ok (.sipush 400, 3) := by decide +kernel
theorem zd_N_isGreat_31 : decode zc_N_isGreat 31 = .ok (.if_icmp .le 7, 3) := by decide +kernel
theorem zd_N_isGreat_34 : decode zc_N_isGreat 34 = .ok (.iconst 1, 1) := by decide +kernel
theorem zd_N_isGreat_35 : decode zc_N_isGreat 35 = .ok (.goto 4, 3) := by decide +kernel
theorem zd_N_isGreat_38 : decode zc_N_isGreat 38 = .ok (.iconst 0, 1) := by decide +kernel
theorem zd_N_isGreat_39 : decode zc_N_isGreat 39 = .ok (.ireturn, 1) := by decide +kernel
theorem zd_N_countsOfPart_0 : decode zc_N_countsOfPart 0 = .ok (.iconst 0, 1) := by decide +kernel
theorem zd_N_countsOfPart_1 : decode zc_N_countsOfPart 1 = .ok (.istore_n 2, 1) := by decide +kernel
theorem zd_N_countsOfPart_2 : decode zc_N_countsOfPart 2 = .ok (.iconst 0, 1) := by decide +kernel
theorem zd_N_countsOfPart_3 : decode zc_N_countsOfPart 3 = .ok (.istore_n 3, 1) := by decide +kernel
theorem zd_N_countsOfPart_4 : decode zc_N_countsOfPart 4 = .ok (.iload_n 3, 1) := by decide +kernel
theorem zd_N_countsOfPart_5 : decode zc_N_countsOfPart 5 = .ok (.aload_n 0, 1) := by decide +kernel
theorem zd_N_countsOfPart_6 : decode zc_N_countsOfPart 6 = .ok (.getfield 40, 3) := by decide +kernel
theorem zd_N_countsOfPart_9 : decode zc_N_countsOfPart 9 = .ok (.if_icmp .ge 33, 3) := by decide +kernel
theorem zd_N_countsOfPart_12 : decode zc_N_countsOfPart 12 = .ok (.aload_n 0, 1) := by decide +kernel
theorem zd_N_countsOfPart_13 : decode zc_N_countsOfPart 13 = .ok (.getfield 18, 3) := by decide +kernel
theorem zd_N_countsOfPart_16 : decode zc_N_countsOfPart 16 = .ok (.iload_n 3, 1) := by decide +kernel
theorem zd_N_countsOfPart_17 : decode zc_N_countsOfPart 17 = .ok (.iaload, 1) := by decide +kernel
theorem zd_N_countsOfPart_18 : decode zc_N_countsOfPart 18 = .ok (.aload_n 0, 1) := by decide +kernel
theorem zd_N_countsOfPart_19 : decode zc_N_countsOfPart 19 = .ok (.getfield 18, 3) := by decide +kernel
theorem zd_N_countsOfPart_22 : decode zc_N_countsOfPart 22 = .ok (.iload_n 1, 1) := by decide +kernel
theorem zd_N_countsOfPart_23 : decode zc_N_countsOfPart 23 = .ok (.iaload, 1) := by decide +kernel
theorem zd_N_countsOfPart_24 : decode zc_N_countsOfPart 24 = .ok (.if_icmp .ne 12, 3) := by decide +kernel
theorem zd_N_countsOfPart_27 : decode zc_N_countsOfPart 27 = .ok (.iload_n 2, 1) := by decide +kernel
theorem zd_N_countsOfPart_28 : decode zc_N_countsOfPart 28 = .ok (.aload_n 0, 1) := by decide +kernel
theorem zd_N_countsOfPart_29 : decode zc_N_countsOfPart 29 = .ok (.getfield 15, 3) := by decide +kernel
theorem zd_N_countsOfPart_32 : decode zc_N_countsOfPart 32 = .ok (.iload_n 3, 1) := by decide +kernel
theorem zd_N_countsOfPart_33 : decode zc_N_countsOfPart 33 = .ok (.iaload, 1) := by decide +kernel
theorem zd_N_countsOfPart_34 : decode zc_N_countsOfPart 34 = .ok (.iadd, 1) := by decide +kernel
theorem zd_N_countsOfPart_35 : decode zc_N_countsOfPart 35 = .ok (.istore_n 2, 1) := by decide +kernel
theorem zd_N_countsOfPart_36 : decode zc_N_countsOfPart 36 = .ok (.iinc 3 1, 3) := by decide +kernel
theorem zd_N_countsOfPart_39 : decode zc_N_countsOfPart 39 = .ok (.goto (-35), 3) := by decide +kernel
theorem zd_N_countsOfPart_42 : decode zc_N_countsOfPart 42 = .ok (.iload_n 2, 1) := by decide +kernel
theorem zd_N_countsOfPart_43 : decode zc_N_countsOfPart 43 = .ok (.ireturn, 1) := by decide +kernel
theorem zd_N_isClosed_0 : decode zc_N_isClosed 0 = .ok (.iconst 0, 1) := by decide +kernel
theorem zd_N_isClosed_1 : decode zc_N_isClosed 1 = .ok (.istore_n 2, 1) := by decide +kernel
theorem zd_N_isClosed_2 : decode zc_N_isClosed 2 = .ok (.iconst 0, 1) := by decide +kernel
theorem zd_N_isClosed_3 : decode zc_N_isClosed 3 = .ok (.istore_n 3, 1) := by decide +kernel
theorem zd_N_isClosed_4 : decode zc_N_isClosed 4 = .ok (.iload_n 3, 1) := by decide +kernel
theorem zd_N_isClosed_5 : decode zc_N_isClosed 5 = .ok (.aload_n 0, 1) := by decide +kernel
theorem zd_N_isClosed_6 : decode zc_N_isClosed 6 = .ok (.getfield 40, 3) := by decide +kernel
theorem zd_N_isClosed_9 : decode zc_N_isClosed 9 = .ok (.if_icmp .ge 30, 3) := by decide +kernel
theorem zd_N_isClosed_12 : decode zc_N_isClosed 12 = .ok (.aload_n 0, 1) := by decide +kernel
theorem zd_N_isClosed_13 : decode zc_N_isClosed 13 = .ok (.getfield 18, 3) := by decide +kernel
theorem zd_N_isClosed_16 : decode zc_N_isClosed 16 = .ok (.iload_n 3, 1) := by decide +kernel
theorem zd_N_isClosed_17 : decode zc_N_isClosed 17 = .ok (.iaload, 1) := by decide +kernel
theorem zd_N_isClosed_18 : decode zc_N_isClosed 18 = .ok (.aload_n 0, 1) := by decide +kernel
theorem zd_N_isClosed_19 : decode zc_N_isClosed 19 = .ok (.getfield 18, 3) := by decide +kernel
theorem zd_N_isClosed_22 : decode zc_N_isClosed 22 = .ok (.iload_n 1, 1) := by decide +kernel
theorem zd_N_isClosed_23 : decode zc_N_isClosed 23 = .ok (.iaload, 1) := by decide +kernel
theorem zd_N_isClosed_24 : decode zc_N_isClosed 24 = .ok (.if_icmp .ne 9, 3) := by decide +kernel
theorem zd_N_isClosed_27 : decode zc_N_isClosed 27 = .ok (.iload_n 2, 1) := by decide +kernel
theorem zd_N_isClosed_28 : decode zc_N_isClosed 28 = .ok (.iconst 1, 1) := by decide +kernel
theorem zd_N_isClosed_29 : decode zc_N_isClosed 29 = .ok (.iload_n 3, 1) := by decide +kernel
theorem zd_N_isClosed_30 : decode zc_N_isClosed 30 = .ok (.ishl, 1) := by decide +kernel
theorem zd_N_isClosed_31 : decode zc_N_isClosed 31 = .ok (.ior, 1) := by decide +kernel
theorem zd_N_isClosed_32 : decode zc_N_isClosed 32 = .ok (.istore_n 2, 1) := by decide +kernel
theorem zd_N_isClosed_33 : decode zc_N_isClosed 33 = .ok (.iinc 3 1, 3) := by decide +kernel
theorem zd_N_isClosed_36 : decode zc_N_isClosed 36 = .ok (.goto (-32), 3) := by decide +kernel
theorem zd_N_isClosed_39 : decode zc_N_isClosed 39 = .ok (.aload_n 0, 1) := by decide +kernel
theorem zd_N_isClosed_40 : decode zc_N_isClosed 40 = .ok (.iload_n 1, 1) := by decide +kernel
theorem zd_N_isClosed_41 : decode zc_N_isClosed 41 = .ok (.aload_n 0, 1) := by decide +kernel
theorem zd_N_isClosed_42 : decode zc_N_isClosed 42 = .ok (.getfield 21, 3) := by decide +kernel
theorem zd_N_isClosed_45 : decode zc_N_isClosed 45 = .ok (.aload_n 0, 1) := by decide +kernel
theorem zd_N_isClosed_46 : decode zc_N_isClosed 46 = .ok (.getfield 24, 3) := by decide +kernel
theorem zd_N_isClosed_49 : decode zc_N_isClosed 49 = .ok (.invokevirtual 75, 3) := by decide +kernel
theorem zd_N_isClosed_52 : decode zc_N_isClosed 52 = .ok (.iload_n 2, 1) := by decide +kernel
theorem zd_N_isClosed_53 : decode zc_N_isClosed 53 = .ok (.if_icmp .ne 24, 3) := by decide +kernel
theorem zd_N_isClosed_56 : decode zc_N_isClosed 56 = .ok (.aload_n 0, 1) := by decide +kernel
theorem zd_N_isClosed_57 : decode zc_N_isClosed 57 = .ok (.iload_n 1, 1) := by decide +kernel
theorem zd_N_isClosed_58 : decode zc_N_isClosed 58 = .ok (.aload_n 0, 1) := by decide +kernel
theorem zd_N_isClosed_59 : decode zc_N_isClosed 59 = .ok (.getfield 24, 3) := by decide +kernel
theorem zd_N_isClosed_62 : decode zc_N_isClosed 62 = .ok (.aload_n 0, 1) := by decide +kernel
theorem zd_N_isClosed_63 : decode zc_N_isClosed 63 = .ok (.getfield 21, 3) := by decide +kernel
theorem zd_N_isClosed_66 : decode zc_N_isClosed 66 = .ok (.invokevirtual 75, 3) := by decide +kernel
theorem zd_N_isClosed_69 : decode zc_N_isClosed 69 = .ok (.iload_n 2, 1) := by decide +kernel
theorem zd_N_isClosed_70 : decode zc_N_isClosed 70 = .ok (.if_icmp .ne 7, 3) := by decide +kernel
theorem zd_N_isClosed_73 : decode zc_N_isClosed 73 = .ok (.iconst 1, 1) := by decide +kernel
theorem zd_N_isClosed_74 : decode zc_N_isClosed 74 = .ok (.goto 4, 3) := by decide +kernel
theorem zd_N_isClosed_77 : decode zc_N_isClosed 77 = .ok (.iconst 0, 1) := by decide +kernel
theorem zd_N_isClosed_78 : decode zc_N_isClosed 78 = .ok (.ireturn, 1) := by decide +kernel
theorem zd_N_reached_0 : decode zc_N_reached 0 = .ok (.iconst 1, 1) := by decide +kernel
theorem zd_N_reached_1 : decode zc_N_reached 1 = .ok (.iload_n 1, 1) := by decide +kernel
theorem zd_N_reached_2 : decode zc_N_reached 2 = .ok (.ishl, 1) := by decide +kernel
theorem zd_N_reached_3 : decode zc_N_reached 3 = .ok (.istore 4, 2) := by decide +kernel
theorem zd_N_reached_5 : decode zc_N_reached 5 = .ok (.iconst 0, 1) := by decide +kernel
theorem zd_N_reached_6 : decode zc_N_reached 6 = .ok (.istore 5, 2) := by decide +kernel
theorem zd_N_reached_8 : decode zc_N_reached 8 = .ok (.iload 5, 2) := by decide +kernel
theorem zd_N_reached_10 : decode zc_N_reached 10 = .ok (.aload_n 0, 1) := by decide +kernel
theorem zd_N_reached_11 : decode zc_N_reached 11 = .ok (.getfield 40, 3) := by decide +kernel
theorem zd_N_reached_14 : decode zc_N_reached 14 = .ok (.if_icmp .ge 51, 3) := by decide +kernel
theorem zd_N_reached_17 : decode zc_N_reached 17 = .ok (.iconst 0, 1) := by decide +kernel
theorem zd_N_reached_18 : decode zc_N_reached 18 = .ok (.istore 6, 2) := by decide +kernel
theorem zd_N_reached_20 : decode zc_N_reached 20 = .ok (.iload 6, 2) := by decide +kernel
theorem zd_N_reached_22 : decode zc_N_reached 22 = .ok (.aload_n 0, 1) := by decide +kernel
theorem zd_N_reached_23 : decode zc_N_reached 23 = .ok (.getfield 44, 3) := by decide +kernel
theorem zd_N_reached_26 : decode zc_N_reached 26 = .ok (.if_icmp .ge 33, 3) := by decide +kernel
theorem zd_N_reached_29 : decode zc_N_reached 29 = .ok (.iload 4, 2) := by decide +kernel
theorem zd_N_reached_31 : decode zc_N_reached 31 = .ok (.aload_n 2, 1) := by decide +kernel
theorem zd_N_reached_32 : decode zc_N_reached 32 = .ok (.iload 6, 2) := by decide +kernel
theorem zd_N_reached_34 : decode zc_N_reached 34 = .ok (.iaload, 1) := by decide +kernel
theorem zd_N_reached_35 : decode zc_N_reached 35 = .ok (.ishr, 1) := by decide +kernel
theorem zd_N_reached_36 : decode zc_N_reached 36 = .ok (.iconst 1, 1) := by decide +kernel
theorem zd_N_reached_37 : decode zc_N_reached 37 = .ok (.iand, 1) := by decide +kernel
theorem zd_N_reached_38 : decode zc_N_reached 38 = .ok (.iconst 1, 1) := by decide +kernel
theorem zd_N_reached_39 : decode zc_N_reached 39 = .ok (.if_icmp .ne 14, 3) := by decide +kernel
theorem zd_N_reached_42 : decode zc_N_reached 42 = .ok (.iload 4, 2) := by decide +kernel
theorem zd_N_reached_44 : decode zc_N_reached 44 = .ok (.iconst 1, 1) := by decide +kernel
theorem zd_N_reached_45 : decode zc_N_reached 45 = .ok (.aload_n 3, 1) := by decide +kernel
theorem zd_N_reached_46 : decode zc_N_reached 46 = .ok (.iload 6, 2) := by decide +kernel
theorem zd_N_reached_48 : decode zc_N_reached 48 = .ok (.iaload, 1) := by decide +kernel
theorem zd_N_reached_49 : decode zc_N_reached 49 = .ok (.ishl, 1) := by decide +kernel
theorem zd_N_reached_50 : decode zc_N_reached 50 = .ok (.ior, 1) := by decide +kernel
theorem zd_N_reached_51 : decode zc_N_reached 51 = .ok (.istore 4, 2) := by decide +kernel
theorem zd_N_reached_53 : decode zc_N_reached 53 = .ok (.iinc 6 1, 3) := by decide +kernel
theorem zd_N_reached_56 : decode zc_N_reached 56 = .ok (.goto (-36), 3) := by decide +kernel
theorem zd_N_reached_59 : decode zc_N_reached 59 = .ok (.iinc 5 1, 3) := by decide +kernel
theorem zd_N_reached_62 : decode zc_N_reached 62 = .ok (.goto (-54), 3) := by decide +kernel
theorem zd_N_reached_65 : decode zc_N_reached 65 = .ok (.iload 4, 2) := by decide +kernel
theorem zd_N_reached_67 : decode zc_N_reached 67 = .ok (.ireturn, 1) := by decide +kernel
theorem zd_N_isChain_0 : decode zc_N_isChain 0 = .ok (.aload_n 0, 1) := by decide +kernel
theorem zd_N_isChain_1 : decode zc_N_isChain 1 = .ok (.getfield 44, 3) := by decide +kernel
theorem zd_N_isChain_4 : decode zc_N_isChain 4 = .ok (.aload_n 0, 1) := by decide +kernel
theorem zd_N_isChain_5 : decode zc_N_isChain 5 = .ok (.getfield 40, 3) := by decide +kernel
theorem zd_N_isChain_8 : decode zc_N_isChain 8 = .ok (.iconst 1, 1) := by decide +kernel
theorem zd_N_isChain_9 : decode zc_N_isChain 9 = .ok (.isub, 1) := by decide +kernel
theorem zd_N_isChain_10 : decode zc_N_isChain 10 = .ok (.if_icmp .eq 5, 3) := by decide +kernel
theorem zd_N_isChain_13 : decode zc_N_isChain 13 = .ok (.iconst 0, 1) := by decide +kernel
theorem zd_N_isChain_14 : decode zc_N_isChain 14 = .ok (.ireturn, 1) := by decide +kernel
theorem zd_N_isChain_15 : decode zc_N_isChain 15 = .ok (.iconst 0, 1) := by decide +kernel
theorem zd_N_isChain_16 : decode zc_N_isChain 16 = .ok (.istore_n 1, 1) := by decide +kernel
theorem zd_N_isChain_17 : decode zc_N_isChain 17 = .ok (.iload_n 1, 1) := by decide +kernel
theorem zd_N_isChain_18 : decode zc_N_isChain 18 = .ok (.aload_n 0, 1) := by decide +kernel
theorem zd_N_isChain_19 : decode zc_N_isChain 19 = .ok (.getfield 44, 3) := by decide +kernel
theorem zd_N_isChain_22 : decode zc_N_isChain 22 = .ok (.if_icmp .ge 42, 3) := by decide +kernel
theorem zd_N_isChain_25 : decode zc_N_isChain 25 = .ok (.aload_n 0, 1) := by decide +kernel
theorem zd_N_isChain_26 : decode zc_N_isChain 26 = .ok (.getfield 21, 3) := by decide +kernel
theorem zd_N_isChain_29 : decode zc_N_isChain 29 = .ok (.iload_n 1, 1) := by decide +kernel
theorem zd_N_isChain_30 : decode zc_N_isChain 30 = .ok (.iaload, 1) := by decide +kernel
theorem zd_N_isChain_31 : decode zc_N_isChain 31 = .ok (.iload_n 1, 1) := by decide +kernel
theorem zd_N_isChain_32 : decode zc_N_isChain 32 = .ok (.if_icmp .ne 24, 3) := by decide +kernel
theorem zd_N_isChain_35 : decode zc_N_isChain 35 = .ok (.aload_n 0, 1) := by decide +kernel
theorem zd_N_isChain_36 : decode zc_N_isChain 36 = .ok (.getfield 24, 3) := by decide +kernel
theorem zd_N_isChain_39 : decode zc_N_isChain 39 = .ok (.iload_n 1, 1) := by decide +kernel
theorem zd_N_isChain_40 : decode zc_N_isChain 40 = .ok (.iaload, 1) := by decide +kernel
theorem zd_N_isChain_41 : decode zc_N_isChain 41 = .ok (.iload_n 1, 1) := by decide +kernel
theorem zd_N_isChain_42 : decode zc_N_isChain 42 = .ok (.iconst 1, 1) := by decide +kernel
theorem zd_N_isChain_43 : decode zc_N_isChain 43 = .ok (.iadd, 1) := by decide +kernel
theorem zd_N_isChain_44 : decode zc_N_isChain 44 = .ok (.if_icmp .ne 12, 3) := by decide +kernel
theorem zd_N_isChain_47 : decode zc_N_isChain 47 = .ok (.aload_n 0, 1) := by decide +kernel
theorem zd_N_isChain_48 : decode zc_N_isChain 48 = .ok (.getfield 33, 3) := by decide +kernel
theorem zd_N_isChain_51 : decode zc_N_isChain 51 = .ok (.iload_n 1, 1) := by decide +kernel
theorem zd_N_isChain_52 : decode zc_N_isChain 52 = .ok (.iaload, 1) := by decide +kernel
theorem zd_N_isChain_53 : decode zc_N_isChain 53 = .ok (.ifCond .eq 5, 3) := by decide +kernel
theorem zd_N_isChain_56 : decode zc_N_isChain 56 = .ok (.iconst 0, 1) := by decide +kernel
theorem zd_N_isChain_57 : decode zc_N_isChain 57 = .ok (.ireturn, 1) := by decide +kernel
theorem zd_N_isChain_58 : decode zc_N_isChain 58 = .ok (.iinc 1 1, 3) := by decide +kernel
theorem zd_N_isChain_61 : decode zc_N_isChain 61 = .ok (.goto (-44), 3) := by decide +kernel
theorem zd_N_isChain_64 : decode zc_N_isChain 64 = .ok (.iconst 1, 1) := by decide +kernel
theorem zd_N_isChain_65 : decode zc_N_isChain 65 = .ok (.ireturn, 1) := by decide +kernel
theorem zd_U_init_0 : decode zc_U_init 0 = .ok (.aload_n 0, 1) := by decide +kernel
theorem zd_U_init_1 : decode zc_U_init 1 = .ok (.invokespecial 3, 3) := by decide +kernel
theorem zd_U_init_4 : decode zc_U_init 4 = .ok (.aload_n 0, 1) := by decide +kernel
theorem zd_U_init_5 : decode zc_U_init 5 = .ok (.sipush 400, 3) := by decide +kernel
theorem zd_U_init_8 : decode zc_U_init 8 = .ok (.newarray .int, 2) := by decide +kernel
theorem zd_U_init_10 : decode zc_U_init 10 = .ok (.putfield 9, 3) := by decide +kernel
theorem zd_U_init_13 : decode zc_U_init 13 = .ok (.aload_n 0, 1) := by decide +kernel
theorem zd_U_init_14 : decode zc_U_init 14 = .ok (.bipush 8, 2) := by decide +kernel
theorem zd_U_init_16 : decode zc_U_init 16 = .ok (.newarray .int, 2) := by decide +kernel
theorem zd_U_init_18 : decode zc_U_init 18 = .ok (.putfield 15, 3) := by decide +kernel
theorem zd_U_init_21 : decode zc_U_init 21 = .ok (.aload_n 0, 1) := by decide +kernel
theorem zd_U_init_22 : decode zc_U_init 22 = .ok (.bipush 14, 2) := by decide +kernel
theorem zd_U_init_24 : decode zc_U_init 24 = .ok (.newarray .int, 2) := by decide +kernel
theorem zd_U_init_26 : decode zc_U_init 26 = .ok (.putfield 18, 3) := by decide +kernel
theorem zd_U_init_29 : decode zc_U_init 29 = .ok (.aload_n 0, 1) := by decide +kernel
theorem zd_U_init_30 : decode zc_U_init 30 = .ok (.bipush 14, 2) := by decide +kernel
theorem zd_U_init_32 : decode zc_U_init 32 = .ok (.newarray .int, 2) := by decide +kernel
theorem zd_U_init_34 : decode zc_U_init 34 = .ok (.putfield 21, 3) := by decide +kernel
theorem zd_U_init_37 : decode zc_U_init 37 = .ok (.return_, 1) := by decide +kernel
theorem zd_U_play_0 : decode zc_U_play 0 = .ok (.aload_n 0, 1) := by decide +kernel
theorem zd_U_play_1 : decode zc_U_play 1 = .ok (.aload_n 1, 1) := by decide +kernel
theorem zd_U_play_2 : decode zc_U_play 2 = .ok (.invokevirtual 24, 3) := by decide +kernel
theorem zd_U_play_5 : decode zc_U_play 5 = .ok (.iconst 0, 1) := by decide +kernel
theorem zd_U_play_6 : decode zc_U_play 6 = .ok (.istore_n 2, 1) := by decide +kernel
theorem zd_U_play_7 : decode zc_U_play 7 = .ok (.iload_n 2, 1) := by decide +kernel
theorem zd_U_play_8 : decode zc_U_play 8 = .ok (.sipush 400, 3) := by decide +kernel
theorem zd_U_play_11 : decode zc_U_play 11 = .ok (.if_icmp .ge 43, 3) := by decide +kernel
theorem zd_U_play_14 : decode zc_U_play 14 = .ok (.aload_n 0, 1) := by decide +kernel
theorem zd_U_play_15 : decode zc_U_play 15 = .ok (.aload_n 1, 1) := by decide +kernel
theorem zd_U_play_16 : decode zc_U_play 16 = .ok (.invokevirtual 28, 3) := by decide +kernel
theorem zd_U_play_19 : decode zc_U_play 19 = .ok (.istore_n 3, 1) := by decide +kernel
theorem zd_U_play_20 : decode zc_U_play 20 = .ok (.iload_n 3, 1) := by decide +kernel
theorem zd_U_play_21 : decode zc_U_play 21 = .ok (.iconst (-1), 1) := by decide +kernel
theorem zd_U_play_22 : decode zc_U_play 22 = .ok (.if_icmp .ne 6, 3) := by decide +kernel
theorem zd_U_play_25 : decode zc_U_play 25 = .ok (.goto 29, 3) := by decide +kernel
theorem zd_U_play_28 : decode zc_U_play 28 = .ok (.aload_n 0, 1) := by decide +kernel
theorem zd_U_play_29 : decode zc_U_play 29 = .ok (.aload_n 1, 1) := by decide +kernel
theorem zd_U_play_30 : decode zc_U_play 30 = .ok (.iload_n 3, 1) := by decide +kernel
theorem zd_U_play_31 : decode zc_U_play 31 = .ok (.invokevirtual 32, 3) := by decide +kernel
theorem zd_U_play_34 : decode zc_U_play 34 = .ok (.aload_n 0, 1) := by decide +kernel
theorem zd_U_play_35 : decode zc_U_play 35 = .ok (.getfield 9, 3) := by decide +kernel
theorem zd_U_play_38 : decode zc_U_play 38 = .ok (.iload_n 2, 1) := by decide +kernel
theorem zd_U_play_39 : decode zc_U_play 39 = .ok (.iload_n 3, 1) := by decide +kernel
theorem zd_U_play_40 : decode zc_U_play 40 = .ok (.iastore, 1) := by decide +kernel
theorem zd_U_play_41 : decode zc_U_play 41 = .ok (.aload_n 0, 1) := by decide +kernel
theorem zd_U_play_42 : decode zc_U_play 42 = .ok (.iload_n 2, 1) := by decide +kernel
theorem zd_U_play_43 : decode zc_U_play 43 = .ok (.iconst 1, 1) := by decide +kernel
theorem zd_U_play_44 : decode zc_U_play 44 = .ok (.iadd, 1) := by decide +kernel
theorem zd_U_play_45 : decode zc_U_play 45 = .ok (.putfield 36, 3) := by decide +kernel
theorem zd_U_play_48 : decode zc_U_play 48 = .ok (.iinc 2 1, 3) := by decide +kernel
theorem zd_U_play_51 : decode zc_U_play 51 = .ok (.goto (-44), 3) := by decide +kernel
theorem zd_U_play_54 : decode zc_U_play 54 = .ok (.aload_n 0, 1) := by decide +kernel
theorem zd_U_play_55 : decode zc_U_play 55 = .ok (.iconst 1, 1) := by decide +kernel
theorem zd_U_play_56 : decode zc_U_play 56 = .ok (.putfield 40, 3) := by decide +kernel
theorem zd_U_play_59 : decode zc_U_play 59 = .ok (.return_, 1) := by decide +kernel
theorem zd_U_begin_0 : decode zc_U_begin 0 = .ok (.aload_n 0, 1) := by decide +kernel
theorem zd_U_begin_1 : decode zc_U_begin 1 = .ok (.iconst 0, 1) := by decide +kernel
theorem zd_U_begin_2 : decode zc_U_begin 2 = .ok (.putfield 36, 3) := by decide +kernel
theorem zd_U_begin_5 : decode zc_U_begin 5 = .ok (.iconst 0, 1) := by decide +kernel
theorem zd_U_begin_6 : decode zc_U_begin 6 = .ok (.istore_n 2, 1) := by decide +kernel
theorem zd_U_begin_7 : decode zc_U_begin 7 = .ok (.iload_n 2, 1) := by decide +kernel
theorem zd_U_begin_8 : decode zc_U_begin 8 = .ok (.aload_n 1, 1) := by decide +kernel
theorem zd_U_begin_9 : decode zc_U_begin 9 = .ok (.getfield 44, 3) := by decide +kernel
theorem zd_U_begin_12 : decode zc_U_begin 12 = .ok (.if_icmp .ge 21, 3) := by decide +kernel
theorem zd_U_begin_15 : decode zc_U_begin 15 = .ok (.aload_n 0, 1) := by decide +kernel
theorem zd_U_begin_16 : decode zc_U_begin 16 = .ok (.getfield 15, 3) := by decide +kernel
theorem zd_U_begin_19 : decode zc_U_begin 19 = .ok (.iload_n 2, 1) := by decide +kernel
theorem zd_U_begin_20 : decode zc_U_begin 20 = .ok (.aload_n 1, 1) := by decide +kernel
theorem zd_U_begin_21 : decode zc_U_begin 21 = .ok (.getfield 49, 3) := by decide +kernel
theorem zd_U_begin_24 : decode zc_U_begin 24 = .ok (.iload_n 2, 1) := by decide +kernel
theorem zd_U_begin_25 : decode zc_U_begin 25 = .ok (.iaload, 1) := by decide +kernel
theorem zd_U_begin_26 : decode zc_U_begin 26 = .ok (.iastore, 1) := by decide +kernel
theorem zd_U_begin_27 : decode zc_U_begin 27 = .ok (.iinc 2 1, 3) := by decide +kernel
theorem zd_U_begin_30 : decode zc_U_begin 30 = .ok (.goto (-23), 3) := by decide +kernel
theorem zd_U_begin_33 : decode zc_U_begin 33 = .ok (.iconst 0, 1) := by decide +kernel
theorem zd_U_begin_34 : decode zc_U_begin 34 = .ok (.istore_n 2, 1) := by decide +kernel
theorem zd_U_begin_35 : decode zc_U_begin 35 = .ok (.iload_n 2, 1) := by decide +kernel
theorem zd_U_begin_36 : decode zc_U_begin 36 = .ok (.aload_n 1, 1) := by decide +kernel
theorem zd_U_begin_37 : decode zc_U_begin 37 = .ok (.getfield 52, 3) := by decide +kernel
theorem zd_U_begin_40 : decode zc_U_begin 40 = .ok (.if_icmp .ge 33, 3) := by decide +kernel
theorem zd_U_begin_43 : decode zc_U_begin 43 = .ok (.aload_n 0, 1) := by decide +kernel
theorem zd_U_begin_44 : decode zc_U_begin 44 = .ok (.getfield 18, 3) := by decide +kernel
theorem zd_U_begin_47 : decode zc_U_begin 47 = .ok (.iload_n 2, 1) := by decide +kernel
theorem zd_U_begin_48 : decode zc_U_begin 48 = .ok (.aload_n 1, 1) := by decide +kernel
theorem zd_U_begin_49 : decode zc_U_begin 49 = .ok (.getfield 55, 3) := by decide +kernel
theorem zd_U_begin_52 : decode zc_U_begin 52 = .ok (.iload_n 2, 1) := by decide +kernel
theorem zd_U_begin_53 : decode zc_U_begin 53 = .ok (.iaload, 1) := by decide +kernel
theorem zd_U_begin_54 : decode zc_U_begin 54 = .ok (.iastore, 1) := by decide +kernel
theorem zd_U_begin_55 : decode zc_U_begin 55 = .ok (.aload_n 0, 1) := by decide +kernel
theorem zd_U_begin_56 : decode zc_U_begin 56 = .ok (.getfield 21, 3) := by decide +kernel
theorem zd_U_begin_59 : decode zc_U_begin 59 = .ok (.iload_n 2, 1) := by decide +kernel
theorem zd_U_begin_60 : decode zc_U_begin 60 = .ok (.aload_n 1, 1) := by decide +kernel
theorem zd_U_begin_61 : decode zc_U_begin 61 = .ok (.getfield 55, 3) := by decide +kernel
theorem zd_U_begin_64 : decode zc_U_begin 64 = .ok (.iload_n 2, 1) := by decide +kernel
theorem zd_U_begin_65 : decode zc_U_begin 65 = .ok (.iaload, 1) := by decide +kernel
theorem zd_U_begin_66 : decode zc_U_begin 66 = .ok (.iastore, 1) := by decide +kernel
theorem zd_U_begin_67 : decode zc_U_begin 67 = .ok (.iinc 2 1, 3) := by decide +kernel
theorem zd_U_begin_70 : decode zc_U_begin 70 = .ok (.goto (-35), 3) := by decide +kernel
theorem zd_U_begin_73 : decode zc_U_begin 73 = .ok (.return_, 1) := by decide +kernel
theorem zd_U_leastReady_0 : decode zc_U_leastReady 0 = .ok (.iconst 0, 1) := by decide +kernel
theorem zd_U_leastReady_1 : decode zc_U_leastReady 1 = .ok (.istore_n 2, 1) := by decide +kernel
theorem zd_U_leastReady_2 : decode zc_U_leastReady 2 = .ok (.iload_n 2, 1) := by decide +kernel
theorem zd_U_leastReady_3 : decode zc_U_leastReady 3 = .ok (.aload_n 1, 1) := by decide +kernel
theorem zd_U_leastReady_4 : decode zc_U_leastReady 4 = .ok (.getfield 44, 3) := by decide +kernel
theorem zd_U_leastReady_7 : decode zc_U_leastReady 7 = .ok (.if_icmp .ge 29, 3) := by decide +kernel
theorem zd_U_leastReady_10 : decode zc_U_leastReady 10 = .ok (.aload_n 0, 1) := by decide +kernel
theorem zd_U_leastReady_11 : decode zc_U_leastReady 11 = .ok (.getfield 15, 3) := by decide +kernel
theorem zd_U_leastReady_14 : decode zc_U_leastReady 14 = .ok (.iload_n 2, 1) := by decide +kernel
theorem zd_U_leastReady_15 : decode zc_U_leastReady 15 = .ok (.iaload, 1) := by decide +kernel
theorem zd_U_leastReady_16 : decode zc_U_leastReady 16 = .ok (.ifCond .le 14, 3) := by decide +kernel
theorem zd_U_leastReady_19 : decode zc_U_leastReady 19 = .ok (.aload_n 0, 1) := by decide +kernel
theorem zd_U_leastReady_20 : decode zc_U_leastReady 20 = .ok (.aload_n 1, 1) := by decide +kernel
theorem zd_U_leastReady_21 : decode zc_U_leastReady 21 = .ok (.iload_n 2, 1) := by decide +kernel
theorem zd_U_leastReady_22 : decode zc_U_leastReady 22 = .ok (.invokevirtual 58, 3) := by decide +kernel
theorem zd_U_leastReady_25 : decode zc_U_leastReady 25 = .ok (.ifCond .eq 5, 3) := by decide +kernel
theorem zd_U_leastReady_28 : decode zc_U_leastReady 28 = .ok (.iload_n 2, 1) := by decide +kernel
theorem zd_U_leastReady_29 : decode zc_U_leastReady 29 = .ok (.ireturn, 1) := by decide +kernel
theorem zd_U_leastReady_30 : decode zc_U_leastReady 30 = .ok (.iinc 2 1, 3) := by decide +kernel
theorem zd_U_leastReady_33 : decode zc_U_leastReady 33 = .ok (.goto (-31), 3) := by decide +kernel
theorem zd_U_leastReady_36 : decode zc_U_leastReady 36 = .ok (.iconst (-1), 1) := by decide +kernel
theorem zd_U_leastReady_37 : decode zc_U_leastReady 37 = .ok (.ireturn, 1) := by decide +kernel
theorem zd_U_hasEnough_0 : decode zc_U_hasEnough 0 = .ok (.iconst 0, 1) := by decide +kernel
theorem zd_U_hasEnough_1 : decode zc_U_hasEnough 1 = .ok (.istore_n 3, 1) := by decide +kernel
theorem zd_U_hasEnough_2 : decode zc_U_hasEnough 2 = .ok (.iload_n 3, 1) := by decide +kernel
theorem zd_U_hasEnough_3 : decode zc_U_hasEnough 3 = .ok (.aload_n 1, 1) := by decide +kernel
theorem zd_U_hasEnough_4 : decode zc_U_hasEnough 4 = .ok (.getfield 52, 3) := by decide +kernel
theorem zd_U_hasEnough_7 : decode zc_U_hasEnough 7 = .ok (.if_icmp .ge 36, 3) := by decide +kernel
theorem zd_U_hasEnough_10 : decode zc_U_hasEnough 10 = .ok (.aload_n 1, 1) := by decide +kernel
theorem zd_U_hasEnough_11 : decode zc_U_hasEnough 11 = .ok (.getfield 62, 3) := by decide +kernel
theorem zd_U_hasEnough_14 : decode zc_U_hasEnough 14 = .ok (.iload_n 3, 1) := by decide +kernel
theorem zd_U_hasEnough_15 : decode zc_U_hasEnough 15 = .ok (.iaload, 1) := by decide +kernel
theorem zd_U_hasEnough_16 : decode zc_U_hasEnough 16 = .ok (.iload_n 2, 1) := by decide +kernel
theorem zd_U_hasEnough_17 : decode zc_U_hasEnough 17 = .ok (.if_icmp .ne 20, 3) := by decide +kernel
theorem zd_U_hasEnough_20 : decode zc_U_hasEnough 20 = .ok (.aload_n 0, 1) := by decide +kernel
theorem zd_U_hasEnough_21 : decode zc_U_hasEnough 21 = .ok (.getfield 18, 3) := by decide +kernel
theorem zd_U_hasEnough_24 : decode zc_U_hasEnough 24 = .ok (.iload_n 3, 1) := by decide +kernel
theorem zd_U_hasEnough_25 : decode zc_U_hasEnough 25 = .ok (.iaload, 1) := by decide +kernel
theorem zd_U_hasEnough_26 : decode zc_U_hasEnough 26 = .ok (.aload_n 1, 1) := by decide +kernel
theorem zd_U_hasEnough_27 : decode zc_U_hasEnough 27 = .ok (.getfield 65, 3) := by decide +kernel
theorem zd_U_hasEnough_30 : decode zc_U_hasEnough 30 = .ok (.iload_n 3, 1) := by decide +kernel
theorem zd_U_hasEnough_31 : decode zc_U_hasEnough 31 = .ok (.iaload, 1) := by decide +kernel
theorem zd_U_hasEnough_32 : decode zc_U_hasEnough 32 = .ok (.if_icmp .ge 5, 3) := by decide +kernel
theorem zd_U_hasEnough_35 : decode zc_U_hasEnough 35 = .ok (.iconst 0, 1) := by decide +kernel
theorem zd_U_hasEnough_36 : decode zc_U_hasEnough 36 = .ok (.ireturn, 1) := by decide +kernel
theorem zd_U_hasEnough_37 : decode zc_U_hasEnough 37 = .ok (.iinc 3 1, 3) := by decide +kernel
theorem zd_U_hasEnough_40 : decode zc_U_hasEnough 40 = .ok (.goto (-38), 3) := by decide +kernel
theorem zd_U_hasEnough_43 : decode zc_U_hasEnough 43 = .ok (.iconst 1, 1) := by decide +kernel
theorem zd_U_hasEnough_44 : decode zc_U_hasEnough 44 = .ok (.ireturn, 1) := by decide +kernel
theorem zd_U_fire_0 : decode zc_U_fire 0 = .ok (.aload_n 0, 1) := by decide +kernel
theorem zd_U_fire_1 : decode zc_U_fire 1 = .ok (.getfield 15, 3) := by decide +kernel
theorem zd_U_fire_4 : decode zc_U_fire 4 = .ok (.iload_n 2, 1) := by decide +kernel
theorem zd_U_fire_5 : decode zc_U_fire 5 = .ok (.dup2, 1) := by decide +kernel
theorem zd_U_fire_6 : decode zc_U_fire 6 = .ok (.iaload, 1) := by decide +kernel
theorem zd_U_fire_7 : decode zc_U_fire 7 = .ok (.iconst 1, 1) := by decide +kernel
theorem zd_U_fire_8 : decode zc_U_fire 8 = .ok (.isub, 1) := by decide +kernel
theorem zd_U_fire_9 : decode zc_U_fire 9 = .ok (.iastore, 1) := by decide +kernel
theorem zd_U_fire_10 : decode zc_U_fire 10 = .ok (.iconst 0, 1) := by decide +kernel
theorem zd_U_fire_11 : decode zc_U_fire 11 = .ok (.istore_n 3, 1) := by decide +kernel
theorem zd_U_fire_12 : decode zc_U_fire 12 = .ok (.iload_n 3, 1) := by decide +kernel
theorem zd_U_fire_13 : decode zc_U_fire 13 = .ok (.aload_n 1, 1) := by decide +kernel
theorem zd_U_fire_14 : decode zc_U_fire 14 = .ok (.getfield 52, 3) := by decide +kernel
theorem zd_U_fire_17 : decode zc_U_fire 17 = .ok (.if_icmp .ge 80, 3) := by decide +kernel
theorem zd_U_fire_20 : decode zc_U_fire 20 = .ok (.aload_n 1, 1) := by decide +kernel
theorem zd_U_fire_21 : decode zc_U_fire 21 = .ok (.getfield 62, 3) := by decide +kernel
theorem zd_U_fire_24 : decode zc_U_fire 24 = .ok (.iload_n 3, 1) := by decide +kernel
theorem zd_U_fire_25 : decode zc_U_fire 25 = .ok (.iaload, 1) := by decide +kernel
theorem zd_U_fire_26 : decode zc_U_fire 26 = .ok (.iload_n 2, 1) := by decide +kernel
theorem zd_U_fire_27 : decode zc_U_fire 27 = .ok (.if_icmp .ne 18, 3) := by decide +kernel
theorem zd_U_fire_30 : decode zc_U_fire 30 = .ok (.aload_n 0, 1) := by decide +kernel
theorem zd_U_fire_31 : decode zc_U_fire 31 = .ok (.getfield 18, 3) := by decide +kernel
theorem zd_U_fire_34 : decode zc_U_fire 34 = .ok (.iload_n 3, 1) := by decide +kernel
theorem zd_U_fire_35 : decode zc_U_fire 35 = .ok (.dup2, 1) := by decide +kernel
theorem zd_U_fire_36 : decode zc_U_fire 36 = .ok (.iaload, 1) := by decide +kernel
theorem zd_U_fire_37 : decode zc_U_fire 37 = .ok (.aload_n 1, 1) := by decide +kernel
theorem zd_U_fire_38 : decode zc_U_fire 38 = .ok (.getfield 65, 3) := by decide +kernel
theorem zd_U_fire_41 : decode zc_U_fire 41 = .ok (.iload_n 3, 1) := by decide +kernel
theorem zd_U_fire_42 : decode zc_U_fire 42 = .ok (.iaload, 1) := by decide +kernel
theorem zd_U_fire_43 : decode zc_U_fire 43 = .ok (.isub, 1) := by decide +kernel
theorem zd_U_fire_44 : decode zc_U_fire 44 = .ok (.iastore, 1) := by decide +kernel
theorem zd_U_fire_45 : decode zc_U_fire 45 = .ok (.aload_n 1, 1) := by decide +kernel
theorem zd_U_fire_46 : decode zc_U_fire 46 = .ok (.getfield 68, 3) := by decide +kernel
theorem zd_U_fire_49 : decode zc_U_fire 49 = .ok (.iload_n 3, 1) := by decide +kernel
theorem zd_U_fire_50 : decode zc_U_fire 50 = .ok (.iaload, 1) := by decide +kernel
theorem zd_U_fire_51 : decode zc_U_fire 51 = .ok (.iload_n 2, 1) := by decide +kernel
theorem zd_U_fire_52 : decode zc_U_fire 52 = .ok (.if_icmp .ne 18, 3) := by decide +kernel
theorem zd_U_fire_55 : decode zc_U_fire 55 = .ok (.aload_n 0, 1) := by decide +kernel
theorem zd_U_fire_56 : decode zc_U_fire 56 = .ok (.getfield 18, 3) := by decide +kernel
theorem zd_U_fire_59 : decode zc_U_fire 59 = .ok (.iload_n 3, 1) := by decide +kernel
theorem zd_U_fire_60 : decode zc_U_fire 60 = .ok (.dup2, 1) := by decide +kernel
theorem zd_U_fire_61 : decode zc_U_fire 61 = .ok (.iaload, 1) := by decide +kernel
theorem zd_U_fire_62 : decode zc_U_fire 62 = .ok (.aload_n 1, 1) := by decide +kernel
theorem zd_U_fire_63 : decode zc_U_fire 63 = .ok (.getfield 71, 3) := by decide +kernel
theorem zd_U_fire_66 : decode zc_U_fire 66 = .ok (.iload_n 3, 1) := by decide +kernel
theorem zd_U_fire_67 : decode zc_U_fire 67 = .ok (.iaload, 1) := by decide +kernel
theorem zd_U_fire_68 : decode zc_U_fire 68 = .ok (.iadd, 1) := by decide +kernel
theorem zd_U_fire_69 : decode zc_U_fire 69 = .ok (.iastore, 1) := by decide +kernel
theorem zd_U_fire_70 : decode zc_U_fire 70 = .ok (.aload_n 0, 1) := by decide +kernel
theorem zd_U_fire_71 : decode zc_U_fire 71 = .ok (.getfield 21, 3) := by decide +kernel
theorem zd_U_fire_74 : decode zc_U_fire 74 = .ok (.iload_n 3, 1) := by decide +kernel
theorem zd_U_fire_75 : decode zc_U_fire 75 = .ok (.aload_n 0, 1) := by decide +kernel
theorem zd_U_fire_76 : decode zc_U_fire 76 = .ok (.getfield 21, 3) := by decide +kernel
theorem zd_U_fire_79 : decode zc_U_fire 79 = .ok (.iload_n 3, 1) := by decide +kernel
theorem zd_U_fire_80 : decode zc_U_fire 80 = .ok (.iaload, 1) := by decide +kernel
theorem zd_U_fire_81 : decode zc_U_fire 81 = .ok (.aload_n 0, 1) := by decide +kernel
theorem zd_U_fire_82 : decode zc_U_fire 82 = .ok (.getfield 18, 3) := by decide +kernel
theorem zd_U_fire_85 : decode zc_U_fire 85 = .ok (.iload_n 3, 1) := by decide +kernel
theorem zd_U_fire_86 : decode zc_U_fire 86 = .ok (.iaload, 1) := by decide +kernel
theorem zd_U_fire_87 : decode zc_U_fire 87 = .ok (.invokestatic 74, 3) := by decide +kernel
theorem zd_U_fire_90 : decode zc_U_fire 90 = .ok (.iastore, 1) := by decide +kernel
theorem zd_U_fire_91 : decode zc_U_fire 91 = .ok (.iinc 3 1, 3) := by decide +kernel
theorem zd_U_fire_94 : decode zc_U_fire 94 = .ok (.goto (-82), 3) := by decide +kernel
theorem zd_U_fire_97 : decode zc_U_fire 97 = .ok (.return_, 1) := by decide +kernel
theorem zd_U_isAlive_0 : decode zc_U_isAlive 0 = .ok (.iconst 0, 1) := by decide +kernel
theorem zd_U_isAlive_1 : decode zc_U_isAlive 1 = .ok (.istore_n 2, 1) := by decide +kernel
theorem zd_U_isAlive_2 : decode zc_U_isAlive 2 = .ok (.iload_n 2, 1) := by decide +kernel
theorem zd_U_isAlive_3 : decode zc_U_isAlive 3 = .ok (.aload_n 1, 1) := by decide +kernel
theorem zd_U_isAlive_4 : decode zc_U_isAlive 4 = .ok (.getfield 44, 3) := by decide +kernel
theorem zd_U_isAlive_7 : decode zc_U_isAlive 7 = .ok (.if_icmp .ge 20, 3) := by decide +kernel
theorem zd_U_isAlive_10 : decode zc_U_isAlive 10 = .ok (.aload_n 0, 1) := by decide +kernel
theorem zd_U_isAlive_11 : decode zc_U_isAlive 11 = .ok (.getfield 15, 3) := by decide +kernel
theorem zd_U_isAlive_14 : decode zc_U_isAlive 14 = .ok (.iload_n 2, 1) := by decide +kernel
theorem zd_U_isAlive_15 : decode zc_U_isAlive 15 = .ok (.iaload, 1) := by decide +kernel
theorem zd_U_isAlive_16 : decode zc_U_isAlive 16 = .ok (.ifCond .eq 5, 3) := by decide +kernel
theorem zd_U_isAlive_19 : decode zc_U_isAlive 19 = .ok (.iconst 0, 1) := by decide +kernel
theorem zd_U_isAlive_20 : decode zc_U_isAlive 20 = .ok (.ireturn, 1) := by decide +kernel
theorem zd_U_isAlive_21 : decode zc_U_isAlive 21 = .ok (.iinc 2 1, 3) := by decide +kernel
theorem zd_U_isAlive_24 : decode zc_U_isAlive 24 = .ok (.goto (-22), 3) := by decide +kernel
theorem zd_U_isAlive_27 : decode zc_U_isAlive 27 = .ok (.iconst 1, 1) := by decide +kernel
theorem zd_U_isAlive_28 : decode zc_U_isAlive 28 = .ok (.ireturn, 1) := by decide +kernel
