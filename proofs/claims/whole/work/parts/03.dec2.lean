theorem dX9_areSeconds_1 : decode cX9_areSeconds 1 = .ok (.istore_n 3, 1) := by decide +kernel
theorem dX9_areSeconds_2 : decode cX9_areSeconds 2 = .ok (.iload_n 3, 1) := by decide +kernel
theorem dX9_areSeconds_3 : decode cX9_areSeconds 3 = .ok (.iload_n 2, 1) := by decide +kernel
theorem dX9_areSeconds_4 : decode cX9_areSeconds 4 = .ok (.if_icmp .ge 36, 3) := by decide +kernel
theorem dX9_areSeconds_7 : decode cX9_areSeconds 7 = .ok (.aload_n 0, 1) := by decide +kernel
theorem dX9_areSeconds_8 : decode cX9_areSeconds 8 = .ok (.iload_n 1, 1) := by decide +kernel
theorem dX9_areSeconds_9 : decode cX9_areSeconds 9 = .ok (.iload_n 3, 1) := by decide +kernel
theorem dX9_areSeconds_10 : decode cX9_areSeconds 10 = .ok (.invokevirtual 110, 3) := by decide +kernel
theorem dX9_areSeconds_13 : decode cX9_areSeconds 13 = .ok (.iload_n 3, 1) := by decide +kernel
theorem dX9_areSeconds_14 : decode cX9_areSeconds 14 = .ok (.ifCond .ne 7, 3) := by decide +kernel
theorem dX9_areSeconds_17 : decode cX9_areSeconds 17 = .ok (.iconst 0, 1) := by decide +kernel
theorem dX9_areSeconds_18 : decode cX9_areSeconds 18 = .ok (.goto 11, 3) := by decide +kernel
theorem dX9_areSeconds_21 : decode cX9_areSeconds 21 = .ok (.aload_n 0, 1) := by decide +kernel
theorem dX9_areSeconds_22 : decode cX9_areSeconds 22 = .ok (.iload_n 1, 1) := by decide +kernel
theorem dX9_areSeconds_23 : decode cX9_areSeconds 23 = .ok (.iload_n 3, 1) := by decide +kernel
theorem dX9_areSeconds_24 : decode cX9_areSeconds 24 = .ok (.iconst 1, 1) := by decide +kernel
theorem dX9_areSeconds_25 : decode cX9_areSeconds 25 = .ok (.isub, 1) := by decide +kernel
theorem dX9_areSeconds_26 : decode cX9_areSeconds 26 = .ok (.invokevirtual 110, 3) := by decide +kernel
theorem dX9_areSeconds_29 : decode cX9_areSeconds 29 = .ok (.if_icmp .gt 5, 3) := by decide +kernel
theorem dX9_areSeconds_32 : decode cX9_areSeconds 32 = .ok (.iconst 0, 1) := by decide +kernel
theorem dX9_areSeconds_33 : decode cX9_areSeconds 33 = .ok (.ireturn, 1) := by decide +kernel
theorem dX9_areSeconds_34 : decode cX9_areSeconds 34 = .ok (.iinc 3 1, 3) := by decide +kernel
theorem dX9_areSeconds_37 : decode cX9_areSeconds 37 = .ok (.goto (-35), 3) := by decide +kernel
theorem dX9_areSeconds_40 : decode cX9_areSeconds 40 = .ok (.iconst 1, 1) := by decide +kernel
theorem dX9_areSeconds_41 : decode cX9_areSeconds 41 = .ok (.ireturn, 1) := by decide +kernel
theorem dX9_adds_0 : decode cX9_adds 0 = .ok (.aload_n 0, 1) := by decide +kernel
theorem dX9_adds_1 : decode cX9_adds 1 = .ok (.getfield 32, 3) := by decide +kernel
theorem dX9_adds_4 : decode cX9_adds 4 = .ok (.aload_n 0, 1) := by decide +kernel
theorem dX9_adds_5 : decode cX9_adds 5 = .ok (.getfield 93, 3) := by decide +kernel
theorem dX9_adds_8 : decode cX9_adds 8 = .ok (.iload_n 1, 1) := by decide +kernel
theorem dX9_adds_9 : decode cX9_adds 9 = .ok (.iastore, 1) := by decide +kernel
theorem dX9_adds_10 : decode cX9_adds 10 = .ok (.aload_n 0, 1) := by decide +kernel
theorem dX9_adds_11 : decode cX9_adds 11 = .ok (.getfield 35, 3) := by decide +kernel
theorem dX9_adds_14 : decode cX9_adds 14 = .ok (.aload_n 0, 1) := by decide +kernel
theorem dX9_adds_15 : decode cX9_adds 15 = .ok (.getfield 93, 3) := by decide +kernel
theorem dX9_adds_18 : decode cX9_adds 18 = .ok (.iload_n 2, 1) := by decide +kernel
theorem dX9_adds_19 : decode cX9_adds 19 = .ok (.iastore, 1) := by decide +kernel
theorem dX9_adds_20 : decode cX9_adds 20 = .ok (.aload_n 0, 1) := by decide +kernel
theorem dX9_adds_21 : decode cX9_adds 21 = .ok (.getfield 38, 3) := by decide +kernel
theorem dX9_adds_24 : decode cX9_adds 24 = .ok (.aload_n 0, 1) := by decide +kernel
theorem dX9_adds_25 : decode cX9_adds 25 = .ok (.getfield 93, 3) := by decide +kernel
theorem dX9_adds_28 : decode cX9_adds 28 = .ok (.iconst 0, 1) := by decide +kernel
theorem dX9_adds_29 : decode cX9_adds 29 = .ok (.iastore, 1) := by decide +kernel
theorem dX9_adds_30 : decode cX9_adds 30 = .ok (.aload_n 0, 1) := by decide +kernel
theorem dX9_adds_31 : decode cX9_adds 31 = .ok (.getfield 41, 3) := by decide +kernel
theorem dX9_adds_34 : decode cX9_adds 34 = .ok (.aload_n 0, 1) := by decide +kernel
theorem dX9_adds_35 : decode cX9_adds 35 = .ok (.getfield 93, 3) := by decide +kernel
theorem dX9_adds_38 : decode cX9_adds 38 = .ok (.iconst 0, 1) := by decide +kernel
theorem dX9_adds_39 : decode cX9_adds 39 = .ok (.iastore, 1) := by decide +kernel
theorem dX9_adds_40 : decode cX9_adds 40 = .ok (.aload_n 0, 1) := by decide +kernel
theorem dX9_adds_41 : decode cX9_adds 41 = .ok (.getfield 44, 3) := by decide +kernel
theorem dX9_adds_44 : decode cX9_adds 44 = .ok (.aload_n 0, 1) := by decide +kernel
theorem dX9_adds_45 : decode cX9_adds 45 = .ok (.getfield 93, 3) := by decide +kernel
theorem dX9_adds_48 : decode cX9_adds 48 = .ok (.iconst 0, 1) := by decide +kernel
theorem dX9_adds_49 : decode cX9_adds 49 = .ok (.iastore, 1) := by decide +kernel
theorem dX9_adds_50 : decode cX9_adds 50 = .ok (.aload_n 0, 1) := by decide +kernel
theorem dX9_adds_51 : decode cX9_adds 51 = .ok (.dup, 1) := by decide +kernel
theorem dX9_adds_52 : decode cX9_adds 52 = .ok (.getfield 93, 3) := by decide +kernel
theorem dX9_adds_55 : decode cX9_adds 55 = .ok (.dup_x1, 1) := by decide +kernel
theorem dX9_adds_56 : decode cX9_adds 56 = .ok (.iconst 1, 1) := by decide +kernel
theorem dX9_adds_57 : decode cX9_adds 57 = .ok (.iadd, 1) := by decide +kernel
theorem dX9_adds_58 : decode cX9_adds 58 = .ok (.putfield 93, 3) := by decide +kernel
theorem dX9_adds_61 : decode cX9_adds 61 = .ok (.ireturn, 1) := by decide +kernel
theorem dX9_counter_0 : decode cX9_counter 0 = .ok (.iload_n 1, 1) := by decide +kernel
theorem dX9_counter_1 : decode cX9_counter 1 = .ok (.ifCond .lt 9, 3) := by decide +kernel
theorem dX9_counter_4 : decode cX9_counter 4 = .ok (.iload_n 1, 1) := by decide +kernel
theorem dX9_counter_5 : decode cX9_counter 5 = .ok (.bipush 6, 2) := by decide +kernel
theorem dX9_counter_7 : decode cX9_counter 7 = .ok (.if_icmp .le 9, 3) := by decide +kernel
theorem dX9_counter_10 : decode cX9_counter 10 = .ok (.aload_n 0, 1) := by decide +kernel
theorem dX9_counter_11 : decode cX9_counter 11 = .ok (.iconst (-1), 1) := by decide +kernel
theorem dX9_counter_12 : decode cX9_counter 12 = .ok (.invokevirtual 100, 3) := by decide +kernel
theorem dX9_counter_15 : decode cX9_counter 15 = .ok (.ireturn, 1) := by decide +kernel
theorem dX9_counter_16 : decode cX9_counter 16 = .ok (.iload_n 2, 1) := by decide +kernel
theorem dX9_counter_17 : decode cX9_counter 17 = .ok (.ifCond .lt 9, 3) := by decide +kernel
theorem dX9_counter_20 : decode cX9_counter 20 = .ok (.iload_n 2, 1) := by decide +kernel
theorem dX9_counter_21 : decode cX9_counter 21 = .ok (.bipush 9, 2) := by decide +kernel
theorem dX9_counter_23 : decode cX9_counter 23 = .ok (.if_icmp .le 10, 3) := by decide +kernel
theorem dX9_counter_26 : decode cX9_counter 26 = .ok (.aload_n 0, 1) := by decide +kernel
theorem dX9_counter_27 : decode cX9_counter 27 = .ok (.bipush (-6), 2) := by decide +kernel
theorem dX9_counter_29 : decode cX9_counter 29 = .ok (.invokevirtual 100, 3) := by decide +kernel
theorem dX9_counter_32 : decode cX9_counter 32 = .ok (.ireturn, 1) := by decide +kernel
theorem dX9_counter_33 : decode cX9_counter 33 = .ok (.aload_n 0, 1) := by decide +kernel
theorem dX9_counter_34 : decode cX9_counter 34 = .ok (.getfield 93, 3) := by decide +kernel
theorem dX9_counter_37 : decode cX9_counter 37 = .ok (.bipush 6, 2) := by decide +kernel
theorem dX9_counter_39 : decode cX9_counter 39 = .ok (.if_icmp .ne 12, 3) := by decide +kernel
theorem dX9_counter_42 : decode cX9_counter 42 = .ok (.aload_n 0, 1) := by decide +kernel
theorem dX9_counter_43 : decode cX9_counter 43 = .ok (.bipush (-7), 2) := by decide +kernel
theorem dX9_counter_45 : decode cX9_counter 45 = .ok (.invokevirtual 100, 3) := by decide +kernel
theorem dX9_counter_48 : decode cX9_counter 48 = .ok (.goto 9, 3) := by decide +kernel
theorem dX9_counter_51 : decode cX9_counter 51 = .ok (.aload_n 0, 1) := by decide +kernel
theorem dX9_counter_52 : decode cX9_counter 52 = .ok (.iload_n 1, 1) := by decide +kernel
theorem dX9_counter_53 : decode cX9_counter 53 = .ok (.iload_n 2, 1) := by decide +kernel
theorem dX9_counter_54 : decode cX9_counter 54 = .ok (.invokevirtual 114, 3) := by decide +kernel
theorem dX9_counter_57 : decode cX9_counter 57 = .ok (.ireturn, 1) := by decide +kernel
theorem dX9_counterOf_0 : decode cX9_counterOf 0 = .ok (.aload_n 0, 1) := by decide +kernel
theorem dX9_counterOf_1 : decode cX9_counterOf 1 = .ok (.iload_n 1, 1) := by decide +kernel
theorem dX9_counterOf_2 : decode cX9_counterOf 2 = .ok (.invokevirtual 104, 3) := by decide +kernel
theorem dX9_counterOf_5 : decode cX9_counterOf 5 = .ok (.ifCond .ne 10, 3) := by decide +kernel
theorem dX9_counterOf_8 : decode cX9_counterOf 8 = .ok (.aload_n 0, 1) := by decide +kernel
theorem dX9_counterOf_9 : decode cX9_counterOf 9 = .ok (.bipush (-5), 2) := by decide +kernel
theorem dX9_counterOf_11 : decode cX9_counterOf 11 = .ok (.invokevirtual 100, 3) := by decide +kernel
theorem dX9_counterOf_14 : decode cX9_counterOf 14 = .ok (.ireturn, 1) := by decide +kernel
theorem dX9_counterOf_15 : decode cX9_counterOf 15 = .ok (.iload_n 2, 1) := by decide +kernel
theorem dX9_counterOf_16 : decode cX9_counterOf 16 = .ok (.tableswitch 71 0 4 #[36, 43, 50, 57, 64], 36) := by decide +kernel
theorem dX9_counterOf_52 : decode cX9_counterOf 52 = .ok (.aload_n 0, 1) := by decide +kernel
theorem dX9_counterOf_53 : decode cX9_counterOf 53 = .ok (.getfield 32, 3) := by decide +kernel
theorem dX9_counterOf_56 : decode cX9_counterOf 56 = .ok (.iload_n 1, 1) := by decide +kernel
theorem dX9_counterOf_57 : decode cX9_counterOf 57 = .ok (.iaload, 1) := by decide +kernel
theorem dX9_counterOf_58 : decode cX9_counterOf 58 = .ok (.ireturn, 1) := by decide +kernel
theorem dX9_counterOf_59 : decode cX9_counterOf 59 = .ok (.aload_n 0, 1) := by decide +kernel
theorem dX9_counterOf_60 : decode cX9_counterOf 60 = .ok (.getfield 35, 3) := by decide +kernel
theorem dX9_counterOf_63 : decode cX9_counterOf 63 = .ok (.iload_n 1, 1) := by decide +kernel
theorem dX9_counterOf_64 : decode cX9_counterOf 64 = .ok (.iaload, 1) := by decide +kernel
theorem dX9_counterOf_65 : decode cX9_counterOf 65 = .ok (.ireturn, 1) := by decide +kernel
theorem dX9_counterOf_66 : decode cX9_counterOf 66 = .ok (.aload_n 0, 1) := by decide +kernel
theorem dX9_counterOf_67 : decode cX9_counterOf 67 = .ok (.getfield 38, 3) := by decide +kernel
theorem dX9_counterOf_70 : decode cX9_counterOf 70 = .ok (.iload_n 1, 1) := by decide +kernel
theorem dX9_counterOf_71 : decode cX9_counterOf 71 = .ok (.iaload, 1) := by decide +kernel
theorem dX9_counterOf_72 : decode cX9_counterOf 72 = .ok (.ireturn, 1) := by decide +kernel
theorem dX9_counterOf_73 : decode cX9_counterOf 73 = .ok (.aload_n 0, 1) := by decide +kernel
theorem dX9_counterOf_74 : decode cX9_counterOf 74 = .ok (.getfield 41, 3) := by decide +kernel
theorem dX9_counterOf_77 : decode cX9_counterOf 77 = .ok (.iload_n 1, 1) := by decide +kernel
theorem dX9_counterOf_78 : decode cX9_counterOf 78 = .ok (.iaload, 1) := by decide +kernel
theorem dX9_counterOf_79 : decode cX9_counterOf 79 = .ok (.ireturn, 1) := by decide +kernel
theorem dX9_counterOf_80 : decode cX9_counterOf 80 = .ok (.aload_n 0, 1) := by decide +kernel
theorem dX9_counterOf_81 : decode cX9_counterOf 81 = .ok (.getfield 44, 3) := by decide +kernel
theorem dX9_counterOf_84 : decode cX9_counterOf 84 = .ok (.iload_n 1, 1) := by decide +kernel
theorem dX9_counterOf_85 : decode cX9_counterOf 85 = .ok (.iaload, 1) := by decide +kernel
theorem dX9_counterOf_86 : decode cX9_counterOf 86 = .ok (.ireturn, 1) := by decide +kernel
theorem dX9_counterOf_87 : decode cX9_counterOf 87 = .ok (.aload_n 0, 1) := by decide +kernel
theorem dX9_counterOf_88 : decode cX9_counterOf 88 = .ok (.bipush (-5), 2) := by decide +kernel
theorem dX9_counterOf_90 : decode cX9_counterOf 90 = .ok (.invokevirtual 100, 3) := by decide +kernel
theorem dX9_counterOf_93 : decode cX9_counterOf 93 = .ok (.ireturn, 1) := by decide +kernel
theorem dX9_ends_0 : decode cX9_ends 0 = .ok (.aload_n 0, 1) := by decide +kernel
theorem dX9_ends_1 : decode cX9_ends 1 = .ok (.iload_n 1, 1) := by decide +kernel
theorem dX9_ends_2 : decode cX9_ends 2 = .ok (.putfield 7, 3) := by decide +kernel
theorem dX9_ends_5 : decode cX9_ends 5 = .ok (.iconst 0, 1) := by decide +kernel
theorem dX9_ends_6 : decode cX9_ends 6 = .ok (.istore_n 2, 1) := by decide +kernel
theorem dX9_ends_7 : decode cX9_ends 7 = .ok (.iload_n 2, 1) := by decide +kernel
theorem dX9_ends_8 : decode cX9_ends 8 = .ok (.aload_n 0, 1) := by decide +kernel
theorem dX9_ends_9 : decode cX9_ends 9 = .ok (.getfield 93, 3) := by decide +kernel
theorem dX9_ends_12 : decode cX9_ends 12 = .ok (.if_icmp .ge 41, 3) := by decide +kernel
theorem dX9_ends_15 : decode cX9_ends 15 = .ok (.aload_n 0, 1) := by decide +kernel
theorem dX9_ends_16 : decode cX9_ends 16 = .ok (.getfield 38, 3) := by decide +kernel
theorem dX9_ends_19 : decode cX9_ends 19 = .ok (.iload_n 2, 1) := by decide +kernel
theorem dX9_ends_20 : decode cX9_ends 20 = .ok (.aload_n 0, 1) := by decide +kernel
theorem dX9_ends_21 : decode cX9_ends 21 = .ok (.getfield 38, 3) := by decide +kernel
theorem dX9_ends_24 : decode cX9_ends 24 = .ok (.iload_n 2, 1) := by decide +kernel
theorem dX9_ends_25 : decode cX9_ends 25 = .ok (.iaload, 1) := by decide +kernel
theorem dX9_ends_26 : decode cX9_ends 26 = .ok (.aload_n 0, 1) := by decide +kernel
theorem dX9_ends_27 : decode cX9_ends 27 = .ok (.getfield 7, 3) := by decide +kernel
theorem dX9_ends_30 : decode cX9_ends 30 = .ok (.if_icmp .le 10, 3) := by decide +kernel
theorem dX9_ends_33 : decode cX9_ends 33 = .ok (.aload_n 0, 1) := by decide +kernel
theorem dX9_ends_34 : decode cX9_ends 34 = .ok (.getfield 7, 3) := by decide +kernel
theorem dX9_ends_37 : decode cX9_ends 37 = .ok (.goto 9, 3) := by decide +kernel
theorem dX9_ends_40 : decode cX9_ends 40 = .ok (.aload_n 0, 1) := by decide +kernel
theorem dX9_ends_41 : decode cX9_ends 41 = .ok (.getfield 38, 3) := by decide +kernel
theorem dX9_ends_44 : decode cX9_ends 44 = .ok (.iload_n 2, 1) := by decide +kernel
theorem dX9_ends_45 : decode cX9_ends 45 = .ok (.iaload, 1) := by decide +kernel
theorem dX9_ends_46 : decode cX9_ends 46 = .ok (.iastore, 1) := by decide +kernel
theorem dX9_ends_47 : decode cX9_ends 47 = .ok (.iinc 2 1, 3) := by decide +kernel
theorem dX9_ends_50 : decode cX9_ends 50 = .ok (.goto (-43), 3) := by decide +kernel
theorem dX9_ends_53 : decode cX9_ends 53 = .ok (.return_, 1) := by decide +kernel
theorem dX9_isAsked_0 : decode cX9_isAsked 0 = .ok (.iload_n 1, 1) := by decide +kernel
theorem dX9_isAsked_1 : decode cX9_isAsked 1 = .ok (.iconst 2, 1) := by decide +kernel
theorem dX9_isAsked_2 : decode cX9_isAsked 2 = .ok (.if_icmp .ge 23, 3) := by decide +kernel
theorem dX9_isAsked_5 : decode cX9_isAsked 5 = .ok (.iload_n 2, 1) := by decide +kernel
theorem dX9_isAsked_6 : decode cX9_isAsked 6 = .ok (.iconst 1, 1) := by decide +kernel
theorem dX9_isAsked_7 : decode cX9_isAsked 7 = .ok (.if_icmp .lt 14, 3) := by decide +kernel
theorem dX9_isAsked_10 : decode cX9_isAsked 10 = .ok (.iload_n 2, 1) := by decide +kernel
theorem dX9_isAsked_11 : decode cX9_isAsked 11 = .ok (.sipush 200, 3) := by decide +kernel
theorem dX9_isAsked_14 : decode cX9_isAsked 14 = .ok (.if_icmp .gt 7, 3) := by decide +kernel
theorem dX9_isAsked_17 : decode cX9_isAsked 17 = .ok (.iconst 1, 1) := by decide +kernel
theorem dX9_isAsked_18 : decode cX9_isAsked 18 = .ok (.goto 33, 3) := by decide +kernel
theorem dX9_isAsked_21 : decode cX9_isAsked 21 = .ok (.iconst 0, 1) := by decide +kernel
theorem dX9_isAsked_22 : decode cX9_isAsked 22 = .ok (.goto 29, 3) := by decide +kernel
theorem dX9_isAsked_25 : decode cX9_isAsked 25 = .ok (.iload_n 2, 1) := by decide +kernel
theorem dX9_isAsked_26 : decode cX9_isAsked 26 = .ok (.ifCond .lt 24, 3) := by decide +kernel
theorem dX9_isAsked_29 : decode cX9_isAsked 29 = .ok (.iload_n 2, 1) := by decide +kernel
theorem dX9_isAsked_30 : decode cX9_isAsked 30 = .ok (.iload_n 1, 1) := by decide +kernel
theorem dX9_isAsked_31 : decode cX9_isAsked 31 = .ok (.iconst 2, 1) := by decide +kernel
theorem dX9_isAsked_32 : decode cX9_isAsked 32 = .ok (.if_icmp .ne 9, 3) := by decide +kernel
theorem dX9_isAsked_35 : decode cX9_isAsked 35 = .ok (.sipush 1000, 3) := by decide +kernel
theorem dX9_isAsked_38 : decode cX9_isAsked 38 = .ok (.goto 5, 3) := by decide +kernel
theorem dX9_isAsked_41 : decode cX9_isAsked 41 = .ok (.bipush 99, 2) := by decide +kernel
theorem dX9_isAsked_43 : decode cX9_isAsked 43 = .ok (.if_icmp .gt 7, 3) := by decide +kernel
theorem dX9_isAsked_46 : decode cX9_isAsked 46 = .ok (.iconst 1, 1) := by decide +kernel
theorem dX9_isAsked_47 : decode cX9_isAsked 47 = .ok (.goto 4, 3) := by decide +kernel
theorem dX9_isAsked_50 : decode cX9_isAsked 50 = .ok (.iconst 0, 1) := by decide +kernel
theorem dX9_isAsked_51 : decode cX9_isAsked 51 = .ok (.ireturn, 1) := by decide +kernel
theorem dX9_ask_0 : decode cX9_ask 0 = .ok (.iload_n 1, 1) := by decide +kernel
theorem dX9_ask_1 : decode cX9_ask 1 = .ok (.ifCond .lt 17, 3) := by decide +kernel
theorem dX9_ask_4 : decode cX9_ask 4 = .ok (.iload_n 1, 1) := by decide +kernel
theorem dX9_ask_5 : decode cX9_ask 5 = .ok (.iconst 3, 1) := by decide +kernel
theorem dX9_ask_6 : decode cX9_ask 6 = .ok (.if_icmp .gt 12, 3) := by decide +kernel
theorem dX9_ask_9 : decode cX9_ask 9 = .ok (.aload_n 0, 1) := by decide +kernel
theorem dX9_ask_10 : decode cX9_ask 10 = .ok (.iload_n 1, 1) := by decide +kernel
theorem dX9_ask_11 : decode cX9_ask 11 = .ok (.iload_n 2, 1) := by decide +kernel
theorem dX9_ask_12 : decode cX9_ask 12 = .ok (.invokevirtual 117, 3) := by decide +kernel
theorem dX9_ask_15 : decode cX9_ask 15 = .ok (.ifCond .ne 10, 3) := by decide +kernel
theorem dX9_ask_18 : decode cX9_ask 18 = .ok (.aload_n 0, 1) := by decide +kernel
theorem dX9_ask_19 : decode cX9_ask 19 = .ok (.bipush (-6), 2) := by decide +kernel
theorem dX9_ask_21 : decode cX9_ask 21 = .ok (.invokevirtual 100, 3) := by decide +kernel
theorem dX9_ask_24 : decode cX9_ask 24 = .ok (.ireturn, 1) := by decide +kernel
theorem dX9_ask_25 : decode cX9_ask 25 = .ok (.iload_n 1, 1) := by decide +kernel
theorem dX9_ask_26 : decode cX9_ask 26 = .ok (.ifCond .ne 10, 3) := by decide +kernel
theorem dX9_ask_29 : decode cX9_ask 29 = .ok (.aload_n 0, 1) := by decide +kernel
theorem dX9_ask_30 : decode cX9_ask 30 = .ok (.getfield 7, 3) := by decide +kernel
theorem dX9_ask_33 : decode cX9_ask 33 = .ok (.goto 31, 3) := by decide +kernel
theorem dX9_ask_36 : decode cX9_ask 36 = .ok (.iload_n 1, 1) := by decide +kernel
theorem dX9_ask_37 : decode cX9_ask 37 = .ok (.iconst 1, 1) := by decide +kernel
theorem dX9_ask_38 : decode cX9_ask 38 = .ok (.if_icmp .ne 10, 3) := by decide +kernel
theorem dX9_ask_41 : decode cX9_ask 41 = .ok (.aload_n 0, 1) := by decide +kernel
theorem dX9_ask_42 : decode cX9_ask 42 = .ok (.getfield 13, 3) := by decide +kernel
theorem dX9_ask_45 : decode cX9_ask 45 = .ok (.goto 19, 3) := by decide +kernel
theorem dX9_ask_48 : decode cX9_ask 48 = .ok (.iload_n 1, 1) := by decide +kernel
theorem dX9_ask_49 : decode cX9_ask 49 = .ok (.iconst 2, 1) := by decide +kernel
theorem dX9_ask_50 : decode cX9_ask 50 = .ok (.if_icmp .ne 10, 3) := by decide +kernel
theorem dX9_ask_53 : decode cX9_ask 53 = .ok (.aload_n 0, 1) := by decide +kernel
theorem dX9_ask_54 : decode cX9_ask 54 = .ok (.getfield 16, 3) := by decide +kernel
theorem dX9_ask_57 : decode cX9_ask 57 = .ok (.goto 7, 3) := by decide +kernel
theorem dX9_ask_60 : decode cX9_ask 60 = .ok (.aload_n 0, 1) := by decide +kernel
theorem dX9_ask_61 : decode cX9_ask 61 = .ok (.getfield 19, 3) := by decide +kernel
theorem dX9_ask_64 : decode cX9_ask 64 = .ok (.istore_n 3, 1) := by decide +kernel
theorem dX9_ask_65 : decode cX9_ask 65 = .ok (.iload_n 1, 1) := by decide +kernel
theorem dX9_ask_66 : decode cX9_ask 66 = .ok (.tableswitch 50 0 2 #[26, 34, 42], 26) := by decide +kernel
theorem dX9_ask_92 : decode cX9_ask 92 = .ok (.aload_n 0, 1) := by decide +kernel
theorem dX9_ask_93 : decode cX9_ask 93 = .ok (.iload_n 2, 1) := by decide +kernel
theorem dX9_ask_94 : decode cX9_ask 94 = .ok (.invokevirtual 121, 3) := by decide +kernel
theorem dX9_ask_97 : decode cX9_ask 97 = .ok (.goto 24, 3) := by decide +kernel
theorem dX9_ask_100 : decode cX9_ask 100 = .ok (.aload_n 0, 1) := by decide +kernel
theorem dX9_ask_101 : decode cX9_ask 101 = .ok (.iload_n 2, 1) := by decide +kernel
theorem dX9_ask_102 : decode cX9_ask 102 = .ok (.putfield 13, 3) := by decide +kernel
theorem dX9_ask_105 : decode cX9_ask 105 = .ok (.goto 16, 3) := by decide +kernel
theorem dX9_ask_108 : decode cX9_ask 108 = .ok (.aload_n 0, 1) := by decide +kernel
theorem dX9_ask_109 : decode cX9_ask 109 = .ok (.iload_n 2, 1) := by decide +kernel
theorem dX9_ask_110 : decode cX9_ask 110 = .ok (.putfield 16, 3) := by decide +kernel
theorem dX9_ask_113 : decode cX9_ask 113 = .ok (.goto 8, 3) := by decide +kernel
theorem dX9_ask_116 : decode cX9_ask 116 = .ok (.aload_n 0, 1) := by decide +kernel
theorem dX9_ask_117 : decode cX9_ask 117 = .ok (.iload_n 2, 1) := by decide +kernel
theorem dX9_ask_118 : decode cX9_ask 118 = .ok (.putfield 19, 3) := by decide +kernel
theorem dX9_ask_121 : decode cX9_ask 121 = .ok (.iload_n 3, 1) := by decide +kernel
theorem dX9_ask_122 : decode cX9_ask 122 = .ok (.ireturn, 1) := by decide +kernel
theorem dX9_put_0 : decode cX9_put 0 = .ok (.aload_n 0, 1) := by decide +kernel
theorem dX9_put_1 : decode cX9_put 1 = .ok (.iload_n 1, 1) := by decide +kernel
theorem dX9_put_2 : decode cX9_put 2 = .ok (.invokevirtual 104, 3) := by decide +kernel
theorem dX9_put_5 : decode cX9_put 5 = .ok (.ifCond .ne 9, 3) := by decide +kernel
theorem dX9_put_8 : decode cX9_put 8 = .ok (.aload_n 0, 1) := by decide +kernel
theorem dX9_put_9 : decode cX9_put 9 = .ok (.iconst (-1), 1) := by decide +kernel
theorem dX9_put_10 : decode cX9_put 10 = .ok (.invokevirtual 100, 3) := by decide +kernel
theorem dX9_put_13 : decode cX9_put 13 = .ok (.ireturn, 1) := by decide +kernel
theorem dX9_put_14 : decode cX9_put 14 = .ok (.iload_n 2, 1) := by decide +kernel
theorem dX9_put_15 : decode cX9_put 15 = .ok (.ifCond .lt 11, 3) := by decide +kernel
theorem dX9_put_18 : decode cX9_put 18 = .ok (.iload_n 2, 1) := by decide +kernel
theorem dX9_put_19 : decode cX9_put 19 = .ok (.aload_n 0, 1) := by decide +kernel
theorem dX9_put_20 : decode cX9_put 20 = .ok (.getfield 7, 3) := by decide +kernel
theorem dX9_put_23 : decode cX9_put 23 = .ok (.if_icmp .le 10, 3) := by decide +kernel
theorem dX9_put_26 : decode cX9_put 26 = .ok (.aload_n 0, 1) := by decide +kernel
theorem dX9_put_27 : decode cX9_put 27 = .ok (.bipush (-6), 2) := by decide +kernel
theorem dX9_put_29 : decode cX9_put 29 = .ok (.invokevirtual 100, 3) := by decide +kernel
theorem dX9_put_32 : decode cX9_put 32 = .ok (.ireturn, 1) := by decide +kernel
theorem dX9_put_33 : decode cX9_put 33 = .ok (.aload_n 0, 1) := by decide +kernel
theorem dX9_put_34 : decode cX9_put 34 = .ok (.getfield 38, 3) := by decide +kernel
theorem dX9_put_37 : decode cX9_put 37 = .ok (.iload_n 1, 1) := by decide +kernel
theorem dX9_put_38 : decode cX9_put 38 = .ok (.iaload, 1) := by decide +kernel
theorem dX9_put_39 : decode cX9_put 39 = .ok (.istore_n 3, 1) := by decide +kernel
theorem dX9_put_40 : decode cX9_put 40 = .ok (.aload_n 0, 1) := by decide +kernel
theorem dX9_put_41 : decode cX9_put 41 = .ok (.getfield 38, 3) := by decide +kernel
theorem dX9_put_44 : decode cX9_put 44 = .ok (.iload_n 1, 1) := by decide +kernel
theorem dX9_put_45 : decode cX9_put 45 = .ok (.iload_n 2, 1) := by decide +kernel
theorem dX9_put_46 : decode cX9_put 46 = .ok (.iastore, 1) := by decide +kernel
theorem dX9_put_47 : decode cX9_put 47 = .ok (.iload_n 3, 1) := by decide +kernel
theorem dX9_put_48 : decode cX9_put 48 = .ok (.ireturn, 1) := by decide +kernel
theorem dX9_wrong_0 : decode cX9_wrong 0 = .ok (.aload_n 0, 1) := by decide +kernel
theorem dX9_wrong_1 : decode cX9_wrong 1 = .ok (.iload_n 1, 1) := by decide +kernel
theorem dX9_wrong_2 : decode cX9_wrong 2 = .ok (.putfield 125, 3) := by decide +kernel
theorem dX9_wrong_5 : decode cX9_wrong 5 = .ok (.iconst 0, 1) := by decide +kernel
theorem dX9_wrong_6 : decode cX9_wrong 6 = .ok (.ireturn, 1) := by decide +kernel
theorem dX9_isWordAt_0 : decode cX9_isWordAt 0 = .ok (.iconst 0, 1) := by decide +kernel
theorem dX9_isWordAt_1 : decode cX9_isWordAt 1 = .ok (.istore_n 2, 1) := by decide +kernel
theorem dX9_isWordAt_2 : decode cX9_isWordAt 2 = .ok (.iconst 0, 1) := by decide +kernel
theorem dX9_isWordAt_3 : decode cX9_isWordAt 3 = .ok (.istore_n 3, 1) := by decide +kernel
theorem dX9_isWordAt_4 : decode cX9_isWordAt 4 = .ok (.iload_n 3, 1) := by decide +kernel
theorem dX9_isWordAt_5 : decode cX9_isWordAt 5 = .ok (.iload_n 1, 1) := by decide +kernel
theorem dX9_isWordAt_6 : decode cX9_isWordAt 6 = .ok (.if_icmp .ge 26, 3) := by decide +kernel
theorem dX9_isWordAt_9 : decode cX9_isWordAt 9 = .ok (.iload_n 3, 1) := by decide +kernel
theorem dX9_isWordAt_10 : decode cX9_isWordAt 10 = .ok (.aload_n 0, 1) := by decide +kernel
theorem dX9_isWordAt_11 : decode cX9_isWordAt 11 = .ok (.getfield 69, 3) := by decide +kernel
theorem dX9_isWordAt_14 : decode cX9_isWordAt 14 = .ok (.iload_n 2, 1) := by decide +kernel
theorem dX9_isWordAt_15 : decode cX9_isWordAt 15 = .ok (.iaload, 1) := by decide +kernel
theorem dX9_isWordAt_16 : decode cX9_isWordAt 16 = .ok (.ifCond .ne 7, 3) := by decide +kernel
theorem dX9_isWordAt_19 : decode cX9_isWordAt 19 = .ok (.iconst 1, 1) := by decide +kernel
theorem dX9_isWordAt_20 : decode cX9_isWordAt 20 = .ok (.goto 4, 3) := by decide +kernel
theorem dX9_isWordAt_23 : decode cX9_isWordAt 23 = .ok (.iconst 0, 1) := by decide +kernel
theorem dX9_isWordAt_24 : decode cX9_isWordAt 24 = .ok (.iadd, 1) := by decide +kernel
theorem dX9_isWordAt_25 : decode cX9_isWordAt 25 = .ok (.istore_n 3, 1) := by decide +kernel
theorem dX9_isWordAt_26 : decode cX9_isWordAt 26 = .ok (.iinc 2 1, 3) := by decide +kernel
theorem dX9_isWordAt_29 : decode cX9_isWordAt 29 = .ok (.goto (-25), 3) := by decide +kernel
theorem dX9_isWordAt_32 : decode cX9_isWordAt 32 = .ok (.aload_n 0, 1) := by decide +kernel
theorem dX9_isWordAt_33 : decode cX9_isWordAt 33 = .ok (.getfield 128, 3) := by decide +kernel
theorem dX9_isWordAt_36 : decode cX9_isWordAt 36 = .ok (.istore_n 3, 1) := by decide +kernel
theorem dX9_isWordAt_37 : decode cX9_isWordAt 37 = .ok (.aload_n 0, 1) := by decide +kernel
theorem dX9_isWordAt_38 : decode cX9_isWordAt 38 = .ok (.getfield 69, 3) := by decide +kernel
theorem dX9_isWordAt_41 : decode cX9_isWordAt 41 = .ok (.iload_n 2, 1) := by decide +kernel
theorem dX9_isWordAt_42 : decode cX9_isWordAt 42 = .ok (.iaload, 1) := by decide +kernel
theorem dX9_isWordAt_43 : decode cX9_isWordAt 43 = .ok (.bipush 32, 2) := by decide +kernel
theorem dX9_isWordAt_45 : decode cX9_isWordAt 45 = .ok (.if_icmp .le 41, 3) := by decide +kernel
theorem dX9_isWordAt_48 : decode cX9_isWordAt 48 = .ok (.iload_n 3, 1) := by decide +kernel
theorem dX9_isWordAt_49 : decode cX9_isWordAt 49 = .ok (.aload_n 0, 1) := by decide +kernel
theorem dX9_isWordAt_50 : decode cX9_isWordAt 50 = .ok (.getfield 131, 3) := by decide +kernel
theorem dX9_isWordAt_53 : decode cX9_isWordAt 53 = .ok (.if_icmp .ge 33, 3) := by decide +kernel
theorem dX9_isWordAt_56 : decode cX9_isWordAt 56 = .ok (.aload_n 0, 1) := by decide +kernel
theorem dX9_isWordAt_57 : decode cX9_isWordAt 57 = .ok (.getfield 62, 3) := by decide +kernel
theorem dX9_isWordAt_60 : decode cX9_isWordAt 60 = .ok (.aload_n 0, 1) := by decide +kernel
theorem dX9_isWordAt_61 : decode cX9_isWordAt 61 = .ok (.getfield 134, 3) := by decide +kernel
theorem dX9_isWordAt_64 : decode cX9_isWordAt 64 = .ok (.iload_n 3, 1) := by decide +kernel
theorem dX9_isWordAt_65 : decode cX9_isWordAt 65 = .ok (.iadd, 1) := by decide +kernel
theorem dX9_isWordAt_66 : decode cX9_isWordAt 66 = .ok (.laload, 1) := by decide +kernel
theorem dX9_isWordAt_67 : decode cX9_isWordAt 67 = .ok (.l2i, 1) := by decide +kernel
theorem dX9_isWordAt_68 : decode cX9_isWordAt 68 = .ok (.aload_n 0, 1) := by decide +kernel
theorem dX9_isWordAt_69 : decode cX9_isWordAt 69 = .ok (.getfield 69, 3) := by decide +kernel
theorem dX9_isWordAt_72 : decode cX9_isWordAt 72 = .ok (.iload_n 2, 1) := by decide +kernel
theorem dX9_isWordAt_73 : decode cX9_isWordAt 73 = .ok (.iaload, 1) := by decide +kernel
theorem dX9_isWordAt_74 : decode cX9_isWordAt 74 = .ok (.if_icmp .ne 12, 3) := by decide +kernel
theorem dX9_isWordAt_77 : decode cX9_isWordAt 77 = .ok (.iinc 3 1, 3) := by decide +kernel
theorem dX9_isWordAt_80 : decode cX9_isWordAt 80 = .ok (.iinc 2 1, 3) := by decide +kernel
theorem dX9_isWordAt_83 : decode cX9_isWordAt 83 = .ok (.goto (-46), 3) := by decide +kernel
theorem dX9_isWordAt_86 : decode cX9_isWordAt 86 = .ok (.aload_n 0, 1) := by decide +kernel
theorem dX9_isWordAt_87 : decode cX9_isWordAt 87 = .ok (.getfield 69, 3) := by decide +kernel
theorem dX9_isWordAt_90 : decode cX9_isWordAt 90 = .ok (.iload_n 2, 1) := by decide +kernel
theorem dX9_isWordAt_91 : decode cX9_isWordAt 91 = .ok (.iaload, 1) := by decide +kernel
theorem dX9_isWordAt_92 : decode cX9_isWordAt 92 = .ok (.bipush 32, 2) := by decide +kernel
theorem dX9_isWordAt_94 : decode cX9_isWordAt 94 = .ok (.if_icmp .gt 7, 3) := by decide +kernel
theorem dX9_isWordAt_97 : decode cX9_isWordAt 97 = .ok (.iconst 1, 1) := by decide +kernel
theorem dX9_isWordAt_98 : decode cX9_isWordAt 98 = .ok (.goto 4, 3) := by decide +kernel
theorem dX9_isWordAt_101 : decode cX9_isWordAt 101 = .ok (.iconst 0, 1) := by decide +kernel
theorem dX9_isWordAt_102 : decode cX9_isWordAt 102 = .ok (.ireturn, 1) := by decide +kernel
theorem dX9_word_0 : decode cX9_word 0 = .ok (.iconst 0, 1) := by decide +kernel
theorem dX9_word_1 : decode cX9_word 1 = .ok (.istore_n 1, 1) := by decide +kernel
theorem dX9_word_2 : decode cX9_word 2 = .ok (.aload_n 0, 1) := by decide +kernel
theorem dX9_word_3 : decode cX9_word 3 = .ok (.getfield 128, 3) := by decide +kernel
theorem dX9_word_6 : decode cX9_word 6 = .ok (.istore_n 2, 1) := by decide +kernel
theorem dX9_word_7 : decode cX9_word 7 = .ok (.iconst 0, 1) := by decide +kernel
theorem dX9_word_8 : decode cX9_word 8 = .ok (.istore_n 3, 1) := by decide +kernel
theorem dX9_word_9 : decode cX9_word 9 = .ok (.iload_n 3, 1) := by decide +kernel
theorem dX9_word_10 : decode cX9_word 10 = .ok (.bipush 7, 2) := by decide +kernel
theorem dX9_word_12 : decode cX9_word 12 = .ok (.if_icmp .ge 118, 3) := by decide +kernel
theorem dX9_word_15 : decode cX9_word 15 = .ok (.aload_n 0, 1) := by decide +kernel
theorem dX9_word_16 : decode cX9_word 16 = .ok (.getfield 128, 3) := by decide +kernel
theorem dX9_word_19 : decode cX9_word 19 = .ok (.istore 4, 2) := by decide +kernel
theorem dX9_word_21 : decode cX9_word 21 = .ok (.iload_n 1, 1) := by decide +kernel
theorem dX9_word_22 : decode cX9_word 22 = .ok (.istore 5, 2) := by decide +kernel
theorem dX9_word_24 : decode cX9_word 24 = .ok (.aload_n 0, 1) := by decide +kernel
theorem dX9_word_25 : decode cX9_word 25 = .ok (.getfield 69, 3) := by decide +kernel
theorem dX9_word_28 : decode cX9_word 28 = .ok (.iload 5, 2) := by decide +kernel
theorem dX9_word_30 : decode cX9_word 30 = .ok (.iaload, 1) := by decide +kernel
theorem dX9_word_31 : decode cX9_word 31 = .ok (.ifCond .eq 44, 3) := by decide +kernel
theorem dX9_word_34 : decode cX9_word 34 = .ok (.iload 4, 2) := by decide +kernel
theorem dX9_word_36 : decode cX9_word 36 = .ok (.aload_n 0, 1) := by decide +kernel
theorem dX9_word_37 : decode cX9_word 37 = .ok (.getfield 131, 3) := by decide +kernel
theorem dX9_word_40 : decode cX9_word 40 = .ok (.if_icmp .ge 35, 3) := by decide +kernel
theorem dX9_word_43 : decode cX9_word 43 = .ok (.aload_n 0, 1) := by decide +kernel
theorem dX9_word_44 : decode cX9_word 44 = .ok (.getfield 62, 3) := by decide +kernel
theorem dX9_word_47 : decode cX9_word 47 = .ok (.aload_n 0, 1) := by decide +kernel
theorem dX9_word_48 : decode cX9_word 48 = .ok (.getfield 134, 3) := by decide +kernel
theorem dX9_word_51 : decode cX9_word 51 = .ok (.iload 4, 2) := by decide +kernel
theorem dX9_word_53 : decode cX9_word 53 = .ok (.iadd, 1) := by decide +kernel
theorem dX9_word_54 : decode cX9_word 54 = .ok (.laload, 1) := by decide +kernel
theorem dX9_word_55 : decode cX9_word 55 = .ok (.l2i, 1) := by decide +kernel
theorem dX9_word_56 : decode cX9_word 56 = .ok (.aload_n 0, 1) := by decide +kernel
theorem dX9_word_57 : decode cX9_word 57 = .ok (.getfield 69, 3) := by decide +kernel
theorem dX9_word_60 : decode cX9_word 60 = .ok (.iload 5, 2) := by decide +kernel
theorem dX9_word_62 : decode cX9_word 62 = .ok (.iaload, 1) := by decide +kernel
theorem dX9_word_63 : decode cX9_word 63 = .ok (.if_icmp .ne 12, 3) := by decide +kernel
theorem dX9_word_66 : decode cX9_word 66 = .ok (.iinc 4 1, 3) := by decide +kernel
theorem dX9_word_69 : decode cX9_word 69 = .ok (.iinc 5 1, 3) := by decide +kernel
theorem dX9_word_72 : decode cX9_word 72 = .ok (.goto (-48), 3) := by decide +kernel
theorem dX9_word_75 : decode cX9_word 75 = .ok (.aload_n 0, 1) := by decide +kernel
theorem dX9_word_76 : decode cX9_word 76 = .ok (.getfield 69, 3) := by decide +kernel
theorem dX9_word_79 : decode cX9_word 79 = .ok (.iload 5, 2) := by decide +kernel
theorem dX9_word_81 : decode cX9_word 81 = .ok (.iaload, 1) := by decide +kernel
theorem dX9_word_82 : decode cX9_word 82 = .ok (.ifCond .ne 11, 3) := by decide +kernel
theorem dX9_word_85 : decode cX9_word 85 = .ok (.aload_n 0, 1) := by decide +kernel
theorem dX9_word_86 : decode cX9_word 86 = .ok (.iload 4, 2) := by decide +kernel
theorem dX9_word_88 : decode cX9_word 88 = .ok (.putfield 128, 3) := by decide +kernel
theorem dX9_word_91 : decode cX9_word 91 = .ok (.iload_n 3, 1) := by decide +kernel
theorem dX9_word_92 : decode cX9_word 92 = .ok (.ireturn, 1) := by decide +kernel
theorem dX9_word_93 : decode cX9_word 93 = .ok (.iload 4, 2) := by decide +kernel
theorem dX9_word_95 : decode cX9_word 95 = .ok (.iload_n 2, 1) := by decide +kernel
theorem dX9_word_96 : decode cX9_word 96 = .ok (.if_icmp .le 8, 3) := by decide +kernel
theorem dX9_word_99 : decode cX9_word 99 = .ok (.iload 4, 2) := by decide +kernel
theorem dX9_word_101 : decode cX9_word 101 = .ok (.goto 4, 3) := by decide +kernel
theorem dX9_word_104 : decode cX9_word 104 = .ok (.iload_n 2, 1) := by decide +kernel
theorem dX9_word_105 : decode cX9_word 105 = .ok (.istore_n 2, 1) := by decide +kernel
theorem dX9_word_106 : decode cX9_word 106 = .ok (.aload_n 0, 1) := by decide +kernel
theorem dX9_word_107 : decode cX9_word 107 = .ok (.getfield 69, 3) := by decide +kernel
theorem dX9_word_110 : decode cX9_word 110 = .ok (.iload_n 1, 1) := by decide +kernel
theorem dX9_word_111 : decode cX9_word 111 = .ok (.iaload, 1) := by decide +kernel
theorem dX9_word_112 : decode cX9_word 112 = .ok (.ifCond .eq 9, 3) := by decide +kernel
theorem dX9_word_115 : decode cX9_word 115 = .ok (.iinc 1 1, 3) := by decide +kernel
theorem dX9_word_118 : decode cX9_word 118 = .ok (.goto (-12), 3) := by decide +kernel
theorem dX9_word_121 : decode cX9_word 121 = .ok (.iinc 1 1, 3) := by decide +kernel
theorem dX9_word_124 : decode cX9_word 124 = .ok (.iinc 3 1, 3) := by decide +kernel
theorem dX9_word_127 : decode cX9_word 127 = .ok (.goto (-118), 3) := by decide +kernel
theorem dX9_word_130 : decode cX9_word 130 = .ok (.aload_n 0, 1) := by decide +kernel
theorem dX9_word_131 : decode cX9_word 131 = .ok (.iload_n 2, 1) := by decide +kernel
theorem dX9_word_132 : decode cX9_word 132 = .ok (.putfield 125, 3) := by decide +kernel
theorem dX9_word_135 : decode cX9_word 135 = .ok (.iconst (-1), 1) := by decide +kernel
theorem dX9_word_136 : decode cX9_word 136 = .ok (.ireturn, 1) := by decide +kernel
theorem dX9_isDigit_0 : decode cX9_isDigit 0 = .ok (.aload_n 0, 1) := by decide +kernel
theorem dX9_isDigit_1 : decode cX9_isDigit 1 = .ok (.getfield 128, 3) := by decide +kernel
theorem dX9_isDigit_4 : decode cX9_isDigit 4 = .ok (.aload_n 0, 1) := by decide +kernel
theorem dX9_isDigit_5 : decode cX9_isDigit 5 = .ok (.getfield 131, 3) := by decide +kernel
theorem dX9_isDigit_8 : decode cX9_isDigit 8 = .ok (.if_icmp .ge 47, 3) := by decide +kernel
theorem dX9_isDigit_11 : decode cX9_isDigit 11 = .ok (.aload_n 0, 1) := by decide +kernel
theorem dX9_isDigit_12 : decode cX9_isDigit 12 = .ok (.getfield 62, 3) := by decide +kernel
theorem dX9_isDigit_15 : decode cX9_isDigit 15 = .ok (.aload_n 0, 1) := by decide +kernel
theorem dX9_isDigit_16 : decode cX9_isDigit 16 = .ok (.getfield 134, 3) := by decide +kernel
theorem dX9_isDigit_19 : decode cX9_isDigit 19 = .ok (.aload_n 0, 1) := by decide +kernel
theorem dX9_isDigit_20 : decode cX9_isDigit 20 = .ok (.getfield 128, 3) := by decide +kernel
theorem dX9_isDigit_23 : decode cX9_isDigit 23 = .ok (.iadd, 1) := by decide +kernel
theorem dX9_isDigit_24 : decode cX9_isDigit 24 = .ok (.laload, 1) := by decide +kernel
theorem dX9_isDigit_25 : decode cX9_isDigit 25 = .ok (.l2i, 1) := by decide +kernel
theorem dX9_isDigit_26 : decode cX9_isDigit 26 = .ok (.bipush 48, 2) := by decide +kernel
theorem dX9_isDigit_28 : decode cX9_isDigit 28 = .ok (.if_icmp .lt 27, 3) := by decide +kernel
theorem dX9_isDigit_31 : decode cX9_isDigit 31 = .ok (.aload_n 0, 1) := by decide +kernel
theorem dX9_isDigit_32 : decode cX9_isDigit 32 = .ok (.getfield 62, 3) := by decide +kernel
theorem dX9_isDigit_35 : decode cX9_isDigit 35 = .ok (.aload_n 0, 1) := by decide +kernel
theorem dX9_isDigit_36 : decode cX9_isDigit 36 = .ok (.getfield 134, 3) := by decide +kernel
theorem dX9_isDigit_39 : decode cX9_isDigit 39 = .ok (.aload_n 0, 1) := by decide +kernel
theorem dX9_isDigit_40 : decode cX9_isDigit 40 = .ok (.getfield 128, 3) := by decide +kernel
theorem dX9_isDigit_43 : decode cX9_isDigit 43 = .ok (.iadd, 1) := by decide +kernel
theorem dX9_isDigit_44 : decode cX9_isDigit 44 = .ok (.laload, 1) := by decide +kernel
theorem dX9_isDigit_45 : decode cX9_isDigit 45 = .ok (.l2i, 1) := by decide +kernel
theorem dX9_isDigit_46 : decode cX9_isDigit 46 = .ok (.bipush 57, 2) := by decide +kernel
theorem dX9_isDigit_48 : decode cX9_isDigit 48 = .ok (.if_icmp .gt 7, 3) := by decide +kernel
theorem dX9_isDigit_51 : decode cX9_isDigit 51 = .ok (.iconst 1, 1) := by decide +kernel
theorem dX9_isDigit_52 : decode cX9_isDigit 52 = .ok (.goto 4, 3) := by decide +kernel
theorem dX9_isDigit_55 : decode cX9_isDigit 55 = .ok (.iconst 0, 1) := by decide +kernel
theorem dX9_isDigit_56 : decode cX9_isDigit 56 = .ok (.ireturn, 1) := by decide +kernel
theorem dX9_number_0 : decode cX9_number 0 = .ok (.aload_n 0, 1) := by decide +kernel
theorem dX9_number_1 : decode cX9_number 1 = .ok (.iconst 0, 1) := by decide +kernel
theorem dX9_number_2 : decode cX9_number 2 = .ok (.putfield 137, 3) := by decide +kernel
theorem dX9_number_5 : decode cX9_number 5 = .ok (.aload_n 0, 1) := by decide +kernel
theorem dX9_number_6 : decode cX9_number 6 = .ok (.invokevirtual 140, 3) := by decide +kernel
theorem dX9_number_9 : decode cX9_number 9 = .ok (.ifCond .ne 12, 3) := by decide +kernel
theorem dX9_number_12 : decode cX9_number 12 = .ok (.aload_n 0, 1) := by decide +kernel
theorem dX9_number_13 : decode cX9_number 13 = .ok (.aload_n 0, 1) := by decide +kernel
theorem dX9_number_14 : decode cX9_number 14 = .ok (.getfield 128, 3) := by decide +kernel
theorem dX9_number_17 : decode cX9_number 17 = .ok (.invokevirtual 144, 3) := by decide +kernel
theorem dX9_number_20 : decode cX9_number 20 = .ok (.ireturn, 1) := by decide +kernel
theorem dX9_number_21 : decode cX9_number 21 = .ok (.iconst 0, 1) := by decide +kernel
theorem dX9_number_22 : decode cX9_number 22 = .ok (.istore_n 1, 1) := by decide +kernel
theorem dX9_number_23 : decode cX9_number 23 = .ok (.iload_n 1, 1) := by decide +kernel
theorem dX9_number_24 : decode cX9_number 24 = .ok (.iconst 4, 1) := by decide +kernel
theorem dX9_number_25 : decode cX9_number 25 = .ok (.if_icmp .ge 56, 3) := by decide +kernel
theorem dX9_number_28 : decode cX9_number 28 = .ok (.aload_n 0, 1) := by decide +kernel
theorem dX9_number_29 : decode cX9_number 29 = .ok (.invokevirtual 140, 3) := by decide +kernel
theorem dX9_number_32 : decode cX9_number 32 = .ok (.ifCond .eq 49, 3) := by decide +kernel
theorem dX9_number_35 : decode cX9_number 35 = .ok (.aload_n 0, 1) := by decide +kernel
theorem dX9_number_36 : decode cX9_number 36 = .ok (.bipush 10, 2) := by decide +kernel
theorem dX9_number_38 : decode cX9_number 38 = .ok (.aload_n 0, 1) := by decide +kernel
theorem dX9_number_39 : decode cX9_number 39 = .ok (.getfield 137, 3) := by decide +kernel
theorem dX9_number_42 : decode cX9_number 42 = .ok (.imul, 1) := by decide +kernel
theorem dX9_number_43 : decode cX9_number 43 = .ok (.aload_n 0, 1) := by decide +kernel
theorem dX9_number_44 : decode cX9_number 44 = .ok (.getfield 62, 3) := by decide +kernel
theorem dX9_number_47 : decode cX9_number 47 = .ok (.aload_n 0, 1) := by decide +kernel
theorem dX9_number_48 : decode cX9_number 48 = .ok (.getfield 134, 3) := by decide +kernel
theorem dX9_number_51 : decode cX9_number 51 = .ok (.aload_n 0, 1) := by decide +kernel
theorem dX9_number_52 : decode cX9_number 52 = .ok (.getfield 128, 3) := by decide +kernel
theorem dX9_number_55 : decode cX9_number 55 = .ok (.iadd, 1) := by decide +kernel
theorem dX9_number_56 : decode cX9_number 56 = .ok (.laload, 1) := by decide +kernel
theorem dX9_number_57 : decode cX9_number 57 = .ok (.l2i, 1) := by decide +kernel
theorem dX9_number_58 : decode cX9_number 58 = .ok (.iadd, 1) := by decide +kernel
theorem dX9_number_59 : decode cX9_number 59 = .ok (.bipush 48, 2) := by decide +kernel
theorem dX9_number_61 : decode cX9_number 61 = .ok (.isub, 1) := by decide +kernel
theorem dX9_number_62 : decode cX9_number 62 = .ok (.putfield 137, 3) := by decide +kernel
theorem dX9_number_65 : decode cX9_number 65 = .ok (.aload_n 0, 1) := by decide +kernel
theorem dX9_number_66 : decode cX9_number 66 = .ok (.dup, 1) := by decide +kernel
theorem dX9_number_67 : decode cX9_number 67 = .ok (.getfield 128, 3) := by decide +kernel
theorem dX9_number_70 : decode cX9_number 70 = .ok (.iconst 1, 1) := by decide +kernel
theorem dX9_number_71 : decode cX9_number 71 = .ok (.iadd, 1) := by decide +kernel
theorem dX9_number_72 : decode cX9_number 72 = .ok (.putfield 128, 3) := by decide +kernel
theorem dX9_number_75 : decode cX9_number 75 = .ok (.iinc 1 1, 3) := by decide +kernel
theorem dX9_number_78 : decode cX9_number 78 = .ok (.goto (-55), 3) := by decide +kernel
theorem dX9_number_81 : decode cX9_number 81 = .ok (.iconst 1, 1) := by decide +kernel
theorem dX9_number_82 : decode cX9_number 82 = .ok (.ireturn, 1) := by decide +kernel
theorem dX9_isSo_0 : decode cX9_isSo 0 = .ok (.iload_n 1, 1) := by decide +kernel
theorem dX9_isSo_1 : decode cX9_isSo 1 = .ok (.lookupswitch 94 #[(0, 35), (5, 59), (6, 61)], 35) := by decide +kernel
theorem dX9_isSo_36 : decode cX9_isSo 36 = .ok (.aload_n 0, 1) := by decide +kernel
theorem dX9_isSo_37 : decode cX9_isSo 37 = .ok (.getfield 137, 3) := by decide +kernel
theorem dX9_isSo_40 : decode cX9_isSo 40 = .ok (.iload_n 2, 1) := by decide +kernel
theorem dX9_isSo_41 : decode cX9_isSo 41 = .ok (.ifCond .ne 8, 3) := by decide +kernel
theorem dX9_isSo_44 : decode cX9_isSo 44 = .ok (.bipush 6, 2) := by decide +kernel
theorem dX9_isSo_46 : decode cX9_isSo 46 = .ok (.goto 5, 3) := by decide +kernel
theorem dX9_isSo_49 : decode cX9_isSo 49 = .ok (.bipush 9, 2) := by decide +kernel
theorem dX9_isSo_51 : decode cX9_isSo 51 = .ok (.if_icmp .gt 7, 3) := by decide +kernel
theorem dX9_isSo_54 : decode cX9_isSo 54 = .ok (.iconst 1, 1) := by decide +kernel
theorem dX9_isSo_55 : decode cX9_isSo 55 = .ok (.goto 4, 3) := by decide +kernel
theorem dX9_isSo_58 : decode cX9_isSo 58 = .ok (.iconst 0, 1) := by decide +kernel
theorem dX9_isSo_59 : decode cX9_isSo 59 = .ok (.ireturn, 1) := by decide +kernel
theorem dX9_isSo_60 : decode cX9_isSo 60 = .ok (.iconst 1, 1) := by decide +kernel
theorem dX9_isSo_61 : decode cX9_isSo 61 = .ok (.ireturn, 1) := by decide +kernel
theorem dX9_isSo_62 : decode cX9_isSo 62 = .ok (.aload_n 0, 1) := by decide +kernel
theorem dX9_isSo_63 : decode cX9_isSo 63 = .ok (.getfield 137, 3) := by decide +kernel
theorem dX9_isSo_66 : decode cX9_isSo 66 = .ok (.aload_n 0, 1) := by decide +kernel
theorem dX9_isSo_67 : decode cX9_isSo 67 = .ok (.getfield 93, 3) := by decide +kernel
theorem dX9_isSo_70 : decode cX9_isSo 70 = .ok (.if_icmp .ge 23, 3) := by decide +kernel
theorem dX9_isSo_73 : decode cX9_isSo 73 = .ok (.aload_n 0, 1) := by decide +kernel
theorem dX9_isSo_74 : decode cX9_isSo 74 = .ok (.getfield 38, 3) := by decide +kernel
theorem dX9_isSo_77 : decode cX9_isSo 77 = .ok (.aload_n 0, 1) := by decide +kernel
theorem dX9_isSo_78 : decode cX9_isSo 78 = .ok (.getfield 137, 3) := by decide +kernel
theorem dX9_isSo_81 : decode cX9_isSo 81 = .ok (.iaload, 1) := by decide +kernel
theorem dX9_isSo_82 : decode cX9_isSo 82 = .ok (.aload_n 0, 1) := by decide +kernel
theorem dX9_isSo_83 : decode cX9_isSo 83 = .ok (.getfield 7, 3) := by decide +kernel
theorem dX9_isSo_86 : decode cX9_isSo 86 = .ok (.if_icmp .ge 7, 3) := by decide +kernel
theorem dX9_isSo_89 : decode cX9_isSo 89 = .ok (.iconst 1, 1) := by decide +kernel
theorem dX9_isSo_90 : decode cX9_isSo 90 = .ok (.goto 4, 3) := by decide +kernel
theorem dX9_isSo_93 : decode cX9_isSo 93 = .ok (.iconst 0, 1) := by decide +kernel
theorem dX9_isSo_94 : decode cX9_isSo 94 = .ok (.ireturn, 1) := by decide +kernel
theorem dX9_isSo_95 : decode cX9_isSo 95 = .ok (.aload_n 0, 1) := by decide +kernel
theorem dX9_isSo_96 : decode cX9_isSo 96 = .ok (.iload_n 1, 1) := by decide +kernel
theorem dX9_isSo_97 : decode cX9_isSo 97 = .ok (.iconst 1, 1) := by decide +kernel
theorem dX9_isSo_98 : decode cX9_isSo 98 = .ok (.isub, 1) := by decide +kernel
theorem dX9_isSo_99 : decode cX9_isSo 99 = .ok (.aload_n 0, 1) := by decide +kernel
theorem dX9_isSo_100 : decode cX9_isSo 100 = .ok (.getfield 137, 3) := by decide +kernel
theorem dX9_isSo_103 : decode cX9_isSo 103 = .ok (.invokevirtual 117, 3) := by decide +kernel
theorem dX9_isSo_106 : decode cX9_isSo 106 = .ok (.ireturn, 1) := by decide +kernel
theorem dX9_item_0 : decode cX9_item 0 = .ok (.aload_n 0, 1) := by decide +kernel
theorem dX9_item_1 : decode cX9_item 1 = .ok (.iconst 0, 1) := by decide +kernel
theorem dX9_item_2 : decode cX9_item 2 = .ok (.invokevirtual 147, 3) := by decide +kernel
theorem dX9_item_5 : decode cX9_item 5 = .ok (.ifCond .eq 12, 3) := by decide +kernel
theorem dX9_item_8 : decode cX9_item 8 = .ok (.aload_n 0, 1) := by decide +kernel
theorem dX9_item_9 : decode cX9_item 9 = .ok (.getfield 93, 3) := by decide +kernel
theorem dX9_item_12 : decode cX9_item 12 = .ok (.bipush 6, 2) := by decide +kernel
theorem dX9_item_14 : decode cX9_item 14 = .ok (.if_icmp .eq 20, 3) := by decide +kernel
theorem dX9_item_17 : decode cX9_item 17 = .ok (.aload_n 0, 1) := by decide +kernel
theorem dX9_item_18 : decode cX9_item 18 = .ok (.iconst 5, 1) := by decide +kernel
theorem dX9_item_19 : decode cX9_item 19 = .ok (.invokevirtual 147, 3) := by decide +kernel
theorem dX9_item_22 : decode cX9_item 22 = .ok (.ifCond .eq 21, 3) := by decide +kernel
theorem dX9_item_25 : decode cX9_item 25 = .ok (.aload_n 0, 1) := by decide +kernel
theorem dX9_item_26 : decode cX9_item 26 = .ok (.getfield 150, 3) := by decide +kernel
theorem dX9_item_29 : decode cX9_item 29 = .ok (.bipush 8, 2) := by decide +kernel
theorem dX9_item_31 : decode cX9_item 31 = .ok (.if_icmp .ne 12, 3) := by decide +kernel
theorem dX9_item_34 : decode cX9_item 34 = .ok (.aload_n 0, 1) := by decide +kernel
theorem dX9_item_35 : decode cX9_item 35 = .ok (.aload_n 0, 1) := by decide +kernel
theorem dX9_item_36 : decode cX9_item 36 = .ok (.getfield 128, 3) := by decide +kernel
theorem dX9_item_39 : decode cX9_item 39 = .ok (.invokevirtual 144, 3) := by decide +kernel
theorem dX9_item_42 : decode cX9_item 42 = .ok (.ireturn, 1) := by decide +kernel
theorem dX9_item_43 : decode cX9_item 43 = .ok (.aload_n 0, 1) := by decide +kernel
theorem dX9_item_44 : decode cX9_item 44 = .ok (.invokevirtual 153, 3) := by decide +kernel
theorem dX9_item_47 : decode cX9_item 47 = .ok (.istore_n 1, 1) := by decide +kernel
theorem dX9_item_48 : decode cX9_item 48 = .ok (.iload_n 1, 1) := by decide +kernel
theorem dX9_item_49 : decode cX9_item 49 = .ok (.iconst (-1), 1) := by decide +kernel
theorem dX9_item_50 : decode cX9_item 50 = .ok (.if_icmp .ne 5, 3) := by decide +kernel
theorem dX9_item_53 : decode cX9_item 53 = .ok (.iconst 0, 1) := by decide +kernel
theorem dX9_item_54 : decode cX9_item 54 = .ok (.ireturn, 1) := by decide +kernel
theorem dX9_item_55 : decode cX9_item 55 = .ok (.iconst 0, 1) := by decide +kernel
theorem dX9_item_56 : decode cX9_item 56 = .ok (.istore_n 2, 1) := by decide +kernel
theorem dX9_item_57 : decode cX9_item 57 = .ok (.iload_n 2, 1) := by decide +kernel
theorem dX9_item_58 : decode cX9_item 58 = .ok (.iload_n 1, 1) := by decide +kernel
theorem dX9_item_59 : decode cX9_item 59 = .ok (.ifCond .ne 7, 3) := by decide +kernel
theorem dX9_item_62 : decode cX9_item 62 = .ok (.iconst 2, 1) := by decide +kernel
theorem dX9_item_63 : decode cX9_item 63 = .ok (.goto 4, 3) := by decide +kernel
theorem dX9_item_66 : decode cX9_item 66 = .ok (.iconst 1, 1) := by decide +kernel
theorem dX9_item_67 : decode cX9_item 67 = .ok (.if_icmp .ge 102, 3) := by decide +kernel
theorem dX9_item_70 : decode cX9_item 70 = .ok (.iload_n 2, 1) := by decide +kernel
theorem dX9_item_71 : decode cX9_item 71 = .ok (.ifCond .le 53, 3) := by decide +kernel
theorem dX9_item_74 : decode cX9_item 74 = .ok (.aload_n 0, 1) := by decide +kernel
theorem dX9_item_75 : decode cX9_item 75 = .ok (.getfield 128, 3) := by decide +kernel
theorem dX9_item_78 : decode cX9_item 78 = .ok (.aload_n 0, 1) := by decide +kernel
theorem dX9_item_79 : decode cX9_item 79 = .ok (.getfield 131, 3) := by decide +kernel
theorem dX9_item_82 : decode cX9_item 82 = .ok (.if_icmp .ge 23, 3) := by decide +kernel
theorem dX9_item_85 : decode cX9_item 85 = .ok (.aload_n 0, 1) := by decide +kernel
theorem dX9_item_86 : decode cX9_item 86 = .ok (.getfield 62, 3) := by decide +kernel
theorem dX9_item_89 : decode cX9_item 89 = .ok (.aload_n 0, 1) := by decide +kernel
theorem dX9_item_90 : decode cX9_item 90 = .ok (.getfield 134, 3) := by decide +kernel
theorem dX9_item_93 : decode cX9_item 93 = .ok (.aload_n 0, 1) := by decide +kernel
theorem dX9_item_94 : decode cX9_item 94 = .ok (.getfield 128, 3) := by decide +kernel
theorem dX9_item_97 : decode cX9_item 97 = .ok (.iadd, 1) := by decide +kernel
theorem dX9_item_98 : decode cX9_item 98 = .ok (.laload, 1) := by decide +kernel
theorem dX9_item_99 : decode cX9_item 99 = .ok (.l2i, 1) := by decide +kernel
theorem dX9_item_100 : decode cX9_item 100 = .ok (.bipush 32, 2) := by decide +kernel
theorem dX9_item_102 : decode cX9_item 102 = .ok (.if_icmp .eq 12, 3) := by decide +kernel
theorem dX9_item_105 : decode cX9_item 105 = .ok (.aload_n 0, 1) := by decide +kernel
theorem dX9_item_106 : decode cX9_item 106 = .ok (.aload_n 0, 1) := by decide +kernel
theorem dX9_item_107 : decode cX9_item 107 = .ok (.getfield 128, 3) := by decide +kernel
theorem dX9_item_110 : decode cX9_item 110 = .ok (.invokevirtual 144, 3) := by decide +kernel
theorem dX9_item_113 : decode cX9_item 113 = .ok (.ireturn, 1) := by decide +kernel
theorem dX9_item_114 : decode cX9_item 114 = .ok (.aload_n 0, 1) := by decide +kernel
theorem dX9_item_115 : decode cX9_item 115 = .ok (.dup, 1) := by decide +kernel
theorem dX9_item_116 : decode cX9_item 116 = .ok (.getfield 128, 3) := by decide +kernel
theorem dX9_item_119 : decode cX9_item 119 = .ok (.iconst 1, 1) := by decide +kernel
theorem dX9_item_120 : decode cX9_item 120 = .ok (.iadd, 1) := by decide +kernel
theorem dX9_item_121 : decode cX9_item 121 = .ok (.putfield 128, 3) := by decide +kernel
theorem dX9_item_124 : decode cX9_item 124 = .ok (.aload_n 0, 1) := by decide +kernel
theorem dX9_item_125 : decode cX9_item 125 = .ok (.getfield 128, 3) := by decide +kernel
theorem dX9_item_128 : decode cX9_item 128 = .ok (.istore_n 3, 1) := by decide +kernel
theorem dX9_item_129 : decode cX9_item 129 = .ok (.aload_n 0, 1) := by decide +kernel
theorem dX9_item_130 : decode cX9_item 130 = .ok (.invokevirtual 157, 3) := by decide +kernel
theorem dX9_item_133 : decode cX9_item 133 = .ok (.ifCond .ne 5, 3) := by decide +kernel
theorem dX9_item_136 : decode cX9_item 136 = .ok (.iconst 0, 1) := by decide +kernel
theorem dX9_item_137 : decode cX9_item 137 = .ok (.ireturn, 1) := by decide +kernel
theorem dX9_item_138 : decode cX9_item 138 = .ok (.aload_n 0, 1) := by decide +kernel
theorem dX9_item_139 : decode cX9_item 139 = .ok (.iload_n 1, 1) := by decide +kernel
theorem dX9_item_140 : decode cX9_item 140 = .ok (.iload_n 2, 1) := by decide +kernel
theorem dX9_item_141 : decode cX9_item 141 = .ok (.invokevirtual 160, 3) := by decide +kernel
theorem dX9_item_144 : decode cX9_item 144 = .ok (.ifCond .ne 9, 3) := by decide +kernel
theorem dX9_item_147 : decode cX9_item 147 = .ok (.aload_n 0, 1) := by decide +kernel
theorem dX9_item_148 : decode cX9_item 148 = .ok (.iload_n 3, 1) := by decide +kernel
theorem dX9_item_149 : decode cX9_item 149 = .ok (.invokevirtual 144, 3) := by decide +kernel
theorem dX9_item_152 : decode cX9_item 152 = .ok (.ireturn, 1) := by decide +kernel
theorem dX9_item_153 : decode cX9_item 153 = .ok (.aload_n 0, 1) := by decide +kernel
theorem dX9_item_154 : decode cX9_item 154 = .ok (.getfield 72, 3) := by decide +kernel
theorem dX9_item_157 : decode cX9_item 157 = .ok (.iload_n 2, 1) := by decide +kernel
theorem dX9_item_158 : decode cX9_item 158 = .ok (.aload_n 0, 1) := by decide +kernel
theorem dX9_item_159 : decode cX9_item 159 = .ok (.getfield 137, 3) := by decide +kernel
theorem dX9_item_162 : decode cX9_item 162 = .ok (.iastore, 1) := by decide +kernel
theorem dX9_item_163 : decode cX9_item 163 = .ok (.iinc 2 1, 3) := by decide +kernel
theorem dX9_item_166 : decode cX9_item 166 = .ok (.goto (-109), 3) := by decide +kernel
theorem dX9_item_169 : decode cX9_item 169 = .ok (.iload_n 1, 1) := by decide +kernel
theorem dX9_item_170 : decode cX9_item 170 = .ok (.lookupswitch 95 #[(0, 34), (5, 54), (6, 82)], 34) := by decide +kernel
theorem dX9_item_204 : decode cX9_item 204 = .ok (.aload_n 0, 1) := by decide +kernel
theorem dX9_item_205 : decode cX9_item 205 = .ok (.aload_n 0, 1) := by decide +kernel
theorem dX9_item_206 : decode cX9_item 206 = .ok (.getfield 72, 3) := by decide +kernel
theorem dX9_item_209 : decode cX9_item 209 = .ok (.iconst 0, 1) := by decide +kernel
theorem dX9_item_210 : decode cX9_item 210 = .ok (.iaload, 1) := by decide +kernel
theorem dX9_item_211 : decode cX9_item 211 = .ok (.aload_n 0, 1) := by decide +kernel
theorem dX9_item_212 : decode cX9_item 212 = .ok (.getfield 72, 3) := by decide +kernel
theorem dX9_item_215 : decode cX9_item 215 = .ok (.iconst 1, 1) := by decide +kernel
theorem dX9_item_216 : decode cX9_item 216 = .ok (.iaload, 1) := by decide +kernel
theorem dX9_item_217 : decode cX9_item 217 = .ok (.invokevirtual 114, 3) := by decide +kernel
theorem dX9_item_220 : decode cX9_item 220 = .ok (.pop, 1) := by decide +kernel
theorem dX9_item_221 : decode cX9_item 221 = .ok (.goto 58, 3) := by decide +kernel
theorem dX9_item_224 : decode cX9_item 224 = .ok (.aload_n 0, 1) := by decide +kernel
theorem dX9_item_225 : decode cX9_item 225 = .ok (.getfield 47, 3) := by decide +kernel
theorem dX9_item_228 : decode cX9_item 228 = .ok (.aload_n 0, 1) := by decide +kernel
theorem dX9_item_229 : decode cX9_item 229 = .ok (.getfield 150, 3) := by decide +kernel
theorem dX9_item_232 : decode cX9_item 232 = .ok (.aload_n 0, 1) := by decide +kernel
theorem dX9_item_233 : decode cX9_item 233 = .ok (.getfield 72, 3) := by decide +kernel
theorem dX9_item_236 : decode cX9_item 236 = .ok (.iconst 0, 1) := by decide +kernel
theorem dX9_item_237 : decode cX9_item 237 = .ok (.iaload, 1) := by decide +kernel
theorem dX9_item_238 : decode cX9_item 238 = .ok (.iastore, 1) := by decide +kernel
theorem dX9_item_239 : decode cX9_item 239 = .ok (.aload_n 0, 1) := by decide +kernel
theorem dX9_item_240 : decode cX9_item 240 = .ok (.dup, 1) := by decide +kernel
theorem dX9_item_241 : decode cX9_item 241 = .ok (.getfield 150, 3) := by decide +kernel
theorem dX9_item_244 : decode cX9_item 244 = .ok (.iconst 1, 1) := by decide +kernel
theorem dX9_item_245 : decode cX9_item 245 = .ok (.iadd, 1) := by decide +kernel
theorem dX9_item_246 : decode cX9_item 246 = .ok (.putfield 150, 3) := by decide +kernel
theorem dX9_item_249 : decode cX9_item 249 = .ok (.goto 30, 3) := by decide +kernel
theorem dX9_item_252 : decode cX9_item 252 = .ok (.aload_n 0, 1) := by decide +kernel
theorem dX9_item_253 : decode cX9_item 253 = .ok (.aload_n 0, 1) := by decide +kernel
theorem dX9_item_254 : decode cX9_item 254 = .ok (.getfield 72, 3) := by decide +kernel
theorem dX9_item_257 : decode cX9_item 257 = .ok (.iconst 0, 1) := by decide +kernel
theorem dX9_item_258 : decode cX9_item 258 = .ok (.iaload, 1) := by decide +kernel
theorem dX9_item_259 : decode cX9_item 259 = .ok (.invokevirtual 163, 3) := by decide +kernel
theorem dX9_item_262 : decode cX9_item 262 = .ok (.goto 17, 3) := by decide +kernel
theorem dX9_item_265 : decode cX9_item 265 = .ok (.aload_n 0, 1) := by decide +kernel
theorem dX9_item_266 : decode cX9_item 266 = .ok (.iload_n 1, 1) := by decide +kernel
theorem dX9_item_267 : decode cX9_item 267 = .ok (.iconst 1, 1) := by decide +kernel
theorem dX9_item_268 : decode cX9_item 268 = .ok (.isub, 1) := by decide +kernel
theorem dX9_item_269 : decode cX9_item 269 = .ok (.aload_n 0, 1) := by decide +kernel
theorem dX9_item_270 : decode cX9_item 270 = .ok (.getfield 72, 3) := by decide +kernel
theorem dX9_item_273 : decode cX9_item 273 = .ok (.iconst 0, 1) := by decide +kernel
theorem dX9_item_274 : decode cX9_item 274 = .ok (.iaload, 1) := by decide +kernel
theorem dX9_item_275 : decode cX9_item 275 = .ok (.invokevirtual 166, 3) := by decide +kernel
theorem dX9_item_278 : decode cX9_item 278 = .ok (.pop, 1) := by decide +kernel
theorem dX9_item_279 : decode cX9_item 279 = .ok (.iconst 1, 1) := by decide +kernel
theorem dX9_item_280 : decode cX9_item 280 = .ok (.ireturn, 1) := by decide +kernel
theorem dX9_carries_0 : decode cX9_carries 0 = .ok (.iconst 0, 1) := by decide +kernel
theorem dX9_carries_1 : decode cX9_carries 1 = .ok (.istore 6, 2) := by decide +kernel
theorem dX9_carries_3 : decode cX9_carries 3 = .ok (.iload 6, 2) := by decide +kernel
theorem dX9_carries_5 : decode cX9_carries 5 = .ok (.iload_n 2, 1) := by decide +kernel
theorem dX9_carries_6 : decode cX9_carries 6 = .ok (.if_icmp .ge 39, 3) := by decide +kernel
theorem dX9_carries_9 : decode cX9_carries 9 = .ok (.iload 5, 2) := by decide +kernel
theorem dX9_carries_11 : decode cX9_carries 11 = .ok (.ifCond .eq 17, 3) := by decide +kernel
theorem dX9_carries_14 : decode cX9_carries 14 = .ok (.aload_n 1, 1) := by decide +kernel
theorem dX9_carries_15 : decode cX9_carries 15 = .ok (.iload 6, 2) := by decide +kernel
theorem dX9_carries_17 : decode cX9_carries 17 = .ok (.aload_n 3, 1) := by decide +kernel
theorem dX9_carries_18 : decode cX9_carries 18 = .ok (.iload 4, 2) := by decide +kernel
theorem dX9_carries_20 : decode cX9_carries 20 = .ok (.iload 6, 2) := by decide +kernel
theorem dX9_carries_22 : decode cX9_carries 22 = .ok (.iadd, 1) := by decide +kernel
theorem dX9_carries_23 : decode cX9_carries 23 = .ok (.iaload, 1) := by decide +kernel
theorem dX9_carries_24 : decode cX9_carries 24 = .ok (.iastore, 1) := by decide +kernel
theorem dX9_carries_25 : decode cX9_carries 25 = .ok (.goto 14, 3) := by decide +kernel
theorem dX9_carries_28 : decode cX9_carries 28 = .ok (.aload_n 3, 1) := by decide +kernel
theorem dX9_carries_29 : decode cX9_carries 29 = .ok (.iload 4, 2) := by decide +kernel
theorem dX9_carries_31 : decode cX9_carries 31 = .ok (.iload 6, 2) := by decide +kernel
theorem dX9_carries_33 : decode cX9_carries 33 = .ok (.iadd, 1) := by decide +kernel
theorem dX9_carries_34 : decode cX9_carries 34 = .ok (.aload_n 1, 1) := by decide +kernel
theorem dX9_carries_35 : decode cX9_carries 35 = .ok (.iload 6, 2) := by decide +kernel
theorem dX9_carries_37 : decode cX9_carries 37 = .ok (.iaload, 1) := by decide +kernel
theorem dX9_carries_38 : decode cX9_carries 38 = .ok (.iastore, 1) := by decide +kernel
theorem dX9_carries_39 : decode cX9_carries 39 = .ok (.iinc 6 1, 3) := by decide +kernel
theorem dX9_carries_42 : decode cX9_carries 42 = .ok (.goto (-39), 3) := by decide +kernel
theorem dX9_carries_45 : decode cX9_carries 45 = .ok (.iload 4, 2) := by decide +kernel
theorem dX9_carries_47 : decode cX9_carries 47 = .ok (.iload_n 2, 1) := by decide +kernel
theorem dX9_carries_48 : decode cX9_carries 48 = .ok (.iadd, 1) := by decide +kernel
theorem dX9_carries_49 : decode cX9_carries 49 = .ok (.ireturn, 1) := by decide +kernel
theorem dX9_all_0 : decode cX9_all 0 = .ok (.aload_n 0, 1) := by decide +kernel
theorem dX9_all_1 : decode cX9_all 1 = .ok (.aload_n 0, 1) := by decide +kernel
theorem dX9_all_2 : decode cX9_all 2 = .ok (.getfield 32, 3) := by decide +kernel
theorem dX9_all_5 : decode cX9_all 5 = .ok (.bipush 6, 2) := by decide +kernel
theorem dX9_all_7 : decode cX9_all 7 = .ok (.aload_n 1, 1) := by decide +kernel
theorem dX9_all_8 : decode cX9_all 8 = .ok (.iconst 0, 1) := by decide +kernel
theorem dX9_all_9 : decode cX9_all 9 = .ok (.iload_n 2, 1) := by decide +kernel
theorem dX9_all_10 : decode cX9_all 10 = .ok (.invokevirtual 169, 3) := by decide +kernel
theorem dX9_all_13 : decode cX9_all 13 = .ok (.istore_n 3, 1) := by decide +kernel
theorem dX9_all_14 : decode cX9_all 14 = .ok (.aload_n 0, 1) := by decide +kernel
theorem dX9_all_15 : decode cX9_all 15 = .ok (.aload_n 0, 1) := by decide +kernel
theorem dX9_all_16 : decode cX9_all 16 = .ok (.getfield 35, 3) := by decide +kernel
theorem dX9_all_19 : decode cX9_all 19 = .ok (.bipush 6, 2) := by decide +kernel
theorem dX9_all_21 : decode cX9_all 21 = .ok (.aload_n 1, 1) := by decide +kernel
theorem dX9_all_22 : decode cX9_all 22 = .ok (.iload_n 3, 1) := by decide +kernel
theorem dX9_all_23 : decode cX9_all 23 = .ok (.iload_n 2, 1) := by decide +kernel
theorem dX9_all_24 : decode cX9_all 24 = .ok (.invokevirtual 169, 3) := by decide +kernel
theorem dX9_all_27 : decode cX9_all 27 = .ok (.istore_n 3, 1) := by decide +kernel
theorem dX9_all_28 : decode cX9_all 28 = .ok (.aload_n 0, 1) := by decide +kernel
theorem dX9_all_29 : decode cX9_all 29 = .ok (.aload_n 0, 1) := by decide +kernel
theorem dX9_all_30 : decode cX9_all 30 = .ok (.getfield 38, 3) := by decide +kernel
theorem dX9_all_33 : decode cX9_all 33 = .ok (.bipush 6, 2) := by decide +kernel
theorem dX9_all_35 : decode cX9_all 35 = .ok (.aload_n 1, 1) := by decide +kernel
theorem dX9_all_36 : decode cX9_all 36 = .ok (.iload_n 3, 1) := by decide +kernel
theorem dX9_all_37 : decode cX9_all 37 = .ok (.iload_n 2, 1) := by decide +kernel
theorem dX9_all_38 : decode cX9_all 38 = .ok (.invokevirtual 169, 3) := by decide +kernel
theorem dX9_all_41 : decode cX9_all 41 = .ok (.istore_n 3, 1) := by decide +kernel
theorem dX9_all_42 : decode cX9_all 42 = .ok (.aload_n 0, 1) := by decide +kernel
theorem dX9_all_43 : decode cX9_all 43 = .ok (.aload_n 0, 1) := by decide +kernel
theorem dX9_all_44 : decode cX9_all 44 = .ok (.getfield 41, 3) := by decide +kernel
theorem dX9_all_47 : decode cX9_all 47 = .ok (.bipush 6, 2) := by decide +kernel
theorem dX9_all_49 : decode cX9_all 49 = .ok (.aload_n 1, 1) := by decide +kernel
theorem dX9_all_50 : decode cX9_all 50 = .ok (.iload_n 3, 1) := by decide +kernel
theorem dX9_all_51 : decode cX9_all 51 = .ok (.iload_n 2, 1) := by decide +kernel
theorem dX9_all_52 : decode cX9_all 52 = .ok (.invokevirtual 169, 3) := by decide +kernel
theorem dX9_all_55 : decode cX9_all 55 = .ok (.istore_n 3, 1) := by decide +kernel
theorem dX9_all_56 : decode cX9_all 56 = .ok (.aload_n 0, 1) := by decide +kernel
theorem dX9_all_57 : decode cX9_all 57 = .ok (.aload_n 0, 1) := by decide +kernel
theorem dX9_all_58 : decode cX9_all 58 = .ok (.getfield 44, 3) := by decide +kernel
theorem dX9_all_61 : decode cX9_all 61 = .ok (.bipush 6, 2) := by decide +kernel
theorem dX9_all_63 : decode cX9_all 63 = .ok (.aload_n 1, 1) := by decide +kernel
theorem dX9_all_64 : decode cX9_all 64 = .ok (.iload_n 3, 1) := by decide +kernel
theorem dX9_all_65 : decode cX9_all 65 = .ok (.iload_n 2, 1) := by decide +kernel
theorem dX9_all_66 : decode cX9_all 66 = .ok (.invokevirtual 169, 3) := by decide +kernel
theorem dX9_all_69 : decode cX9_all 69 = .ok (.istore_n 3, 1) := by decide +kernel
theorem dX9_all_70 : decode cX9_all 70 = .ok (.aload_n 0, 1) := by decide +kernel
theorem dX9_all_71 : decode cX9_all 71 = .ok (.aload_n 0, 1) := by decide +kernel
theorem dX9_all_72 : decode cX9_all 72 = .ok (.getfield 47, 3) := by decide +kernel
theorem dX9_all_75 : decode cX9_all 75 = .ok (.bipush 8, 2) := by decide +kernel
theorem dX9_all_77 : decode cX9_all 77 = .ok (.aload_n 1, 1) := by decide +kernel
theorem dX9_all_78 : decode cX9_all 78 = .ok (.iload_n 3, 1) := by decide +kernel
theorem dX9_all_79 : decode cX9_all 79 = .ok (.iload_n 2, 1) := by decide +kernel
theorem dX9_all_80 : decode cX9_all 80 = .ok (.invokevirtual 169, 3) := by decide +kernel
theorem dX9_all_83 : decode cX9_all 83 = .ok (.istore_n 3, 1) := by decide +kernel
theorem dX9_all_84 : decode cX9_all 84 = .ok (.iload_n 2, 1) := by decide +kernel
theorem dX9_all_85 : decode cX9_all 85 = .ok (.ifCond .eq 78, 3) := by decide +kernel
theorem dX9_all_88 : decode cX9_all 88 = .ok (.aload_n 0, 1) := by decide +kernel
theorem dX9_all_89 : decode cX9_all 89 = .ok (.aload_n 1, 1) := by decide +kernel
theorem dX9_all_90 : decode cX9_all 90 = .ok (.iload_n 3, 1) := by decide +kernel
theorem dX9_all_91 : decode cX9_all 91 = .ok (.iaload, 1) := by decide +kernel
theorem dX9_all_92 : decode cX9_all 92 = .ok (.putfield 93, 3) := by decide +kernel
theorem dX9_all_95 : decode cX9_all 95 = .ok (.aload_n 0, 1) := by decide +kernel
theorem dX9_all_96 : decode cX9_all 96 = .ok (.aload_n 1, 1) := by decide +kernel
theorem dX9_all_97 : decode cX9_all 97 = .ok (.iload_n 3, 1) := by decide +kernel
theorem dX9_all_98 : decode cX9_all 98 = .ok (.iconst 1, 1) := by decide +kernel
theorem dX9_all_99 : decode cX9_all 99 = .ok (.iadd, 1) := by decide +kernel
theorem dX9_all_100 : decode cX9_all 100 = .ok (.iaload, 1) := by decide +kernel
theorem dX9_all_101 : decode cX9_all 101 = .ok (.putfield 7, 3) := by decide +kernel
theorem dX9_all_104 : decode cX9_all 104 = .ok (.aload_n 0, 1) := by decide +kernel
theorem dX9_all_105 : decode cX9_all 105 = .ok (.aload_n 1, 1) := by decide +kernel
theorem dX9_all_106 : decode cX9_all 106 = .ok (.iload_n 3, 1) := by decide +kernel
theorem dX9_all_107 : decode cX9_all 107 = .ok (.iconst 2, 1) := by decide +kernel
theorem dX9_all_108 : decode cX9_all 108 = .ok (.iadd, 1) := by decide +kernel
theorem dX9_all_109 : decode cX9_all 109 = .ok (.iaload, 1) := by decide +kernel
theorem dX9_all_110 : decode cX9_all 110 = .ok (.putfield 13, 3) := by decide +kernel
theorem dX9_all_113 : decode cX9_all 113 = .ok (.aload_n 0, 1) := by decide +kernel
theorem dX9_all_114 : decode cX9_all 114 = .ok (.aload_n 1, 1) := by decide +kernel
theorem dX9_all_115 : decode cX9_all 115 = .ok (.iload_n 3, 1) := by decide +kernel
theorem dX9_all_116 : decode cX9_all 116 = .ok (.iconst 3, 1) := by decide +kernel
theorem dX9_all_117 : decode cX9_all 117 = .ok (.iadd, 1) := by decide +kernel
theorem dX9_all_118 : decode cX9_all 118 = .ok (.iaload, 1) := by decide +kernel
theorem dX9_all_119 : decode cX9_all 119 = .ok (.putfield 16, 3) := by decide +kernel
theorem dX9_all_122 : decode cX9_all 122 = .ok (.aload_n 0, 1) := by decide +kernel
theorem dX9_all_123 : decode cX9_all 123 = .ok (.aload_n 1, 1) := by decide +kernel
theorem dX9_all_124 : decode cX9_all 124 = .ok (.iload_n 3, 1) := by decide +kernel
theorem dX9_all_125 : decode cX9_all 125 = .ok (.iconst 4, 1) := by decide +kernel
theorem dX9_all_126 : decode cX9_all 126 = .ok (.iadd, 1) := by decide +kernel
theorem dX9_all_127 : decode cX9_all 127 = .ok (.iaload, 1) := by decide +kernel
theorem dX9_all_128 : decode cX9_all 128 = .ok (.putfield 19, 3) := by decide +kernel
theorem dX9_all_131 : decode cX9_all 131 = .ok (.aload_n 0, 1) := by decide +kernel
theorem dX9_all_132 : decode cX9_all 132 = .ok (.aload_n 1, 1) := by decide +kernel
theorem dX9_all_133 : decode cX9_all 133 = .ok (.iload_n 3, 1) := by decide +kernel
theorem dX9_all_134 : decode cX9_all 134 = .ok (.iconst 5, 1) := by decide +kernel
theorem dX9_all_135 : decode cX9_all 135 = .ok (.iadd, 1) := by decide +kernel
theorem dX9_all_136 : decode cX9_all 136 = .ok (.iaload, 1) := by decide +kernel
theorem dX9_all_137 : decode cX9_all 137 = .ok (.putfield 173, 3) := by decide +kernel
theorem dX9_all_140 : decode cX9_all 140 = .ok (.aload_n 0, 1) := by decide +kernel
theorem dX9_all_141 : decode cX9_all 141 = .ok (.aload_n 1, 1) := by decide +kernel
theorem dX9_all_142 : decode cX9_all 142 = .ok (.iload_n 3, 1) := by decide +kernel
theorem dX9_all_143 : decode cX9_all 143 = .ok (.bipush 6, 2) := by decide +kernel
theorem dX9_all_145 : decode cX9_all 145 = .ok (.iadd, 1) := by decide +kernel
theorem dX9_all_146 : decode cX9_all 146 = .ok (.iaload, 1) := by decide +kernel
theorem dX9_all_147 : decode cX9_all 147 = .ok (.putfield 150, 3) := by decide +kernel
theorem dX9_all_150 : decode cX9_all 150 = .ok (.aload_n 0, 1) := by decide +kernel
theorem dX9_all_151 : decode cX9_all 151 = .ok (.aload_n 1, 1) := by decide +kernel
theorem dX9_all_152 : decode cX9_all 152 = .ok (.iload_n 3, 1) := by decide +kernel
theorem dX9_all_153 : decode cX9_all 153 = .ok (.bipush 7, 2) := by decide +kernel
theorem dX9_all_155 : decode cX9_all 155 = .ok (.iadd, 1) := by decide +kernel
theorem dX9_all_156 : decode cX9_all 156 = .ok (.iaload, 1) := by decide +kernel
theorem dX9_all_157 : decode cX9_all 157 = .ok (.putfield 22, 3) := by decide +kernel
theorem dX9_all_160 : decode cX9_all 160 = .ok (.goto 75, 3) := by decide +kernel
theorem dX9_all_163 : decode cX9_all 163 = .ok (.aload_n 1, 1) := by decide +kernel
theorem dX9_all_164 : decode cX9_all 164 = .ok (.iload_n 3, 1) := by decide +kernel
theorem dX9_all_165 : decode cX9_all 165 = .ok (.aload_n 0, 1) := by decide +kernel
theorem dX9_all_166 : decode cX9_all 166 = .ok (.getfield 93, 3) := by decide +kernel
theorem dX9_all_169 : decode cX9_all 169 = .ok (.iastore, 1) := by decide +kernel
theorem dX9_all_170 : decode cX9_all 170 = .ok (.aload_n 1, 1) := by decide +kernel
theorem dX9_all_171 : decode cX9_all 171 = .ok (.iload_n 3, 1) := by decide +kernel
theorem dX9_all_172 : decode cX9_all 172 = .ok (.iconst 1, 1) := by decide +kernel
theorem dX9_all_173 : decode cX9_all 173 = .ok (.iadd, 1) := by decide +kernel
theorem dX9_all_174 : decode cX9_all 174 = .ok (.aload_n 0, 1) := by decide +kernel
theorem dX9_all_175 : decode cX9_all 175 = .ok (.getfield 7, 3) := by decide +kernel
theorem dX9_all_178 : decode cX9_all 178 = .ok (.iastore, 1) := by decide +kernel
theorem dX9_all_179 : decode cX9_all 179 = .ok (.aload_n 1, 1) := by decide +kernel
theorem dX9_all_180 : decode cX9_all 180 = .ok (.iload_n 3, 1) := by decide +kernel
theorem dX9_all_181 : decode cX9_all 181 = .ok (.iconst 2, 1) := by decide +kernel
theorem dX9_all_182 : decode cX9_all 182 = .ok (.iadd, 1) := by decide +kernel
theorem dX9_all_183 : decode cX9_all 183 = .ok (.aload_n 0, 1) := by decide +kernel
theorem dX9_all_184 : decode cX9_all 184 = .ok (.getfield 13, 3) := by decide +kernel
theorem dX9_all_187 : decode cX9_all 187 = .ok (.iastore, 1) := by decide +kernel
theorem dX9_all_188 : decode cX9_all 188 = .ok (.aload_n 1, 1) := by decide +kernel
theorem dX9_all_189 : decode cX9_all 189 = .ok (.iload_n 3, 1) := by decide +kernel
theorem dX9_all_190 : decode cX9_all 190 = .ok (.iconst 3, 1) := by decide +kernel
theorem dX9_all_191 : decode cX9_all 191 = .ok (.iadd, 1) := by decide +kernel
theorem dX9_all_192 : decode cX9_all 192 = .ok (.aload_n 0, 1) := by decide +kernel
theorem dX9_all_193 : decode cX9_all 193 = .ok (.getfield 16, 3) := by decide +kernel
theorem dX9_all_196 : decode cX9_all 196 = .ok (.iastore, 1) := by decide +kernel
theorem dX9_all_197 : decode cX9_all 197 = .ok (.aload_n 1, 1) := by decide +kernel
theorem dX9_all_198 : decode cX9_all 198 = .ok (.iload_n 3, 1) := by decide +kernel
theorem dX9_all_199 : decode cX9_all 199 = .ok (.iconst 4, 1) := by decide +kernel
theorem dX9_all_200 : decode cX9_all 200 = .ok (.iadd, 1) := by decide +kernel
theorem dX9_all_201 : decode cX9_all 201 = .ok (.aload_n 0, 1) := by decide +kernel
theorem dX9_all_202 : decode cX9_all 202 = .ok (.getfield 19, 3) := by decide +kernel
theorem dX9_all_205 : decode cX9_all 205 = .ok (.iastore, 1) := by decide +kernel
theorem dX9_all_206 : decode cX9_all 206 = .ok (.aload_n 1, 1) := by decide +kernel
theorem dX9_all_207 : decode cX9_all 207 = .ok (.iload_n 3, 1) := by decide +kernel
theorem dX9_all_208 : decode cX9_all 208 = .ok (.iconst 5, 1) := by decide +kernel
theorem dX9_all_209 : decode cX9_all 209 = .ok (.iadd, 1) := by decide +kernel
theorem dX9_all_210 : decode cX9_all 210 = .ok (.aload_n 0, 1) := by decide +kernel
theorem dX9_all_211 : decode cX9_all 211 = .ok (.getfield 173, 3) := by decide +kernel
theorem dX9_all_214 : decode cX9_all 214 = .ok (.iastore, 1) := by decide +kernel
theorem dX9_all_215 : decode cX9_all 215 = .ok (.aload_n 1, 1) := by decide +kernel
theorem dX9_all_216 : decode cX9_all 216 = .ok (.iload_n 3, 1) := by decide +kernel
theorem dX9_all_217 : decode cX9_all 217 = .ok (.bipush 6, 2) := by decide +kernel
theorem dX9_all_219 : decode cX9_all 219 = .ok (.iadd, 1) := by decide +kernel
theorem dX9_all_220 : decode cX9_all 220 = .ok (.aload_n 0, 1) := by decide +kernel
theorem dX9_all_221 : decode cX9_all 221 = .ok (.getfield 150, 3) := by decide +kernel
theorem dX9_all_224 : decode cX9_all 224 = .ok (.iastore, 1) := by decide +kernel
theorem dX9_all_225 : decode cX9_all 225 = .ok (.aload_n 1, 1) := by decide +kernel
theorem dX9_all_226 : decode cX9_all 226 = .ok (.iload_n 3, 1) := by decide +kernel
theorem dX9_all_227 : decode cX9_all 227 = .ok (.bipush 7, 2) := by decide +kernel
theorem dX9_all_229 : decode cX9_all 229 = .ok (.iadd, 1) := by decide +kernel
theorem dX9_all_230 : decode cX9_all 230 = .ok (.aload_n 0, 1) := by decide +kernel
theorem dX9_all_231 : decode cX9_all 231 = .ok (.getfield 22, 3) := by decide +kernel
theorem dX9_all_234 : decode cX9_all 234 = .ok (.iastore, 1) := by decide +kernel
theorem dX9_all_235 : decode cX9_all 235 = .ok (.return_, 1) := by decide +kernel
theorem dX9_room_0 : decode cX9_room 0 = .ok (.aload_n 0, 1) := by decide +kernel
theorem dX9_room_1 : decode cX9_room 1 = .ok (.iload_n 1, 1) := by decide +kernel
theorem dX9_room_2 : decode cX9_room 2 = .ok (.invokevirtual 107, 3) := by decide +kernel
theorem dX9_room_5 : decode cX9_room 5 = .ok (.istore_n 2, 1) := by decide +kernel
theorem dX9_room_6 : decode cX9_room 6 = .ok (.iload_n 2, 1) := by decide +kernel
theorem dX9_room_7 : decode cX9_room 7 = .ok (.ifCond .eq 9, 3) := by decide +kernel
theorem dX9_room_10 : decode cX9_room 10 = .ok (.aload_n 0, 1) := by decide +kernel
theorem dX9_room_11 : decode cX9_room 11 = .ok (.iload_n 2, 1) := by decide +kernel
theorem dX9_room_12 : decode cX9_room 12 = .ok (.invokevirtual 100, 3) := by decide +kernel
theorem dX9_room_15 : decode cX9_room 15 = .ok (.ireturn, 1) := by decide +kernel
theorem dX9_room_16 : decode cX9_room 16 = .ok (.aload_n 0, 1) := by decide +kernel
theorem dX9_room_17 : decode cX9_room 17 = .ok (.aload_n 0, 1) := by decide +kernel
theorem dX9_room_18 : decode cX9_room 18 = .ok (.getfield 75, 3) := by decide +kernel
theorem dX9_room_21 : decode cX9_room 21 = .ok (.iconst 0, 1) := by decide +kernel
theorem dX9_room_22 : decode cX9_room 22 = .ok (.invokevirtual 176, 3) := by decide +kernel
theorem dX9_room_25 : decode cX9_room 25 = .ok (.aload_n 0, 1) := by decide +kernel
theorem dX9_room_26 : decode cX9_room 26 = .ok (.sipush 160, 3) := by decide +kernel
theorem dX9_room_29 : decode cX9_room 29 = .ok (.iload_n 1, 1) := by decide +kernel
theorem dX9_room_30 : decode cX9_room 30 = .ok (.imul, 1) := by decide +kernel
theorem dX9_room_31 : decode cX9_room 31 = .ok (.putfield 134, 3) := by decide +kernel
theorem dX9_room_34 : decode cX9_room 34 = .ok (.aload_n 0, 1) := by decide +kernel
theorem dX9_room_35 : decode cX9_room 35 = .ok (.iconst 0, 1) := by decide +kernel
theorem dX9_room_36 : decode cX9_room 36 = .ok (.putfield 128, 3) := by decide +kernel
theorem dX9_room_39 : decode cX9_room 39 = .ok (.aload_n 0, 1) := by decide +kernel
theorem dX9_room_40 : decode cX9_room 40 = .ok (.aload_n 0, 1) := by decide +kernel
theorem dX9_room_41 : decode cX9_room 41 = .ok (.getfield 56, 3) := by decide +kernel
theorem dX9_room_44 : decode cX9_room 44 = .ok (.iload_n 1, 1) := by decide +kernel
theorem dX9_room_45 : decode cX9_room 45 = .ok (.iaload, 1) := by decide +kernel
theorem dX9_room_46 : decode cX9_room 46 = .ok (.putfield 131, 3) := by decide +kernel
theorem dX9_room_49 : decode cX9_room 49 = .ok (.aload_n 0, 1) := by decide +kernel
theorem dX9_room_50 : decode cX9_room 50 = .ok (.iconst (-1), 1) := by decide +kernel
theorem dX9_room_51 : decode cX9_room 51 = .ok (.putfield 25, 3) := by decide +kernel
theorem dX9_room_54 : decode cX9_room 54 = .ok (.iconst 1, 1) := by decide +kernel
theorem dX9_room_55 : decode cX9_room 55 = .ok (.istore_n 3, 1) := by decide +kernel
theorem dX9_room_56 : decode cX9_room 56 = .ok (.aload_n 0, 1) := by decide +kernel
theorem dX9_room_57 : decode cX9_room 57 = .ok (.invokevirtual 180, 3) := by decide +kernel
theorem dX9_room_60 : decode cX9_room 60 = .ok (.istore 4, 2) := by decide +kernel
theorem dX9_room_62 : decode cX9_room 62 = .ok (.iload 4, 2) := by decide +kernel
theorem dX9_room_64 : decode cX9_room 64 = .ok (.ifCond .eq 69, 3) := by decide +kernel
theorem dX9_room_67 : decode cX9_room 67 = .ok (.aload_n 0, 1) := by decide +kernel
theorem dX9_room_68 : decode cX9_room 68 = .ok (.getfield 128, 3) := by decide +kernel
theorem dX9_room_71 : decode cX9_room 71 = .ok (.aload_n 0, 1) := by decide +kernel
theorem dX9_room_72 : decode cX9_room 72 = .ok (.getfield 131, 3) := by decide +kernel
theorem dX9_room_75 : decode cX9_room 75 = .ok (.if_icmp .ge 58, 3) := by decide +kernel
theorem dX9_room_78 : decode cX9_room 78 = .ok (.aload_n 0, 1) := by decide +kernel
theorem dX9_room_79 : decode cX9_room 79 = .ok (.getfield 62, 3) := by decide +kernel
theorem dX9_room_82 : decode cX9_room 82 = .ok (.aload_n 0, 1) := by decide +kernel
theorem dX9_room_83 : decode cX9_room 83 = .ok (.getfield 134, 3) := by decide +kernel
theorem dX9_room_86 : decode cX9_room 86 = .ok (.aload_n 0, 1) := by decide +kernel
theorem dX9_room_87 : decode cX9_room 87 = .ok (.getfield 128, 3) := by decide +kernel
theorem dX9_room_90 : decode cX9_room 90 = .ok (.iadd, 1) := by decide +kernel
theorem dX9_room_91 : decode cX9_room 91 = .ok (.laload, 1) := by decide +kernel
theorem dX9_room_92 : decode cX9_room 92 = .ok (.l2i, 1) := by decide +kernel
theorem dX9_room_93 : decode cX9_room 93 = .ok (.bipush 59, 2) := by decide +kernel
theorem dX9_room_95 : decode cX9_room 95 = .ok (.if_icmp .eq 16, 3) := by decide +kernel
theorem dX9_room_98 : decode cX9_room 98 = .ok (.aload_n 0, 1) := by decide +kernel
theorem dX9_room_99 : decode cX9_room 99 = .ok (.aload_n 0, 1) := by decide +kernel
theorem dX9_room_100 : decode cX9_room 100 = .ok (.getfield 128, 3) := by decide +kernel
theorem dX9_room_103 : decode cX9_room 103 = .ok (.invokevirtual 144, 3) := by decide +kernel
theorem dX9_room_106 : decode cX9_room 106 = .ok (.istore 4, 2) := by decide +kernel
theorem dX9_room_108 : decode cX9_room 108 = .ok (.goto (-46), 3) := by decide +kernel
theorem dX9_room_111 : decode cX9_room 111 = .ok (.aload_n 0, 1) := by decide +kernel
theorem dX9_room_112 : decode cX9_room 112 = .ok (.dup, 1) := by decide +kernel
theorem dX9_room_113 : decode cX9_room 113 = .ok (.getfield 128, 3) := by decide +kernel
theorem dX9_room_116 : decode cX9_room 116 = .ok (.iconst 1, 1) := by decide +kernel
theorem dX9_room_117 : decode cX9_room 117 = .ok (.iadd, 1) := by decide +kernel
theorem dX9_room_118 : decode cX9_room 118 = .ok (.putfield 128, 3) := by decide +kernel
theorem dX9_room_121 : decode cX9_room 121 = .ok (.iinc 3 1, 3) := by decide +kernel
theorem dX9_room_124 : decode cX9_room 124 = .ok (.aload_n 0, 1) := by decide +kernel
theorem dX9_room_125 : decode cX9_room 125 = .ok (.invokevirtual 180, 3) := by decide +kernel
theorem dX9_room_128 : decode cX9_room 128 = .ok (.istore 4, 2) := by decide +kernel
theorem dX9_room_130 : decode cX9_room 130 = .ok (.goto (-68), 3) := by decide +kernel
theorem dX9_room_133 : decode cX9_room 133 = .ok (.iload 4, 2) := by decide +kernel
theorem dX9_room_135 : decode cX9_room 135 = .ok (.ifCond .eq 5, 3) := by decide +kernel
theorem dX9_room_138 : decode cX9_room 138 = .ok (.iload_n 3, 1) := by decide +kernel
theorem dX9_room_139 : decode cX9_room 139 = .ok (.ireturn, 1) := by decide +kernel
theorem dX9_room_140 : decode cX9_room 140 = .ok (.aload_n 0, 1) := by decide +kernel
theorem dX9_room_141 : decode cX9_room 141 = .ok (.aload_n 0, 1) := by decide +kernel
theorem dX9_room_142 : decode cX9_room 142 = .ok (.getfield 75, 3) := by decide +kernel
theorem dX9_room_145 : decode cX9_room 145 = .ok (.iconst 1, 1) := by decide +kernel
theorem dX9_room_146 : decode cX9_room 146 = .ok (.invokevirtual 176, 3) := by decide +kernel
theorem dX9_room_149 : decode cX9_room 149 = .ok (.aload_n 0, 1) := by decide +kernel
theorem dX9_room_150 : decode cX9_room 150 = .ok (.aload_n 0, 1) := by decide +kernel
theorem dX9_room_151 : decode cX9_room 151 = .ok (.getfield 125, 3) := by decide +kernel
theorem dX9_room_154 : decode cX9_room 154 = .ok (.putfield 25, 3) := by decide +kernel
theorem dX9_room_157 : decode cX9_room 157 = .ok (.aload_n 0, 1) := by decide +kernel
theorem dX9_room_158 : decode cX9_room 158 = .ok (.bipush (-6), 2) := by decide +kernel
theorem dX9_room_160 : decode cX9_room 160 = .ok (.invokevirtual 100, 3) := by decide +kernel
theorem dX9_room_163 : decode cX9_room 163 = .ok (.ireturn, 1) := by decide +kernel
theorem dX9_fault_0 : decode cX9_fault 0 = .ok (.aload_n 0, 1) := by decide +kernel
theorem dX9_fault_1 : decode cX9_fault 1 = .ok (.getfield 25, 3) := by decide +kernel
theorem dX9_fault_4 : decode cX9_fault 4 = .ok (.ireturn, 1) := by decide +kernel
theorem dX9_left_0 : decode cX9_left 0 = .ok (.aload_n 0, 1) := by decide +kernel
theorem dX9_left_1 : decode cX9_left 1 = .ok (.getfield 35, 3) := by decide +kernel
theorem dX9_left_4 : decode cX9_left 4 = .ok (.iload_n 1, 1) := by decide +kernel
theorem dX9_left_5 : decode cX9_left 5 = .ok (.iaload, 1) := by decide +kernel
theorem dX9_left_6 : decode cX9_left 6 = .ok (.istore 4, 2) := by decide +kernel
theorem dX9_left_8 : decode cX9_left 8 = .ok (.aload_n 0, 1) := by decide +kernel
theorem dX9_left_9 : decode cX9_left 9 = .ok (.getfield 32, 3) := by decide +kernel
theorem dX9_left_12 : decode cX9_left 12 = .ok (.iload_n 1, 1) := by decide +kernel
theorem dX9_left_13 : decode cX9_left 13 = .ok (.iaload, 1) := by decide +kernel
theorem dX9_left_14 : decode cX9_left 14 = .ok (.tableswitch 114 1 6 #[38, 47, 49, 82, 58, 97], 38) := by decide +kernel
theorem dX9_left_52 : decode cX9_left 52 = .ok (.iload_n 2, 1) := by decide +kernel
theorem dX9_left_53 : decode cX9_left 53 = .ok (.iload_n 2, 1) := by decide +kernel
theorem dX9_left_54 : decode cX9_left 54 = .ok (.aload_n 0, 1) := by decide +kernel
theorem dX9_left_55 : decode cX9_left 55 = .ok (.getfield 13, 3) := by decide +kernel
theorem dX9_left_58 : decode cX9_left 58 = .ok (.irem, 1) := by decide +kernel
theorem dX9_left_59 : decode cX9_left 59 = .ok (.isub, 1) := by decide +kernel
theorem dX9_left_60 : decode cX9_left 60 = .ok (.ireturn, 1) := by decide +kernel
theorem dX9_left_61 : decode cX9_left 61 = .ok (.iload_n 2, 1) := by decide +kernel
theorem dX9_left_62 : decode cX9_left 62 = .ok (.ireturn, 1) := by decide +kernel
theorem dX9_left_63 : decode cX9_left 63 = .ok (.iload_n 2, 1) := by decide +kernel
theorem dX9_left_64 : decode cX9_left 64 = .ok (.iload_n 2, 1) := by decide +kernel
theorem dX9_left_65 : decode cX9_left 65 = .ok (.iload 4, 2) := by decide +kernel
theorem dX9_left_67 : decode cX9_left 67 = .ok (.iconst 2, 1) := by decide +kernel
theorem dX9_left_68 : decode cX9_left 68 = .ok (.iadd, 1) := by decide +kernel
theorem dX9_left_69 : decode cX9_left 69 = .ok (.irem, 1) := by decide +kernel
theorem dX9_left_70 : decode cX9_left 70 = .ok (.isub, 1) := by decide +kernel
theorem dX9_left_71 : decode cX9_left 71 = .ok (.ireturn, 1) := by decide +kernel
theorem dX9_left_72 : decode cX9_left 72 = .ok (.iload_n 2, 1) := by decide +kernel
theorem dX9_left_73 : decode cX9_left 73 = .ok (.aload_n 0, 1) := by decide +kernel
theorem dX9_left_74 : decode cX9_left 74 = .ok (.getfield 13, 3) := by decide +kernel
theorem dX9_left_77 : decode cX9_left 77 = .ok (.irem, 1) := by decide +kernel
theorem dX9_left_78 : decode cX9_left 78 = .ok (.iload 4, 2) := by decide +kernel
theorem dX9_left_80 : decode cX9_left 80 = .ok (.if_icmp .gt 7, 3) := by decide +kernel
theorem dX9_left_83 : decode cX9_left 83 = .ok (.iload_n 2, 1) := by decide +kernel
theorem dX9_left_84 : decode cX9_left 84 = .ok (.goto 11, 3) := by decide +kernel
theorem dX9_left_87 : decode cX9_left 87 = .ok (.iload_n 2, 1) := by decide +kernel
theorem dX9_left_88 : decode cX9_left 88 = .ok (.iload_n 2, 1) := by decide +kernel
theorem dX9_left_89 : decode cX9_left 89 = .ok (.aload_n 0, 1) := by decide +kernel
theorem dX9_left_90 : decode cX9_left 90 = .ok (.getfield 13, 3) := by decide +kernel
theorem dX9_left_93 : decode cX9_left 93 = .ok (.irem, 1) := by decide +kernel
theorem dX9_left_94 : decode cX9_left 94 = .ok (.isub, 1) := by decide +kernel
theorem dX9_left_95 : decode cX9_left 95 = .ok (.ireturn, 1) := by decide +kernel
theorem dX9_left_96 : decode cX9_left 96 = .ok (.iload_n 3, 1) := by decide +kernel
theorem dX9_left_97 : decode cX9_left 97 = .ok (.iload 4, 2) := by decide +kernel
theorem dX9_left_99 : decode cX9_left 99 = .ok (.iconst 1, 1) := by decide +kernel
theorem dX9_left_100 : decode cX9_left 100 = .ok (.iadd, 1) := by decide +kernel
theorem dX9_left_101 : decode cX9_left 101 = .ok (.irem, 1) := by decide +kernel
theorem dX9_left_102 : decode cX9_left 102 = .ok (.ifCond .ne 7, 3) := by decide +kernel
theorem dX9_left_105 : decode cX9_left 105 = .ok (.iconst 0, 1) := by decide +kernel
theorem dX9_left_106 : decode cX9_left 106 = .ok (.goto 4, 3) := by decide +kernel
theorem dX9_left_109 : decode cX9_left 109 = .ok (.iload_n 2, 1) := by decide +kernel
theorem dX9_left_110 : decode cX9_left 110 = .ok (.ireturn, 1) := by decide +kernel
theorem dX9_left_111 : decode cX9_left 111 = .ok (.iload_n 3, 1) := by decide +kernel
theorem dX9_left_112 : decode cX9_left 112 = .ok (.iload 4, 2) := by decide +kernel
theorem dX9_left_114 : decode cX9_left 114 = .ok (.iconst 1, 1) := by decide +kernel
theorem dX9_left_115 : decode cX9_left 115 = .ok (.iadd, 1) := by decide +kernel
theorem dX9_left_116 : decode cX9_left 116 = .ok (.irem, 1) := by decide +kernel
theorem dX9_left_117 : decode cX9_left 117 = .ok (.ifCond .ne 9, 3) := by decide +kernel
theorem dX9_left_120 : decode cX9_left 120 = .ok (.iload_n 2, 1) := by decide +kernel
theorem dX9_left_121 : decode cX9_left 121 = .ok (.iconst 2, 1) := by decide +kernel
theorem dX9_left_122 : decode cX9_left 122 = .ok (.idiv, 1) := by decide +kernel
theorem dX9_left_123 : decode cX9_left 123 = .ok (.goto 4, 3) := by decide +kernel
theorem dX9_left_126 : decode cX9_left 126 = .ok (.iload_n 2, 1) := by decide +kernel
theorem dX9_left_127 : decode cX9_left 127 = .ok (.ireturn, 1) := by decide +kernel
theorem dX9_left_128 : decode cX9_left 128 = .ok (.iconst 0, 1) := by decide +kernel
theorem dX9_left_129 : decode cX9_left 129 = .ok (.ireturn, 1) := by decide +kernel
theorem dX9_breaksOff_0 : decode cX9_breaksOff 0 = .ok (.aload_n 0, 1) := by decide +kernel
theorem dX9_breaksOff_1 : decode cX9_breaksOff 1 = .ok (.getfield 44, 3) := by decide +kernel
theorem dX9_breaksOff_4 : decode cX9_breaksOff 4 = .ok (.iload_n 1, 1) := by decide +kernel
theorem dX9_breaksOff_5 : decode cX9_breaksOff 5 = .ok (.dup2, 1) := by decide +kernel
theorem dX9_breaksOff_6 : decode cX9_breaksOff 6 = .ok (.iaload, 1) := by decide +kernel
theorem dX9_breaksOff_7 : decode cX9_breaksOff 7 = .ok (.iconst 1, 1) := by decide +kernel
theorem dX9_breaksOff_8 : decode cX9_breaksOff 8 = .ok (.iadd, 1) := by decide +kernel
theorem dX9_breaksOff_9 : decode cX9_breaksOff 9 = .ok (.iastore, 1) := by decide +kernel
theorem dX9_breaksOff_10 : decode cX9_breaksOff 10 = .ok (.aload_n 0, 1) := by decide +kernel
theorem dX9_breaksOff_11 : decode cX9_breaksOff 11 = .ok (.getfield 38, 3) := by decide +kernel
theorem dX9_breaksOff_14 : decode cX9_breaksOff 14 = .ok (.iload_n 1, 1) := by decide +kernel
theorem dX9_breaksOff_15 : decode cX9_breaksOff 15 = .ok (.aload_n 0, 1) := by decide +kernel
theorem dX9_breaksOff_16 : decode cX9_breaksOff 16 = .ok (.iload_n 1, 1) := by decide +kernel
theorem dX9_breaksOff_17 : decode cX9_breaksOff 17 = .ok (.aload_n 0, 1) := by decide +kernel
theorem dX9_breaksOff_18 : decode cX9_breaksOff 18 = .ok (.getfield 38, 3) := by decide +kernel
theorem dX9_breaksOff_21 : decode cX9_breaksOff 21 = .ok (.iload_n 1, 1) := by decide +kernel
theorem dX9_breaksOff_22 : decode cX9_breaksOff 22 = .ok (.iaload, 1) := by decide +kernel
theorem dX9_breaksOff_23 : decode cX9_breaksOff 23 = .ok (.aload_n 0, 1) := by decide +kernel
theorem dX9_breaksOff_24 : decode cX9_breaksOff 24 = .ok (.getfield 44, 3) := by decide +kernel
theorem dX9_breaksOff_27 : decode cX9_breaksOff 27 = .ok (.iload_n 1, 1) := by decide +kernel
theorem dX9_breaksOff_28 : decode cX9_breaksOff 28 = .ok (.iaload, 1) := by decide +kernel
theorem dX9_breaksOff_29 : decode cX9_breaksOff 29 = .ok (.invokevirtual 183, 3) := by decide +kernel
theorem dX9_breaksOff_32 : decode cX9_breaksOff 32 = .ok (.iastore, 1) := by decide +kernel
theorem dX9_breaksOff_33 : decode cX9_breaksOff 33 = .ok (.aload_n 0, 1) := by decide +kernel
theorem dX9_breaksOff_34 : decode cX9_breaksOff 34 = .ok (.getfield 32, 3) := by decide +kernel
theorem dX9_breaksOff_37 : decode cX9_breaksOff 37 = .ok (.iload_n 1, 1) := by decide +kernel
theorem dX9_breaksOff_38 : decode cX9_breaksOff 38 = .ok (.iaload, 1) := by decide +kernel
theorem dX9_breaksOff_39 : decode cX9_breaksOff 39 = .ok (.iconst 2, 1) := by decide +kernel
theorem dX9_breaksOff_40 : decode cX9_breaksOff 40 = .ok (.if_icmp .ne 20, 3) := by decide +kernel
theorem dX9_breaksOff_43 : decode cX9_breaksOff 43 = .ok (.aload_n 0, 1) := by decide +kernel
theorem dX9_breaksOff_44 : decode cX9_breaksOff 44 = .ok (.getfield 41, 3) := by decide +kernel
theorem dX9_breaksOff_47 : decode cX9_breaksOff 47 = .ok (.iload_n 1, 1) := by decide +kernel
theorem dX9_breaksOff_48 : decode cX9_breaksOff 48 = .ok (.dup2, 1) := by decide +kernel
theorem dX9_breaksOff_49 : decode cX9_breaksOff 49 = .ok (.iaload, 1) := by decide +kernel
theorem dX9_breaksOff_50 : decode cX9_breaksOff 50 = .ok (.aload_n 0, 1) := by decide +kernel
theorem dX9_breaksOff_51 : decode cX9_breaksOff 51 = .ok (.getfield 35, 3) := by decide +kernel
theorem dX9_breaksOff_54 : decode cX9_breaksOff 54 = .ok (.iload_n 1, 1) := by decide +kernel
theorem dX9_breaksOff_55 : decode cX9_breaksOff 55 = .ok (.iaload, 1) := by decide +kernel
theorem dX9_breaksOff_56 : decode cX9_breaksOff 56 = .ok (.iconst 1, 1) := by decide +kernel
theorem dX9_breaksOff_57 : decode cX9_breaksOff 57 = .ok (.iadd, 1) := by decide +kernel
theorem dX9_breaksOff_58 : decode cX9_breaksOff 58 = .ok (.iadd, 1) := by decide +kernel
theorem dX9_breaksOff_59 : decode cX9_breaksOff 59 = .ok (.iastore, 1) := by decide +kernel
theorem dX9_breaksOff_60 : decode cX9_breaksOff 60 = .ok (.aload_n 0, 1) := by decide +kernel
theorem dX9_breaksOff_61 : decode cX9_breaksOff 61 = .ok (.getfield 32, 3) := by decide +kernel
theorem dX9_breaksOff_64 : decode cX9_breaksOff 64 = .ok (.iload_n 1, 1) := by decide +kernel
theorem dX9_breaksOff_65 : decode cX9_breaksOff 65 = .ok (.iaload, 1) := by decide +kernel
theorem dX9_breaksOff_66 : decode cX9_breaksOff 66 = .ok (.iconst 3, 1) := by decide +kernel
theorem dX9_breaksOff_67 : decode cX9_breaksOff 67 = .ok (.if_icmp .ne 13, 3) := by decide +kernel
theorem dX9_breaksOff_70 : decode cX9_breaksOff 70 = .ok (.aload_n 0, 1) := by decide +kernel
theorem dX9_breaksOff_71 : decode cX9_breaksOff 71 = .ok (.getfield 41, 3) := by decide +kernel
theorem dX9_breaksOff_74 : decode cX9_breaksOff 74 = .ok (.iload_n 1, 1) := by decide +kernel
theorem dX9_breaksOff_75 : decode cX9_breaksOff 75 = .ok (.dup2, 1) := by decide +kernel
theorem dX9_breaksOff_76 : decode cX9_breaksOff 76 = .ok (.iaload, 1) := by decide +kernel
theorem dX9_breaksOff_77 : decode cX9_breaksOff 77 = .ok (.iconst 1, 1) := by decide +kernel
theorem dX9_breaksOff_78 : decode cX9_breaksOff 78 = .ok (.iadd, 1) := by decide +kernel
theorem dX9_breaksOff_79 : decode cX9_breaksOff 79 = .ok (.iastore, 1) := by decide +kernel
theorem dX9_breaksOff_80 : decode cX9_breaksOff 80 = .ok (.return_, 1) := by decide +kernel
theorem dX9_back_0 : decode cX9_back 0 = .ok (.aload_n 0, 1) := by decide +kernel
theorem dX9_back_1 : decode cX9_back 1 = .ok (.iload_n 1, 1) := by decide +kernel
theorem dX9_back_2 : decode cX9_back 2 = .ok (.invokevirtual 104, 3) := by decide +kernel
theorem dX9_back_5 : decode cX9_back 5 = .ok (.ifCond .ne 9, 3) := by decide +kernel
theorem dX9_back_8 : decode cX9_back 8 = .ok (.aload_n 0, 1) := by decide +kernel
theorem dX9_back_9 : decode cX9_back 9 = .ok (.iconst (-1), 1) := by decide +kernel
theorem dX9_back_10 : decode cX9_back 10 = .ok (.invokevirtual 100, 3) := by decide +kernel
theorem dX9_back_13 : decode cX9_back 13 = .ok (.ireturn, 1) := by decide +kernel
theorem dX9_back_14 : decode cX9_back 14 = .ok (.aload_n 0, 1) := by decide +kernel
theorem dX9_back_15 : decode cX9_back 15 = .ok (.getfield 38, 3) := by decide +kernel
theorem dX9_back_18 : decode cX9_back 18 = .ok (.iload_n 1, 1) := by decide +kernel
theorem dX9_back_19 : decode cX9_back 19 = .ok (.iaload, 1) := by decide +kernel
theorem dX9_back_20 : decode cX9_back 20 = .ok (.aload_n 0, 1) := by decide +kernel
theorem dX9_back_21 : decode cX9_back 21 = .ok (.getfield 7, 3) := by decide +kernel
theorem dX9_back_24 : decode cX9_back 24 = .ok (.if_icmp .ne 12, 3) := by decide +kernel
theorem dX9_back_27 : decode cX9_back 27 = .ok (.aload_n 0, 1) := by decide +kernel
theorem dX9_back_28 : decode cX9_back 28 = .ok (.bipush (-6), 2) := by decide +kernel
theorem dX9_back_30 : decode cX9_back 30 = .ok (.invokevirtual 100, 3) := by decide +kernel
theorem dX9_back_33 : decode cX9_back 33 = .ok (.goto 22, 3) := by decide +kernel
theorem dX9_back_36 : decode cX9_back 36 = .ok (.aload_n 0, 1) := by decide +kernel
theorem dX9_back_37 : decode cX9_back 37 = .ok (.iload_n 1, 1) := by decide +kernel
theorem dX9_back_38 : decode cX9_back 38 = .ok (.aload_n 0, 1) := by decide +kernel
theorem dX9_back_39 : decode cX9_back 39 = .ok (.getfield 38, 3) := by decide +kernel
theorem dX9_back_42 : decode cX9_back 42 = .ok (.iload_n 1, 1) := by decide +kernel
theorem dX9_back_43 : decode cX9_back 43 = .ok (.iaload, 1) := by decide +kernel
theorem dX9_back_44 : decode cX9_back 44 = .ok (.aload_n 0, 1) := by decide +kernel
theorem dX9_back_45 : decode cX9_back 45 = .ok (.getfield 44, 3) := by decide +kernel
theorem dX9_back_48 : decode cX9_back 48 = .ok (.iload_n 1, 1) := by decide +kernel
theorem dX9_back_49 : decode cX9_back 49 = .ok (.iaload, 1) := by decide +kernel
theorem dX9_back_50 : decode cX9_back 50 = .ok (.iconst 1, 1) := by decide +kernel
theorem dX9_back_51 : decode cX9_back 51 = .ok (.iadd, 1) := by decide +kernel
theorem dX9_back_52 : decode cX9_back 52 = .ok (.invokevirtual 183, 3) := by decide +kernel
theorem dX9_back_55 : decode cX9_back 55 = .ok (.ireturn, 1) := by decide +kernel
theorem dX9_begins_0 : decode cX9_begins 0 = .ok (.aload_n 0, 1) := by decide +kernel
theorem dX9_begins_1 : decode cX9_begins 1 = .ok (.aload_n 0, 1) := by decide +kernel
theorem dX9_begins_2 : decode cX9_begins 2 = .ok (.getfield 38, 3) := by decide +kernel
theorem dX9_begins_5 : decode cX9_begins 5 = .ok (.iload_n 1, 1) := by decide +kernel
theorem dX9_begins_6 : decode cX9_begins 6 = .ok (.iaload, 1) := by decide +kernel
theorem dX9_begins_7 : decode cX9_begins 7 = .ok (.putfield 187, 3) := by decide +kernel
theorem dX9_begins_10 : decode cX9_begins 10 = .ok (.aload_n 0, 1) := by decide +kernel
theorem dX9_begins_11 : decode cX9_begins 11 = .ok (.aload_n 0, 1) := by decide +kernel
theorem dX9_begins_12 : decode cX9_begins 12 = .ok (.getfield 41, 3) := by decide +kernel
theorem dX9_begins_15 : decode cX9_begins 15 = .ok (.iload_n 1, 1) := by decide +kernel
theorem dX9_begins_16 : decode cX9_begins 16 = .ok (.iaload, 1) := by decide +kernel
theorem dX9_begins_17 : decode cX9_begins 17 = .ok (.putfield 190, 3) := by decide +kernel
theorem dX9_begins_20 : decode cX9_begins 20 = .ok (.aload_n 0, 1) := by decide +kernel
theorem dX9_begins_21 : decode cX9_begins 21 = .ok (.aload_n 0, 1) := by decide +kernel
theorem dX9_begins_22 : decode cX9_begins 22 = .ok (.getfield 44, 3) := by decide +kernel
theorem dX9_begins_25 : decode cX9_begins 25 = .ok (.iload_n 1, 1) := by decide +kernel
theorem dX9_begins_26 : decode cX9_begins 26 = .ok (.iaload, 1) := by decide +kernel
theorem dX9_begins_27 : decode cX9_begins 27 = .ok (.putfield 193, 3) := by decide +kernel
theorem dX9_begins_30 : decode cX9_begins 30 = .ok (.aload_n 0, 1) := by decide +kernel
theorem dX9_begins_31 : decode cX9_begins 31 = .ok (.iconst 0, 1) := by decide +kernel
theorem dX9_begins_32 : decode cX9_begins 32 = .ok (.putfield 196, 3) := by decide +kernel
theorem dX9_begins_35 : decode cX9_begins 35 = .ok (.return_, 1) := by decide +kernel
theorem dX9_goes_0 : decode cX9_goes 0 = .ok (.aload_n 0, 1) := by decide +kernel
theorem dX9_goes_1 : decode cX9_goes 1 = .ok (.getfield 196, 3) := by decide +kernel
theorem dX9_goes_4 : decode cX9_goes 4 = .ok (.iload 4, 2) := by decide +kernel
theorem dX9_goes_6 : decode cX9_goes 6 = .ok (.if_icmp .ge 20, 3) := by decide +kernel
theorem dX9_goes_9 : decode cX9_goes 9 = .ok (.aload_n 0, 1) := by decide +kernel
theorem dX9_goes_10 : decode cX9_goes 10 = .ok (.iload_n 3, 1) := by decide +kernel
theorem dX9_goes_11 : decode cX9_goes 11 = .ok (.aload_n 0, 1) := by decide +kernel
theorem dX9_goes_12 : decode cX9_goes 12 = .ok (.getfield 196, 3) := by decide +kernel
theorem dX9_goes_15 : decode cX9_goes 15 = .ok (.invokevirtual 110, 3) := by decide +kernel
theorem dX9_goes_18 : decode cX9_goes 18 = .ok (.iload_n 2, 1) := by decide +kernel
theorem dX9_goes_19 : decode cX9_goes 19 = .ok (.if_icmp .ne 7, 3) := by decide +kernel
theorem dX9_goes_22 : decode cX9_goes 22 = .ok (.iconst 1, 1) := by decide +kernel
theorem dX9_goes_23 : decode cX9_goes 23 = .ok (.goto 4, 3) := by decide +kernel
theorem dX9_goes_26 : decode cX9_goes 26 = .ok (.iconst 0, 1) := by decide +kernel
theorem dX9_goes_27 : decode cX9_goes 27 = .ok (.istore 5, 2) := by decide +kernel
theorem dX9_goes_29 : decode cX9_goes 29 = .ok (.iload 5, 2) := by decide +kernel
theorem dX9_goes_31 : decode cX9_goes 31 = .ok (.ifCond .eq 13, 3) := by decide +kernel
theorem dX9_goes_34 : decode cX9_goes 34 = .ok (.aload_n 0, 1) := by decide +kernel
theorem dX9_goes_35 : decode cX9_goes 35 = .ok (.dup, 1) := by decide +kernel
theorem dX9_goes_36 : decode cX9_goes 36 = .ok (.getfield 196, 3) := by decide +kernel
theorem dX9_goes_39 : decode cX9_goes 39 = .ok (.iconst 1, 1) := by decide +kernel
theorem dX9_goes_40 : decode cX9_goes 40 = .ok (.iadd, 1) := by decide +kernel
theorem dX9_goes_41 : decode cX9_goes 41 = .ok (.putfield 196, 3) := by decide +kernel
theorem dX9_goes_44 : decode cX9_goes 44 = .ok (.aload_n 0, 1) := by decide +kernel
theorem dX9_goes_45 : decode cX9_goes 45 = .ok (.getfield 187, 3) := by decide +kernel
theorem dX9_goes_48 : decode cX9_goes 48 = .ok (.aload_n 0, 1) := by decide +kernel
theorem dX9_goes_49 : decode cX9_goes 49 = .ok (.getfield 7, 3) := by decide +kernel
theorem dX9_goes_52 : decode cX9_goes 52 = .ok (.if_icmp .ne 4, 3) := by decide +kernel
theorem dX9_goes_55 : decode cX9_goes 55 = .ok (.return_, 1) := by decide +kernel
theorem dX9_goes_56 : decode cX9_goes 56 = .ok (.iload 5, 2) := by decide +kernel
theorem dX9_goes_58 : decode cX9_goes 58 = .ok (.ifCond .ne 14, 3) := by decide +kernel
theorem dX9_goes_61 : decode cX9_goes 61 = .ok (.aload_n 0, 1) := by decide +kernel
theorem dX9_goes_62 : decode cX9_goes 62 = .ok (.dup, 1) := by decide +kernel
theorem dX9_goes_63 : decode cX9_goes 63 = .ok (.getfield 187, 3) := by decide +kernel
theorem dX9_goes_66 : decode cX9_goes 66 = .ok (.iconst 1, 1) := by decide +kernel
theorem dX9_goes_67 : decode cX9_goes 67 = .ok (.iadd, 1) := by decide +kernel
theorem dX9_goes_68 : decode cX9_goes 68 = .ok (.putfield 187, 3) := by decide +kernel
theorem dX9_goes_71 : decode cX9_goes 71 = .ok (.return_, 1) := by decide +kernel
theorem dX9_goes_72 : decode cX9_goes 72 = .ok (.aload_n 0, 1) := by decide +kernel
theorem dX9_goes_73 : decode cX9_goes 73 = .ok (.dup, 1) := by decide +kernel
theorem dX9_goes_74 : decode cX9_goes 74 = .ok (.getfield 193, 3) := by decide +kernel
theorem dX9_goes_77 : decode cX9_goes 77 = .ok (.iconst 1, 1) := by decide +kernel
theorem dX9_goes_78 : decode cX9_goes 78 = .ok (.iadd, 1) := by decide +kernel
theorem dX9_goes_79 : decode cX9_goes 79 = .ok (.putfield 193, 3) := by decide +kernel
theorem dX9_goes_82 : decode cX9_goes 82 = .ok (.aload_n 0, 1) := by decide +kernel
theorem dX9_goes_83 : decode cX9_goes 83 = .ok (.aload_n 0, 1) := by decide +kernel
theorem dX9_goes_84 : decode cX9_goes 84 = .ok (.iload_n 1, 1) := by decide +kernel
theorem dX9_goes_85 : decode cX9_goes 85 = .ok (.aload_n 0, 1) := by decide +kernel
theorem dX9_goes_86 : decode cX9_goes 86 = .ok (.getfield 187, 3) := by decide +kernel
theorem dX9_goes_89 : decode cX9_goes 89 = .ok (.aload_n 0, 1) := by decide +kernel
theorem dX9_goes_90 : decode cX9_goes 90 = .ok (.getfield 193, 3) := by decide +kernel
theorem dX9_goes_93 : decode cX9_goes 93 = .ok (.invokevirtual 183, 3) := by decide +kernel
theorem dX9_goes_96 : decode cX9_goes 96 = .ok (.putfield 187, 3) := by decide +kernel
theorem dX9_goes_99 : decode cX9_goes 99 = .ok (.aload_n 0, 1) := by decide +kernel
theorem dX9_goes_100 : decode cX9_goes 100 = .ok (.getfield 32, 3) := by decide +kernel
theorem dX9_goes_103 : decode cX9_goes 103 = .ok (.iload_n 1, 1) := by decide +kernel
theorem dX9_goes_104 : decode cX9_goes 104 = .ok (.iaload, 1) := by decide +kernel
theorem dX9_goes_105 : decode cX9_goes 105 = .ok (.iconst 2, 1) := by decide +kernel
theorem dX9_goes_106 : decode cX9_goes 106 = .ok (.if_icmp .ne 20, 3) := by decide +kernel
theorem dX9_goes_109 : decode cX9_goes 109 = .ok (.aload_n 0, 1) := by decide +kernel
theorem dX9_goes_110 : decode cX9_goes 110 = .ok (.dup, 1) := by decide +kernel
theorem dX9_goes_111 : decode cX9_goes 111 = .ok (.getfield 190, 3) := by decide +kernel
theorem dX9_goes_114 : decode cX9_goes 114 = .ok (.aload_n 0, 1) := by decide +kernel
theorem dX9_goes_115 : decode cX9_goes 115 = .ok (.getfield 35, 3) := by decide +kernel
theorem dX9_goes_118 : decode cX9_goes 118 = .ok (.iload_n 1, 1) := by decide +kernel
theorem dX9_goes_119 : decode cX9_goes 119 = .ok (.iaload, 1) := by decide +kernel
theorem dX9_goes_120 : decode cX9_goes 120 = .ok (.iconst 1, 1) := by decide +kernel
theorem dX9_goes_121 : decode cX9_goes 121 = .ok (.iadd, 1) := by decide +kernel
theorem dX9_goes_122 : decode cX9_goes 122 = .ok (.iadd, 1) := by decide +kernel
theorem dX9_goes_123 : decode cX9_goes 123 = .ok (.putfield 190, 3) := by decide +kernel
theorem dX9_goes_126 : decode cX9_goes 126 = .ok (.aload_n 0, 1) := by decide +kernel
theorem dX9_goes_127 : decode cX9_goes 127 = .ok (.getfield 32, 3) := by decide +kernel
theorem dX9_goes_130 : decode cX9_goes 130 = .ok (.iload_n 1, 1) := by decide +kernel
theorem dX9_goes_131 : decode cX9_goes 131 = .ok (.iaload, 1) := by decide +kernel
theorem dX9_goes_132 : decode cX9_goes 132 = .ok (.iconst 3, 1) := by decide +kernel
theorem dX9_goes_133 : decode cX9_goes 133 = .ok (.if_icmp .ne 13, 3) := by decide +kernel
theorem dX9_goes_136 : decode cX9_goes 136 = .ok (.aload_n 0, 1) := by decide +kernel
theorem dX9_goes_137 : decode cX9_goes 137 = .ok (.dup, 1) := by decide +kernel
theorem dX9_goes_138 : decode cX9_goes 138 = .ok (.getfield 190, 3) := by decide +kernel
theorem dX9_goes_141 : decode cX9_goes 141 = .ok (.iconst 1, 1) := by decide +kernel
theorem dX9_goes_142 : decode cX9_goes 142 = .ok (.iadd, 1) := by decide +kernel
theorem dX9_goes_143 : decode cX9_goes 143 = .ok (.putfield 190, 3) := by decide +kernel
theorem dX9_goes_146 : decode cX9_goes 146 = .ok (.return_, 1) := by decide +kernel
theorem dX9_throughBy_0 : decode cX9_throughBy 0 = .ok (.aload_n 0, 1) := by decide +kernel
theorem dX9_throughBy_1 : decode cX9_throughBy 1 = .ok (.iload_n 1, 1) := by decide +kernel
theorem dX9_throughBy_2 : decode cX9_throughBy 2 = .ok (.invokevirtual 199, 3) := by decide +kernel
theorem dX9_throughBy_5 : decode cX9_throughBy 5 = .ok (.iconst 0, 1) := by decide +kernel
theorem dX9_throughBy_6 : decode cX9_throughBy 6 = .ok (.istore 4, 2) := by decide +kernel
theorem dX9_throughBy_8 : decode cX9_throughBy 8 = .ok (.iload 4, 2) := by decide +kernel
theorem dX9_throughBy_10 : decode cX9_throughBy 10 = .ok (.sipush 400, 3) := by decide +kernel
theorem dX9_throughBy_13 : decode cX9_throughBy 13 = .ok (.if_icmp .gt 34, 3) := by decide +kernel
theorem dX9_throughBy_16 : decode cX9_throughBy 16 = .ok (.aload_n 0, 1) := by decide +kernel
theorem dX9_throughBy_17 : decode cX9_throughBy 17 = .ok (.getfield 187, 3) := by decide +kernel
theorem dX9_throughBy_20 : decode cX9_throughBy 20 = .ok (.aload_n 0, 1) := by decide +kernel
theorem dX9_throughBy_21 : decode cX9_throughBy 21 = .ok (.getfield 7, 3) := by decide +kernel
theorem dX9_throughBy_24 : decode cX9_throughBy 24 = .ok (.if_icmp .ne 6, 3) := by decide +kernel
theorem dX9_throughBy_27 : decode cX9_throughBy 27 = .ok (.iload 4, 2) := by decide +kernel
theorem dX9_throughBy_29 : decode cX9_throughBy 29 = .ok (.ireturn, 1) := by decide +kernel
theorem dX9_throughBy_30 : decode cX9_throughBy 30 = .ok (.aload_n 0, 1) := by decide +kernel
theorem dX9_throughBy_31 : decode cX9_throughBy 31 = .ok (.iload_n 1, 1) := by decide +kernel
theorem dX9_throughBy_32 : decode cX9_throughBy 32 = .ok (.iload 4, 2) := by decide +kernel
theorem dX9_throughBy_34 : decode cX9_throughBy 34 = .ok (.iconst 1, 1) := by decide +kernel
theorem dX9_throughBy_35 : decode cX9_throughBy 35 = .ok (.iadd, 1) := by decide +kernel
theorem dX9_throughBy_36 : decode cX9_throughBy 36 = .ok (.iload_n 2, 1) := by decide +kernel
theorem dX9_throughBy_37 : decode cX9_throughBy 37 = .ok (.iload_n 3, 1) := by decide +kernel
theorem dX9_throughBy_38 : decode cX9_throughBy 38 = .ok (.invokevirtual 202, 3) := by decide +kernel
theorem dX9_throughBy_41 : decode cX9_throughBy 41 = .ok (.iinc 4 1, 3) := by decide +kernel
theorem dX9_throughBy_44 : decode cX9_throughBy 44 = .ok (.goto (-36), 3) := by decide +kernel
theorem dX9_throughBy_47 : decode cX9_throughBy 47 = .ok (.iconst (-1), 1) := by decide +kernel
theorem dX9_throughBy_48 : decode cX9_throughBy 48 = .ok (.ireturn, 1) := by decide +kernel
theorem dX9_run_0 : decode cX9_run 0 = .ok (.aload_n 0, 1) := by decide +kernel
theorem dX9_run_1 : decode cX9_run 1 = .ok (.iload_n 2, 1) := by decide +kernel
theorem dX9_run_2 : decode cX9_run 2 = .ok (.invokevirtual 96, 3) := by decide +kernel
theorem dX9_run_5 : decode cX9_run 5 = .ok (.ifCond .eq 15, 3) := by decide +kernel
theorem dX9_run_8 : decode cX9_run 8 = .ok (.aload_n 0, 1) := by decide +kernel
theorem dX9_run_9 : decode cX9_run 9 = .ok (.iload_n 1, 1) := by decide +kernel
theorem dX9_run_10 : decode cX9_run 10 = .ok (.invokevirtual 104, 3) := by decide +kernel
theorem dX9_run_13 : decode cX9_run 13 = .ok (.ifCond .ne 7, 3) := by decide +kernel
theorem dX9_run_16 : decode cX9_run 16 = .ok (.iconst (-1), 1) := by decide +kernel
theorem dX9_run_17 : decode cX9_run 17 = .ok (.goto 9, 3) := by decide +kernel
theorem dX9_run_20 : decode cX9_run 20 = .ok (.aload_n 0, 1) := by decide +kernel
theorem dX9_run_21 : decode cX9_run 21 = .ok (.iload_n 2, 1) := by decide +kernel
theorem dX9_run_22 : decode cX9_run 22 = .ok (.iload_n 3, 1) := by decide +kernel
theorem dX9_run_23 : decode cX9_run 23 = .ok (.invokevirtual 206, 3) := by decide +kernel
theorem dX9_run_26 : decode cX9_run 26 = .ok (.istore 6, 2) := by decide +kernel
theorem dX9_run_28 : decode cX9_run 28 = .ok (.iload 6, 2) := by decide +kernel
theorem dX9_run_30 : decode cX9_run 30 = .ok (.ifCond .ne 18, 3) := by decide +kernel
theorem dX9_run_33 : decode cX9_run 33 = .ok (.iload 5, 2) := by decide +kernel
theorem dX9_run_35 : decode cX9_run 35 = .ok (.ifCond .lt 9, 3) := by decide +kernel
theorem dX9_run_38 : decode cX9_run 38 = .ok (.iload 5, 2) := by decide +kernel
theorem dX9_run_40 : decode cX9_run 40 = .ok (.iconst 2, 1) := by decide +kernel
theorem dX9_run_41 : decode cX9_run 41 = .ok (.if_icmp .le 7, 3) := by decide +kernel
theorem dX9_run_44 : decode cX9_run 44 = .ok (.bipush (-5), 2) := by decide +kernel
theorem dX9_run_46 : decode cX9_run 46 = .ok (.istore 6, 2) := by decide +kernel
theorem dX9_run_48 : decode cX9_run 48 = .ok (.iload 6, 2) := by decide +kernel
theorem dX9_run_50 : decode cX9_run 50 = .ok (.ifCond .ne 35, 3) := by decide +kernel
theorem dX9_run_53 : decode cX9_run 53 = .ok (.iload_n 3, 1) := by decide +kernel
theorem dX9_run_54 : decode cX9_run 54 = .ok (.bipush 40, 2) := by decide +kernel
theorem dX9_run_56 : decode cX9_run 56 = .ok (.if_icmp .gt 25, 3) := by decide +kernel
theorem dX9_run_59 : decode cX9_run 59 = .ok (.iload 4, 2) := by decide +kernel
theorem dX9_run_61 : decode cX9_run 61 = .ok (.ifCond .lt 20, 3) := by decide +kernel
theorem dX9_run_64 : decode cX9_run 64 = .ok (.iload 4, 2) := by decide +kernel
theorem dX9_run_66 : decode cX9_run 66 = .ok (.sipush 400, 3) := by decide +kernel
theorem dX9_run_69 : decode cX9_run 69 = .ok (.if_icmp .gt 12, 3) := by decide +kernel
theorem dX9_run_72 : decode cX9_run 72 = .ok (.aload_n 0, 1) := by decide +kernel
theorem dX9_run_73 : decode cX9_run 73 = .ok (.iload_n 2, 1) := by decide +kernel
theorem dX9_run_74 : decode cX9_run 74 = .ok (.iload_n 3, 1) := by decide +kernel
theorem dX9_run_75 : decode cX9_run 75 = .ok (.invokevirtual 209, 3) := by decide +kernel
theorem dX9_run_78 : decode cX9_run 78 = .ok (.ifCond .ne 7, 3) := by decide +kernel
theorem dX9_run_81 : decode cX9_run 81 = .ok (.bipush (-6), 2) := by decide +kernel
theorem dX9_run_83 : decode cX9_run 83 = .ok (.istore 6, 2) := by decide +kernel
theorem dX9_run_85 : decode cX9_run 85 = .ok (.iload 6, 2) := by decide +kernel
theorem dX9_run_87 : decode cX9_run 87 = .ok (.ifCond .eq 10, 3) := by decide +kernel
theorem dX9_run_90 : decode cX9_run 90 = .ok (.aload_n 0, 1) := by decide +kernel
theorem dX9_run_91 : decode cX9_run 91 = .ok (.iload 6, 2) := by decide +kernel
theorem dX9_run_93 : decode cX9_run 93 = .ok (.invokevirtual 100, 3) := by decide +kernel
theorem dX9_run_96 : decode cX9_run 96 = .ok (.ireturn, 1) := by decide +kernel
theorem dX9_run_97 : decode cX9_run 97 = .ok (.aload_n 0, 1) := by decide +kernel
theorem dX9_run_98 : decode cX9_run 98 = .ok (.iload_n 1, 1) := by decide +kernel
theorem dX9_run_99 : decode cX9_run 99 = .ok (.invokevirtual 199, 3) := by decide +kernel
theorem dX9_run_102 : decode cX9_run 102 = .ok (.iconst 1, 1) := by decide +kernel
theorem dX9_run_103 : decode cX9_run 103 = .ok (.istore 7, 2) := by decide +kernel
theorem dX9_run_105 : decode cX9_run 105 = .ok (.iload 7, 2) := by decide +kernel
theorem dX9_run_107 : decode cX9_run 107 = .ok (.iload 4, 2) := by decide +kernel
theorem dX9_run_109 : decode cX9_run 109 = .ok (.if_icmp .gt 18, 3) := by decide +kernel
theorem dX9_run_112 : decode cX9_run 112 = .ok (.aload_n 0, 1) := by decide +kernel
theorem dX9_run_113 : decode cX9_run 113 = .ok (.iload_n 1, 1) := by decide +kernel
theorem dX9_run_114 : decode cX9_run 114 = .ok (.iload 7, 2) := by decide +kernel
theorem dX9_run_116 : decode cX9_run 116 = .ok (.iload_n 2, 1) := by decide +kernel
theorem dX9_run_117 : decode cX9_run 117 = .ok (.iload_n 3, 1) := by decide +kernel
theorem dX9_run_118 : decode cX9_run 118 = .ok (.invokevirtual 202, 3) := by decide +kernel
theorem dX9_run_121 : decode cX9_run 121 = .ok (.iinc 7 1, 3) := by decide +kernel
theorem dX9_run_124 : decode cX9_run 124 = .ok (.goto (-19), 3) := by decide +kernel
theorem dX9_run_127 : decode cX9_run 127 = .ok (.iload 5, 2) := by decide +kernel
theorem dX9_run_129 : decode cX9_run 129 = .ok (.ifCond .ne 10, 3) := by decide +kernel
theorem dX9_run_132 : decode cX9_run 132 = .ok (.aload_n 0, 1) := by decide +kernel
theorem dX9_run_133 : decode cX9_run 133 = .ok (.getfield 187, 3) := by decide +kernel
theorem dX9_run_136 : decode cX9_run 136 = .ok (.goto 20, 3) := by decide +kernel
theorem dX9_run_139 : decode cX9_run 139 = .ok (.iload 5, 2) := by decide +kernel
theorem dX9_run_141 : decode cX9_run 141 = .ok (.iconst 1, 1) := by decide +kernel
theorem dX9_run_142 : decode cX9_run 142 = .ok (.if_icmp .ne 10, 3) := by decide +kernel
theorem dX9_run_145 : decode cX9_run 145 = .ok (.aload_n 0, 1) := by decide +kernel
theorem dX9_run_146 : decode cX9_run 146 = .ok (.getfield 190, 3) := by decide +kernel
theorem dX9_run_149 : decode cX9_run 149 = .ok (.goto 7, 3) := by decide +kernel
theorem dX9_run_152 : decode cX9_run 152 = .ok (.aload_n 0, 1) := by decide +kernel
theorem dX9_run_153 : decode cX9_run 153 = .ok (.getfield 193, 3) := by decide +kernel
theorem dX9_run_156 : decode cX9_run 156 = .ok (.ireturn, 1) := by decide +kernel
theorem dX9_through_0 : decode cX9_through 0 = .ok (.aload_n 0, 1) := by decide +kernel
theorem dX9_through_1 : decode cX9_through 1 = .ok (.iload_n 2, 1) := by decide +kernel
theorem dX9_through_2 : decode cX9_through 2 = .ok (.invokevirtual 96, 3) := by decide +kernel
theorem dX9_through_5 : decode cX9_through 5 = .ok (.ifCond .eq 15, 3) := by decide +kernel
theorem dX9_through_8 : decode cX9_through 8 = .ok (.aload_n 0, 1) := by decide +kernel
theorem dX9_through_9 : decode cX9_through 9 = .ok (.iload_n 1, 1) := by decide +kernel
theorem dX9_through_10 : decode cX9_through 10 = .ok (.invokevirtual 104, 3) := by decide +kernel
theorem dX9_through_13 : decode cX9_through 13 = .ok (.ifCond .ne 7, 3) := by decide +kernel
theorem dX9_through_16 : decode cX9_through 16 = .ok (.iconst (-1), 1) := by decide +kernel
theorem dX9_through_17 : decode cX9_through 17 = .ok (.goto 9, 3) := by decide +kernel
theorem dX9_through_20 : decode cX9_through 20 = .ok (.aload_n 0, 1) := by decide +kernel
theorem dX9_through_21 : decode cX9_through 21 = .ok (.iload_n 2, 1) := by decide +kernel
theorem dX9_through_22 : decode cX9_through 22 = .ok (.iload_n 3, 1) := by decide +kernel
theorem dX9_through_23 : decode cX9_through 23 = .ok (.invokevirtual 206, 3) := by decide +kernel
theorem dX9_through_26 : decode cX9_through 26 = .ok (.istore 4, 2) := by decide +kernel
theorem dX9_through_28 : decode cX9_through 28 = .ok (.iload 4, 2) := by decide +kernel
theorem dX9_through_30 : decode cX9_through 30 = .ok (.ifCond .ne 22, 3) := by decide +kernel
theorem dX9_through_33 : decode cX9_through 33 = .ok (.iload_n 3, 1) := by decide +kernel
theorem dX9_through_34 : decode cX9_through 34 = .ok (.bipush 40, 2) := by decide +kernel
theorem dX9_through_36 : decode cX9_through 36 = .ok (.if_icmp .gt 12, 3) := by decide +kernel
theorem dX9_through_39 : decode cX9_through 39 = .ok (.aload_n 0, 1) := by decide +kernel
theorem dX9_through_40 : decode cX9_through 40 = .ok (.iload_n 2, 1) := by decide +kernel
theorem dX9_through_41 : decode cX9_through 41 = .ok (.iload_n 3, 1) := by decide +kernel
theorem dX9_through_42 : decode cX9_through 42 = .ok (.invokevirtual 209, 3) := by decide +kernel
theorem dX9_through_45 : decode cX9_through 45 = .ok (.ifCond .ne 7, 3) := by decide +kernel
theorem dX9_through_48 : decode cX9_through 48 = .ok (.bipush (-6), 2) := by decide +kernel
theorem dX9_through_50 : decode cX9_through 50 = .ok (.istore 4, 2) := by decide +kernel
theorem dX9_through_52 : decode cX9_through 52 = .ok (.iload 4, 2) := by decide +kernel
theorem dX9_through_54 : decode cX9_through 54 = .ok (.ifCond .eq 12, 3) := by decide +kernel
theorem dX9_through_57 : decode cX9_through 57 = .ok (.aload_n 0, 1) := by decide +kernel
theorem dX9_through_58 : decode cX9_through 58 = .ok (.iload 4, 2) := by decide +kernel
theorem dX9_through_60 : decode cX9_through 60 = .ok (.invokevirtual 212, 3) := by decide +kernel
theorem dX9_through_63 : decode cX9_through 63 = .ok (.goto 10, 3) := by decide +kernel
theorem dX9_through_66 : decode cX9_through 66 = .ok (.aload_n 0, 1) := by decide +kernel
theorem dX9_through_67 : decode cX9_through 67 = .ok (.iload_n 1, 1) := by decide +kernel
theorem dX9_through_68 : decode cX9_through 68 = .ok (.iload_n 2, 1) := by decide +kernel
theorem dX9_through_69 : decode cX9_through 69 = .ok (.iload_n 3, 1) := by decide +kernel
theorem dX9_through_70 : decode cX9_through 70 = .ok (.invokevirtual 215, 3) := by decide +kernel
theorem dX9_through_73 : decode cX9_through 73 = .ok (.ireturn, 1) := by decide +kernel
theorem dX9_isDull_0 : decode cX9_isDull 0 = .ok (.aload_n 0, 1) := by decide +kernel
theorem dX9_isDull_1 : decode cX9_isDull 1 = .ok (.getfield 32, 3) := by decide +kernel
theorem dX9_isDull_4 : decode cX9_isDull 4 = .ok (.iload_n 1, 1) := by decide +kernel
theorem dX9_isDull_5 : decode cX9_isDull 5 = .ok (.iaload, 1) := by decide +kernel
theorem dX9_isDull_6 : decode cX9_isDull 6 = .ok (.iconst 4, 1) := by decide +kernel
theorem dX9_isDull_7 : decode cX9_isDull 7 = .ok (.if_icmp .eq 14, 3) := by decide +kernel
theorem dX9_isDull_10 : decode cX9_isDull 10 = .ok (.aload_n 0, 1) := by decide +kernel
theorem dX9_isDull_11 : decode cX9_isDull 11 = .ok (.getfield 32, 3) := by decide +kernel
theorem dX9_isDull_14 : decode cX9_isDull 14 = .ok (.iload_n 1, 1) := by decide +kernel
theorem dX9_isDull_15 : decode cX9_isDull 15 = .ok (.iaload, 1) := by decide +kernel
theorem dX9_isDull_16 : decode cX9_isDull 16 = .ok (.bipush 6, 2) := by decide +kernel
theorem dX9_isDull_18 : decode cX9_isDull 18 = .ok (.if_icmp .ne 7, 3) := by decide +kernel
theorem dX9_isDull_21 : decode cX9_isDull 21 = .ok (.iconst 1, 1) := by decide +kernel
theorem dX9_isDull_22 : decode cX9_isDull 22 = .ok (.goto 4, 3) := by decide +kernel
theorem dX9_isDull_25 : decode cX9_isDull 25 = .ok (.iconst 0, 1) := by decide +kernel
theorem dX9_isDull_26 : decode cX9_isDull 26 = .ok (.ireturn, 1) := by decide +kernel
theorem dX9_turnsOf_0 : decode cX9_turnsOf 0 = .ok (.aload_n 0, 1) := by decide +kernel
theorem dX9_turnsOf_1 : decode cX9_turnsOf 1 = .ok (.iload_n 1, 1) := by decide +kernel
theorem dX9_turnsOf_2 : decode cX9_turnsOf 2 = .ok (.invokevirtual 218, 3) := by decide +kernel
theorem dX9_turnsOf_5 : decode cX9_turnsOf 5 = .ok (.ifCond .eq 14, 3) := by decide +kernel
theorem dX9_turnsOf_8 : decode cX9_turnsOf 8 = .ok (.aload_n 0, 1) := by decide +kernel
theorem dX9_turnsOf_9 : decode cX9_turnsOf 9 = .ok (.getfield 35, 3) := by decide +kernel
theorem dX9_turnsOf_12 : decode cX9_turnsOf 12 = .ok (.iload_n 1, 1) := by decide +kernel
theorem dX9_turnsOf_13 : decode cX9_turnsOf 13 = .ok (.iaload, 1) := by decide +kernel
theorem dX9_turnsOf_14 : decode cX9_turnsOf 14 = .ok (.iconst 1, 1) := by decide +kernel
theorem dX9_turnsOf_15 : decode cX9_turnsOf 15 = .ok (.iadd, 1) := by decide +kernel
theorem dX9_turnsOf_16 : decode cX9_turnsOf 16 = .ok (.goto 4, 3) := by decide +kernel
theorem dX9_turnsOf_19 : decode cX9_turnsOf 19 = .ok (.iconst 1, 1) := by decide +kernel
theorem dX9_turnsOf_20 : decode cX9_turnsOf 20 = .ok (.ireturn, 1) := by decide +kernel
theorem dX9_lays_0 : decode cX9_lays 0 = .ok (.iconst 0, 1) := by decide +kernel
theorem dX9_lays_1 : decode cX9_lays 1 = .ok (.istore_n 2, 1) := by decide +kernel
theorem dX9_lays_2 : decode cX9_lays 2 = .ok (.iload_n 2, 1) := by decide +kernel
theorem dX9_lays_3 : decode cX9_lays 3 = .ok (.sipush 2010, 3) := by decide +kernel
theorem dX9_lays_6 : decode cX9_lays 6 = .ok (.if_icmp .ge 16, 3) := by decide +kernel
theorem dX9_lays_9 : decode cX9_lays 9 = .ok (.aload_n 0, 1) := by decide +kernel
theorem dX9_lays_10 : decode cX9_lays 10 = .ok (.getfield 81, 3) := by decide +kernel
theorem dX9_lays_13 : decode cX9_lays 13 = .ok (.iload_n 2, 1) := by decide +kernel
theorem dX9_lays_14 : decode cX9_lays 14 = .ok (.iconst 0, 1) := by decide +kernel
theorem dX9_lays_15 : decode cX9_lays 15 = .ok (.iastore, 1) := by decide +kernel
theorem dX9_lays_16 : decode cX9_lays 16 = .ok (.iinc 2 1, 3) := by decide +kernel
theorem dX9_lays_19 : decode cX9_lays 19 = .ok (.goto (-17), 3) := by decide +kernel
theorem dX9_lays_22 : decode cX9_lays 22 = .ok (.aload_n 0, 1) := by decide +kernel
theorem dX9_lays_23 : decode cX9_lays 23 = .ok (.getfield 81, 3) := by decide +kernel
theorem dX9_lays_26 : decode cX9_lays 26 = .ok (.bipush 10, 2) := by decide +kernel
theorem dX9_lays_28 : decode cX9_lays 28 = .ok (.aload_n 0, 1) := by decide +kernel
theorem dX9_lays_29 : decode cX9_lays 29 = .ok (.getfield 38, 3) := by decide +kernel
theorem dX9_lays_32 : decode cX9_lays 32 = .ok (.iload_n 1, 1) := by decide +kernel
theorem dX9_lays_33 : decode cX9_lays 33 = .ok (.iaload, 1) := by decide +kernel
theorem dX9_lays_34 : decode cX9_lays 34 = .ok (.imul, 1) := by decide +kernel
theorem dX9_lays_35 : decode cX9_lays 35 = .ok (.aload_n 0, 1) := by decide +kernel
theorem dX9_lays_36 : decode cX9_lays 36 = .ok (.getfield 44, 3) := by decide +kernel
theorem dX9_lays_39 : decode cX9_lays 39 = .ok (.iload_n 1, 1) := by decide +kernel
theorem dX9_lays_40 : decode cX9_lays 40 = .ok (.iaload, 1) := by decide +kernel
theorem dX9_lays_41 : decode cX9_lays 41 = .ok (.aload_n 0, 1) := by decide +kernel
theorem dX9_lays_42 : decode cX9_lays 42 = .ok (.iload_n 1, 1) := by decide +kernel
theorem dX9_lays_43 : decode cX9_lays 43 = .ok (.invokevirtual 221, 3) := by decide +kernel
theorem dX9_lays_46 : decode cX9_lays 46 = .ok (.irem, 1) := by decide +kernel
theorem dX9_lays_47 : decode cX9_lays 47 = .ok (.iadd, 1) := by decide +kernel
theorem dX9_lays_48 : decode cX9_lays 48 = .ok (.ldc 224, 2) := by decide +kernel
theorem dX9_lays_50 : decode cX9_lays 50 = .ok (.iastore, 1) := by decide +kernel
theorem dX9_lays_51 : decode cX9_lays 51 = .ok (.return_, 1) := by decide +kernel
theorem dX9_flows_0 : decode cX9_flows 0 = .ok (.aload_n 0, 1) := by decide +kernel
theorem dX9_flows_1 : decode cX9_flows 1 = .ok (.iload_n 1, 1) := by decide +kernel
theorem dX9_flows_2 : decode cX9_flows 2 = .ok (.invokevirtual 221, 3) := by decide +kernel
theorem dX9_flows_5 : decode cX9_flows 5 = .ok (.istore_n 2, 1) := by decide +kernel
theorem dX9_flows_6 : decode cX9_flows 6 = .ok (.iconst 0, 1) := by decide +kernel
theorem dX9_flows_7 : decode cX9_flows 7 = .ok (.istore_n 3, 1) := by decide +kernel
theorem dX9_flows_8 : decode cX9_flows 8 = .ok (.iload_n 3, 1) := by decide +kernel
theorem dX9_flows_9 : decode cX9_flows 9 = .ok (.bipush 10, 2) := by decide +kernel
theorem dX9_flows_11 : decode cX9_flows 11 = .ok (.aload_n 0, 1) := by decide +kernel
theorem dX9_flows_12 : decode cX9_flows 12 = .ok (.getfield 7, 3) := by decide +kernel
theorem dX9_flows_15 : decode cX9_flows 15 = .ok (.imul, 1) := by decide +kernel
theorem dX9_flows_16 : decode cX9_flows 16 = .ok (.bipush 10, 2) := by decide +kernel
theorem dX9_flows_18 : decode cX9_flows 18 = .ok (.iadd, 1) := by decide +kernel
theorem dX9_flows_19 : decode cX9_flows 19 = .ok (.if_icmp .ge 16, 3) := by decide +kernel
theorem dX9_flows_22 : decode cX9_flows 22 = .ok (.aload_n 0, 1) := by decide +kernel
theorem dX9_flows_23 : decode cX9_flows 23 = .ok (.getfield 84, 3) := by decide +kernel
theorem dX9_flows_26 : decode cX9_flows 26 = .ok (.iload_n 3, 1) := by decide +kernel
theorem dX9_flows_27 : decode cX9_flows 27 = .ok (.iconst 0, 1) := by decide +kernel
theorem dX9_flows_28 : decode cX9_flows 28 = .ok (.iastore, 1) := by decide +kernel
theorem dX9_flows_29 : decode cX9_flows 29 = .ok (.iinc 3 1, 3) := by decide +kernel
theorem dX9_flows_32 : decode cX9_flows 32 = .ok (.goto (-24), 3) := by decide +kernel
theorem dX9_flows_35 : decode cX9_flows 35 = .ok (.iconst 0, 1) := by decide +kernel
theorem dX9_flows_36 : decode cX9_flows 36 = .ok (.istore_n 3, 1) := by decide +kernel
theorem dX9_flows_37 : decode cX9_flows 37 = .ok (.iload_n 3, 1) := by decide +kernel
theorem dX9_flows_38 : decode cX9_flows 38 = .ok (.aload_n 0, 1) := by decide +kernel
theorem dX9_flows_39 : decode cX9_flows 39 = .ok (.getfield 7, 3) := by decide +kernel
theorem dX9_flows_42 : decode cX9_flows 42 = .ok (.if_icmp .ge 119, 3) := by decide +kernel
theorem dX9_flows_45 : decode cX9_flows 45 = .ok (.iconst 0, 1) := by decide +kernel
theorem dX9_flows_46 : decode cX9_flows 46 = .ok (.istore 4, 2) := by decide +kernel
theorem dX9_flows_48 : decode cX9_flows 48 = .ok (.iload 4, 2) := by decide +kernel
theorem dX9_flows_50 : decode cX9_flows 50 = .ok (.iload_n 2, 1) := by decide +kernel
theorem dX9_flows_51 : decode cX9_flows 51 = .ok (.if_icmp .ge 104, 3) := by decide +kernel
theorem dX9_flows_54 : decode cX9_flows 54 = .ok (.aload_n 0, 1) := by decide +kernel
theorem dX9_flows_55 : decode cX9_flows 55 = .ok (.getfield 81, 3) := by decide +kernel
theorem dX9_flows_58 : decode cX9_flows 58 = .ok (.bipush 10, 2) := by decide +kernel
theorem dX9_flows_60 : decode cX9_flows 60 = .ok (.iload_n 3, 1) := by decide +kernel
theorem dX9_flows_61 : decode cX9_flows 61 = .ok (.imul, 1) := by decide +kernel
theorem dX9_flows_62 : decode cX9_flows 62 = .ok (.iload 4, 2) := by decide +kernel
theorem dX9_flows_64 : decode cX9_flows 64 = .ok (.iadd, 1) := by decide +kernel
theorem dX9_flows_65 : decode cX9_flows 65 = .ok (.iaload, 1) := by decide +kernel
theorem dX9_flows_66 : decode cX9_flows 66 = .ok (.istore 5, 2) := by decide +kernel
theorem dX9_flows_68 : decode cX9_flows 68 = .ok (.iload 5, 2) := by decide +kernel
theorem dX9_flows_70 : decode cX9_flows 70 = .ok (.ifCond .ne 6, 3) := by decide +kernel
theorem dX9_flows_73 : decode cX9_flows 73 = .ok (.goto 76, 3) := by decide +kernel
theorem dX9_flows_76 : decode cX9_flows 76 = .ok (.iload 5, 2) := by decide +kernel
theorem dX9_flows_78 : decode cX9_flows 78 = .ok (.i2l, 1) := by decide +kernel
theorem dX9_flows_79 : decode cX9_flows 79 = .ok (.aload_n 0, 1) := by decide +kernel
theorem dX9_flows_80 : decode cX9_flows 80 = .ok (.getfield 16, 3) := by decide +kernel
theorem dX9_flows_83 : decode cX9_flows 83 = .ok (.i2l, 1) := by decide +kernel
theorem dX9_flows_84 : decode cX9_flows 84 = .ok (.lmul, 1) := by decide +kernel
theorem dX9_flows_85 : decode cX9_flows 85 = .ok (.ldc2_w 225, 3) := by decide +kernel
theorem dX9_flows_88 : decode cX9_flows 88 = .ok (.ldiv, 1) := by decide +kernel
theorem dX9_flows_89 : decode cX9_flows 89 = .ok (.l2i, 1) := by decide +kernel
theorem dX9_flows_90 : decode cX9_flows 90 = .ok (.istore 6, 2) := by decide +kernel
theorem dX9_flows_92 : decode cX9_flows 92 = .ok (.iload 4, 2) := by decide +kernel
theorem dX9_flows_94 : decode cX9_flows 94 = .ok (.iconst 1, 1) := by decide +kernel
theorem dX9_flows_95 : decode cX9_flows 95 = .ok (.iadd, 1) := by decide +kernel
theorem dX9_flows_96 : decode cX9_flows 96 = .ok (.iload_n 2, 1) := by decide +kernel
theorem dX9_flows_97 : decode cX9_flows 97 = .ok (.irem, 1) := by decide +kernel
theorem dX9_flows_98 : decode cX9_flows 98 = .ok (.istore 7, 2) := by decide +kernel
theorem dX9_flows_100 : decode cX9_flows 100 = .ok (.aload_n 0, 1) := by decide +kernel
theorem dX9_flows_101 : decode cX9_flows 101 = .ok (.getfield 84, 3) := by decide +kernel
theorem dX9_flows_104 : decode cX9_flows 104 = .ok (.bipush 10, 2) := by decide +kernel
theorem dX9_flows_106 : decode cX9_flows 106 = .ok (.aload_n 0, 1) := by decide +kernel
theorem dX9_flows_107 : decode cX9_flows 107 = .ok (.iload_n 1, 1) := by decide +kernel
theorem dX9_flows_108 : decode cX9_flows 108 = .ok (.iload_n 3, 1) := by decide +kernel
theorem dX9_flows_109 : decode cX9_flows 109 = .ok (.iload 4, 2) := by decide +kernel
theorem dX9_flows_111 : decode cX9_flows 111 = .ok (.iconst 1, 1) := by decide +kernel
theorem dX9_flows_112 : decode cX9_flows 112 = .ok (.iadd, 1) := by decide +kernel
theorem dX9_flows_113 : decode cX9_flows 113 = .ok (.invokevirtual 183, 3) := by decide +kernel
theorem dX9_flows_116 : decode cX9_flows 116 = .ok (.imul, 1) := by decide +kernel
theorem dX9_flows_117 : decode cX9_flows 117 = .ok (.iload 7, 2) := by decide +kernel
theorem dX9_flows_119 : decode cX9_flows 119 = .ok (.iadd, 1) := by decide +kernel
theorem dX9_flows_120 : decode cX9_flows 120 = .ok (.dup2, 1) := by decide +kernel
theorem dX9_flows_121 : decode cX9_flows 121 = .ok (.iaload, 1) := by decide +kernel
theorem dX9_flows_122 : decode cX9_flows 122 = .ok (.iload 6, 2) := by decide +kernel
theorem dX9_flows_124 : decode cX9_flows 124 = .ok (.iadd, 1) := by decide +kernel
theorem dX9_flows_125 : decode cX9_flows 125 = .ok (.iastore, 1) := by decide +kernel
theorem dX9_flows_126 : decode cX9_flows 126 = .ok (.aload_n 0, 1) := by decide +kernel
theorem dX9_flows_127 : decode cX9_flows 127 = .ok (.getfield 84, 3) := by decide +kernel
theorem dX9_flows_130 : decode cX9_flows 130 = .ok (.bipush 10, 2) := by decide +kernel
theorem dX9_flows_132 : decode cX9_flows 132 = .ok (.iload_n 3, 1) := by decide +kernel
theorem dX9_flows_133 : decode cX9_flows 133 = .ok (.imul, 1) := by decide +kernel
theorem dX9_flows_134 : decode cX9_flows 134 = .ok (.bipush 10, 2) := by decide +kernel
theorem dX9_flows_136 : decode cX9_flows 136 = .ok (.iadd, 1) := by decide +kernel
theorem dX9_flows_137 : decode cX9_flows 137 = .ok (.iload 4, 2) := by decide +kernel
theorem dX9_flows_139 : decode cX9_flows 139 = .ok (.iadd, 1) := by decide +kernel
theorem dX9_flows_140 : decode cX9_flows 140 = .ok (.dup2, 1) := by decide +kernel
theorem dX9_flows_141 : decode cX9_flows 141 = .ok (.iaload, 1) := by decide +kernel
theorem dX9_flows_142 : decode cX9_flows 142 = .ok (.iload 5, 2) := by decide +kernel
theorem dX9_flows_144 : decode cX9_flows 144 = .ok (.iload 6, 2) := by decide +kernel
theorem dX9_flows_146 : decode cX9_flows 146 = .ok (.isub, 1) := by decide +kernel
theorem dX9_flows_147 : decode cX9_flows 147 = .ok (.iadd, 1) := by decide +kernel
theorem dX9_flows_148 : decode cX9_flows 148 = .ok (.iastore, 1) := by decide +kernel
theorem dX9_flows_149 : decode cX9_flows 149 = .ok (.iinc 4 1, 3) := by decide +kernel
theorem dX9_flows_152 : decode cX9_flows 152 = .ok (.goto (-104), 3) := by decide +kernel
theorem dX9_flows_155 : decode cX9_flows 155 = .ok (.iinc 3 1, 3) := by decide +kernel
theorem dX9_flows_158 : decode cX9_flows 158 = .ok (.goto (-121), 3) := by decide +kernel
theorem dX9_flows_161 : decode cX9_flows 161 = .ok (.iconst 0, 1) := by decide +kernel
theorem dX9_flows_162 : decode cX9_flows 162 = .ok (.istore_n 3, 1) := by decide +kernel
theorem dX9_flows_163 : decode cX9_flows 163 = .ok (.iload_n 3, 1) := by decide +kernel
theorem dX9_flows_164 : decode cX9_flows 164 = .ok (.iload_n 2, 1) := by decide +kernel
theorem dX9_flows_165 : decode cX9_flows 165 = .ok (.if_icmp .ge 40, 3) := by decide +kernel
theorem dX9_flows_168 : decode cX9_flows 168 = .ok (.aload_n 0, 1) := by decide +kernel
theorem dX9_flows_169 : decode cX9_flows 169 = .ok (.getfield 84, 3) := by decide +kernel
theorem dX9_flows_172 : decode cX9_flows 172 = .ok (.bipush 10, 2) := by decide +kernel
theorem dX9_flows_174 : decode cX9_flows 174 = .ok (.aload_n 0, 1) := by decide +kernel
theorem dX9_flows_175 : decode cX9_flows 175 = .ok (.getfield 7, 3) := by decide +kernel
theorem dX9_flows_178 : decode cX9_flows 178 = .ok (.imul, 1) := by decide +kernel
theorem dX9_flows_179 : decode cX9_flows 179 = .ok (.iload_n 3, 1) := by decide +kernel
theorem dX9_flows_180 : decode cX9_flows 180 = .ok (.iadd, 1) := by decide +kernel
theorem dX9_flows_181 : decode cX9_flows 181 = .ok (.dup2, 1) := by decide +kernel
theorem dX9_flows_182 : decode cX9_flows 182 = .ok (.iaload, 1) := by decide +kernel
theorem dX9_flows_183 : decode cX9_flows 183 = .ok (.aload_n 0, 1) := by decide +kernel
theorem dX9_flows_184 : decode cX9_flows 184 = .ok (.getfield 81, 3) := by decide +kernel
theorem dX9_flows_187 : decode cX9_flows 187 = .ok (.bipush 10, 2) := by decide +kernel
theorem dX9_flows_189 : decode cX9_flows 189 = .ok (.aload_n 0, 1) := by decide +kernel
theorem dX9_flows_190 : decode cX9_flows 190 = .ok (.getfield 7, 3) := by decide +kernel
theorem dX9_flows_193 : decode cX9_flows 193 = .ok (.imul, 1) := by decide +kernel
theorem dX9_flows_194 : decode cX9_flows 194 = .ok (.iload_n 3, 1) := by decide +kernel
theorem dX9_flows_195 : decode cX9_flows 195 = .ok (.iadd, 1) := by decide +kernel
theorem dX9_flows_196 : decode cX9_flows 196 = .ok (.iaload, 1) := by decide +kernel
theorem dX9_flows_197 : decode cX9_flows 197 = .ok (.iadd, 1) := by decide +kernel
theorem dX9_flows_198 : decode cX9_flows 198 = .ok (.iastore, 1) := by decide +kernel
theorem dX9_flows_199 : decode cX9_flows 199 = .ok (.iinc 3 1, 3) := by decide +kernel
theorem dX9_flows_202 : decode cX9_flows 202 = .ok (.goto (-39), 3) := by decide +kernel
theorem dX9_flows_205 : decode cX9_flows 205 = .ok (.iconst 0, 1) := by decide +kernel
theorem dX9_flows_206 : decode cX9_flows 206 = .ok (.istore_n 3, 1) := by decide +kernel
theorem dX9_flows_207 : decode cX9_flows 207 = .ok (.iload_n 3, 1) := by decide +kernel
theorem dX9_flows_208 : decode cX9_flows 208 = .ok (.bipush 10, 2) := by decide +kernel
theorem dX9_flows_210 : decode cX9_flows 210 = .ok (.aload_n 0, 1) := by decide +kernel
theorem dX9_flows_211 : decode cX9_flows 211 = .ok (.getfield 7, 3) := by decide +kernel
theorem dX9_flows_214 : decode cX9_flows 214 = .ok (.imul, 1) := by decide +kernel
theorem dX9_flows_215 : decode cX9_flows 215 = .ok (.bipush 10, 2) := by decide +kernel
theorem dX9_flows_217 : decode cX9_flows 217 = .ok (.iadd, 1) := by decide +kernel
theorem dX9_flows_218 : decode cX9_flows 218 = .ok (.if_icmp .ge 21, 3) := by decide +kernel
theorem dX9_flows_221 : decode cX9_flows 221 = .ok (.aload_n 0, 1) := by decide +kernel
theorem dX9_flows_222 : decode cX9_flows 222 = .ok (.getfield 81, 3) := by decide +kernel
theorem dX9_flows_225 : decode cX9_flows 225 = .ok (.iload_n 3, 1) := by decide +kernel
theorem dX9_flows_226 : decode cX9_flows 226 = .ok (.aload_n 0, 1) := by decide +kernel
theorem dX9_flows_227 : decode cX9_flows 227 = .ok (.getfield 84, 3) := by decide +kernel
theorem dX9_flows_230 : decode cX9_flows 230 = .ok (.iload_n 3, 1) := by decide +kernel
theorem dX9_flows_231 : decode cX9_flows 231 = .ok (.iaload, 1) := by decide +kernel
theorem dX9_flows_232 : decode cX9_flows 232 = .ok (.iastore, 1) := by decide +kernel
theorem dX9_flows_233 : decode cX9_flows 233 = .ok (.iinc 3 1, 3) := by decide +kernel
theorem dX9_flows_236 : decode cX9_flows 236 = .ok (.goto (-29), 3) := by decide +kernel
theorem dX9_flows_239 : decode cX9_flows 239 = .ok (.return_, 1) := by decide +kernel
theorem dX9_partsThrough_0 : decode cX9_partsThrough 0 = .ok (.iconst 0, 1) := by decide +kernel
theorem dX9_partsThrough_1 : decode cX9_partsThrough 1 = .ok (.istore_n 1, 1) := by decide +kernel
theorem dX9_partsThrough_2 : decode cX9_partsThrough 2 = .ok (.iconst 0, 1) := by decide +kernel
theorem dX9_partsThrough_3 : decode cX9_partsThrough 3 = .ok (.istore_n 2, 1) := by decide +kernel
theorem dX9_partsThrough_4 : decode cX9_partsThrough 4 = .ok (.iload_n 2, 1) := by decide +kernel
theorem dX9_partsThrough_5 : decode cX9_partsThrough 5 = .ok (.bipush 10, 2) := by decide +kernel
theorem dX9_partsThrough_7 : decode cX9_partsThrough 7 = .ok (.if_icmp .ge 26, 3) := by decide +kernel
theorem dX9_partsThrough_10 : decode cX9_partsThrough 10 = .ok (.iload_n 1, 1) := by decide +kernel
theorem dX9_partsThrough_11 : decode cX9_partsThrough 11 = .ok (.aload_n 0, 1) := by decide +kernel
theorem dX9_partsThrough_12 : decode cX9_partsThrough 12 = .ok (.getfield 81, 3) := by decide +kernel
theorem dX9_partsThrough_15 : decode cX9_partsThrough 15 = .ok (.bipush 10, 2) := by decide +kernel
theorem dX9_partsThrough_17 : decode cX9_partsThrough 17 = .ok (.aload_n 0, 1) := by decide +kernel
theorem dX9_partsThrough_18 : decode cX9_partsThrough 18 = .ok (.getfield 7, 3) := by decide +kernel
theorem dX9_partsThrough_21 : decode cX9_partsThrough 21 = .ok (.imul, 1) := by decide +kernel
theorem dX9_partsThrough_22 : decode cX9_partsThrough 22 = .ok (.iload_n 2, 1) := by decide +kernel
theorem dX9_partsThrough_23 : decode cX9_partsThrough 23 = .ok (.iadd, 1) := by decide +kernel
theorem dX9_partsThrough_24 : decode cX9_partsThrough 24 = .ok (.iaload, 1) := by decide +kernel
theorem dX9_partsThrough_25 : decode cX9_partsThrough 25 = .ok (.iadd, 1) := by decide +kernel
theorem dX9_partsThrough_26 : decode cX9_partsThrough 26 = .ok (.istore_n 1, 1) := by decide +kernel
theorem dX9_partsThrough_27 : decode cX9_partsThrough 27 = .ok (.iinc 2 1, 3) := by decide +kernel
theorem dX9_partsThrough_30 : decode cX9_partsThrough 30 = .ok (.goto (-26), 3) := by decide +kernel
theorem dX9_partsThrough_33 : decode cX9_partsThrough 33 = .ok (.iload_n 1, 1) := by decide +kernel
theorem dX9_partsThrough_34 : decode cX9_partsThrough 34 = .ok (.ireturn, 1) := by decide +kernel
theorem dX9_chanceOf_0 : decode cX9_chanceOf 0 = .ok (.aload_n 0, 1) := by decide +kernel
theorem dX9_chanceOf_1 : decode cX9_chanceOf 1 = .ok (.iload_n 1, 1) := by decide +kernel
theorem dX9_chanceOf_2 : decode cX9_chanceOf 2 = .ok (.invokevirtual 227, 3) := by decide +kernel
theorem dX9_chanceOf_5 : decode cX9_chanceOf 5 = .ok (.iconst 0, 1) := by decide +kernel
theorem dX9_chanceOf_6 : decode cX9_chanceOf 6 = .ok (.istore_n 3, 1) := by decide +kernel
theorem dX9_chanceOf_7 : decode cX9_chanceOf 7 = .ok (.iload_n 3, 1) := by decide +kernel
theorem dX9_chanceOf_8 : decode cX9_chanceOf 8 = .ok (.iload_n 2, 1) := by decide +kernel
theorem dX9_chanceOf_9 : decode cX9_chanceOf 9 = .ok (.if_icmp .ge 14, 3) := by decide +kernel
theorem dX9_chanceOf_12 : decode cX9_chanceOf 12 = .ok (.aload_n 0, 1) := by decide +kernel
theorem dX9_chanceOf_13 : decode cX9_chanceOf 13 = .ok (.iload_n 1, 1) := by decide +kernel
theorem dX9_chanceOf_14 : decode cX9_chanceOf 14 = .ok (.invokevirtual 230, 3) := by decide +kernel
theorem dX9_chanceOf_17 : decode cX9_chanceOf 17 = .ok (.iinc 3 1, 3) := by decide +kernel
theorem dX9_chanceOf_20 : decode cX9_chanceOf 20 = .ok (.goto (-13), 3) := by decide +kernel
theorem dX9_chanceOf_23 : decode cX9_chanceOf 23 = .ok (.aload_n 0, 1) := by decide +kernel
theorem dX9_chanceOf_24 : decode cX9_chanceOf 24 = .ok (.invokevirtual 233, 3) := by decide +kernel
theorem dX9_chanceOf_27 : decode cX9_chanceOf 27 = .ok (.ireturn, 1) := by decide +kernel
theorem dX9_medianOf_0 : decode cX9_medianOf 0 = .ok (.aload_n 0, 1) := by decide +kernel
theorem dX9_medianOf_1 : decode cX9_medianOf 1 = .ok (.iload_n 1, 1) := by decide +kernel
theorem dX9_medianOf_2 : decode cX9_medianOf 2 = .ok (.invokevirtual 227, 3) := by decide +kernel
theorem dX9_medianOf_5 : decode cX9_medianOf 5 = .ok (.iconst 0, 1) := by decide +kernel
theorem dX9_medianOf_6 : decode cX9_medianOf 6 = .ok (.istore_n 3, 1) := by decide +kernel
theorem dX9_medianOf_7 : decode cX9_medianOf 7 = .ok (.iload_n 3, 1) := by decide +kernel
theorem dX9_medianOf_8 : decode cX9_medianOf 8 = .ok (.sipush 400, 3) := by decide +kernel
theorem dX9_medianOf_11 : decode cX9_medianOf 11 = .ok (.if_icmp .gt 24, 3) := by decide +kernel
theorem dX9_medianOf_14 : decode cX9_medianOf 14 = .ok (.aload_n 0, 1) := by decide +kernel
theorem dX9_medianOf_15 : decode cX9_medianOf 15 = .ok (.invokevirtual 233, 3) := by decide +kernel
theorem dX9_medianOf_18 : decode cX9_medianOf 18 = .ok (.iload_n 2, 1) := by decide +kernel
theorem dX9_medianOf_19 : decode cX9_medianOf 19 = .ok (.if_icmp .lt 5, 3) := by decide +kernel
theorem dX9_medianOf_22 : decode cX9_medianOf 22 = .ok (.iload_n 3, 1) := by decide +kernel
theorem dX9_medianOf_23 : decode cX9_medianOf 23 = .ok (.ireturn, 1) := by decide +kernel
theorem dX9_medianOf_24 : decode cX9_medianOf 24 = .ok (.aload_n 0, 1) := by decide +kernel
theorem dX9_medianOf_25 : decode cX9_medianOf 25 = .ok (.iload_n 1, 1) := by decide +kernel
theorem dX9_medianOf_26 : decode cX9_medianOf 26 = .ok (.invokevirtual 230, 3) := by decide +kernel
theorem dX9_medianOf_29 : decode cX9_medianOf 29 = .ok (.iinc 3 1, 3) := by decide +kernel
theorem dX9_medianOf_32 : decode cX9_medianOf 32 = .ok (.goto (-25), 3) := by decide +kernel
theorem dX9_medianOf_35 : decode cX9_medianOf 35 = .ok (.iconst (-1), 1) := by decide +kernel
theorem dX9_medianOf_36 : decode cX9_medianOf 36 = .ok (.ireturn, 1) := by decide +kernel
theorem dX9_chance_0 : decode cX9_chance 0 = .ok (.aload_n 0, 1) := by decide +kernel
theorem dX9_chance_1 : decode cX9_chance 1 = .ok (.iload_n 1, 1) := by decide +kernel
theorem dX9_chance_2 : decode cX9_chance 2 = .ok (.invokevirtual 104, 3) := by decide +kernel
theorem dX9_chance_5 : decode cX9_chance 5 = .ok (.ifCond .ne 9, 3) := by decide +kernel
theorem dX9_chance_8 : decode cX9_chance 8 = .ok (.aload_n 0, 1) := by decide +kernel
theorem dX9_chance_9 : decode cX9_chance 9 = .ok (.iconst (-1), 1) := by decide +kernel
theorem dX9_chance_10 : decode cX9_chance 10 = .ok (.invokevirtual 100, 3) := by decide +kernel
theorem dX9_chance_13 : decode cX9_chance 13 = .ok (.ireturn, 1) := by decide +kernel
theorem dX9_chance_14 : decode cX9_chance 14 = .ok (.iload_n 2, 1) := by decide +kernel
theorem dX9_chance_15 : decode cX9_chance 15 = .ok (.ifCond .lt 19, 3) := by decide +kernel
theorem dX9_chance_18 : decode cX9_chance 18 = .ok (.iload_n 2, 1) := by decide +kernel
theorem dX9_chance_19 : decode cX9_chance 19 = .ok (.sipush 400, 3) := by decide +kernel
theorem dX9_chance_22 : decode cX9_chance 22 = .ok (.if_icmp .gt 12, 3) := by decide +kernel
theorem dX9_chance_25 : decode cX9_chance 25 = .ok (.aload_n 0, 1) := by decide +kernel
theorem dX9_chance_26 : decode cX9_chance 26 = .ok (.iload_n 1, 1) := by decide +kernel
theorem dX9_chance_27 : decode cX9_chance 27 = .ok (.iload_n 2, 1) := by decide +kernel
theorem dX9_chance_28 : decode cX9_chance 28 = .ok (.invokevirtual 236, 3) := by decide +kernel
theorem dX9_chance_31 : decode cX9_chance 31 = .ok (.goto 9, 3) := by decide +kernel
theorem dX9_chance_34 : decode cX9_chance 34 = .ok (.aload_n 0, 1) := by decide +kernel
theorem dX9_chance_35 : decode cX9_chance 35 = .ok (.bipush (-6), 2) := by decide +kernel
theorem dX9_chance_37 : decode cX9_chance 37 = .ok (.invokevirtual 100, 3) := by decide +kernel
theorem dX9_chance_40 : decode cX9_chance 40 = .ok (.ireturn, 1) := by decide +kernel
theorem dX9_median_0 : decode cX9_median 0 = .ok (.aload_n 0, 1) := by decide +kernel
theorem dX9_median_1 : decode cX9_median 1 = .ok (.iload_n 1, 1) := by decide +kernel
theorem dX9_median_2 : decode cX9_median 2 = .ok (.invokevirtual 104, 3) := by decide +kernel
theorem dX9_median_5 : decode cX9_median 5 = .ok (.ifCond .ne 9, 3) := by decide +kernel
theorem dX9_median_8 : decode cX9_median 8 = .ok (.aload_n 0, 1) := by decide +kernel
theorem dX9_median_9 : decode cX9_median 9 = .ok (.iconst (-1), 1) := by decide +kernel
theorem dX9_median_10 : decode cX9_median 10 = .ok (.invokevirtual 212, 3) := by decide +kernel
theorem dX9_median_13 : decode cX9_median 13 = .ok (.ireturn, 1) := by decide +kernel
theorem dX9_median_14 : decode cX9_median 14 = .ok (.iload_n 2, 1) := by decide +kernel
theorem dX9_median_15 : decode cX9_median 15 = .ok (.iconst 1, 1) := by decide +kernel
theorem dX9_median_16 : decode cX9_median 16 = .ok (.if_icmp .lt 18, 3) := by decide +kernel
theorem dX9_median_19 : decode cX9_median 19 = .ok (.iload_n 2, 1) := by decide +kernel
theorem dX9_median_20 : decode cX9_median 20 = .ok (.ldc 224, 2) := by decide +kernel
theorem dX9_median_22 : decode cX9_median 22 = .ok (.if_icmp .gt 12, 3) := by decide +kernel
theorem dX9_median_25 : decode cX9_median 25 = .ok (.aload_n 0, 1) := by decide +kernel
theorem dX9_median_26 : decode cX9_median 26 = .ok (.iload_n 1, 1) := by decide +kernel
theorem dX9_median_27 : decode cX9_median 27 = .ok (.iload_n 2, 1) := by decide +kernel
theorem dX9_median_28 : decode cX9_median 28 = .ok (.invokevirtual 239, 3) := by decide +kernel
theorem dX9_median_31 : decode cX9_median 31 = .ok (.goto 9, 3) := by decide +kernel
theorem dX9_median_34 : decode cX9_median 34 = .ok (.aload_n 0, 1) := by decide +kernel
theorem dX9_median_35 : decode cX9_median 35 = .ok (.bipush (-6), 2) := by decide +kernel
theorem dX9_median_37 : decode cX9_median 37 = .ok (.invokevirtual 212, 3) := by decide +kernel
theorem dX9_median_40 : decode cX9_median 40 = .ok (.ireturn, 1) := by decide +kernel
theorem dX9_bestApart_0 : decode cX9_bestApart 0 = .ok (.aload_n 0, 1) := by decide +kernel
theorem dX9_bestApart_1 : decode cX9_bestApart 1 = .ok (.iload_n 1, 1) := by decide +kernel
theorem dX9_bestApart_2 : decode cX9_bestApart 2 = .ok (.invokevirtual 104, 3) := by decide +kernel
theorem dX9_bestApart_5 : decode cX9_bestApart 5 = .ok (.ifCond .ne 9, 3) := by decide +kernel
theorem dX9_bestApart_8 : decode cX9_bestApart 8 = .ok (.aload_n 0, 1) := by decide +kernel
theorem dX9_bestApart_9 : decode cX9_bestApart 9 = .ok (.iconst (-1), 1) := by decide +kernel
theorem dX9_bestApart_10 : decode cX9_bestApart 10 = .ok (.invokevirtual 212, 3) := by decide +kernel
theorem dX9_bestApart_13 : decode cX9_bestApart 13 = .ok (.ireturn, 1) := by decide +kernel
theorem dX9_bestApart_14 : decode cX9_bestApart 14 = .ok (.aload_n 0, 1) := by decide +kernel
theorem dX9_bestApart_15 : decode cX9_bestApart 15 = .ok (.getfield 32, 3) := by decide +kernel
theorem dX9_bestApart_18 : decode cX9_bestApart 18 = .ok (.iload_n 1, 1) := by decide +kernel
theorem dX9_bestApart_19 : decode cX9_bestApart 19 = .ok (.iaload, 1) := by decide +kernel
theorem dX9_bestApart_20 : decode cX9_bestApart 20 = .ok (.iconst 1, 1) := by decide +kernel
theorem dX9_bestApart_21 : decode cX9_bestApart 21 = .ok (.if_icmp .eq 20, 3) := by decide +kernel
theorem dX9_bestApart_24 : decode cX9_bestApart 24 = .ok (.aload_n 0, 1) := by decide +kernel
theorem dX9_bestApart_25 : decode cX9_bestApart 25 = .ok (.getfield 32, 3) := by decide +kernel
theorem dX9_bestApart_28 : decode cX9_bestApart 28 = .ok (.iload_n 1, 1) := by decide +kernel
theorem dX9_bestApart_29 : decode cX9_bestApart 29 = .ok (.iaload, 1) := by decide +kernel
theorem dX9_bestApart_30 : decode cX9_bestApart 30 = .ok (.iconst 5, 1) := by decide +kernel
theorem dX9_bestApart_31 : decode cX9_bestApart 31 = .ok (.if_icmp .eq 10, 3) := by decide +kernel
theorem dX9_bestApart_34 : decode cX9_bestApart 34 = .ok (.aload_n 0, 1) := by decide +kernel
theorem dX9_bestApart_35 : decode cX9_bestApart 35 = .ok (.bipush (-2), 2) := by decide +kernel
theorem dX9_bestApart_37 : decode cX9_bestApart 37 = .ok (.invokevirtual 212, 3) := by decide +kernel
theorem dX9_bestApart_40 : decode cX9_bestApart 40 = .ok (.ireturn, 1) := by decide +kernel
theorem dX9_bestApart_41 : decode cX9_bestApart 41 = .ok (.iload_n 2, 1) := by decide +kernel
theorem dX9_bestApart_42 : decode cX9_bestApart 42 = .ok (.iconst 1, 1) := by decide +kernel
theorem dX9_bestApart_43 : decode cX9_bestApart 43 = .ok (.if_icmp .lt 9, 3) := by decide +kernel
theorem dX9_bestApart_46 : decode cX9_bestApart 46 = .ok (.iload_n 2, 1) := by decide +kernel
theorem dX9_bestApart_47 : decode cX9_bestApart 47 = .ok (.ldc 224, 2) := by decide +kernel
theorem dX9_bestApart_49 : decode cX9_bestApart 49 = .ok (.if_icmp .le 10, 3) := by decide +kernel
theorem dX9_bestApart_52 : decode cX9_bestApart 52 = .ok (.aload_n 0, 1) := by decide +kernel
theorem dX9_bestApart_53 : decode cX9_bestApart 53 = .ok (.bipush (-6), 2) := by decide +kernel
theorem dX9_bestApart_55 : decode cX9_bestApart 55 = .ok (.invokevirtual 212, 3) := by decide +kernel
theorem dX9_bestApart_58 : decode cX9_bestApart 58 = .ok (.ireturn, 1) := by decide +kernel
theorem dX9_bestApart_59 : decode cX9_bestApart 59 = .ok (.aload_n 0, 1) := by decide +kernel
theorem dX9_bestApart_60 : decode cX9_bestApart 60 = .ok (.getfield 13, 3) := by decide +kernel
theorem dX9_bestApart_63 : decode cX9_bestApart 63 = .ok (.istore_n 3, 1) := by decide +kernel
theorem dX9_bestApart_64 : decode cX9_bestApart 64 = .ok (.iconst (-1), 1) := by decide +kernel
theorem dX9_bestApart_65 : decode cX9_bestApart 65 = .ok (.istore 4, 2) := by decide +kernel
theorem dX9_bestApart_67 : decode cX9_bestApart 67 = .ok (.iconst 0, 1) := by decide +kernel
theorem dX9_bestApart_68 : decode cX9_bestApart 68 = .ok (.istore 5, 2) := by decide +kernel
theorem dX9_bestApart_70 : decode cX9_bestApart 70 = .ok (.aload_n 0, 1) := by decide +kernel
theorem dX9_bestApart_71 : decode cX9_bestApart 71 = .ok (.iconst 1, 1) := by decide +kernel
theorem dX9_bestApart_72 : decode cX9_bestApart 72 = .ok (.putfield 13, 3) := by decide +kernel
theorem dX9_bestApart_75 : decode cX9_bestApart 75 = .ok (.aload_n 0, 1) := by decide +kernel
theorem dX9_bestApart_76 : decode cX9_bestApart 76 = .ok (.getfield 13, 3) := by decide +kernel
theorem dX9_bestApart_79 : decode cX9_bestApart 79 = .ok (.aload_n 0, 1) := by decide +kernel
theorem dX9_bestApart_80 : decode cX9_bestApart 80 = .ok (.getfield 7, 3) := by decide +kernel
theorem dX9_bestApart_83 : decode cX9_bestApart 83 = .ok (.if_icmp .gt 75, 3) := by decide +kernel
theorem dX9_bestApart_86 : decode cX9_bestApart 86 = .ok (.aload_n 0, 1) := by decide +kernel
theorem dX9_bestApart_87 : decode cX9_bestApart 87 = .ok (.iload_n 1, 1) := by decide +kernel
theorem dX9_bestApart_88 : decode cX9_bestApart 88 = .ok (.iload_n 2, 1) := by decide +kernel
theorem dX9_bestApart_89 : decode cX9_bestApart 89 = .ok (.invokevirtual 239, 3) := by decide +kernel
theorem dX9_bestApart_92 : decode cX9_bestApart 92 = .ok (.istore 6, 2) := by decide +kernel
theorem dX9_bestApart_94 : decode cX9_bestApart 94 = .ok (.iload 6, 2) := by decide +kernel
theorem dX9_bestApart_96 : decode cX9_bestApart 96 = .ok (.aload_n 0, 1) := by decide +kernel
theorem dX9_bestApart_97 : decode cX9_bestApart 97 = .ok (.getfield 19, 3) := by decide +kernel
theorem dX9_bestApart_100 : decode cX9_bestApart 100 = .ok (.aload_n 0, 1) := by decide +kernel
theorem dX9_bestApart_101 : decode cX9_bestApart 101 = .ok (.getfield 7, 3) := by decide +kernel
theorem dX9_bestApart_104 : decode cX9_bestApart 104 = .ok (.aload_n 0, 1) := by decide +kernel
theorem dX9_bestApart_105 : decode cX9_bestApart 105 = .ok (.getfield 13, 3) := by decide +kernel
theorem dX9_bestApart_108 : decode cX9_bestApart 108 = .ok (.idiv, 1) := by decide +kernel
theorem dX9_bestApart_109 : decode cX9_bestApart 109 = .ok (.imul, 1) := by decide +kernel
theorem dX9_bestApart_110 : decode cX9_bestApart 110 = .ok (.iadd, 1) := by decide +kernel
theorem dX9_bestApart_111 : decode cX9_bestApart 111 = .ok (.istore 7, 2) := by decide +kernel
theorem dX9_bestApart_113 : decode cX9_bestApart 113 = .ok (.iload 6, 2) := by decide +kernel
theorem dX9_bestApart_115 : decode cX9_bestApart 115 = .ok (.iconst (-1), 1) := by decide +kernel
theorem dX9_bestApart_116 : decode cX9_bestApart 116 = .ok (.if_icmp .eq 29, 3) := by decide +kernel
theorem dX9_bestApart_119 : decode cX9_bestApart 119 = .ok (.iload 4, 2) := by decide +kernel
theorem dX9_bestApart_121 : decode cX9_bestApart 121 = .ok (.iconst (-1), 1) := by decide +kernel
theorem dX9_bestApart_122 : decode cX9_bestApart 122 = .ok (.if_icmp .eq 13, 3) := by decide +kernel
theorem dX9_bestApart_125 : decode cX9_bestApart 125 = .ok (.iload 7, 2) := by decide +kernel
theorem dX9_bestApart_127 : decode cX9_bestApart 127 = .ok (.iload 5, 2) := by decide +kernel
theorem dX9_bestApart_129 : decode cX9_bestApart 129 = .ok (.if_icmp .lt 6, 3) := by decide +kernel
theorem dX9_bestApart_132 : decode cX9_bestApart 132 = .ok (.goto 13, 3) := by decide +kernel
theorem dX9_bestApart_135 : decode cX9_bestApart 135 = .ok (.aload_n 0, 1) := by decide +kernel
theorem dX9_bestApart_136 : decode cX9_bestApart 136 = .ok (.getfield 13, 3) := by decide +kernel
theorem dX9_bestApart_139 : decode cX9_bestApart 139 = .ok (.istore 4, 2) := by decide +kernel
theorem dX9_bestApart_141 : decode cX9_bestApart 141 = .ok (.iload 7, 2) := by decide +kernel
theorem dX9_bestApart_143 : decode cX9_bestApart 143 = .ok (.istore 5, 2) := by decide +kernel
theorem dX9_bestApart_145 : decode cX9_bestApart 145 = .ok (.aload_n 0, 1) := by decide +kernel
theorem dX9_bestApart_146 : decode cX9_bestApart 146 = .ok (.dup, 1) := by decide +kernel
theorem dX9_bestApart_147 : decode cX9_bestApart 147 = .ok (.getfield 13, 3) := by decide +kernel
theorem dX9_bestApart_150 : decode cX9_bestApart 150 = .ok (.iconst 1, 1) := by decide +kernel
theorem dX9_bestApart_151 : decode cX9_bestApart 151 = .ok (.iadd, 1) := by decide +kernel
theorem dX9_bestApart_152 : decode cX9_bestApart 152 = .ok (.putfield 13, 3) := by decide +kernel
theorem dX9_bestApart_155 : decode cX9_bestApart 155 = .ok (.goto (-80), 3) := by decide +kernel
theorem dX9_bestApart_158 : decode cX9_bestApart 158 = .ok (.aload_n 0, 1) := by decide +kernel
theorem dX9_bestApart_159 : decode cX9_bestApart 159 = .ok (.iload_n 3, 1) := by decide +kernel
theorem dX9_bestApart_160 : decode cX9_bestApart 160 = .ok (.putfield 13, 3) := by decide +kernel
theorem dX9_bestApart_163 : decode cX9_bestApart 163 = .ok (.iload 4, 2) := by decide +kernel
theorem dX9_bestApart_165 : decode cX9_bestApart 165 = .ok (.ireturn, 1) := by decide +kernel
theorem dX9_surest_0 : decode cX9_surest 0 = .ok (.aload_n 0, 1) := by decide +kernel
theorem dX9_surest_1 : decode cX9_surest 1 = .ok (.getfield 93, 3) := by decide +kernel
theorem dX9_surest_4 : decode cX9_surest 4 = .ok (.ifCond .ne 10, 3) := by decide +kernel
theorem dX9_surest_7 : decode cX9_surest 7 = .ok (.aload_n 0, 1) := by decide +kernel
theorem dX9_surest_8 : decode cX9_surest 8 = .ok (.bipush (-5), 2) := by decide +kernel
theorem dX9_surest_10 : decode cX9_surest 10 = .ok (.invokevirtual 100, 3) := by decide +kernel
theorem dX9_surest_13 : decode cX9_surest 13 = .ok (.ireturn, 1) := by decide +kernel
theorem dX9_surest_14 : decode cX9_surest 14 = .ok (.iload_n 1, 1) := by decide +kernel
theorem dX9_surest_15 : decode cX9_surest 15 = .ok (.ifCond .lt 10, 3) := by decide +kernel
theorem dX9_surest_18 : decode cX9_surest 18 = .ok (.iload_n 1, 1) := by decide +kernel
theorem dX9_surest_19 : decode cX9_surest 19 = .ok (.sipush 400, 3) := by decide +kernel
theorem dX9_surest_22 : decode cX9_surest 22 = .ok (.if_icmp .le 10, 3) := by decide +kernel
theorem dX9_surest_25 : decode cX9_surest 25 = .ok (.aload_n 0, 1) := by decide +kernel
theorem dX9_surest_26 : decode cX9_surest 26 = .ok (.bipush (-6), 2) := by decide +kernel
theorem dX9_surest_28 : decode cX9_surest 28 = .ok (.invokevirtual 100, 3) := by decide +kernel
theorem dX9_surest_31 : decode cX9_surest 31 = .ok (.ireturn, 1) := by decide +kernel
theorem dX9_surest_32 : decode cX9_surest 32 = .ok (.iconst 0, 1) := by decide +kernel
theorem dX9_surest_33 : decode cX9_surest 33 = .ok (.istore_n 2, 1) := by decide +kernel
theorem dX9_surest_34 : decode cX9_surest 34 = .ok (.iconst (-1), 1) := by decide +kernel
theorem dX9_surest_35 : decode cX9_surest 35 = .ok (.istore_n 3, 1) := by decide +kernel
theorem dX9_surest_36 : decode cX9_surest 36 = .ok (.iconst 0, 1) := by decide +kernel
theorem dX9_surest_37 : decode cX9_surest 37 = .ok (.istore 4, 2) := by decide +kernel
theorem dX9_surest_39 : decode cX9_surest 39 = .ok (.iload 4, 2) := by decide +kernel
theorem dX9_surest_41 : decode cX9_surest 41 = .ok (.aload_n 0, 1) := by decide +kernel
theorem dX9_surest_42 : decode cX9_surest 42 = .ok (.getfield 93, 3) := by decide +kernel
theorem dX9_surest_45 : decode cX9_surest 45 = .ok (.if_icmp .ge 33, 3) := by decide +kernel
theorem dX9_surest_48 : decode cX9_surest 48 = .ok (.aload_n 0, 1) := by decide +kernel
theorem dX9_surest_49 : decode cX9_surest 49 = .ok (.iload 4, 2) := by decide +kernel
theorem dX9_surest_51 : decode cX9_surest 51 = .ok (.iload_n 1, 1) := by decide +kernel
theorem dX9_surest_52 : decode cX9_surest 52 = .ok (.invokevirtual 236, 3) := by decide +kernel
theorem dX9_surest_55 : decode cX9_surest 55 = .ok (.istore 5, 2) := by decide +kernel
theorem dX9_surest_57 : decode cX9_surest 57 = .ok (.iload 5, 2) := by decide +kernel
theorem dX9_surest_59 : decode cX9_surest 59 = .ok (.iload_n 3, 1) := by decide +kernel
theorem dX9_surest_60 : decode cX9_surest 60 = .ok (.if_icmp .gt 6, 3) := by decide +kernel
theorem dX9_surest_63 : decode cX9_surest 63 = .ok (.goto 9, 3) := by decide +kernel
theorem dX9_surest_66 : decode cX9_surest 66 = .ok (.iload 4, 2) := by decide +kernel
theorem dX9_surest_68 : decode cX9_surest 68 = .ok (.istore_n 2, 1) := by decide +kernel
theorem dX9_surest_69 : decode cX9_surest 69 = .ok (.iload 5, 2) := by decide +kernel
theorem dX9_surest_71 : decode cX9_surest 71 = .ok (.istore_n 3, 1) := by decide +kernel
theorem dX9_surest_72 : decode cX9_surest 72 = .ok (.iinc 4 1, 3) := by decide +kernel
theorem dX9_surest_75 : decode cX9_surest 75 = .ok (.goto (-36), 3) := by decide +kernel
theorem dX9_surest_78 : decode cX9_surest 78 = .ok (.iload_n 2, 1) := by decide +kernel
theorem dX9_surest_79 : decode cX9_surest 79 = .ok (.ireturn, 1) := by decide +kernel
theorem dX9_throughWith_0 : decode cX9_throughWith 0 = .ok (.aload_n 0, 1) := by decide +kernel
theorem dX9_throughWith_1 : decode cX9_throughWith 1 = .ok (.getfield 38, 3) := by decide +kernel
theorem dX9_throughWith_4 : decode cX9_throughWith 4 = .ok (.iload_n 1, 1) := by decide +kernel
theorem dX9_throughWith_5 : decode cX9_throughWith 5 = .ok (.iaload, 1) := by decide +kernel
theorem dX9_throughWith_6 : decode cX9_throughWith 6 = .ok (.istore_n 3, 1) := by decide +kernel
theorem dX9_throughWith_7 : decode cX9_throughWith 7 = .ok (.iconst 0, 1) := by decide +kernel
theorem dX9_throughWith_8 : decode cX9_throughWith 8 = .ok (.istore 4, 2) := by decide +kernel
theorem dX9_throughWith_10 : decode cX9_throughWith 10 = .ok (.iload_n 3, 1) := by decide +kernel
theorem dX9_throughWith_11 : decode cX9_throughWith 11 = .ok (.aload_n 0, 1) := by decide +kernel
theorem dX9_throughWith_12 : decode cX9_throughWith 12 = .ok (.getfield 7, 3) := by decide +kernel
theorem dX9_throughWith_15 : decode cX9_throughWith 15 = .ok (.if_icmp .ge 36, 3) := by decide +kernel
theorem dX9_throughWith_18 : decode cX9_throughWith 18 = .ok (.iinc 4 1, 3) := by decide +kernel
theorem dX9_throughWith_21 : decode cX9_throughWith 21 = .ok (.iload 4, 2) := by decide +kernel
theorem dX9_throughWith_23 : decode cX9_throughWith 23 = .ok (.iload_n 2, 1) := by decide +kernel
theorem dX9_throughWith_24 : decode cX9_throughWith 24 = .ok (.if_icmp .ne 20, 3) := by decide +kernel
theorem dX9_throughWith_27 : decode cX9_throughWith 27 = .ok (.aload_n 0, 1) := by decide +kernel
theorem dX9_throughWith_28 : decode cX9_throughWith 28 = .ok (.iload_n 1, 1) := by decide +kernel
theorem dX9_throughWith_29 : decode cX9_throughWith 29 = .ok (.iload_n 3, 1) := by decide +kernel
theorem dX9_throughWith_30 : decode cX9_throughWith 30 = .ok (.aload_n 0, 1) := by decide +kernel
theorem dX9_throughWith_31 : decode cX9_throughWith 31 = .ok (.getfield 44, 3) := by decide +kernel
theorem dX9_throughWith_34 : decode cX9_throughWith 34 = .ok (.iload_n 1, 1) := by decide +kernel
theorem dX9_throughWith_35 : decode cX9_throughWith 35 = .ok (.iaload, 1) := by decide +kernel
theorem dX9_throughWith_36 : decode cX9_throughWith 36 = .ok (.iconst 1, 1) := by decide +kernel
theorem dX9_throughWith_37 : decode cX9_throughWith 37 = .ok (.iadd, 1) := by decide +kernel
theorem dX9_throughWith_38 : decode cX9_throughWith 38 = .ok (.invokevirtual 183, 3) := by decide +kernel
theorem dX9_throughWith_41 : decode cX9_throughWith 41 = .ok (.goto 6, 3) := by decide +kernel
theorem dX9_throughWith_44 : decode cX9_throughWith 44 = .ok (.iload_n 3, 1) := by decide +kernel
theorem dX9_throughWith_45 : decode cX9_throughWith 45 = .ok (.iconst 1, 1) := by decide +kernel
theorem dX9_throughWith_46 : decode cX9_throughWith 46 = .ok (.iadd, 1) := by decide +kernel
theorem dX9_throughWith_47 : decode cX9_throughWith 47 = .ok (.istore_n 3, 1) := by decide +kernel
theorem dX9_throughWith_48 : decode cX9_throughWith 48 = .ok (.goto (-38), 3) := by decide +kernel
theorem dX9_throughWith_51 : decode cX9_throughWith 51 = .ok (.iload 4, 2) := by decide +kernel
theorem dX9_throughWith_53 : decode cX9_throughWith 53 = .ok (.ireturn, 1) := by decide +kernel
theorem dX9_when_0 : decode cX9_when 0 = .ok (.aload_n 0, 1) := by decide +kernel
theorem dX9_when_1 : decode cX9_when 1 = .ok (.iload_n 1, 1) := by decide +kernel
theorem dX9_when_2 : decode cX9_when 2 = .ok (.invokevirtual 104, 3) := by decide +kernel
theorem dX9_when_5 : decode cX9_when 5 = .ok (.ifCond .ne 9, 3) := by decide +kernel
theorem dX9_when_8 : decode cX9_when 8 = .ok (.aload_n 0, 1) := by decide +kernel
theorem dX9_when_9 : decode cX9_when 9 = .ok (.iconst (-1), 1) := by decide +kernel
theorem dX9_when_10 : decode cX9_when 10 = .ok (.invokevirtual 100, 3) := by decide +kernel
theorem dX9_when_13 : decode cX9_when 13 = .ok (.ireturn, 1) := by decide +kernel
theorem dX9_when_14 : decode cX9_when 14 = .ok (.iload_n 3, 1) := by decide +kernel
theorem dX9_when_15 : decode cX9_when 15 = .ok (.ifCond .lt 8, 3) := by decide +kernel
theorem dX9_when_18 : decode cX9_when 18 = .ok (.iload_n 3, 1) := by decide +kernel
theorem dX9_when_19 : decode cX9_when 19 = .ok (.iconst 1, 1) := by decide +kernel
theorem dX9_when_20 : decode cX9_when 20 = .ok (.if_icmp .le 10, 3) := by decide +kernel
theorem dX9_when_23 : decode cX9_when 23 = .ok (.aload_n 0, 1) := by decide +kernel
theorem dX9_when_24 : decode cX9_when 24 = .ok (.bipush (-5), 2) := by decide +kernel
theorem dX9_when_26 : decode cX9_when 26 = .ok (.invokevirtual 100, 3) := by decide +kernel
theorem dX9_when_29 : decode cX9_when 29 = .ok (.ireturn, 1) := by decide +kernel
theorem dX9_when_30 : decode cX9_when 30 = .ok (.iload_n 2, 1) := by decide +kernel
theorem dX9_when_31 : decode cX9_when 31 = .ok (.iconst 1, 1) := by decide +kernel
theorem dX9_when_32 : decode cX9_when 32 = .ok (.if_icmp .lt 22, 3) := by decide +kernel
theorem dX9_when_35 : decode cX9_when 35 = .ok (.iload_n 2, 1) := by decide +kernel
theorem dX9_when_36 : decode cX9_when 36 = .ok (.bipush 100, 2) := by decide +kernel
theorem dX9_when_38 : decode cX9_when 38 = .ok (.if_icmp .gt 16, 3) := by decide +kernel
theorem dX9_when_41 : decode cX9_when 41 = .ok (.aload_n 0, 1) := by decide +kernel
theorem dX9_when_42 : decode cX9_when 42 = .ok (.getfield 38, 3) := by decide +kernel
theorem dX9_when_45 : decode cX9_when 45 = .ok (.iload_n 1, 1) := by decide +kernel
theorem dX9_when_46 : decode cX9_when 46 = .ok (.iaload, 1) := by decide +kernel
theorem dX9_when_47 : decode cX9_when 47 = .ok (.aload_n 0, 1) := by decide +kernel
theorem dX9_when_48 : decode cX9_when 48 = .ok (.getfield 7, 3) := by decide +kernel
theorem dX9_when_51 : decode cX9_when 51 = .ok (.if_icmp .ne 10, 3) := by decide +kernel
theorem dX9_when_54 : decode cX9_when 54 = .ok (.aload_n 0, 1) := by decide +kernel
theorem dX9_when_55 : decode cX9_when 55 = .ok (.bipush (-6), 2) := by decide +kernel
theorem dX9_when_57 : decode cX9_when 57 = .ok (.invokevirtual 100, 3) := by decide +kernel
theorem dX9_when_60 : decode cX9_when 60 = .ok (.ireturn, 1) := by decide +kernel
theorem dX9_when_61 : decode cX9_when 61 = .ok (.iconst 1, 1) := by decide +kernel
theorem dX9_when_62 : decode cX9_when 62 = .ok (.istore 4, 2) := by decide +kernel
theorem dX9_when_64 : decode cX9_when 64 = .ok (.iconst 2, 1) := by decide +kernel
theorem dX9_when_65 : decode cX9_when 65 = .ok (.istore 5, 2) := by decide +kernel
theorem dX9_when_67 : decode cX9_when 67 = .ok (.iload 5, 2) := by decide +kernel
theorem dX9_when_69 : decode cX9_when 69 = .ok (.iload_n 2, 1) := by decide +kernel
theorem dX9_when_70 : decode cX9_when 70 = .ok (.if_icmp .gt 52, 3) := by decide +kernel
theorem dX9_when_73 : decode cX9_when 73 = .ok (.aload_n 0, 1) := by decide +kernel
theorem dX9_when_74 : decode cX9_when 74 = .ok (.iload_n 1, 1) := by decide +kernel
theorem dX9_when_75 : decode cX9_when 75 = .ok (.iload 5, 2) := by decide +kernel
theorem dX9_when_77 : decode cX9_when 77 = .ok (.invokevirtual 242, 3) := by decide +kernel
theorem dX9_when_80 : decode cX9_when 80 = .ok (.istore 6, 2) := by decide +kernel
theorem dX9_when_82 : decode cX9_when 82 = .ok (.aload_n 0, 1) := by decide +kernel
theorem dX9_when_83 : decode cX9_when 83 = .ok (.iload_n 1, 1) := by decide +kernel
theorem dX9_when_84 : decode cX9_when 84 = .ok (.iload 4, 2) := by decide +kernel
theorem dX9_when_86 : decode cX9_when 86 = .ok (.invokevirtual 242, 3) := by decide +kernel
theorem dX9_when_89 : decode cX9_when 89 = .ok (.istore 7, 2) := by decide +kernel
theorem dX9_when_91 : decode cX9_when 91 = .ok (.iload_n 3, 1) := by decide +kernel
theorem dX9_when_92 : decode cX9_when 92 = .ok (.ifCond .ne 13, 3) := by decide +kernel
theorem dX9_when_95 : decode cX9_when 95 = .ok (.iload 6, 2) := by decide +kernel
theorem dX9_when_97 : decode cX9_when 97 = .ok (.iload 7, 2) := by decide +kernel
theorem dX9_when_99 : decode cX9_when 99 = .ok (.if_icmp .gt 17, 3) := by decide +kernel
theorem dX9_when_102 : decode cX9_when 102 = .ok (.goto 10, 3) := by decide +kernel
theorem dX9_when_105 : decode cX9_when 105 = .ok (.iload 6, 2) := by decide +kernel
theorem dX9_when_107 : decode cX9_when 107 = .ok (.iload 7, 2) := by decide +kernel
theorem dX9_when_109 : decode cX9_when 109 = .ok (.if_icmp .le 7, 3) := by decide +kernel
theorem dX9_when_112 : decode cX9_when 112 = .ok (.iload 5, 2) := by decide +kernel
theorem dX9_when_114 : decode cX9_when 114 = .ok (.istore 4, 2) := by decide +kernel
theorem dX9_when_116 : decode cX9_when 116 = .ok (.iinc 5 1, 3) := by decide +kernel
theorem dX9_when_119 : decode cX9_when 119 = .ok (.goto (-52), 3) := by decide +kernel
theorem dX9_when_122 : decode cX9_when 122 = .ok (.iload 4, 2) := by decide +kernel
theorem dX9_when_124 : decode cX9_when 124 = .ok (.ireturn, 1) := by decide +kernel
theorem dX9_longest_0 : decode cX9_longest 0 = .ok (.aload_n 0, 1) := by decide +kernel
theorem dX9_longest_1 : decode cX9_longest 1 = .ok (.iload_n 1, 1) := by decide +kernel
theorem dX9_longest_2 : decode cX9_longest 2 = .ok (.invokevirtual 104, 3) := by decide +kernel
theorem dX9_longest_5 : decode cX9_longest 5 = .ok (.ifCond .ne 9, 3) := by decide +kernel
theorem dX9_longest_8 : decode cX9_longest 8 = .ok (.aload_n 0, 1) := by decide +kernel
theorem dX9_longest_9 : decode cX9_longest 9 = .ok (.iconst (-1), 1) := by decide +kernel
theorem dX9_longest_10 : decode cX9_longest 10 = .ok (.invokevirtual 212, 3) := by decide +kernel
theorem dX9_longest_13 : decode cX9_longest 13 = .ok (.ireturn, 1) := by decide +kernel
theorem dX9_longest_14 : decode cX9_longest 14 = .ok (.iload_n 2, 1) := by decide +kernel
theorem dX9_longest_15 : decode cX9_longest 15 = .ok (.ifCond .lt 8, 3) := by decide +kernel
theorem dX9_longest_18 : decode cX9_longest 18 = .ok (.iload_n 2, 1) := by decide +kernel
theorem dX9_longest_19 : decode cX9_longest 19 = .ok (.iconst 5, 1) := by decide +kernel
theorem dX9_longest_20 : decode cX9_longest 20 = .ok (.if_icmp .le 10, 3) := by decide +kernel
theorem dX9_longest_23 : decode cX9_longest 23 = .ok (.aload_n 0, 1) := by decide +kernel
theorem dX9_longest_24 : decode cX9_longest 24 = .ok (.bipush (-6), 2) := by decide +kernel
theorem dX9_longest_26 : decode cX9_longest 26 = .ok (.invokevirtual 212, 3) := by decide +kernel
theorem dX9_longest_29 : decode cX9_longest 29 = .ok (.ireturn, 1) := by decide +kernel
theorem dX9_longest_30 : decode cX9_longest 30 = .ok (.aload_n 0, 1) := by decide +kernel
theorem dX9_longest_31 : decode cX9_longest 31 = .ok (.iload_n 1, 1) := by decide +kernel
theorem dX9_longest_32 : decode cX9_longest 32 = .ok (.invokevirtual 221, 3) := by decide +kernel
theorem dX9_longest_35 : decode cX9_longest 35 = .ok (.istore_n 3, 1) := by decide +kernel
theorem dX9_longest_36 : decode cX9_longest 36 = .ok (.iconst 0, 1) := by decide +kernel
theorem dX9_longest_37 : decode cX9_longest 37 = .ok (.istore 4, 2) := by decide +kernel
theorem dX9_longest_39 : decode cX9_longest 39 = .ok (.iload 4, 2) := by decide +kernel
theorem dX9_longest_41 : decode cX9_longest 41 = .ok (.sipush 2010, 3) := by decide +kernel
theorem dX9_longest_44 : decode cX9_longest 44 = .ok (.if_icmp .ge 17, 3) := by decide +kernel
theorem dX9_longest_47 : decode cX9_longest 47 = .ok (.aload_n 0, 1) := by decide +kernel
theorem dX9_longest_48 : decode cX9_longest 48 = .ok (.getfield 81, 3) := by decide +kernel
theorem dX9_longest_51 : decode cX9_longest 51 = .ok (.iload 4, 2) := by decide +kernel
theorem dX9_longest_53 : decode cX9_longest 53 = .ok (.iconst 0, 1) := by decide +kernel
theorem dX9_longest_54 : decode cX9_longest 54 = .ok (.iastore, 1) := by decide +kernel
theorem dX9_longest_55 : decode cX9_longest 55 = .ok (.iinc 4 1, 3) := by decide +kernel
theorem dX9_longest_58 : decode cX9_longest 58 = .ok (.goto (-19), 3) := by decide +kernel
theorem dX9_longest_61 : decode cX9_longest 61 = .ok (.iconst 0, 1) := by decide +kernel
theorem dX9_longest_62 : decode cX9_longest 62 = .ok (.istore 4, 2) := by decide +kernel
theorem dX9_longest_64 : decode cX9_longest 64 = .ok (.iload 4, 2) := by decide +kernel
theorem dX9_longest_66 : decode cX9_longest 66 = .ok (.iload_n 2, 1) := by decide +kernel
theorem dX9_longest_67 : decode cX9_longest 67 = .ok (.if_icmp .gt 197, 3) := by decide +kernel
theorem dX9_longest_70 : decode cX9_longest 70 = .ok (.iconst 0, 1) := by decide +kernel
theorem dX9_longest_71 : decode cX9_longest 71 = .ok (.istore 5, 2) := by decide +kernel
theorem dX9_longest_73 : decode cX9_longest 73 = .ok (.iload 5, 2) := by decide +kernel
theorem dX9_longest_75 : decode cX9_longest 75 = .ok (.bipush 10, 2) := by decide +kernel
theorem dX9_longest_77 : decode cX9_longest 77 = .ok (.if_icmp .ge 25, 3) := by decide +kernel
theorem dX9_longest_80 : decode cX9_longest 80 = .ok (.aload_n 0, 1) := by decide +kernel
theorem dX9_longest_81 : decode cX9_longest 81 = .ok (.getfield 84, 3) := by decide +kernel
theorem dX9_longest_84 : decode cX9_longest 84 = .ok (.bipush 10, 2) := by decide +kernel
theorem dX9_longest_86 : decode cX9_longest 86 = .ok (.aload_n 0, 1) := by decide +kernel
theorem dX9_longest_87 : decode cX9_longest 87 = .ok (.getfield 7, 3) := by decide +kernel
theorem dX9_longest_90 : decode cX9_longest 90 = .ok (.imul, 1) := by decide +kernel
theorem dX9_longest_91 : decode cX9_longest 91 = .ok (.iload 5, 2) := by decide +kernel
theorem dX9_longest_93 : decode cX9_longest 93 = .ok (.iadd, 1) := by decide +kernel
theorem dX9_longest_94 : decode cX9_longest 94 = .ok (.iconst 0, 1) := by decide +kernel
theorem dX9_longest_95 : decode cX9_longest 95 = .ok (.iastore, 1) := by decide +kernel
theorem dX9_longest_96 : decode cX9_longest 96 = .ok (.iinc 5 1, 3) := by decide +kernel
theorem dX9_longest_99 : decode cX9_longest 99 = .ok (.goto (-26), 3) := by decide +kernel
theorem dX9_longest_102 : decode cX9_longest 102 = .ok (.aload_n 0, 1) := by decide +kernel
theorem dX9_longest_103 : decode cX9_longest 103 = .ok (.getfield 7, 3) := by decide +kernel
theorem dX9_longest_106 : decode cX9_longest 106 = .ok (.iconst 1, 1) := by decide +kernel
theorem dX9_longest_107 : decode cX9_longest 107 = .ok (.isub, 1) := by decide +kernel
theorem dX9_longest_108 : decode cX9_longest 108 = .ok (.istore 5, 2) := by decide +kernel
theorem dX9_longest_110 : decode cX9_longest 110 = .ok (.iload 5, 2) := by decide +kernel
theorem dX9_longest_112 : decode cX9_longest 112 = .ok (.ifCond .lt 108, 3) := by decide +kernel
theorem dX9_longest_115 : decode cX9_longest 115 = .ok (.iconst 0, 1) := by decide +kernel
theorem dX9_longest_116 : decode cX9_longest 116 = .ok (.istore 6, 2) := by decide +kernel
theorem dX9_longest_118 : decode cX9_longest 118 = .ok (.iload 6, 2) := by decide +kernel
theorem dX9_longest_120 : decode cX9_longest 120 = .ok (.iload_n 3, 1) := by decide +kernel
theorem dX9_longest_121 : decode cX9_longest 121 = .ok (.if_icmp .ge 93, 3) := by decide +kernel
theorem dX9_longest_124 : decode cX9_longest 124 = .ok (.aload_n 0, 1) := by decide +kernel
theorem dX9_longest_125 : decode cX9_longest 125 = .ok (.getfield 84, 3) := by decide +kernel
theorem dX9_longest_128 : decode cX9_longest 128 = .ok (.bipush 10, 2) := by decide +kernel
theorem dX9_longest_130 : decode cX9_longest 130 = .ok (.iload 5, 2) := by decide +kernel
theorem dX9_longest_132 : decode cX9_longest 132 = .ok (.imul, 1) := by decide +kernel
theorem dX9_longest_133 : decode cX9_longest 133 = .ok (.bipush 10, 2) := by decide +kernel
theorem dX9_longest_135 : decode cX9_longest 135 = .ok (.iadd, 1) := by decide +kernel
theorem dX9_longest_136 : decode cX9_longest 136 = .ok (.iload 6, 2) := by decide +kernel
theorem dX9_longest_138 : decode cX9_longest 138 = .ok (.iadd, 1) := by decide +kernel
theorem dX9_longest_139 : decode cX9_longest 139 = .ok (.iaload, 1) := by decide +kernel
theorem dX9_longest_140 : decode cX9_longest 140 = .ok (.istore 7, 2) := by decide +kernel
theorem dX9_longest_142 : decode cX9_longest 142 = .ok (.iload 4, 2) := by decide +kernel
theorem dX9_longest_144 : decode cX9_longest 144 = .ok (.ifCond .ne 7, 3) := by decide +kernel
theorem dX9_longest_147 : decode cX9_longest 147 = .ok (.iconst 0, 1) := by decide +kernel
theorem dX9_longest_148 : decode cX9_longest 148 = .ok (.goto 29, 3) := by decide +kernel
theorem dX9_longest_151 : decode cX9_longest 151 = .ok (.aload_n 0, 1) := by decide +kernel
theorem dX9_longest_152 : decode cX9_longest 152 = .ok (.getfield 81, 3) := by decide +kernel
theorem dX9_longest_155 : decode cX9_longest 155 = .ok (.bipush 10, 2) := by decide +kernel
theorem dX9_longest_157 : decode cX9_longest 157 = .ok (.aload_n 0, 1) := by decide +kernel
theorem dX9_longest_158 : decode cX9_longest 158 = .ok (.iload_n 1, 1) := by decide +kernel
theorem dX9_longest_159 : decode cX9_longest 159 = .ok (.iload 5, 2) := by decide +kernel
theorem dX9_longest_161 : decode cX9_longest 161 = .ok (.iload 6, 2) := by decide +kernel
theorem dX9_longest_163 : decode cX9_longest 163 = .ok (.iconst 1, 1) := by decide +kernel
theorem dX9_longest_164 : decode cX9_longest 164 = .ok (.iadd, 1) := by decide +kernel
theorem dX9_longest_165 : decode cX9_longest 165 = .ok (.invokevirtual 183, 3) := by decide +kernel
theorem dX9_longest_168 : decode cX9_longest 168 = .ok (.imul, 1) := by decide +kernel
theorem dX9_longest_169 : decode cX9_longest 169 = .ok (.iload 6, 2) := by decide +kernel
theorem dX9_longest_171 : decode cX9_longest 171 = .ok (.iconst 1, 1) := by decide +kernel
theorem dX9_longest_172 : decode cX9_longest 172 = .ok (.iadd, 1) := by decide +kernel
theorem dX9_longest_173 : decode cX9_longest 173 = .ok (.iload_n 3, 1) := by decide +kernel
theorem dX9_longest_174 : decode cX9_longest 174 = .ok (.irem, 1) := by decide +kernel
theorem dX9_longest_175 : decode cX9_longest 175 = .ok (.iadd, 1) := by decide +kernel
theorem dX9_longest_176 : decode cX9_longest 176 = .ok (.iaload, 1) := by decide +kernel
theorem dX9_longest_177 : decode cX9_longest 177 = .ok (.istore 8, 2) := by decide +kernel
theorem dX9_longest_179 : decode cX9_longest 179 = .ok (.aload_n 0, 1) := by decide +kernel
theorem dX9_longest_180 : decode cX9_longest 180 = .ok (.getfield 84, 3) := by decide +kernel
theorem dX9_longest_183 : decode cX9_longest 183 = .ok (.bipush 10, 2) := by decide +kernel
theorem dX9_longest_185 : decode cX9_longest 185 = .ok (.iload 5, 2) := by decide +kernel
theorem dX9_longest_187 : decode cX9_longest 187 = .ok (.imul, 1) := by decide +kernel
theorem dX9_longest_188 : decode cX9_longest 188 = .ok (.iload 6, 2) := by decide +kernel
theorem dX9_longest_190 : decode cX9_longest 190 = .ok (.iadd, 1) := by decide +kernel
theorem dX9_longest_191 : decode cX9_longest 191 = .ok (.iconst 1, 1) := by decide +kernel
theorem dX9_longest_192 : decode cX9_longest 192 = .ok (.iload 8, 2) := by decide +kernel
theorem dX9_longest_194 : decode cX9_longest 194 = .ok (.iload 7, 2) := by decide +kernel
theorem dX9_longest_196 : decode cX9_longest 196 = .ok (.if_icmp .le 8, 3) := by decide +kernel
theorem dX9_longest_199 : decode cX9_longest 199 = .ok (.iload 8, 2) := by decide +kernel
theorem dX9_longest_201 : decode cX9_longest 201 = .ok (.goto 5, 3) := by decide +kernel
theorem dX9_longest_204 : decode cX9_longest 204 = .ok (.iload 7, 2) := by decide +kernel
theorem dX9_longest_206 : decode cX9_longest 206 = .ok (.iadd, 1) := by decide +kernel
theorem dX9_longest_207 : decode cX9_longest 207 = .ok (.iastore, 1) := by decide +kernel
theorem dX9_longest_208 : decode cX9_longest 208 = .ok (.iinc 6 1, 3) := by decide +kernel
theorem dX9_longest_211 : decode cX9_longest 211 = .ok (.goto (-93), 3) := by decide +kernel
theorem dX9_longest_214 : decode cX9_longest 214 = .ok (.iinc 5 (-1), 3) := by decide +kernel
theorem dX9_longest_217 : decode cX9_longest 217 = .ok (.goto (-107), 3) := by decide +kernel
theorem dX9_longest_220 : decode cX9_longest 220 = .ok (.iconst 0, 1) := by decide +kernel
theorem dX9_longest_221 : decode cX9_longest 221 = .ok (.istore 5, 2) := by decide +kernel
theorem dX9_longest_223 : decode cX9_longest 223 = .ok (.iload 5, 2) := by decide +kernel
theorem dX9_longest_225 : decode cX9_longest 225 = .ok (.bipush 10, 2) := by decide +kernel
theorem dX9_longest_227 : decode cX9_longest 227 = .ok (.aload_n 0, 1) := by decide +kernel
theorem dX9_longest_228 : decode cX9_longest 228 = .ok (.getfield 7, 3) := by decide +kernel
theorem dX9_longest_231 : decode cX9_longest 231 = .ok (.imul, 1) := by decide +kernel
theorem dX9_longest_232 : decode cX9_longest 232 = .ok (.bipush 10, 2) := by decide +kernel
theorem dX9_longest_234 : decode cX9_longest 234 = .ok (.iadd, 1) := by decide +kernel
theorem dX9_longest_235 : decode cX9_longest 235 = .ok (.if_icmp .ge 23, 3) := by decide +kernel
theorem dX9_longest_238 : decode cX9_longest 238 = .ok (.aload_n 0, 1) := by decide +kernel
theorem dX9_longest_239 : decode cX9_longest 239 = .ok (.getfield 81, 3) := by decide +kernel
theorem dX9_longest_242 : decode cX9_longest 242 = .ok (.iload 5, 2) := by decide +kernel
theorem dX9_longest_244 : decode cX9_longest 244 = .ok (.aload_n 0, 1) := by decide +kernel
theorem dX9_longest_245 : decode cX9_longest 245 = .ok (.getfield 84, 3) := by decide +kernel
theorem dX9_longest_248 : decode cX9_longest 248 = .ok (.iload 5, 2) := by decide +kernel
theorem dX9_longest_250 : decode cX9_longest 250 = .ok (.iaload, 1) := by decide +kernel
theorem dX9_longest_251 : decode cX9_longest 251 = .ok (.iastore, 1) := by decide +kernel
theorem dX9_longest_252 : decode cX9_longest 252 = .ok (.iinc 5 1, 3) := by decide +kernel
theorem dX9_longest_255 : decode cX9_longest 255 = .ok (.goto (-32), 3) := by decide +kernel
theorem dX9_longest_258 : decode cX9_longest 258 = .ok (.iinc 4 1, 3) := by decide +kernel
theorem dX9_longest_261 : decode cX9_longest 261 = .ok (.goto (-197), 3) := by decide +kernel
theorem dX9_longest_264 : decode cX9_longest 264 = .ok (.aload_n 0, 1) := by decide +kernel
theorem dX9_longest_265 : decode cX9_longest 265 = .ok (.getfield 81, 3) := by decide +kernel
theorem dX9_longest_268 : decode cX9_longest 268 = .ok (.bipush 10, 2) := by decide +kernel
theorem dX9_longest_270 : decode cX9_longest 270 = .ok (.aload_n 0, 1) := by decide +kernel
theorem dX9_longest_271 : decode cX9_longest 271 = .ok (.getfield 38, 3) := by decide +kernel
theorem dX9_longest_274 : decode cX9_longest 274 = .ok (.iload_n 1, 1) := by decide +kernel
theorem dX9_longest_275 : decode cX9_longest 275 = .ok (.iaload, 1) := by decide +kernel
theorem dX9_longest_276 : decode cX9_longest 276 = .ok (.imul, 1) := by decide +kernel
theorem dX9_longest_277 : decode cX9_longest 277 = .ok (.aload_n 0, 1) := by decide +kernel
theorem dX9_longest_278 : decode cX9_longest 278 = .ok (.getfield 44, 3) := by decide +kernel
theorem dX9_longest_281 : decode cX9_longest 281 = .ok (.iload_n 1, 1) := by decide +kernel
theorem dX9_longest_282 : decode cX9_longest 282 = .ok (.iaload, 1) := by decide +kernel
theorem dX9_longest_283 : decode cX9_longest 283 = .ok (.iload_n 3, 1) := by decide +kernel
theorem dX9_longest_284 : decode cX9_longest 284 = .ok (.irem, 1) := by decide +kernel
theorem dX9_longest_285 : decode cX9_longest 285 = .ok (.iadd, 1) := by decide +kernel
theorem dX9_longest_286 : decode cX9_longest 286 = .ok (.iaload, 1) := by decide +kernel
theorem dX9_longest_287 : decode cX9_longest 287 = .ok (.istore 4, 2) := by decide +kernel
theorem dX9_longest_289 : decode cX9_longest 289 = .ok (.iload 4, 2) := by decide +kernel
theorem dX9_longest_291 : decode cX9_longest 291 = .ok (.sipush 400, 3) := by decide +kernel
theorem dX9_longest_294 : decode cX9_longest 294 = .ok (.if_icmp .le 7, 3) := by decide +kernel
theorem dX9_longest_297 : decode cX9_longest 297 = .ok (.iconst (-1), 1) := by decide +kernel
theorem dX9_longest_298 : decode cX9_longest 298 = .ok (.goto 5, 3) := by decide +kernel
theorem dX9_longest_301 : decode cX9_longest 301 = .ok (.iload 4, 2) := by decide +kernel
theorem dX9_longest_303 : decode cX9_longest 303 = .ok (.ireturn, 1) := by decide +kernel
theorem dX9_fits_0 : decode cX9_fits 0 = .ok (.aload_n 0, 1) := by decide +kernel
theorem dX9_fits_1 : decode cX9_fits 1 = .ok (.iload_n 1, 1) := by decide +kernel
theorem dX9_fits_2 : decode cX9_fits 2 = .ok (.invokevirtual 104, 3) := by decide +kernel
theorem dX9_fits_5 : decode cX9_fits 5 = .ok (.ifCond .ne 9, 3) := by decide +kernel
theorem dX9_fits_8 : decode cX9_fits 8 = .ok (.aload_n 0, 1) := by decide +kernel
theorem dX9_fits_9 : decode cX9_fits 9 = .ok (.iconst (-1), 1) := by decide +kernel
theorem dX9_fits_10 : decode cX9_fits 10 = .ok (.invokevirtual 212, 3) := by decide +kernel
theorem dX9_fits_13 : decode cX9_fits 13 = .ok (.ireturn, 1) := by decide +kernel
theorem dX9_fits_14 : decode cX9_fits 14 = .ok (.iload_n 2, 1) := by decide +kernel
theorem dX9_fits_15 : decode cX9_fits 15 = .ok (.ifCond .lt 9, 3) := by decide +kernel
theorem dX9_fits_18 : decode cX9_fits 18 = .ok (.iload_n 2, 1) := by decide +kernel
theorem dX9_fits_19 : decode cX9_fits 19 = .ok (.bipush 100, 2) := by decide +kernel
theorem dX9_fits_21 : decode cX9_fits 21 = .ok (.if_icmp .le 10, 3) := by decide +kernel
theorem dX9_fits_24 : decode cX9_fits 24 = .ok (.aload_n 0, 1) := by decide +kernel
theorem dX9_fits_25 : decode cX9_fits 25 = .ok (.bipush (-6), 2) := by decide +kernel
theorem dX9_fits_27 : decode cX9_fits 27 = .ok (.invokevirtual 212, 3) := by decide +kernel
theorem dX9_fits_30 : decode cX9_fits 30 = .ok (.ireturn, 1) := by decide +kernel
theorem dX9_fits_31 : decode cX9_fits 31 = .ok (.aload_n 0, 1) := by decide +kernel
theorem dX9_fits_32 : decode cX9_fits 32 = .ok (.getfield 38, 3) := by decide +kernel
theorem dX9_fits_35 : decode cX9_fits 35 = .ok (.iload_n 1, 1) := by decide +kernel
theorem dX9_fits_36 : decode cX9_fits 36 = .ok (.iaload, 1) := by decide +kernel
theorem dX9_fits_37 : decode cX9_fits 37 = .ok (.aload_n 0, 1) := by decide +kernel
theorem dX9_fits_38 : decode cX9_fits 38 = .ok (.getfield 7, 3) := by decide +kernel
theorem dX9_fits_41 : decode cX9_fits 41 = .ok (.if_icmp .ne 13, 3) := by decide +kernel
theorem dX9_fits_44 : decode cX9_fits 44 = .ok (.iload_n 2, 1) := by decide +kernel
theorem dX9_fits_45 : decode cX9_fits 45 = .ok (.ifCond .ne 7, 3) := by decide +kernel
theorem dX9_fits_48 : decode cX9_fits 48 = .ok (.iconst 0, 1) := by decide +kernel
theorem dX9_fits_49 : decode cX9_fits 49 = .ok (.goto 4, 3) := by decide +kernel
theorem dX9_fits_52 : decode cX9_fits 52 = .ok (.iconst (-1), 1) := by decide +kernel
theorem dX9_fits_53 : decode cX9_fits 53 = .ok (.ireturn, 1) := by decide +kernel
theorem dX9_fits_54 : decode cX9_fits 54 = .ok (.aload_n 0, 1) := by decide +kernel
theorem dX9_fits_55 : decode cX9_fits 55 = .ok (.iload_n 1, 1) := by decide +kernel
theorem dX9_fits_56 : decode cX9_fits 56 = .ok (.invokevirtual 221, 3) := by decide +kernel
theorem dX9_fits_59 : decode cX9_fits 59 = .ok (.istore_n 3, 1) := by decide +kernel
theorem dX9_fits_60 : decode cX9_fits 60 = .ok (.iconst 0, 1) := by decide +kernel
theorem dX9_fits_61 : decode cX9_fits 61 = .ok (.istore 4, 2) := by decide +kernel
theorem dX9_fits_63 : decode cX9_fits 63 = .ok (.iload 4, 2) := by decide +kernel
theorem dX9_fits_65 : decode cX9_fits 65 = .ok (.sipush 2010, 3) := by decide +kernel
theorem dX9_fits_68 : decode cX9_fits 68 = .ok (.if_icmp .ge 18, 3) := by decide +kernel
theorem dX9_fits_71 : decode cX9_fits 71 = .ok (.aload_n 0, 1) := by decide +kernel
theorem dX9_fits_72 : decode cX9_fits 72 = .ok (.getfield 81, 3) := by decide +kernel
theorem dX9_fits_75 : decode cX9_fits 75 = .ok (.iload 4, 2) := by decide +kernel
theorem dX9_fits_77 : decode cX9_fits 77 = .ok (.bipush 9, 2) := by decide +kernel
theorem dX9_fits_79 : decode cX9_fits 79 = .ok (.iastore, 1) := by decide +kernel
theorem dX9_fits_80 : decode cX9_fits 80 = .ok (.iinc 4 1, 3) := by decide +kernel
theorem dX9_fits_83 : decode cX9_fits 83 = .ok (.goto (-20), 3) := by decide +kernel
theorem dX9_fits_86 : decode cX9_fits 86 = .ok (.aload_n 0, 1) := by decide +kernel
theorem dX9_fits_87 : decode cX9_fits 87 = .ok (.getfield 81, 3) := by decide +kernel
theorem dX9_fits_90 : decode cX9_fits 90 = .ok (.bipush 10, 2) := by decide +kernel
theorem dX9_fits_92 : decode cX9_fits 92 = .ok (.aload_n 0, 1) := by decide +kernel
theorem dX9_fits_93 : decode cX9_fits 93 = .ok (.getfield 38, 3) := by decide +kernel
theorem dX9_fits_96 : decode cX9_fits 96 = .ok (.iload_n 1, 1) := by decide +kernel
theorem dX9_fits_97 : decode cX9_fits 97 = .ok (.iaload, 1) := by decide +kernel
theorem dX9_fits_98 : decode cX9_fits 98 = .ok (.imul, 1) := by decide +kernel
theorem dX9_fits_99 : decode cX9_fits 99 = .ok (.aload_n 0, 1) := by decide +kernel
theorem dX9_fits_100 : decode cX9_fits 100 = .ok (.getfield 44, 3) := by decide +kernel
theorem dX9_fits_103 : decode cX9_fits 103 = .ok (.iload_n 1, 1) := by decide +kernel
theorem dX9_fits_104 : decode cX9_fits 104 = .ok (.iaload, 1) := by decide +kernel
theorem dX9_fits_105 : decode cX9_fits 105 = .ok (.iload_n 3, 1) := by decide +kernel
theorem dX9_fits_106 : decode cX9_fits 106 = .ok (.irem, 1) := by decide +kernel
theorem dX9_fits_107 : decode cX9_fits 107 = .ok (.iadd, 1) := by decide +kernel
theorem dX9_fits_108 : decode cX9_fits 108 = .ok (.iconst 0, 1) := by decide +kernel
theorem dX9_fits_109 : decode cX9_fits 109 = .ok (.iastore, 1) := by decide +kernel
theorem dX9_fits_110 : decode cX9_fits 110 = .ok (.iconst 0, 1) := by decide +kernel
theorem dX9_fits_111 : decode cX9_fits 111 = .ok (.istore 4, 2) := by decide +kernel
theorem dX9_fits_113 : decode cX9_fits 113 = .ok (.iload 4, 2) := by decide +kernel
theorem dX9_fits_115 : decode cX9_fits 115 = .ok (.iload_n 2, 1) := by decide +kernel
theorem dX9_fits_116 : decode cX9_fits 116 = .ok (.if_icmp .ge 196, 3) := by decide +kernel
theorem dX9_fits_119 : decode cX9_fits 119 = .ok (.iconst 0, 1) := by decide +kernel
theorem dX9_fits_120 : decode cX9_fits 120 = .ok (.istore 5, 2) := by decide +kernel
theorem dX9_fits_122 : decode cX9_fits 122 = .ok (.iload 5, 2) := by decide +kernel
theorem dX9_fits_124 : decode cX9_fits 124 = .ok (.sipush 2010, 3) := by decide +kernel
theorem dX9_fits_127 : decode cX9_fits 127 = .ok (.if_icmp .ge 18, 3) := by decide +kernel
theorem dX9_fits_130 : decode cX9_fits 130 = .ok (.aload_n 0, 1) := by decide +kernel
theorem dX9_fits_131 : decode cX9_fits 131 = .ok (.getfield 84, 3) := by decide +kernel
theorem dX9_fits_134 : decode cX9_fits 134 = .ok (.iload 5, 2) := by decide +kernel
theorem dX9_fits_136 : decode cX9_fits 136 = .ok (.bipush 9, 2) := by decide +kernel
theorem dX9_fits_138 : decode cX9_fits 138 = .ok (.iastore, 1) := by decide +kernel
theorem dX9_fits_139 : decode cX9_fits 139 = .ok (.iinc 5 1, 3) := by decide +kernel
theorem dX9_fits_142 : decode cX9_fits 142 = .ok (.goto (-20), 3) := by decide +kernel
theorem dX9_fits_145 : decode cX9_fits 145 = .ok (.iconst 0, 1) := by decide +kernel
theorem dX9_fits_146 : decode cX9_fits 146 = .ok (.istore 5, 2) := by decide +kernel
theorem dX9_fits_148 : decode cX9_fits 148 = .ok (.iload 5, 2) := by decide +kernel
theorem dX9_fits_150 : decode cX9_fits 150 = .ok (.aload_n 0, 1) := by decide +kernel
theorem dX9_fits_151 : decode cX9_fits 151 = .ok (.getfield 7, 3) := by decide +kernel
theorem dX9_fits_154 : decode cX9_fits 154 = .ok (.if_icmp .ge 121, 3) := by decide +kernel
theorem dX9_fits_157 : decode cX9_fits 157 = .ok (.iconst 0, 1) := by decide +kernel
theorem dX9_fits_158 : decode cX9_fits 158 = .ok (.istore 6, 2) := by decide +kernel
theorem dX9_fits_160 : decode cX9_fits 160 = .ok (.iload 6, 2) := by decide +kernel
theorem dX9_fits_162 : decode cX9_fits 162 = .ok (.iload_n 3, 1) := by decide +kernel
theorem dX9_fits_163 : decode cX9_fits 163 = .ok (.if_icmp .ge 106, 3) := by decide +kernel
theorem dX9_fits_166 : decode cX9_fits 166 = .ok (.aload_n 0, 1) := by decide +kernel
theorem dX9_fits_167 : decode cX9_fits 167 = .ok (.getfield 81, 3) := by decide +kernel
theorem dX9_fits_170 : decode cX9_fits 170 = .ok (.bipush 10, 2) := by decide +kernel
theorem dX9_fits_172 : decode cX9_fits 172 = .ok (.iload 5, 2) := by decide +kernel
theorem dX9_fits_174 : decode cX9_fits 174 = .ok (.imul, 1) := by decide +kernel
theorem dX9_fits_175 : decode cX9_fits 175 = .ok (.iload 6, 2) := by decide +kernel
theorem dX9_fits_177 : decode cX9_fits 177 = .ok (.iadd, 1) := by decide +kernel
theorem dX9_fits_178 : decode cX9_fits 178 = .ok (.iaload, 1) := by decide +kernel
theorem dX9_fits_179 : decode cX9_fits 179 = .ok (.istore 7, 2) := by decide +kernel
theorem dX9_fits_181 : decode cX9_fits 181 = .ok (.bipush 10, 2) := by decide +kernel
theorem dX9_fits_183 : decode cX9_fits 183 = .ok (.iload 5, 2) := by decide +kernel
theorem dX9_fits_185 : decode cX9_fits 185 = .ok (.imul, 1) := by decide +kernel
theorem dX9_fits_186 : decode cX9_fits 186 = .ok (.bipush 10, 2) := by decide +kernel
theorem dX9_fits_188 : decode cX9_fits 188 = .ok (.iadd, 1) := by decide +kernel
theorem dX9_fits_189 : decode cX9_fits 189 = .ok (.iload 6, 2) := by decide +kernel
theorem dX9_fits_191 : decode cX9_fits 191 = .ok (.iadd, 1) := by decide +kernel
theorem dX9_fits_192 : decode cX9_fits 192 = .ok (.istore 8, 2) := by decide +kernel
theorem dX9_fits_194 : decode cX9_fits 194 = .ok (.bipush 10, 2) := by decide +kernel
theorem dX9_fits_196 : decode cX9_fits 196 = .ok (.aload_n 0, 1) := by decide +kernel
theorem dX9_fits_197 : decode cX9_fits 197 = .ok (.iload_n 1, 1) := by decide +kernel
theorem dX9_fits_198 : decode cX9_fits 198 = .ok (.iload 5, 2) := by decide +kernel
theorem dX9_fits_200 : decode cX9_fits 200 = .ok (.iload 6, 2) := by decide +kernel
theorem dX9_fits_202 : decode cX9_fits 202 = .ok (.iconst 1, 1) := by decide +kernel
theorem dX9_fits_203 : decode cX9_fits 203 = .ok (.iadd, 1) := by decide +kernel
theorem dX9_fits_204 : decode cX9_fits 204 = .ok (.invokevirtual 183, 3) := by decide +kernel
theorem dX9_fits_207 : decode cX9_fits 207 = .ok (.imul, 1) := by decide +kernel
theorem dX9_fits_208 : decode cX9_fits 208 = .ok (.iload 6, 2) := by decide +kernel
theorem dX9_fits_210 : decode cX9_fits 210 = .ok (.iconst 1, 1) := by decide +kernel
theorem dX9_fits_211 : decode cX9_fits 211 = .ok (.iadd, 1) := by decide +kernel
theorem dX9_fits_212 : decode cX9_fits 212 = .ok (.iload_n 3, 1) := by decide +kernel
theorem dX9_fits_213 : decode cX9_fits 213 = .ok (.irem, 1) := by decide +kernel
theorem dX9_fits_214 : decode cX9_fits 214 = .ok (.iadd, 1) := by decide +kernel
theorem dX9_fits_215 : decode cX9_fits 215 = .ok (.istore 9, 2) := by decide +kernel
theorem dX9_fits_217 : decode cX9_fits 217 = .ok (.iload 7, 2) := by decide +kernel
theorem dX9_fits_219 : decode cX9_fits 219 = .ok (.aload_n 0, 1) := by decide +kernel
theorem dX9_fits_220 : decode cX9_fits 220 = .ok (.getfield 84, 3) := by decide +kernel
theorem dX9_fits_223 : decode cX9_fits 223 = .ok (.iload 8, 2) := by decide +kernel
theorem dX9_fits_225 : decode cX9_fits 225 = .ok (.iaload, 1) := by decide +kernel
theorem dX9_fits_226 : decode cX9_fits 226 = .ok (.if_icmp .ge 12, 3) := by decide +kernel
theorem dX9_fits_229 : decode cX9_fits 229 = .ok (.aload_n 0, 1) := by decide +kernel
theorem dX9_fits_230 : decode cX9_fits 230 = .ok (.getfield 84, 3) := by decide +kernel
theorem dX9_fits_233 : decode cX9_fits 233 = .ok (.iload 8, 2) := by decide +kernel
theorem dX9_fits_235 : decode cX9_fits 235 = .ok (.iload 7, 2) := by decide +kernel
theorem dX9_fits_237 : decode cX9_fits 237 = .ok (.iastore, 1) := by decide +kernel
theorem dX9_fits_238 : decode cX9_fits 238 = .ok (.iload 7, 2) := by decide +kernel
theorem dX9_fits_240 : decode cX9_fits 240 = .ok (.iconst 1, 1) := by decide +kernel
theorem dX9_fits_241 : decode cX9_fits 241 = .ok (.iadd, 1) := by decide +kernel
theorem dX9_fits_242 : decode cX9_fits 242 = .ok (.aload_n 0, 1) := by decide +kernel
theorem dX9_fits_243 : decode cX9_fits 243 = .ok (.getfield 84, 3) := by decide +kernel
theorem dX9_fits_246 : decode cX9_fits 246 = .ok (.iload 9, 2) := by decide +kernel
theorem dX9_fits_248 : decode cX9_fits 248 = .ok (.iaload, 1) := by decide +kernel
theorem dX9_fits_249 : decode cX9_fits 249 = .ok (.if_icmp .ge 14, 3) := by decide +kernel
theorem dX9_fits_252 : decode cX9_fits 252 = .ok (.aload_n 0, 1) := by decide +kernel
theorem dX9_fits_253 : decode cX9_fits 253 = .ok (.getfield 84, 3) := by decide +kernel
theorem dX9_fits_256 : decode cX9_fits 256 = .ok (.iload 9, 2) := by decide +kernel
theorem dX9_fits_258 : decode cX9_fits 258 = .ok (.iload 7, 2) := by decide +kernel
theorem dX9_fits_260 : decode cX9_fits 260 = .ok (.iconst 1, 1) := by decide +kernel
theorem dX9_fits_261 : decode cX9_fits 261 = .ok (.iadd, 1) := by decide +kernel
theorem dX9_fits_262 : decode cX9_fits 262 = .ok (.iastore, 1) := by decide +kernel
theorem dX9_fits_263 : decode cX9_fits 263 = .ok (.iinc 6 1, 3) := by decide +kernel
theorem dX9_fits_266 : decode cX9_fits 266 = .ok (.goto (-106), 3) := by decide +kernel
theorem dX9_fits_269 : decode cX9_fits 269 = .ok (.iinc 5 1, 3) := by decide +kernel
theorem dX9_fits_272 : decode cX9_fits 272 = .ok (.goto (-124), 3) := by decide +kernel
theorem dX9_fits_275 : decode cX9_fits 275 = .ok (.iconst 0, 1) := by decide +kernel
theorem dX9_fits_276 : decode cX9_fits 276 = .ok (.istore 5, 2) := by decide +kernel
theorem dX9_fits_278 : decode cX9_fits 278 = .ok (.iload 5, 2) := by decide +kernel
theorem dX9_fits_280 : decode cX9_fits 280 = .ok (.sipush 2010, 3) := by decide +kernel
theorem dX9_fits_283 : decode cX9_fits 283 = .ok (.if_icmp .ge 23, 3) := by decide +kernel
theorem dX9_fits_286 : decode cX9_fits 286 = .ok (.aload_n 0, 1) := by decide +kernel
theorem dX9_fits_287 : decode cX9_fits 287 = .ok (.getfield 81, 3) := by decide +kernel
theorem dX9_fits_290 : decode cX9_fits 290 = .ok (.iload 5, 2) := by decide +kernel
theorem dX9_fits_292 : decode cX9_fits 292 = .ok (.aload_n 0, 1) := by decide +kernel
theorem dX9_fits_293 : decode cX9_fits 293 = .ok (.getfield 84, 3) := by decide +kernel
theorem dX9_fits_296 : decode cX9_fits 296 = .ok (.iload 5, 2) := by decide +kernel
theorem dX9_fits_298 : decode cX9_fits 298 = .ok (.iaload, 1) := by decide +kernel
theorem dX9_fits_299 : decode cX9_fits 299 = .ok (.iastore, 1) := by decide +kernel
theorem dX9_fits_300 : decode cX9_fits 300 = .ok (.iinc 5 1, 3) := by decide +kernel
theorem dX9_fits_303 : decode cX9_fits 303 = .ok (.goto (-25), 3) := by decide +kernel
theorem dX9_fits_306 : decode cX9_fits 306 = .ok (.iinc 4 1, 3) := by decide +kernel
theorem dX9_fits_309 : decode cX9_fits 309 = .ok (.goto (-196), 3) := by decide +kernel
theorem dX9_fits_312 : decode cX9_fits 312 = .ok (.bipush 9, 2) := by decide +kernel
theorem dX9_fits_314 : decode cX9_fits 314 = .ok (.istore 4, 2) := by decide +kernel
theorem dX9_fits_316 : decode cX9_fits 316 = .ok (.iconst 0, 1) := by decide +kernel
theorem dX9_fits_317 : decode cX9_fits 317 = .ok (.istore 5, 2) := by decide +kernel
theorem dX9_fits_319 : decode cX9_fits 319 = .ok (.iload 5, 2) := by decide +kernel
theorem dX9_fits_321 : decode cX9_fits 321 = .ok (.iload_n 3, 1) := by decide +kernel
theorem dX9_fits_322 : decode cX9_fits 322 = .ok (.if_icmp .ge 55, 3) := by decide +kernel
theorem dX9_fits_325 : decode cX9_fits 325 = .ok (.iload_n 2, 1) := by decide +kernel
theorem dX9_fits_326 : decode cX9_fits 326 = .ok (.ifCond .le 51, 3) := by decide +kernel
theorem dX9_fits_329 : decode cX9_fits 329 = .ok (.aload_n 0, 1) := by decide +kernel
theorem dX9_fits_330 : decode cX9_fits 330 = .ok (.getfield 81, 3) := by decide +kernel
theorem dX9_fits_333 : decode cX9_fits 333 = .ok (.bipush 10, 2) := by decide +kernel
theorem dX9_fits_335 : decode cX9_fits 335 = .ok (.aload_n 0, 1) := by decide +kernel
theorem dX9_fits_336 : decode cX9_fits 336 = .ok (.getfield 7, 3) := by decide +kernel
theorem dX9_fits_339 : decode cX9_fits 339 = .ok (.imul, 1) := by decide +kernel
theorem dX9_fits_340 : decode cX9_fits 340 = .ok (.iload 5, 2) := by decide +kernel
theorem dX9_fits_342 : decode cX9_fits 342 = .ok (.iadd, 1) := by decide +kernel
theorem dX9_fits_343 : decode cX9_fits 343 = .ok (.iaload, 1) := by decide +kernel
theorem dX9_fits_344 : decode cX9_fits 344 = .ok (.iload 4, 2) := by decide +kernel
theorem dX9_fits_346 : decode cX9_fits 346 = .ok (.if_icmp .ge 21, 3) := by decide +kernel
theorem dX9_fits_349 : decode cX9_fits 349 = .ok (.aload_n 0, 1) := by decide +kernel
theorem dX9_fits_350 : decode cX9_fits 350 = .ok (.getfield 81, 3) := by decide +kernel
theorem dX9_fits_353 : decode cX9_fits 353 = .ok (.bipush 10, 2) := by decide +kernel
theorem dX9_fits_355 : decode cX9_fits 355 = .ok (.aload_n 0, 1) := by decide +kernel
theorem dX9_fits_356 : decode cX9_fits 356 = .ok (.getfield 7, 3) := by decide +kernel
theorem dX9_fits_359 : decode cX9_fits 359 = .ok (.imul, 1) := by decide +kernel
theorem dX9_fits_360 : decode cX9_fits 360 = .ok (.iload 5, 2) := by decide +kernel
theorem dX9_fits_362 : decode cX9_fits 362 = .ok (.iadd, 1) := by decide +kernel
theorem dX9_fits_363 : decode cX9_fits 363 = .ok (.iaload, 1) := by decide +kernel
theorem dX9_fits_364 : decode cX9_fits 364 = .ok (.goto 5, 3) := by decide +kernel
theorem dX9_fits_367 : decode cX9_fits 367 = .ok (.iload 4, 2) := by decide +kernel
theorem dX9_fits_369 : decode cX9_fits 369 = .ok (.istore 4, 2) := by decide +kernel
theorem dX9_fits_371 : decode cX9_fits 371 = .ok (.iinc 5 1, 3) := by decide +kernel
theorem dX9_fits_374 : decode cX9_fits 374 = .ok (.goto (-55), 3) := by decide +kernel
theorem dX9_fits_377 : decode cX9_fits 377 = .ok (.iload 4, 2) := by decide +kernel
theorem dX9_fits_379 : decode cX9_fits 379 = .ok (.bipush 9, 2) := by decide +kernel
theorem dX9_fits_381 : decode cX9_fits 381 = .ok (.if_icmp .ne 7, 3) := by decide +kernel
theorem dX9_fits_384 : decode cX9_fits 384 = .ok (.iconst (-1), 1) := by decide +kernel
theorem dX9_fits_385 : decode cX9_fits 385 = .ok (.goto 5, 3) := by decide +kernel
theorem dX9_fits_388 : decode cX9_fits 388 = .ok (.iload 4, 2) := by decide +kernel
theorem dX9_fits_390 : decode cX9_fits 390 = .ok (.ireturn, 1) := by decide +kernel
theorem dX9_wrongIn_0 : decode cX9_wrongIn 0 = .ok (.aload_n 0, 1) := by decide +kernel
theorem dX9_wrongIn_1 : decode cX9_wrongIn 1 = .ok (.getfield 38, 3) := by decide +kernel
theorem dX9_wrongIn_4 : decode cX9_wrongIn 4 = .ok (.iload_n 1, 1) := by decide +kernel
theorem dX9_wrongIn_5 : decode cX9_wrongIn 5 = .ok (.iaload, 1) := by decide +kernel
theorem dX9_wrongIn_6 : decode cX9_wrongIn 6 = .ok (.istore 4, 2) := by decide +kernel
theorem dX9_wrongIn_8 : decode cX9_wrongIn 8 = .ok (.aload_n 0, 1) := by decide +kernel
theorem dX9_wrongIn_9 : decode cX9_wrongIn 9 = .ok (.getfield 44, 3) := by decide +kernel
theorem dX9_wrongIn_12 : decode cX9_wrongIn 12 = .ok (.iload_n 1, 1) := by decide +kernel
theorem dX9_wrongIn_13 : decode cX9_wrongIn 13 = .ok (.iaload, 1) := by decide +kernel
theorem dX9_wrongIn_14 : decode cX9_wrongIn 14 = .ok (.istore 5, 2) := by decide +kernel
theorem dX9_wrongIn_16 : decode cX9_wrongIn 16 = .ok (.aload_n 0, 1) := by decide +kernel
theorem dX9_wrongIn_17 : decode cX9_wrongIn 17 = .ok (.iconst 0, 1) := by decide +kernel
theorem dX9_wrongIn_18 : decode cX9_wrongIn 18 = .ok (.putfield 245, 3) := by decide +kernel
theorem dX9_wrongIn_21 : decode cX9_wrongIn 21 = .ok (.iconst 0, 1) := by decide +kernel
theorem dX9_wrongIn_22 : decode cX9_wrongIn 22 = .ok (.istore 6, 2) := by decide +kernel
theorem dX9_wrongIn_24 : decode cX9_wrongIn 24 = .ok (.iload 6, 2) := by decide +kernel
theorem dX9_wrongIn_26 : decode cX9_wrongIn 26 = .ok (.iload_n 3, 1) := by decide +kernel
theorem dX9_wrongIn_27 : decode cX9_wrongIn 27 = .ok (.if_icmp .ge 73, 3) := by decide +kernel
theorem dX9_wrongIn_30 : decode cX9_wrongIn 30 = .ok (.aload_n 0, 1) := by decide +kernel
theorem dX9_wrongIn_31 : decode cX9_wrongIn 31 = .ok (.iload_n 2, 1) := by decide +kernel
theorem dX9_wrongIn_32 : decode cX9_wrongIn 32 = .ok (.iload 6, 2) := by decide +kernel
theorem dX9_wrongIn_34 : decode cX9_wrongIn 34 = .ok (.invokevirtual 110, 3) := by decide +kernel
theorem dX9_wrongIn_37 : decode cX9_wrongIn 37 = .ok (.istore 7, 2) := by decide +kernel
theorem dX9_wrongIn_39 : decode cX9_wrongIn 39 = .ok (.iload 4, 2) := by decide +kernel
theorem dX9_wrongIn_41 : decode cX9_wrongIn 41 = .ok (.aload_n 0, 1) := by decide +kernel
theorem dX9_wrongIn_42 : decode cX9_wrongIn 42 = .ok (.getfield 7, 3) := by decide +kernel
theorem dX9_wrongIn_45 : decode cX9_wrongIn 45 = .ok (.if_icmp .ne 6, 3) := by decide +kernel
theorem dX9_wrongIn_48 : decode cX9_wrongIn 48 = .ok (.iload 6, 2) := by decide +kernel
theorem dX9_wrongIn_50 : decode cX9_wrongIn 50 = .ok (.ireturn, 1) := by decide +kernel
theorem dX9_wrongIn_51 : decode cX9_wrongIn 51 = .ok (.iload 7, 2) := by decide +kernel
theorem dX9_wrongIn_53 : decode cX9_wrongIn 53 = .ok (.iload 4, 2) := by decide +kernel
theorem dX9_wrongIn_55 : decode cX9_wrongIn 55 = .ok (.iconst 1, 1) := by decide +kernel
theorem dX9_wrongIn_56 : decode cX9_wrongIn 56 = .ok (.iadd, 1) := by decide +kernel
theorem dX9_wrongIn_57 : decode cX9_wrongIn 57 = .ok (.if_icmp .eq 33, 3) := by decide +kernel
theorem dX9_wrongIn_60 : decode cX9_wrongIn 60 = .ok (.iinc 5 1, 3) := by decide +kernel
theorem dX9_wrongIn_63 : decode cX9_wrongIn 63 = .ok (.iload 7, 2) := by decide +kernel
theorem dX9_wrongIn_65 : decode cX9_wrongIn 65 = .ok (.aload_n 0, 1) := by decide +kernel
theorem dX9_wrongIn_66 : decode cX9_wrongIn 66 = .ok (.iload_n 1, 1) := by decide +kernel
theorem dX9_wrongIn_67 : decode cX9_wrongIn 67 = .ok (.iload 4, 2) := by decide +kernel
theorem dX9_wrongIn_69 : decode cX9_wrongIn 69 = .ok (.iload 5, 2) := by decide +kernel
theorem dX9_wrongIn_71 : decode cX9_wrongIn 71 = .ok (.invokevirtual 183, 3) := by decide +kernel
theorem dX9_wrongIn_74 : decode cX9_wrongIn 74 = .ok (.if_icmp .eq 6, 3) := by decide +kernel
theorem dX9_wrongIn_77 : decode cX9_wrongIn 77 = .ok (.iload 6, 2) := by decide +kernel
theorem dX9_wrongIn_79 : decode cX9_wrongIn 79 = .ok (.ireturn, 1) := by decide +kernel
theorem dX9_wrongIn_80 : decode cX9_wrongIn 80 = .ok (.aload_n 0, 1) := by decide +kernel
theorem dX9_wrongIn_81 : decode cX9_wrongIn 81 = .ok (.dup, 1) := by decide +kernel
theorem dX9_wrongIn_82 : decode cX9_wrongIn 82 = .ok (.getfield 245, 3) := by decide +kernel
theorem dX9_wrongIn_85 : decode cX9_wrongIn 85 = .ok (.iconst 1, 1) := by decide +kernel
theorem dX9_wrongIn_86 : decode cX9_wrongIn 86 = .ok (.iadd, 1) := by decide +kernel
theorem dX9_wrongIn_87 : decode cX9_wrongIn 87 = .ok (.putfield 245, 3) := by decide +kernel
theorem dX9_wrongIn_90 : decode cX9_wrongIn 90 = .ok (.iload 7, 2) := by decide +kernel
theorem dX9_wrongIn_92 : decode cX9_wrongIn 92 = .ok (.istore 4, 2) := by decide +kernel
theorem dX9_wrongIn_94 : decode cX9_wrongIn 94 = .ok (.iinc 6 1, 3) := by decide +kernel
theorem dX9_wrongIn_97 : decode cX9_wrongIn 97 = .ok (.goto (-73), 3) := by decide +kernel
theorem dX9_wrongIn_100 : decode cX9_wrongIn 100 = .ok (.iconst (-1), 1) := by decide +kernel
theorem dX9_wrongIn_101 : decode cX9_wrongIn 101 = .ok (.ireturn, 1) := by decide +kernel
theorem dX9_barsOf_0 : decode cX9_barsOf 0 = .ok (.aload_n 0, 1) := by decide +kernel
theorem dX9_barsOf_1 : decode cX9_barsOf 1 = .ok (.iload_n 2, 1) := by decide +kernel
theorem dX9_barsOf_2 : decode cX9_barsOf 2 = .ok (.invokevirtual 96, 3) := by decide +kernel
theorem dX9_barsOf_5 : decode cX9_barsOf 5 = .ok (.ifCond .eq 15, 3) := by decide +kernel
theorem dX9_barsOf_8 : decode cX9_barsOf 8 = .ok (.aload_n 0, 1) := by decide +kernel
theorem dX9_barsOf_9 : decode cX9_barsOf 9 = .ok (.iload_n 1, 1) := by decide +kernel
theorem dX9_barsOf_10 : decode cX9_barsOf 10 = .ok (.invokevirtual 104, 3) := by decide +kernel
theorem dX9_barsOf_13 : decode cX9_barsOf 13 = .ok (.ifCond .ne 7, 3) := by decide +kernel
theorem dX9_barsOf_16 : decode cX9_barsOf 16 = .ok (.iconst (-1), 1) := by decide +kernel
theorem dX9_barsOf_17 : decode cX9_barsOf 17 = .ok (.goto 9, 3) := by decide +kernel
theorem dX9_barsOf_20 : decode cX9_barsOf 20 = .ok (.aload_n 0, 1) := by decide +kernel
theorem dX9_barsOf_21 : decode cX9_barsOf 21 = .ok (.iload_n 2, 1) := by decide +kernel
theorem dX9_barsOf_22 : decode cX9_barsOf 22 = .ok (.iload_n 3, 1) := by decide +kernel
theorem dX9_barsOf_23 : decode cX9_barsOf 23 = .ok (.invokevirtual 206, 3) := by decide +kernel
theorem dX9_barsOf_26 : decode cX9_barsOf 26 = .ok (.istore 4, 2) := by decide +kernel
theorem dX9_barsOf_28 : decode cX9_barsOf 28 = .ok (.iload 4, 2) := by decide +kernel
theorem dX9_barsOf_30 : decode cX9_barsOf 30 = .ok (.ifCond .ne 14, 3) := by decide +kernel
theorem dX9_barsOf_33 : decode cX9_barsOf 33 = .ok (.iload_n 3, 1) := by decide +kernel
theorem dX9_barsOf_34 : decode cX9_barsOf 34 = .ok (.bipush 40, 2) := by decide +kernel
theorem dX9_barsOf_36 : decode cX9_barsOf 36 = .ok (.if_icmp .le 8, 3) := by decide +kernel
theorem dX9_barsOf_39 : decode cX9_barsOf 39 = .ok (.bipush (-6), 2) := by decide +kernel
theorem dX9_barsOf_41 : decode cX9_barsOf 41 = .ok (.goto 5, 3) := by decide +kernel
theorem dX9_barsOf_44 : decode cX9_barsOf 44 = .ok (.iload 4, 2) := by decide +kernel
theorem dX9_barsOf_46 : decode cX9_barsOf 46 = .ok (.ireturn, 1) := by decide +kernel
theorem dX9_judge_0 : decode cX9_judge 0 = .ok (.aload_n 0, 1) := by decide +kernel
theorem dX9_judge_1 : decode cX9_judge 1 = .ok (.iload_n 1, 1) := by decide +kernel
theorem dX9_judge_2 : decode cX9_judge 2 = .ok (.iload_n 2, 1) := by decide +kernel
theorem dX9_judge_3 : decode cX9_judge 3 = .ok (.iload_n 3, 1) := by decide +kernel
theorem dX9_judge_4 : decode cX9_judge 4 = .ok (.invokevirtual 248, 3) := by decide +kernel
theorem dX9_judge_7 : decode cX9_judge 7 = .ok (.istore 4, 2) := by decide +kernel
theorem dX9_judge_9 : decode cX9_judge 9 = .ok (.iload 4, 2) := by decide +kernel
theorem dX9_judge_11 : decode cX9_judge 11 = .ok (.ifCond .eq 12, 3) := by decide +kernel
theorem dX9_judge_14 : decode cX9_judge 14 = .ok (.aload_n 0, 1) := by decide +kernel
theorem dX9_judge_15 : decode cX9_judge 15 = .ok (.iload 4, 2) := by decide +kernel
theorem dX9_judge_17 : decode cX9_judge 17 = .ok (.invokevirtual 212, 3) := by decide +kernel
theorem dX9_judge_20 : decode cX9_judge 20 = .ok (.goto 10, 3) := by decide +kernel
theorem dX9_judge_23 : decode cX9_judge 23 = .ok (.aload_n 0, 1) := by decide +kernel
theorem dX9_judge_24 : decode cX9_judge 24 = .ok (.iload_n 1, 1) := by decide +kernel
theorem dX9_judge_25 : decode cX9_judge 25 = .ok (.iload_n 2, 1) := by decide +kernel
theorem dX9_judge_26 : decode cX9_judge 26 = .ok (.iload_n 3, 1) := by decide +kernel
theorem dX9_judge_27 : decode cX9_judge 27 = .ok (.invokevirtual 251, 3) := by decide +kernel
theorem dX9_judge_30 : decode cX9_judge 30 = .ok (.ireturn, 1) := by decide +kernel
theorem dX9_breaks_0 : decode cX9_breaks 0 = .ok (.aload_n 0, 1) := by decide +kernel
theorem dX9_breaks_1 : decode cX9_breaks 1 = .ok (.iload_n 1, 1) := by decide +kernel
theorem dX9_breaks_2 : decode cX9_breaks 2 = .ok (.iload_n 2, 1) := by decide +kernel
theorem dX9_breaks_3 : decode cX9_breaks 3 = .ok (.iload_n 3, 1) := by decide +kernel
theorem dX9_breaks_4 : decode cX9_breaks 4 = .ok (.invokevirtual 248, 3) := by decide +kernel
theorem dX9_breaks_7 : decode cX9_breaks 7 = .ok (.istore 4, 2) := by decide +kernel
theorem dX9_breaks_9 : decode cX9_breaks 9 = .ok (.iload 4, 2) := by decide +kernel
theorem dX9_breaks_11 : decode cX9_breaks 11 = .ok (.ifCond .ne 18, 3) := by decide +kernel
theorem dX9_breaks_14 : decode cX9_breaks 14 = .ok (.aload_n 0, 1) := by decide +kernel
theorem dX9_breaks_15 : decode cX9_breaks 15 = .ok (.iload_n 1, 1) := by decide +kernel
theorem dX9_breaks_16 : decode cX9_breaks 16 = .ok (.iload_n 2, 1) := by decide +kernel
theorem dX9_breaks_17 : decode cX9_breaks 17 = .ok (.iload_n 3, 1) := by decide +kernel
theorem dX9_breaks_18 : decode cX9_breaks 18 = .ok (.invokevirtual 251, 3) := by decide +kernel
theorem dX9_breaks_21 : decode cX9_breaks 21 = .ok (.iconst (-1), 1) := by decide +kernel
theorem dX9_breaks_22 : decode cX9_breaks 22 = .ok (.if_icmp .eq 7, 3) := by decide +kernel
theorem dX9_breaks_25 : decode cX9_breaks 25 = .ok (.bipush (-6), 2) := by decide +kernel
theorem dX9_breaks_27 : decode cX9_breaks 27 = .ok (.istore 4, 2) := by decide +kernel
theorem dX9_breaks_29 : decode cX9_breaks 29 = .ok (.iload 4, 2) := by decide +kernel
theorem dX9_breaks_31 : decode cX9_breaks 31 = .ok (.ifCond .eq 12, 3) := by decide +kernel
theorem dX9_breaks_34 : decode cX9_breaks 34 = .ok (.aload_n 0, 1) := by decide +kernel
theorem dX9_breaks_35 : decode cX9_breaks 35 = .ok (.iload 4, 2) := by decide +kernel
theorem dX9_breaks_37 : decode cX9_breaks 37 = .ok (.invokevirtual 100, 3) := by decide +kernel
theorem dX9_breaks_40 : decode cX9_breaks 40 = .ok (.goto 7, 3) := by decide +kernel
theorem dX9_breaks_43 : decode cX9_breaks 43 = .ok (.aload_n 0, 1) := by decide +kernel
theorem dX9_breaks_44 : decode cX9_breaks 44 = .ok (.getfield 245, 3) := by decide +kernel
theorem dX9_breaks_47 : decode cX9_breaks 47 = .ok (.ireturn, 1) := by decide +kernel
theorem dX9_quickest_0 : decode cX9_quickest 0 = .ok (.aload_n 0, 1) := by decide +kernel
theorem dX9_quickest_1 : decode cX9_quickest 1 = .ok (.iload_n 1, 1) := by decide +kernel
theorem dX9_quickest_2 : decode cX9_quickest 2 = .ok (.iload_n 2, 1) := by decide +kernel
theorem dX9_quickest_3 : decode cX9_quickest 3 = .ok (.invokevirtual 206, 3) := by decide +kernel
theorem dX9_quickest_6 : decode cX9_quickest 6 = .ok (.istore_n 3, 1) := by decide +kernel
theorem dX9_quickest_7 : decode cX9_quickest 7 = .ok (.iload_n 3, 1) := by decide +kernel
theorem dX9_quickest_8 : decode cX9_quickest 8 = .ok (.ifCond .ne 21, 3) := by decide +kernel
theorem dX9_quickest_11 : decode cX9_quickest 11 = .ok (.iload_n 2, 1) := by decide +kernel
theorem dX9_quickest_12 : decode cX9_quickest 12 = .ok (.bipush 40, 2) := by decide +kernel
theorem dX9_quickest_14 : decode cX9_quickest 14 = .ok (.if_icmp .gt 12, 3) := by decide +kernel
theorem dX9_quickest_17 : decode cX9_quickest 17 = .ok (.aload_n 0, 1) := by decide +kernel
theorem dX9_quickest_18 : decode cX9_quickest 18 = .ok (.iload_n 1, 1) := by decide +kernel
theorem dX9_quickest_19 : decode cX9_quickest 19 = .ok (.iload_n 2, 1) := by decide +kernel
theorem dX9_quickest_20 : decode cX9_quickest 20 = .ok (.invokevirtual 209, 3) := by decide +kernel
theorem dX9_quickest_23 : decode cX9_quickest 23 = .ok (.ifCond .ne 6, 3) := by decide +kernel
theorem dX9_quickest_26 : decode cX9_quickest 26 = .ok (.bipush (-6), 2) := by decide +kernel
theorem dX9_quickest_28 : decode cX9_quickest 28 = .ok (.istore_n 3, 1) := by decide +kernel
theorem dX9_quickest_29 : decode cX9_quickest 29 = .ok (.iload_n 3, 1) := by decide +kernel
theorem dX9_quickest_30 : decode cX9_quickest 30 = .ok (.ifCond .eq 9, 3) := by decide +kernel
theorem dX9_quickest_33 : decode cX9_quickest 33 = .ok (.aload_n 0, 1) := by decide +kernel
theorem dX9_quickest_34 : decode cX9_quickest 34 = .ok (.iload_n 3, 1) := by decide +kernel
theorem dX9_quickest_35 : decode cX9_quickest 35 = .ok (.invokevirtual 212, 3) := by decide +kernel
theorem dX9_quickest_38 : decode cX9_quickest 38 = .ok (.ireturn, 1) := by decide +kernel
theorem dX9_quickest_39 : decode cX9_quickest 39 = .ok (.iconst (-1), 1) := by decide +kernel
theorem dX9_quickest_40 : decode cX9_quickest 40 = .ok (.istore 4, 2) := by decide +kernel
theorem dX9_quickest_42 : decode cX9_quickest 42 = .ok (.sipush 401, 3) := by decide +kernel
theorem dX9_quickest_45 : decode cX9_quickest 45 = .ok (.istore 5, 2) := by decide +kernel
theorem dX9_quickest_47 : decode cX9_quickest 47 = .ok (.iconst 0, 1) := by decide +kernel
theorem dX9_quickest_48 : decode cX9_quickest 48 = .ok (.istore 6, 2) := by decide +kernel
theorem dX9_quickest_50 : decode cX9_quickest 50 = .ok (.iload 6, 2) := by decide +kernel
theorem dX9_quickest_52 : decode cX9_quickest 52 = .ok (.aload_n 0, 1) := by decide +kernel
theorem dX9_quickest_53 : decode cX9_quickest 53 = .ok (.getfield 93, 3) := by decide +kernel
theorem dX9_quickest_56 : decode cX9_quickest 56 = .ok (.if_icmp .ge 43, 3) := by decide +kernel
theorem dX9_quickest_59 : decode cX9_quickest 59 = .ok (.aload_n 0, 1) := by decide +kernel
theorem dX9_quickest_60 : decode cX9_quickest 60 = .ok (.iload 6, 2) := by decide +kernel
theorem dX9_quickest_62 : decode cX9_quickest 62 = .ok (.iload_n 1, 1) := by decide +kernel
theorem dX9_quickest_63 : decode cX9_quickest 63 = .ok (.iload_n 2, 1) := by decide +kernel
theorem dX9_quickest_64 : decode cX9_quickest 64 = .ok (.invokevirtual 215, 3) := by decide +kernel
theorem dX9_quickest_67 : decode cX9_quickest 67 = .ok (.istore 7, 2) := by decide +kernel
theorem dX9_quickest_69 : decode cX9_quickest 69 = .ok (.iload 7, 2) := by decide +kernel
theorem dX9_quickest_71 : decode cX9_quickest 71 = .ok (.iconst (-1), 1) := by decide +kernel
theorem dX9_quickest_72 : decode cX9_quickest 72 = .ok (.if_icmp .eq 21, 3) := by decide +kernel
theorem dX9_quickest_75 : decode cX9_quickest 75 = .ok (.iload 7, 2) := by decide +kernel
theorem dX9_quickest_77 : decode cX9_quickest 77 = .ok (.iload 5, 2) := by decide +kernel
theorem dX9_quickest_79 : decode cX9_quickest 79 = .ok (.if_icmp .lt 6, 3) := by decide +kernel
theorem dX9_quickest_82 : decode cX9_quickest 82 = .ok (.goto 11, 3) := by decide +kernel
theorem dX9_quickest_85 : decode cX9_quickest 85 = .ok (.iload 6, 2) := by decide +kernel
theorem dX9_quickest_87 : decode cX9_quickest 87 = .ok (.istore 4, 2) := by decide +kernel
theorem dX9_quickest_89 : decode cX9_quickest 89 = .ok (.iload 7, 2) := by decide +kernel
theorem dX9_quickest_91 : decode cX9_quickest 91 = .ok (.istore 5, 2) := by decide +kernel
theorem dX9_quickest_93 : decode cX9_quickest 93 = .ok (.iinc 6 1, 3) := by decide +kernel
theorem dX9_quickest_96 : decode cX9_quickest 96 = .ok (.goto (-46), 3) := by decide +kernel
theorem dX9_quickest_99 : decode cX9_quickest 99 = .ok (.iload 4, 2) := by decide +kernel
theorem dX9_quickest_101 : decode cX9_quickest 101 = .ok (.ireturn, 1) := by decide +kernel
theorem dX9_compares_0 : decode cX9_compares 0 = .ok (.iconst 0, 1) := by decide +kernel
theorem dX9_compares_1 : decode cX9_compares 1 = .ok (.istore 4, 2) := by decide +kernel
theorem dX9_compares_3 : decode cX9_compares 3 = .ok (.iload 4, 2) := by decide +kernel
theorem dX9_compares_5 : decode cX9_compares 5 = .ok (.aload_n 0, 1) := by decide +kernel
theorem dX9_compares_6 : decode cX9_compares 6 = .ok (.getfield 7, 3) := by decide +kernel
theorem dX9_compares_9 : decode cX9_compares 9 = .ok (.if_icmp .gt 19, 3) := by decide +kernel
theorem dX9_compares_12 : decode cX9_compares 12 = .ok (.aload_n 0, 1) := by decide +kernel
theorem dX9_compares_13 : decode cX9_compares 13 = .ok (.getfield 87, 3) := by decide +kernel
theorem dX9_compares_16 : decode cX9_compares 16 = .ok (.iload_n 3, 1) := by decide +kernel
theorem dX9_compares_17 : decode cX9_compares 17 = .ok (.iload 4, 2) := by decide +kernel
theorem dX9_compares_19 : decode cX9_compares 19 = .ok (.iadd, 1) := by decide +kernel
theorem dX9_compares_20 : decode cX9_compares 20 = .ok (.iconst (-1), 1) := by decide +kernel
theorem dX9_compares_21 : decode cX9_compares 21 = .ok (.iastore, 1) := by decide +kernel
theorem dX9_compares_22 : decode cX9_compares 22 = .ok (.iinc 4 1, 3) := by decide +kernel
theorem dX9_compares_25 : decode cX9_compares 25 = .ok (.goto (-22), 3) := by decide +kernel
theorem dX9_compares_28 : decode cX9_compares 28 = .ok (.aload_n 0, 1) := by decide +kernel
theorem dX9_compares_29 : decode cX9_compares 29 = .ok (.iload_n 1, 1) := by decide +kernel
theorem dX9_compares_30 : decode cX9_compares 30 = .ok (.invokevirtual 199, 3) := by decide +kernel
theorem dX9_compares_33 : decode cX9_compares 33 = .ok (.iconst 0, 1) := by decide +kernel
theorem dX9_compares_34 : decode cX9_compares 34 = .ok (.istore 4, 2) := by decide +kernel
theorem dX9_compares_36 : decode cX9_compares 36 = .ok (.iload 4, 2) := by decide +kernel
theorem dX9_compares_38 : decode cX9_compares 38 = .ok (.sipush 400, 3) := by decide +kernel
theorem dX9_compares_41 : decode cX9_compares 41 = .ok (.if_icmp .gt 55, 3) := by decide +kernel
theorem dX9_compares_44 : decode cX9_compares 44 = .ok (.aload_n 0, 1) := by decide +kernel
theorem dX9_compares_45 : decode cX9_compares 45 = .ok (.getfield 87, 3) := by decide +kernel
theorem dX9_compares_48 : decode cX9_compares 48 = .ok (.iload_n 3, 1) := by decide +kernel
theorem dX9_compares_49 : decode cX9_compares 49 = .ok (.aload_n 0, 1) := by decide +kernel
theorem dX9_compares_50 : decode cX9_compares 50 = .ok (.getfield 187, 3) := by decide +kernel
theorem dX9_compares_53 : decode cX9_compares 53 = .ok (.iadd, 1) := by decide +kernel
theorem dX9_compares_54 : decode cX9_compares 54 = .ok (.iaload, 1) := by decide +kernel
theorem dX9_compares_55 : decode cX9_compares 55 = .ok (.iconst (-1), 1) := by decide +kernel
theorem dX9_compares_56 : decode cX9_compares 56 = .ok (.if_icmp .ne 18, 3) := by decide +kernel
theorem dX9_compares_59 : decode cX9_compares 59 = .ok (.aload_n 0, 1) := by decide +kernel
theorem dX9_compares_60 : decode cX9_compares 60 = .ok (.getfield 87, 3) := by decide +kernel
theorem dX9_compares_63 : decode cX9_compares 63 = .ok (.iload_n 3, 1) := by decide +kernel
