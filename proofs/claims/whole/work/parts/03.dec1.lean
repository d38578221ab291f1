theorem dX8_says_97 : decode cX8_says 97 = .ok (.aload_n 0, 1) := by decide +kernel
theorem dX8_says_98 : decode cX8_says 98 = .ok (.getfield 10, 3) := by decide +kernel
theorem dX8_says_101 : decode cX8_says 101 = .ok (.getfield 154, 3) := by decide +kernel
theorem dX8_says_104 : decode cX8_says 104 = .ok (.invokevirtual 157, 3) := by decide +kernel
theorem dX8_says_107 : decode cX8_says 107 = .ok (.ireturn, 1) := by decide +kernel
theorem dX8_counter_0 : decode cX8_counter 0 = .ok (.iload_n 1, 1) := by decide +kernel
theorem dX8_counter_1 : decode cX8_counter 1 = .ok (.invokestatic 134, 3) := by decide +kernel
theorem dX8_counter_4 : decode cX8_counter 4 = .ok (.ifCond .ne 9, 3) := by decide +kernel
theorem dX8_counter_7 : decode cX8_counter 7 = .ok (.aload_n 0, 1) := by decide +kernel
theorem dX8_counter_8 : decode cX8_counter 8 = .ok (.iconst (-1), 1) := by decide +kernel
theorem dX8_counter_9 : decode cX8_counter 9 = .ok (.invokevirtual 86, 3) := by decide +kernel
theorem dX8_counter_12 : decode cX8_counter 12 = .ok (.ireturn, 1) := by decide +kernel
theorem dX8_counter_13 : decode cX8_counter 13 = .ok (.iload_n 2, 1) := by decide +kernel
theorem dX8_counter_14 : decode cX8_counter 14 = .ok (.ifCond .lt 9, 3) := by decide +kernel
theorem dX8_counter_17 : decode cX8_counter 17 = .ok (.iload_n 2, 1) := by decide +kernel
theorem dX8_counter_18 : decode cX8_counter 18 = .ok (.bipush 9, 2) := by decide +kernel
theorem dX8_counter_20 : decode cX8_counter 20 = .ok (.if_icmp .le 10, 3) := by decide +kernel
theorem dX8_counter_23 : decode cX8_counter 23 = .ok (.aload_n 0, 1) := by decide +kernel
theorem dX8_counter_24 : decode cX8_counter 24 = .ok (.bipush (-6), 2) := by decide +kernel
theorem dX8_counter_26 : decode cX8_counter 26 = .ok (.invokevirtual 86, 3) := by decide +kernel
theorem dX8_counter_29 : decode cX8_counter 29 = .ok (.ireturn, 1) := by decide +kernel
theorem dX8_counter_30 : decode cX8_counter 30 = .ok (.aload_n 0, 1) := by decide +kernel
theorem dX8_counter_31 : decode cX8_counter 31 = .ok (.getfield 10, 3) := by decide +kernel
theorem dX8_counter_34 : decode cX8_counter 34 = .ok (.invokevirtual 160, 3) := by decide +kernel
theorem dX8_counter_37 : decode cX8_counter 37 = .ok (.ifCond .ne 10, 3) := by decide +kernel
theorem dX8_counter_40 : decode cX8_counter 40 = .ok (.aload_n 0, 1) := by decide +kernel
theorem dX8_counter_41 : decode cX8_counter 41 = .ok (.bipush (-7), 2) := by decide +kernel
theorem dX8_counter_43 : decode cX8_counter 43 = .ok (.invokevirtual 86, 3) := by decide +kernel
theorem dX8_counter_46 : decode cX8_counter 46 = .ok (.ireturn, 1) := by decide +kernel
theorem dX8_counter_47 : decode cX8_counter 47 = .ok (.aload_n 0, 1) := by decide +kernel
theorem dX8_counter_48 : decode cX8_counter 48 = .ok (.getfield 10, 3) := by decide +kernel
theorem dX8_counter_51 : decode cX8_counter 51 = .ok (.iload_n 1, 1) := by decide +kernel
theorem dX8_counter_52 : decode cX8_counter 52 = .ok (.iload_n 2, 1) := by decide +kernel
theorem dX8_counter_53 : decode cX8_counter 53 = .ok (.invokevirtual 163, 3) := by decide +kernel
theorem dX8_counter_56 : decode cX8_counter 56 = .ok (.ireturn, 1) := by decide +kernel
theorem dX8_counterOf_0 : decode cX8_counterOf 0 = .ok (.aload_n 0, 1) := by decide +kernel
theorem dX8_counterOf_1 : decode cX8_counterOf 1 = .ok (.iload_n 1, 1) := by decide +kernel
theorem dX8_counterOf_2 : decode cX8_counterOf 2 = .ok (.invokevirtual 123, 3) := by decide +kernel
theorem dX8_counterOf_5 : decode cX8_counterOf 5 = .ok (.ifCond .ne 10, 3) := by decide +kernel
theorem dX8_counterOf_8 : decode cX8_counterOf 8 = .ok (.aload_n 0, 1) := by decide +kernel
theorem dX8_counterOf_9 : decode cX8_counterOf 9 = .ok (.bipush (-5), 2) := by decide +kernel
theorem dX8_counterOf_11 : decode cX8_counterOf 11 = .ok (.invokevirtual 86, 3) := by decide +kernel
theorem dX8_counterOf_14 : decode cX8_counterOf 14 = .ok (.ireturn, 1) := by decide +kernel
theorem dX8_counterOf_15 : decode cX8_counterOf 15 = .ok (.aload_n 0, 1) := by decide +kernel
theorem dX8_counterOf_16 : decode cX8_counterOf 16 = .ok (.getfield 10, 3) := by decide +kernel
theorem dX8_counterOf_19 : decode cX8_counterOf 19 = .ok (.getfield 144, 3) := by decide +kernel
theorem dX8_counterOf_22 : decode cX8_counterOf 22 = .ok (.iload_n 1, 1) := by decide +kernel
theorem dX8_counterOf_23 : decode cX8_counterOf 23 = .ok (.aaload, 1) := by decide +kernel
theorem dX8_counterOf_24 : decode cX8_counterOf 24 = .ok (.astore_n 3, 1) := by decide +kernel
theorem dX8_counterOf_25 : decode cX8_counterOf 25 = .ok (.iload_n 2, 1) := by decide +kernel
theorem dX8_counterOf_26 : decode cX8_counterOf 26 = .ok (.tableswitch 59 0 4 #[34, 39, 44, 49, 54], 34) := by decide +kernel
theorem dX8_counterOf_60 : decode cX8_counterOf 60 = .ok (.aload_n 3, 1) := by decide +kernel
theorem dX8_counterOf_61 : decode cX8_counterOf 61 = .ok (.getfield 148, 3) := by decide +kernel
theorem dX8_counterOf_64 : decode cX8_counterOf 64 = .ok (.ireturn, 1) := by decide +kernel
theorem dX8_counterOf_65 : decode cX8_counterOf 65 = .ok (.aload_n 3, 1) := by decide +kernel
theorem dX8_counterOf_66 : decode cX8_counterOf 66 = .ok (.getfield 166, 3) := by decide +kernel
theorem dX8_counterOf_69 : decode cX8_counterOf 69 = .ok (.ireturn, 1) := by decide +kernel
theorem dX8_counterOf_70 : decode cX8_counterOf 70 = .ok (.aload_n 3, 1) := by decide +kernel
theorem dX8_counterOf_71 : decode cX8_counterOf 71 = .ok (.getfield 169, 3) := by decide +kernel
theorem dX8_counterOf_74 : decode cX8_counterOf 74 = .ok (.ireturn, 1) := by decide +kernel
theorem dX8_counterOf_75 : decode cX8_counterOf 75 = .ok (.aload_n 3, 1) := by decide +kernel
theorem dX8_counterOf_76 : decode cX8_counterOf 76 = .ok (.getfield 172, 3) := by decide +kernel
theorem dX8_counterOf_79 : decode cX8_counterOf 79 = .ok (.ireturn, 1) := by decide +kernel
theorem dX8_counterOf_80 : decode cX8_counterOf 80 = .ok (.aload_n 3, 1) := by decide +kernel
theorem dX8_counterOf_81 : decode cX8_counterOf 81 = .ok (.getfield 175, 3) := by decide +kernel
theorem dX8_counterOf_84 : decode cX8_counterOf 84 = .ok (.ireturn, 1) := by decide +kernel
theorem dX8_counterOf_85 : decode cX8_counterOf 85 = .ok (.aload_n 0, 1) := by decide +kernel
theorem dX8_counterOf_86 : decode cX8_counterOf 86 = .ok (.bipush (-5), 2) := by decide +kernel
theorem dX8_counterOf_88 : decode cX8_counterOf 88 = .ok (.invokevirtual 86, 3) := by decide +kernel
theorem dX8_counterOf_91 : decode cX8_counterOf 91 = .ok (.ireturn, 1) := by decide +kernel
theorem dX8_ask_0 : decode cX8_ask 0 = .ok (.iload_n 1, 1) := by decide +kernel
theorem dX8_ask_1 : decode cX8_ask 1 = .ok (.invokestatic 178, 3) := by decide +kernel
theorem dX8_ask_4 : decode cX8_ask 4 = .ok (.ifCond .eq 21, 3) := by decide +kernel
theorem dX8_ask_7 : decode cX8_ask 7 = .ok (.iload_n 2, 1) := by decide +kernel
theorem dX8_ask_8 : decode cX8_ask 8 = .ok (.getstatic 181, 3) := by decide +kernel
theorem dX8_ask_11 : decode cX8_ask 11 = .ok (.iload_n 1, 1) := by decide +kernel
theorem dX8_ask_12 : decode cX8_ask 12 = .ok (.iaload, 1) := by decide +kernel
theorem dX8_ask_13 : decode cX8_ask 13 = .ok (.if_icmp .lt 12, 3) := by decide +kernel
theorem dX8_ask_16 : decode cX8_ask 16 = .ok (.iload_n 2, 1) := by decide +kernel
theorem dX8_ask_17 : decode cX8_ask 17 = .ok (.getstatic 184, 3) := by decide +kernel
theorem dX8_ask_20 : decode cX8_ask 20 = .ok (.iload_n 1, 1) := by decide +kernel
theorem dX8_ask_21 : decode cX8_ask 21 = .ok (.iaload, 1) := by decide +kernel
theorem dX8_ask_22 : decode cX8_ask 22 = .ok (.if_icmp .le 10, 3) := by decide +kernel
theorem dX8_ask_25 : decode cX8_ask 25 = .ok (.aload_n 0, 1) := by decide +kernel
theorem dX8_ask_26 : decode cX8_ask 26 = .ok (.bipush (-6), 2) := by decide +kernel
theorem dX8_ask_28 : decode cX8_ask 28 = .ok (.invokevirtual 86, 3) := by decide +kernel
theorem dX8_ask_31 : decode cX8_ask 31 = .ok (.ireturn, 1) := by decide +kernel
theorem dX8_ask_32 : decode cX8_ask 32 = .ok (.aload_n 0, 1) := by decide +kernel
theorem dX8_ask_33 : decode cX8_ask 33 = .ok (.getfield 10, 3) := by decide +kernel
theorem dX8_ask_36 : decode cX8_ask 36 = .ok (.iload_n 1, 1) := by decide +kernel
theorem dX8_ask_37 : decode cX8_ask 37 = .ok (.iload_n 2, 1) := by decide +kernel
theorem dX8_ask_38 : decode cX8_ask 38 = .ok (.invokevirtual 187, 3) := by decide +kernel
theorem dX8_ask_41 : decode cX8_ask 41 = .ok (.ireturn, 1) := by decide +kernel
theorem dX8_put_0 : decode cX8_put 0 = .ok (.aload_n 0, 1) := by decide +kernel
theorem dX8_put_1 : decode cX8_put 1 = .ok (.iload_n 1, 1) := by decide +kernel
theorem dX8_put_2 : decode cX8_put 2 = .ok (.invokevirtual 123, 3) := by decide +kernel
theorem dX8_put_5 : decode cX8_put 5 = .ok (.ifCond .ne 9, 3) := by decide +kernel
theorem dX8_put_8 : decode cX8_put 8 = .ok (.aload_n 0, 1) := by decide +kernel
theorem dX8_put_9 : decode cX8_put 9 = .ok (.iconst (-1), 1) := by decide +kernel
theorem dX8_put_10 : decode cX8_put 10 = .ok (.invokevirtual 86, 3) := by decide +kernel
theorem dX8_put_13 : decode cX8_put 13 = .ok (.ireturn, 1) := by decide +kernel
theorem dX8_put_14 : decode cX8_put 14 = .ok (.iload_n 2, 1) := by decide +kernel
theorem dX8_put_15 : decode cX8_put 15 = .ok (.ifCond .lt 14, 3) := by decide +kernel
theorem dX8_put_18 : decode cX8_put 18 = .ok (.iload_n 2, 1) := by decide +kernel
theorem dX8_put_19 : decode cX8_put 19 = .ok (.aload_n 0, 1) := by decide +kernel
theorem dX8_put_20 : decode cX8_put 20 = .ok (.getfield 10, 3) := by decide +kernel
theorem dX8_put_23 : decode cX8_put 23 = .ok (.getfield 190, 3) := by decide +kernel
theorem dX8_put_26 : decode cX8_put 26 = .ok (.if_icmp .le 10, 3) := by decide +kernel
theorem dX8_put_29 : decode cX8_put 29 = .ok (.aload_n 0, 1) := by decide +kernel
theorem dX8_put_30 : decode cX8_put 30 = .ok (.bipush (-6), 2) := by decide +kernel
theorem dX8_put_32 : decode cX8_put 32 = .ok (.invokevirtual 86, 3) := by decide +kernel
theorem dX8_put_35 : decode cX8_put 35 = .ok (.ireturn, 1) := by decide +kernel
theorem dX8_put_36 : decode cX8_put 36 = .ok (.aload_n 0, 1) := by decide +kernel
theorem dX8_put_37 : decode cX8_put 37 = .ok (.getfield 10, 3) := by decide +kernel
theorem dX8_put_40 : decode cX8_put 40 = .ok (.getfield 144, 3) := by decide +kernel
theorem dX8_put_43 : decode cX8_put 43 = .ok (.iload_n 1, 1) := by decide +kernel
theorem dX8_put_44 : decode cX8_put 44 = .ok (.aaload, 1) := by decide +kernel
theorem dX8_put_45 : decode cX8_put 45 = .ok (.getfield 169, 3) := by decide +kernel
theorem dX8_put_48 : decode cX8_put 48 = .ok (.istore_n 3, 1) := by decide +kernel
theorem dX8_put_49 : decode cX8_put 49 = .ok (.aload_n 0, 1) := by decide +kernel
theorem dX8_put_50 : decode cX8_put 50 = .ok (.getfield 10, 3) := by decide +kernel
theorem dX8_put_53 : decode cX8_put 53 = .ok (.getfield 144, 3) := by decide +kernel
theorem dX8_put_56 : decode cX8_put 56 = .ok (.iload_n 1, 1) := by decide +kernel
theorem dX8_put_57 : decode cX8_put 57 = .ok (.aaload, 1) := by decide +kernel
theorem dX8_put_58 : decode cX8_put 58 = .ok (.iload_n 2, 1) := by decide +kernel
theorem dX8_put_59 : decode cX8_put 59 = .ok (.putfield 169, 3) := by decide +kernel
theorem dX8_put_62 : decode cX8_put 62 = .ok (.iload_n 3, 1) := by decide +kernel
theorem dX8_put_63 : decode cX8_put 63 = .ok (.ireturn, 1) := by decide +kernel
theorem dX8_room_0 : decode cX8_room 0 = .ok (.aload_n 0, 1) := by decide +kernel
theorem dX8_room_1 : decode cX8_room 1 = .ok (.iload_n 1, 1) := by decide +kernel
theorem dX8_room_2 : decode cX8_room 2 = .ok (.invokevirtual 94, 3) := by decide +kernel
theorem dX8_room_5 : decode cX8_room 5 = .ok (.istore_n 2, 1) := by decide +kernel
theorem dX8_room_6 : decode cX8_room 6 = .ok (.iload_n 2, 1) := by decide +kernel
theorem dX8_room_7 : decode cX8_room 7 = .ok (.ifCond .eq 9, 3) := by decide +kernel
theorem dX8_room_10 : decode cX8_room 10 = .ok (.aload_n 0, 1) := by decide +kernel
theorem dX8_room_11 : decode cX8_room 11 = .ok (.iload_n 2, 1) := by decide +kernel
theorem dX8_room_12 : decode cX8_room 12 = .ok (.invokevirtual 86, 3) := by decide +kernel
theorem dX8_room_15 : decode cX8_room 15 = .ok (.ireturn, 1) := by decide +kernel
theorem dX8_room_16 : decode cX8_room 16 = .ok (.aload_n 0, 1) := by decide +kernel
theorem dX8_room_17 : decode cX8_room 17 = .ok (.getfield 22, 3) := by decide +kernel
theorem dX8_room_20 : decode cX8_room 20 = .ok (.aload_n 0, 1) := by decide +kernel
theorem dX8_room_21 : decode cX8_room 21 = .ok (.getfield 32, 3) := by decide +kernel
theorem dX8_room_24 : decode cX8_room 24 = .ok (.iload_n 1, 1) := by decide +kernel
theorem dX8_room_25 : decode cX8_room 25 = .ok (.aaload, 1) := by decide +kernel
theorem dX8_room_26 : decode cX8_room 26 = .ok (.aload_n 0, 1) := by decide +kernel
theorem dX8_room_27 : decode cX8_room 27 = .ok (.getfield 10, 3) := by decide +kernel
theorem dX8_room_30 : decode cX8_room 30 = .ok (.invokevirtual 193, 3) := by decide +kernel
theorem dX8_room_33 : decode cX8_room 33 = .ok (.istore_n 3, 1) := by decide +kernel
theorem dX8_room_34 : decode cX8_room 34 = .ok (.aload_n 0, 1) := by decide +kernel
theorem dX8_room_35 : decode cX8_room 35 = .ok (.aload_n 0, 1) := by decide +kernel
theorem dX8_room_36 : decode cX8_room 36 = .ok (.getfield 22, 3) := by decide +kernel
theorem dX8_room_39 : decode cX8_room 39 = .ok (.getfield 197, 3) := by decide +kernel
theorem dX8_room_42 : decode cX8_room 42 = .ok (.putfield 26, 3) := by decide +kernel
theorem dX8_room_45 : decode cX8_room 45 = .ok (.aload_n 0, 1) := by decide +kernel
theorem dX8_room_46 : decode cX8_room 46 = .ok (.getfield 26, 3) := by decide +kernel
theorem dX8_room_49 : decode cX8_room 49 = .ok (.iconst (-1), 1) := by decide +kernel
theorem dX8_room_50 : decode cX8_room 50 = .ok (.if_icmp .eq 10, 3) := by decide +kernel
theorem dX8_room_53 : decode cX8_room 53 = .ok (.aload_n 0, 1) := by decide +kernel
theorem dX8_room_54 : decode cX8_room 54 = .ok (.bipush (-6), 2) := by decide +kernel
theorem dX8_room_56 : decode cX8_room 56 = .ok (.invokevirtual 86, 3) := by decide +kernel
theorem dX8_room_59 : decode cX8_room 59 = .ok (.ireturn, 1) := by decide +kernel
theorem dX8_room_60 : decode cX8_room 60 = .ok (.aload_n 0, 1) := by decide +kernel
theorem dX8_room_61 : decode cX8_room 61 = .ok (.getfield 10, 3) := by decide +kernel
theorem dX8_room_64 : decode cX8_room 64 = .ok (.aload_n 0, 1) := by decide +kernel
theorem dX8_room_65 : decode cX8_room 65 = .ok (.getfield 22, 3) := by decide +kernel
theorem dX8_room_68 : decode cX8_room 68 = .ok (.getfield 200, 3) := by decide +kernel
theorem dX8_room_71 : decode cX8_room 71 = .ok (.invokevirtual 203, 3) := by decide +kernel
theorem dX8_room_74 : decode cX8_room 74 = .ok (.iload_n 3, 1) := by decide +kernel
theorem dX8_room_75 : decode cX8_room 75 = .ok (.ireturn, 1) := by decide +kernel
theorem dX8_fault_0 : decode cX8_fault 0 = .ok (.aload_n 0, 1) := by decide +kernel
theorem dX8_fault_1 : decode cX8_fault 1 = .ok (.getfield 26, 3) := by decide +kernel
theorem dX8_fault_4 : decode cX8_fault 4 = .ok (.ireturn, 1) := by decide +kernel
theorem dX8_back_0 : decode cX8_back 0 = .ok (.aload_n 0, 1) := by decide +kernel
theorem dX8_back_1 : decode cX8_back 1 = .ok (.iload_n 1, 1) := by decide +kernel
theorem dX8_back_2 : decode cX8_back 2 = .ok (.invokevirtual 123, 3) := by decide +kernel
theorem dX8_back_5 : decode cX8_back 5 = .ok (.ifCond .ne 9, 3) := by decide +kernel
theorem dX8_back_8 : decode cX8_back 8 = .ok (.aload_n 0, 1) := by decide +kernel
theorem dX8_back_9 : decode cX8_back 9 = .ok (.iconst (-1), 1) := by decide +kernel
theorem dX8_back_10 : decode cX8_back 10 = .ok (.invokevirtual 86, 3) := by decide +kernel
theorem dX8_back_13 : decode cX8_back 13 = .ok (.ireturn, 1) := by decide +kernel
theorem dX8_back_14 : decode cX8_back 14 = .ok (.aload_n 0, 1) := by decide +kernel
theorem dX8_back_15 : decode cX8_back 15 = .ok (.getfield 10, 3) := by decide +kernel
theorem dX8_back_18 : decode cX8_back 18 = .ok (.iload_n 1, 1) := by decide +kernel
theorem dX8_back_19 : decode cX8_back 19 = .ok (.invokevirtual 207, 3) := by decide +kernel
theorem dX8_back_22 : decode cX8_back 22 = .ok (.ifCond .eq 10, 3) := by decide +kernel
theorem dX8_back_25 : decode cX8_back 25 = .ok (.aload_n 0, 1) := by decide +kernel
theorem dX8_back_26 : decode cX8_back 26 = .ok (.bipush (-6), 2) := by decide +kernel
theorem dX8_back_28 : decode cX8_back 28 = .ok (.invokevirtual 86, 3) := by decide +kernel
theorem dX8_back_31 : decode cX8_back 31 = .ok (.ireturn, 1) := by decide +kernel
theorem dX8_back_32 : decode cX8_back 32 = .ok (.aload_n 0, 1) := by decide +kernel
theorem dX8_back_33 : decode cX8_back 33 = .ok (.getfield 10, 3) := by decide +kernel
theorem dX8_back_36 : decode cX8_back 36 = .ok (.getfield 144, 3) := by decide +kernel
theorem dX8_back_39 : decode cX8_back 39 = .ok (.iload_n 1, 1) := by decide +kernel
theorem dX8_back_40 : decode cX8_back 40 = .ok (.aaload, 1) := by decide +kernel
theorem dX8_back_41 : decode cX8_back 41 = .ok (.astore_n 2, 1) := by decide +kernel
theorem dX8_back_42 : decode cX8_back 42 = .ok (.aload_n 2, 1) := by decide +kernel
theorem dX8_back_43 : decode cX8_back 43 = .ok (.aload_n 2, 1) := by decide +kernel
theorem dX8_back_44 : decode cX8_back 44 = .ok (.getfield 169, 3) := by decide +kernel
theorem dX8_back_47 : decode cX8_back 47 = .ok (.aload_n 2, 1) := by decide +kernel
theorem dX8_back_48 : decode cX8_back 48 = .ok (.getfield 175, 3) := by decide +kernel
theorem dX8_back_51 : decode cX8_back 51 = .ok (.iconst 1, 1) := by decide +kernel
theorem dX8_back_52 : decode cX8_back 52 = .ok (.iadd, 1) := by decide +kernel
theorem dX8_back_53 : decode cX8_back 53 = .ok (.aload_n 0, 1) := by decide +kernel
theorem dX8_back_54 : decode cX8_back 54 = .ok (.getfield 10, 3) := by decide +kernel
theorem dX8_back_57 : decode cX8_back 57 = .ok (.getfield 154, 3) := by decide +kernel
theorem dX8_back_60 : decode cX8_back 60 = .ok (.invokevirtual 210, 3) := by decide +kernel
theorem dX8_back_63 : decode cX8_back 63 = .ok (.ireturn, 1) := by decide +kernel
theorem dX8_run_0 : decode cX8_run 0 = .ok (.aload_n 0, 1) := by decide +kernel
theorem dX8_run_1 : decode cX8_run 1 = .ok (.iload_n 1, 1) := by decide +kernel
theorem dX8_run_2 : decode cX8_run 2 = .ok (.invokevirtual 123, 3) := by decide +kernel
theorem dX8_run_5 : decode cX8_run 5 = .ok (.ifCond .eq 12, 3) := by decide +kernel
theorem dX8_run_8 : decode cX8_run 8 = .ok (.aload_n 0, 1) := by decide +kernel
theorem dX8_run_9 : decode cX8_run 9 = .ok (.iload_n 2, 1) := by decide +kernel
theorem dX8_run_10 : decode cX8_run 10 = .ok (.iload_n 3, 1) := by decide +kernel
theorem dX8_run_11 : decode cX8_run 11 = .ok (.invokevirtual 214, 3) := by decide +kernel
theorem dX8_run_14 : decode cX8_run 14 = .ok (.goto 4, 3) := by decide +kernel
theorem dX8_run_17 : decode cX8_run 17 = .ok (.iconst (-1), 1) := by decide +kernel
theorem dX8_run_18 : decode cX8_run 18 = .ok (.istore 6, 2) := by decide +kernel
theorem dX8_run_20 : decode cX8_run 20 = .ok (.iload 6, 2) := by decide +kernel
theorem dX8_run_22 : decode cX8_run 22 = .ok (.ifCond .ne 18, 3) := by decide +kernel
theorem dX8_run_25 : decode cX8_run 25 = .ok (.iload 5, 2) := by decide +kernel
theorem dX8_run_27 : decode cX8_run 27 = .ok (.ifCond .lt 9, 3) := by decide +kernel
theorem dX8_run_30 : decode cX8_run 30 = .ok (.iload 5, 2) := by decide +kernel
theorem dX8_run_32 : decode cX8_run 32 = .ok (.iconst 2, 1) := by decide +kernel
theorem dX8_run_33 : decode cX8_run 33 = .ok (.if_icmp .le 7, 3) := by decide +kernel
theorem dX8_run_36 : decode cX8_run 36 = .ok (.bipush (-5), 2) := by decide +kernel
theorem dX8_run_38 : decode cX8_run 38 = .ok (.istore 6, 2) := by decide +kernel
theorem dX8_run_40 : decode cX8_run 40 = .ok (.iload 6, 2) := by decide +kernel
theorem dX8_run_42 : decode cX8_run 42 = .ok (.ifCond .ne 29, 3) := by decide +kernel
theorem dX8_run_45 : decode cX8_run 45 = .ok (.iload 4, 2) := by decide +kernel
theorem dX8_run_47 : decode cX8_run 47 = .ok (.ifCond .lt 20, 3) := by decide +kernel
theorem dX8_run_50 : decode cX8_run 50 = .ok (.iload 4, 2) := by decide +kernel
theorem dX8_run_52 : decode cX8_run 52 = .ok (.sipush 400, 3) := by decide +kernel
theorem dX8_run_55 : decode cX8_run 55 = .ok (.if_icmp .gt 12, 3) := by decide +kernel
theorem dX8_run_58 : decode cX8_run 58 = .ok (.aload_n 0, 1) := by decide +kernel
theorem dX8_run_59 : decode cX8_run 59 = .ok (.iload_n 2, 1) := by decide +kernel
theorem dX8_run_60 : decode cX8_run 60 = .ok (.iload_n 3, 1) := by decide +kernel
theorem dX8_run_61 : decode cX8_run 61 = .ok (.invokevirtual 217, 3) := by decide +kernel
theorem dX8_run_64 : decode cX8_run 64 = .ok (.ifCond .ne 7, 3) := by decide +kernel
theorem dX8_run_67 : decode cX8_run 67 = .ok (.bipush (-6), 2) := by decide +kernel
theorem dX8_run_69 : decode cX8_run 69 = .ok (.istore 6, 2) := by decide +kernel
theorem dX8_run_71 : decode cX8_run 71 = .ok (.iload 6, 2) := by decide +kernel
theorem dX8_run_73 : decode cX8_run 73 = .ok (.ifCond .eq 10, 3) := by decide +kernel
theorem dX8_run_76 : decode cX8_run 76 = .ok (.aload_n 0, 1) := by decide +kernel
theorem dX8_run_77 : decode cX8_run 77 = .ok (.iload 6, 2) := by decide +kernel
theorem dX8_run_79 : decode cX8_run 79 = .ok (.invokevirtual 86, 3) := by decide +kernel
theorem dX8_run_82 : decode cX8_run 82 = .ok (.ireturn, 1) := by decide +kernel
theorem dX8_run_83 : decode cX8_run 83 = .ok (.aload_n 0, 1) := by decide +kernel
theorem dX8_run_84 : decode cX8_run 84 = .ok (.getfield 43, 3) := by decide +kernel
theorem dX8_run_87 : decode cX8_run 87 = .ok (.aload_n 0, 1) := by decide +kernel
theorem dX8_run_88 : decode cX8_run 88 = .ok (.getfield 10, 3) := by decide +kernel
theorem dX8_run_91 : decode cX8_run 91 = .ok (.iload_n 1, 1) := by decide +kernel
theorem dX8_run_92 : decode cX8_run 92 = .ok (.aload_n 0, 1) := by decide +kernel
theorem dX8_run_93 : decode cX8_run 93 = .ok (.getfield 32, 3) := by decide +kernel
theorem dX8_run_96 : decode cX8_run 96 = .ok (.iload_n 2, 1) := by decide +kernel
theorem dX8_run_97 : decode cX8_run 97 = .ok (.aaload, 1) := by decide +kernel
theorem dX8_run_98 : decode cX8_run 98 = .ok (.iload_n 3, 1) := by decide +kernel
theorem dX8_run_99 : decode cX8_run 99 = .ok (.invokevirtual 220, 3) := by decide +kernel
theorem dX8_run_102 : decode cX8_run 102 = .ok (.iconst 0, 1) := by decide +kernel
theorem dX8_run_103 : decode cX8_run 103 = .ok (.istore 7, 2) := by decide +kernel
theorem dX8_run_105 : decode cX8_run 105 = .ok (.iload 7, 2) := by decide +kernel
theorem dX8_run_107 : decode cX8_run 107 = .ok (.iload 4, 2) := by decide +kernel
theorem dX8_run_109 : decode cX8_run 109 = .ok (.if_icmp .ge 16, 3) := by decide +kernel
theorem dX8_run_112 : decode cX8_run 112 = .ok (.aload_n 0, 1) := by decide +kernel
theorem dX8_run_113 : decode cX8_run 113 = .ok (.getfield 43, 3) := by decide +kernel
theorem dX8_run_116 : decode cX8_run 116 = .ok (.invokevirtual 224, 3) := by decide +kernel
theorem dX8_run_119 : decode cX8_run 119 = .ok (.iinc 7 1, 3) := by decide +kernel
theorem dX8_run_122 : decode cX8_run 122 = .ok (.goto (-17), 3) := by decide +kernel
theorem dX8_run_125 : decode cX8_run 125 = .ok (.iload 5, 2) := by decide +kernel
theorem dX8_run_127 : decode cX8_run 127 = .ok (.ifCond .ne 14, 3) := by decide +kernel
theorem dX8_run_130 : decode cX8_run 130 = .ok (.aload_n 0, 1) := by decide +kernel
theorem dX8_run_131 : decode cX8_run 131 = .ok (.getfield 43, 3) := by decide +kernel
theorem dX8_run_134 : decode cX8_run 134 = .ok (.getfield 227, 3) := by decide +kernel
theorem dX8_run_137 : decode cX8_run 137 = .ok (.getfield 169, 3) := by decide +kernel
theorem dX8_run_140 : decode cX8_run 140 = .ok (.ireturn, 1) := by decide +kernel
theorem dX8_run_141 : decode cX8_run 141 = .ok (.iload 5, 2) := by decide +kernel
theorem dX8_run_143 : decode cX8_run 143 = .ok (.iconst 1, 1) := by decide +kernel
theorem dX8_run_144 : decode cX8_run 144 = .ok (.if_icmp .ne 16, 3) := by decide +kernel
theorem dX8_run_147 : decode cX8_run 147 = .ok (.aload_n 0, 1) := by decide +kernel
theorem dX8_run_148 : decode cX8_run 148 = .ok (.getfield 43, 3) := by decide +kernel
theorem dX8_run_151 : decode cX8_run 151 = .ok (.getfield 227, 3) := by decide +kernel
theorem dX8_run_154 : decode cX8_run 154 = .ok (.getfield 172, 3) := by decide +kernel
theorem dX8_run_157 : decode cX8_run 157 = .ok (.goto 13, 3) := by decide +kernel
theorem dX8_run_160 : decode cX8_run 160 = .ok (.aload_n 0, 1) := by decide +kernel
theorem dX8_run_161 : decode cX8_run 161 = .ok (.getfield 43, 3) := by decide +kernel
theorem dX8_run_164 : decode cX8_run 164 = .ok (.getfield 227, 3) := by decide +kernel
theorem dX8_run_167 : decode cX8_run 167 = .ok (.getfield 175, 3) := by decide +kernel
theorem dX8_run_170 : decode cX8_run 170 = .ok (.ireturn, 1) := by decide +kernel
theorem dX8_through_0 : decode cX8_through 0 = .ok (.aload_n 0, 1) := by decide +kernel
theorem dX8_through_1 : decode cX8_through 1 = .ok (.iload_n 1, 1) := by decide +kernel
theorem dX8_through_2 : decode cX8_through 2 = .ok (.invokevirtual 123, 3) := by decide +kernel
theorem dX8_through_5 : decode cX8_through 5 = .ok (.ifCond .eq 12, 3) := by decide +kernel
theorem dX8_through_8 : decode cX8_through 8 = .ok (.aload_n 0, 1) := by decide +kernel
theorem dX8_through_9 : decode cX8_through 9 = .ok (.iload_n 2, 1) := by decide +kernel
theorem dX8_through_10 : decode cX8_through 10 = .ok (.iload_n 3, 1) := by decide +kernel
theorem dX8_through_11 : decode cX8_through 11 = .ok (.invokevirtual 230, 3) := by decide +kernel
theorem dX8_through_14 : decode cX8_through 14 = .ok (.goto 4, 3) := by decide +kernel
theorem dX8_through_17 : decode cX8_through 17 = .ok (.iconst (-1), 1) := by decide +kernel
theorem dX8_through_18 : decode cX8_through 18 = .ok (.istore 4, 2) := by decide +kernel
theorem dX8_through_20 : decode cX8_through 20 = .ok (.iload 4, 2) := by decide +kernel
theorem dX8_through_22 : decode cX8_through 22 = .ok (.ifCond .eq 13, 3) := by decide +kernel
theorem dX8_through_25 : decode cX8_through 25 = .ok (.aload_n 0, 1) := by decide +kernel
theorem dX8_through_26 : decode cX8_through 26 = .ok (.iload 4, 2) := by decide +kernel
theorem dX8_through_28 : decode cX8_through 28 = .ok (.invokevirtual 86, 3) := by decide +kernel
theorem dX8_through_31 : decode cX8_through 31 = .ok (.bipush 10, 2) := by decide +kernel
theorem dX8_through_33 : decode cX8_through 33 = .ok (.isub, 1) := by decide +kernel
theorem dX8_through_34 : decode cX8_through 34 = .ok (.ireturn, 1) := by decide +kernel
theorem dX8_through_35 : decode cX8_through 35 = .ok (.aload_n 0, 1) := by decide +kernel
theorem dX8_through_36 : decode cX8_through 36 = .ok (.getfield 43, 3) := by decide +kernel
theorem dX8_through_39 : decode cX8_through 39 = .ok (.aload_n 0, 1) := by decide +kernel
theorem dX8_through_40 : decode cX8_through 40 = .ok (.getfield 10, 3) := by decide +kernel
theorem dX8_through_43 : decode cX8_through 43 = .ok (.iload_n 1, 1) := by decide +kernel
theorem dX8_through_44 : decode cX8_through 44 = .ok (.aload_n 0, 1) := by decide +kernel
theorem dX8_through_45 : decode cX8_through 45 = .ok (.getfield 32, 3) := by decide +kernel
theorem dX8_through_48 : decode cX8_through 48 = .ok (.iload_n 2, 1) := by decide +kernel
theorem dX8_through_49 : decode cX8_through 49 = .ok (.aaload, 1) := by decide +kernel
theorem dX8_through_50 : decode cX8_through 50 = .ok (.iload_n 3, 1) := by decide +kernel
theorem dX8_through_51 : decode cX8_through 51 = .ok (.invokevirtual 220, 3) := by decide +kernel
theorem dX8_through_54 : decode cX8_through 54 = .ok (.aload_n 0, 1) := by decide +kernel
theorem dX8_through_55 : decode cX8_through 55 = .ok (.getfield 43, 3) := by decide +kernel
theorem dX8_through_58 : decode cX8_through 58 = .ok (.invokevirtual 233, 3) := by decide +kernel
theorem dX8_through_61 : decode cX8_through 61 = .ok (.ireturn, 1) := by decide +kernel
theorem dX8_chance_0 : decode cX8_chance 0 = .ok (.aload_n 0, 1) := by decide +kernel
theorem dX8_chance_1 : decode cX8_chance 1 = .ok (.iload_n 1, 1) := by decide +kernel
theorem dX8_chance_2 : decode cX8_chance 2 = .ok (.invokevirtual 123, 3) := by decide +kernel
theorem dX8_chance_5 : decode cX8_chance 5 = .ok (.ifCond .ne 9, 3) := by decide +kernel
theorem dX8_chance_8 : decode cX8_chance 8 = .ok (.aload_n 0, 1) := by decide +kernel
theorem dX8_chance_9 : decode cX8_chance 9 = .ok (.iconst (-1), 1) := by decide +kernel
theorem dX8_chance_10 : decode cX8_chance 10 = .ok (.invokevirtual 86, 3) := by decide +kernel
theorem dX8_chance_13 : decode cX8_chance 13 = .ok (.ireturn, 1) := by decide +kernel
theorem dX8_chance_14 : decode cX8_chance 14 = .ok (.iload_n 2, 1) := by decide +kernel
theorem dX8_chance_15 : decode cX8_chance 15 = .ok (.ifCond .lt 10, 3) := by decide +kernel
theorem dX8_chance_18 : decode cX8_chance 18 = .ok (.iload_n 2, 1) := by decide +kernel
theorem dX8_chance_19 : decode cX8_chance 19 = .ok (.sipush 400, 3) := by decide +kernel
theorem dX8_chance_22 : decode cX8_chance 22 = .ok (.if_icmp .le 10, 3) := by decide +kernel
theorem dX8_chance_25 : decode cX8_chance 25 = .ok (.aload_n 0, 1) := by decide +kernel
theorem dX8_chance_26 : decode cX8_chance 26 = .ok (.bipush (-6), 2) := by decide +kernel
theorem dX8_chance_28 : decode cX8_chance 28 = .ok (.invokevirtual 86, 3) := by decide +kernel
theorem dX8_chance_31 : decode cX8_chance 31 = .ok (.ireturn, 1) := by decide +kernel
theorem dX8_chance_32 : decode cX8_chance 32 = .ok (.aload_n 0, 1) := by decide +kernel
theorem dX8_chance_33 : decode cX8_chance 33 = .ok (.getfield 50, 3) := by decide +kernel
theorem dX8_chance_36 : decode cX8_chance 36 = .ok (.aload_n 0, 1) := by decide +kernel
theorem dX8_chance_37 : decode cX8_chance 37 = .ok (.getfield 10, 3) := by decide +kernel
theorem dX8_chance_40 : decode cX8_chance 40 = .ok (.iload_n 1, 1) := by decide +kernel
theorem dX8_chance_41 : decode cX8_chance 41 = .ok (.iload_n 2, 1) := by decide +kernel
theorem dX8_chance_42 : decode cX8_chance 42 = .ok (.invokevirtual 236, 3) := by decide +kernel
theorem dX8_chance_45 : decode cX8_chance 45 = .ok (.ireturn, 1) := by decide +kernel
theorem dX8_median_0 : decode cX8_median 0 = .ok (.aload_n 0, 1) := by decide +kernel
theorem dX8_median_1 : decode cX8_median 1 = .ok (.iload_n 1, 1) := by decide +kernel
theorem dX8_median_2 : decode cX8_median 2 = .ok (.iload_n 2, 1) := by decide +kernel
theorem dX8_median_3 : decode cX8_median 3 = .ok (.invokevirtual 240, 3) := by decide +kernel
theorem dX8_median_6 : decode cX8_median 6 = .ok (.istore_n 3, 1) := by decide +kernel
theorem dX8_median_7 : decode cX8_median 7 = .ok (.iload_n 3, 1) := by decide +kernel
theorem dX8_median_8 : decode cX8_median 8 = .ok (.ifCond .eq 12, 3) := by decide +kernel
theorem dX8_median_11 : decode cX8_median 11 = .ok (.aload_n 0, 1) := by decide +kernel
theorem dX8_median_12 : decode cX8_median 12 = .ok (.iload_n 3, 1) := by decide +kernel
theorem dX8_median_13 : decode cX8_median 13 = .ok (.invokevirtual 86, 3) := by decide +kernel
theorem dX8_median_16 : decode cX8_median 16 = .ok (.bipush 10, 2) := by decide +kernel
theorem dX8_median_18 : decode cX8_median 18 = .ok (.isub, 1) := by decide +kernel
theorem dX8_median_19 : decode cX8_median 19 = .ok (.ireturn, 1) := by decide +kernel
theorem dX8_median_20 : decode cX8_median 20 = .ok (.aload_n 0, 1) := by decide +kernel
theorem dX8_median_21 : decode cX8_median 21 = .ok (.getfield 50, 3) := by decide +kernel
theorem dX8_median_24 : decode cX8_median 24 = .ok (.iload_n 2, 1) := by decide +kernel
theorem dX8_median_25 : decode cX8_median 25 = .ok (.aload_n 0, 1) := by decide +kernel
theorem dX8_median_26 : decode cX8_median 26 = .ok (.getfield 10, 3) := by decide +kernel
theorem dX8_median_29 : decode cX8_median 29 = .ok (.iload_n 1, 1) := by decide +kernel
theorem dX8_median_30 : decode cX8_median 30 = .ok (.aload_n 0, 1) := by decide +kernel
theorem dX8_median_31 : decode cX8_median 31 = .ok (.getfield 10, 3) := by decide +kernel
theorem dX8_median_34 : decode cX8_median 34 = .ok (.getfield 154, 3) := by decide +kernel
theorem dX8_median_37 : decode cX8_median 37 = .ok (.sipush 400, 3) := by decide +kernel
theorem dX8_median_40 : decode cX8_median 40 = .ok (.invokevirtual 243, 3) := by decide +kernel
theorem dX8_median_43 : decode cX8_median 43 = .ok (.ireturn, 1) := by decide +kernel
theorem dX8_bestApart_0 : decode cX8_bestApart 0 = .ok (.aload_n 0, 1) := by decide +kernel
theorem dX8_bestApart_1 : decode cX8_bestApart 1 = .ok (.iload_n 1, 1) := by decide +kernel
theorem dX8_bestApart_2 : decode cX8_bestApart 2 = .ok (.iload_n 2, 1) := by decide +kernel
theorem dX8_bestApart_3 : decode cX8_bestApart 3 = .ok (.invokevirtual 240, 3) := by decide +kernel
theorem dX8_bestApart_6 : decode cX8_bestApart 6 = .ok (.istore_n 3, 1) := by decide +kernel
theorem dX8_bestApart_7 : decode cX8_bestApart 7 = .ok (.iload_n 3, 1) := by decide +kernel
theorem dX8_bestApart_8 : decode cX8_bestApart 8 = .ok (.iconst (-1), 1) := by decide +kernel
theorem dX8_bestApart_9 : decode cX8_bestApart 9 = .ok (.if_icmp .eq 25, 3) := by decide +kernel
theorem dX8_bestApart_12 : decode cX8_bestApart 12 = .ok (.aload_n 0, 1) := by decide +kernel
theorem dX8_bestApart_13 : decode cX8_bestApart 13 = .ok (.getfield 10, 3) := by decide +kernel
theorem dX8_bestApart_16 : decode cX8_bestApart 16 = .ok (.getfield 144, 3) := by decide +kernel
theorem dX8_bestApart_19 : decode cX8_bestApart 19 = .ok (.iload_n 1, 1) := by decide +kernel
theorem dX8_bestApart_20 : decode cX8_bestApart 20 = .ok (.aaload, 1) := by decide +kernel
theorem dX8_bestApart_21 : decode cX8_bestApart 21 = .ok (.getfield 148, 3) := by decide +kernel
theorem dX8_bestApart_24 : decode cX8_bestApart 24 = .ok (.iconst 1, 1) := by decide +kernel
theorem dX8_bestApart_25 : decode cX8_bestApart 25 = .ok (.invokestatic 151, 3) := by decide +kernel
theorem dX8_bestApart_28 : decode cX8_bestApart 28 = .ok (.ifCond .ne 6, 3) := by decide +kernel
theorem dX8_bestApart_31 : decode cX8_bestApart 31 = .ok (.bipush (-2), 2) := by decide +kernel
theorem dX8_bestApart_33 : decode cX8_bestApart 33 = .ok (.istore_n 3, 1) := by decide +kernel
theorem dX8_bestApart_34 : decode cX8_bestApart 34 = .ok (.iload_n 3, 1) := by decide +kernel
theorem dX8_bestApart_35 : decode cX8_bestApart 35 = .ok (.ifCond .eq 12, 3) := by decide +kernel
theorem dX8_bestApart_38 : decode cX8_bestApart 38 = .ok (.aload_n 0, 1) := by decide +kernel
theorem dX8_bestApart_39 : decode cX8_bestApart 39 = .ok (.iload_n 3, 1) := by decide +kernel
theorem dX8_bestApart_40 : decode cX8_bestApart 40 = .ok (.invokevirtual 86, 3) := by decide +kernel
theorem dX8_bestApart_43 : decode cX8_bestApart 43 = .ok (.bipush 10, 2) := by decide +kernel
theorem dX8_bestApart_45 : decode cX8_bestApart 45 = .ok (.isub, 1) := by decide +kernel
theorem dX8_bestApart_46 : decode cX8_bestApart 46 = .ok (.ireturn, 1) := by decide +kernel
theorem dX8_bestApart_47 : decode cX8_bestApart 47 = .ok (.iconst (-1), 1) := by decide +kernel
theorem dX8_bestApart_48 : decode cX8_bestApart 48 = .ok (.istore 4, 2) := by decide +kernel
theorem dX8_bestApart_50 : decode cX8_bestApart 50 = .ok (.ldc 249, 2) := by decide +kernel
theorem dX8_bestApart_52 : decode cX8_bestApart 52 = .ok (.istore 5, 2) := by decide +kernel
theorem dX8_bestApart_54 : decode cX8_bestApart 54 = .ok (.aload_n 0, 1) := by decide +kernel
theorem dX8_bestApart_55 : decode cX8_bestApart 55 = .ok (.getfield 10, 3) := by decide +kernel
theorem dX8_bestApart_58 : decode cX8_bestApart 58 = .ok (.getfield 190, 3) := by decide +kernel
theorem dX8_bestApart_61 : decode cX8_bestApart 61 = .ok (.aload_n 0, 1) := by decide +kernel
theorem dX8_bestApart_62 : decode cX8_bestApart 62 = .ok (.getfield 10, 3) := by decide +kernel
theorem dX8_bestApart_65 : decode cX8_bestApart 65 = .ok (.getfield 144, 3) := by decide +kernel
theorem dX8_bestApart_68 : decode cX8_bestApart 68 = .ok (.iload_n 1, 1) := by decide +kernel
theorem dX8_bestApart_69 : decode cX8_bestApart 69 = .ok (.aaload, 1) := by decide +kernel
theorem dX8_bestApart_70 : decode cX8_bestApart 70 = .ok (.getfield 169, 3) := by decide +kernel
theorem dX8_bestApart_73 : decode cX8_bestApart 73 = .ok (.isub, 1) := by decide +kernel
theorem dX8_bestApart_74 : decode cX8_bestApart 74 = .ok (.istore 6, 2) := by decide +kernel
theorem dX8_bestApart_76 : decode cX8_bestApart 76 = .ok (.iconst 1, 1) := by decide +kernel
theorem dX8_bestApart_77 : decode cX8_bestApart 77 = .ok (.istore 7, 2) := by decide +kernel
theorem dX8_bestApart_79 : decode cX8_bestApart 79 = .ok (.iload 7, 2) := by decide +kernel
theorem dX8_bestApart_81 : decode cX8_bestApart 81 = .ok (.aload_n 0, 1) := by decide +kernel
theorem dX8_bestApart_82 : decode cX8_bestApart 82 = .ok (.getfield 10, 3) := by decide +kernel
theorem dX8_bestApart_85 : decode cX8_bestApart 85 = .ok (.getfield 190, 3) := by decide +kernel
theorem dX8_bestApart_88 : decode cX8_bestApart 88 = .ok (.if_icmp .gt 93, 3) := by decide +kernel
theorem dX8_bestApart_91 : decode cX8_bestApart 91 = .ok (.aload_n 0, 1) := by decide +kernel
theorem dX8_bestApart_92 : decode cX8_bestApart 92 = .ok (.getfield 10, 3) := by decide +kernel
theorem dX8_bestApart_95 : decode cX8_bestApart 95 = .ok (.getfield 250, 3) := by decide +kernel
theorem dX8_bestApart_98 : decode cX8_bestApart 98 = .ok (.aload_n 0, 1) := by decide +kernel
theorem dX8_bestApart_99 : decode cX8_bestApart 99 = .ok (.getfield 10, 3) := by decide +kernel
theorem dX8_bestApart_102 : decode cX8_bestApart 102 = .ok (.getfield 190, 3) := by decide +kernel
theorem dX8_bestApart_105 : decode cX8_bestApart 105 = .ok (.iload 7, 2) := by decide +kernel
theorem dX8_bestApart_107 : decode cX8_bestApart 107 = .ok (.idiv, 1) := by decide +kernel
theorem dX8_bestApart_108 : decode cX8_bestApart 108 = .ok (.imul, 1) := by decide +kernel
theorem dX8_bestApart_109 : decode cX8_bestApart 109 = .ok (.istore 8, 2) := by decide +kernel
theorem dX8_bestApart_111 : decode cX8_bestApart 111 = .ok (.sipush 400, 3) := by decide +kernel
theorem dX8_bestApart_114 : decode cX8_bestApart 114 = .ok (.iload 5, 2) := by decide +kernel
theorem dX8_bestApart_116 : decode cX8_bestApart 116 = .ok (.iconst 1, 1) := by decide +kernel
theorem dX8_bestApart_117 : decode cX8_bestApart 117 = .ok (.isub, 1) := by decide +kernel
theorem dX8_bestApart_118 : decode cX8_bestApart 118 = .ok (.iload 8, 2) := by decide +kernel
theorem dX8_bestApart_120 : decode cX8_bestApart 120 = .ok (.isub, 1) := by decide +kernel
theorem dX8_bestApart_121 : decode cX8_bestApart 121 = .ok (.invokestatic 253, 3) := by decide +kernel
theorem dX8_bestApart_124 : decode cX8_bestApart 124 = .ok (.istore 9, 2) := by decide +kernel
theorem dX8_bestApart_126 : decode cX8_bestApart 126 = .ok (.iload 9, 2) := by decide +kernel
theorem dX8_bestApart_128 : decode cX8_bestApart 128 = .ok (.iload 6, 2) := by decide +kernel
theorem dX8_bestApart_130 : decode cX8_bestApart 130 = .ok (.if_icmp .ge 6, 3) := by decide +kernel
theorem dX8_bestApart_133 : decode cX8_bestApart 133 = .ok (.goto 42, 3) := by decide +kernel
theorem dX8_bestApart_136 : decode cX8_bestApart 136 = .ok (.aload_n 0, 1) := by decide +kernel
theorem dX8_bestApart_137 : decode cX8_bestApart 137 = .ok (.getfield 50, 3) := by decide +kernel
theorem dX8_bestApart_140 : decode cX8_bestApart 140 = .ok (.iload_n 2, 1) := by decide +kernel
theorem dX8_bestApart_141 : decode cX8_bestApart 141 = .ok (.aload_n 0, 1) := by decide +kernel
theorem dX8_bestApart_142 : decode cX8_bestApart 142 = .ok (.getfield 10, 3) := by decide +kernel
theorem dX8_bestApart_145 : decode cX8_bestApart 145 = .ok (.iload_n 1, 1) := by decide +kernel
theorem dX8_bestApart_146 : decode cX8_bestApart 146 = .ok (.iload 7, 2) := by decide +kernel
theorem dX8_bestApart_148 : decode cX8_bestApart 148 = .ok (.iload 9, 2) := by decide +kernel
theorem dX8_bestApart_150 : decode cX8_bestApart 150 = .ok (.invokevirtual 243, 3) := by decide +kernel
theorem dX8_bestApart_153 : decode cX8_bestApart 153 = .ok (.istore 10, 2) := by decide +kernel
theorem dX8_bestApart_155 : decode cX8_bestApart 155 = .ok (.iload 10, 2) := by decide +kernel
theorem dX8_bestApart_157 : decode cX8_bestApart 157 = .ok (.iconst (-1), 1) := by decide +kernel
theorem dX8_bestApart_158 : decode cX8_bestApart 158 = .ok (.if_icmp .ne 6, 3) := by decide +kernel
theorem dX8_bestApart_161 : decode cX8_bestApart 161 = .ok (.goto 14, 3) := by decide +kernel
theorem dX8_bestApart_164 : decode cX8_bestApart 164 = .ok (.iload 7, 2) := by decide +kernel
theorem dX8_bestApart_166 : decode cX8_bestApart 166 = .ok (.istore 4, 2) := by decide +kernel
theorem dX8_bestApart_168 : decode cX8_bestApart 168 = .ok (.iload 10, 2) := by decide +kernel
theorem dX8_bestApart_170 : decode cX8_bestApart 170 = .ok (.iload 8, 2) := by decide +kernel
theorem dX8_bestApart_172 : decode cX8_bestApart 172 = .ok (.iadd, 1) := by decide +kernel
theorem dX8_bestApart_173 : decode cX8_bestApart 173 = .ok (.istore 5, 2) := by decide +kernel
theorem dX8_bestApart_175 : decode cX8_bestApart 175 = .ok (.iinc 7 1, 3) := by decide +kernel
theorem dX8_bestApart_178 : decode cX8_bestApart 178 = .ok (.goto (-99), 3) := by decide +kernel
theorem dX8_bestApart_181 : decode cX8_bestApart 181 = .ok (.iload 4, 2) := by decide +kernel
theorem dX8_bestApart_183 : decode cX8_bestApart 183 = .ok (.ireturn, 1) := by decide +kernel
theorem dX8_when_0 : decode cX8_when 0 = .ok (.aload_n 0, 1) := by decide +kernel
theorem dX8_when_1 : decode cX8_when 1 = .ok (.iload_n 1, 1) := by decide +kernel
theorem dX8_when_2 : decode cX8_when 2 = .ok (.invokevirtual 123, 3) := by decide +kernel
theorem dX8_when_5 : decode cX8_when 5 = .ok (.ifCond .ne 9, 3) := by decide +kernel
theorem dX8_when_8 : decode cX8_when 8 = .ok (.aload_n 0, 1) := by decide +kernel
theorem dX8_when_9 : decode cX8_when 9 = .ok (.iconst (-1), 1) := by decide +kernel
theorem dX8_when_10 : decode cX8_when 10 = .ok (.invokevirtual 86, 3) := by decide +kernel
theorem dX8_when_13 : decode cX8_when 13 = .ok (.ireturn, 1) := by decide +kernel
theorem dX8_when_14 : decode cX8_when 14 = .ok (.iload_n 3, 1) := by decide +kernel
theorem dX8_when_15 : decode cX8_when 15 = .ok (.ifCond .lt 8, 3) := by decide +kernel
theorem dX8_when_18 : decode cX8_when 18 = .ok (.iload_n 3, 1) := by decide +kernel
theorem dX8_when_19 : decode cX8_when 19 = .ok (.iconst 1, 1) := by decide +kernel
theorem dX8_when_20 : decode cX8_when 20 = .ok (.if_icmp .le 10, 3) := by decide +kernel
theorem dX8_when_23 : decode cX8_when 23 = .ok (.aload_n 0, 1) := by decide +kernel
theorem dX8_when_24 : decode cX8_when 24 = .ok (.bipush (-5), 2) := by decide +kernel
theorem dX8_when_26 : decode cX8_when 26 = .ok (.invokevirtual 86, 3) := by decide +kernel
theorem dX8_when_29 : decode cX8_when 29 = .ok (.ireturn, 1) := by decide +kernel
theorem dX8_when_30 : decode cX8_when 30 = .ok (.iload_n 2, 1) := by decide +kernel
theorem dX8_when_31 : decode cX8_when 31 = .ok (.iconst 1, 1) := by decide +kernel
theorem dX8_when_32 : decode cX8_when 32 = .ok (.if_icmp .lt 20, 3) := by decide +kernel
theorem dX8_when_35 : decode cX8_when 35 = .ok (.iload_n 2, 1) := by decide +kernel
theorem dX8_when_36 : decode cX8_when 36 = .ok (.bipush 100, 2) := by decide +kernel
theorem dX8_when_38 : decode cX8_when 38 = .ok (.if_icmp .gt 14, 3) := by decide +kernel
theorem dX8_when_41 : decode cX8_when 41 = .ok (.aload_n 0, 1) := by decide +kernel
theorem dX8_when_42 : decode cX8_when 42 = .ok (.getfield 10, 3) := by decide +kernel
theorem dX8_when_45 : decode cX8_when 45 = .ok (.iload_n 1, 1) := by decide +kernel
theorem dX8_when_46 : decode cX8_when 46 = .ok (.invokevirtual 207, 3) := by decide +kernel
theorem dX8_when_49 : decode cX8_when 49 = .ok (.ifCond .eq 10, 3) := by decide +kernel
theorem dX8_when_52 : decode cX8_when 52 = .ok (.aload_n 0, 1) := by decide +kernel
theorem dX8_when_53 : decode cX8_when 53 = .ok (.bipush (-6), 2) := by decide +kernel
theorem dX8_when_55 : decode cX8_when 55 = .ok (.invokevirtual 86, 3) := by decide +kernel
theorem dX8_when_58 : decode cX8_when 58 = .ok (.ireturn, 1) := by decide +kernel
theorem dX8_when_59 : decode cX8_when 59 = .ok (.iconst 1, 1) := by decide +kernel
theorem dX8_when_60 : decode cX8_when 60 = .ok (.istore 4, 2) := by decide +kernel
theorem dX8_when_62 : decode cX8_when 62 = .ok (.aload_n 0, 1) := by decide +kernel
theorem dX8_when_63 : decode cX8_when 63 = .ok (.iload_n 1, 1) := by decide +kernel
theorem dX8_when_64 : decode cX8_when 64 = .ok (.iconst 1, 1) := by decide +kernel
theorem dX8_when_65 : decode cX8_when 65 = .ok (.invokevirtual 258, 3) := by decide +kernel
theorem dX8_when_68 : decode cX8_when 68 = .ok (.istore 5, 2) := by decide +kernel
theorem dX8_when_70 : decode cX8_when 70 = .ok (.iconst 2, 1) := by decide +kernel
theorem dX8_when_71 : decode cX8_when 71 = .ok (.istore 6, 2) := by decide +kernel
theorem dX8_when_73 : decode cX8_when 73 = .ok (.iload 6, 2) := by decide +kernel
theorem dX8_when_75 : decode cX8_when 75 = .ok (.iload_n 2, 1) := by decide +kernel
theorem dX8_when_76 : decode cX8_when 76 = .ok (.if_icmp .gt 67, 3) := by decide +kernel
theorem dX8_when_79 : decode cX8_when 79 = .ok (.aload_n 0, 1) := by decide +kernel
theorem dX8_when_80 : decode cX8_when 80 = .ok (.iload_n 1, 1) := by decide +kernel
theorem dX8_when_81 : decode cX8_when 81 = .ok (.iload 6, 2) := by decide +kernel
theorem dX8_when_83 : decode cX8_when 83 = .ok (.invokevirtual 258, 3) := by decide +kernel
theorem dX8_when_86 : decode cX8_when 86 = .ok (.istore 7, 2) := by decide +kernel
theorem dX8_when_88 : decode cX8_when 88 = .ok (.iload_n 3, 1) := by decide +kernel
theorem dX8_when_89 : decode cX8_when 89 = .ok (.ifCond .ne 18, 3) := by decide +kernel
theorem dX8_when_92 : decode cX8_when 92 = .ok (.iload 7, 2) := by decide +kernel
theorem dX8_when_94 : decode cX8_when 94 = .ok (.iload 5, 2) := by decide +kernel
theorem dX8_when_96 : decode cX8_when 96 = .ok (.if_icmp .gt 7, 3) := by decide +kernel
theorem dX8_when_99 : decode cX8_when 99 = .ok (.iconst 1, 1) := by decide +kernel
theorem dX8_when_100 : decode cX8_when 100 = .ok (.goto 19, 3) := by decide +kernel
theorem dX8_when_103 : decode cX8_when 103 = .ok (.iconst 0, 1) := by decide +kernel
theorem dX8_when_104 : decode cX8_when 104 = .ok (.goto 15, 3) := by decide +kernel
theorem dX8_when_107 : decode cX8_when 107 = .ok (.iload 7, 2) := by decide +kernel
theorem dX8_when_109 : decode cX8_when 109 = .ok (.iload 5, 2) := by decide +kernel
theorem dX8_when_111 : decode cX8_when 111 = .ok (.if_icmp .le 7, 3) := by decide +kernel
theorem dX8_when_114 : decode cX8_when 114 = .ok (.iconst 1, 1) := by decide +kernel
theorem dX8_when_115 : decode cX8_when 115 = .ok (.goto 4, 3) := by decide +kernel
theorem dX8_when_118 : decode cX8_when 118 = .ok (.iconst 0, 1) := by decide +kernel
theorem dX8_when_119 : decode cX8_when 119 = .ok (.istore 8, 2) := by decide +kernel
theorem dX8_when_121 : decode cX8_when 121 = .ok (.iload 8, 2) := by decide +kernel
theorem dX8_when_123 : decode cX8_when 123 = .ok (.ifCond .ne 6, 3) := by decide +kernel
theorem dX8_when_126 : decode cX8_when 126 = .ok (.goto 11, 3) := by decide +kernel
theorem dX8_when_129 : decode cX8_when 129 = .ok (.iload 6, 2) := by decide +kernel
theorem dX8_when_131 : decode cX8_when 131 = .ok (.istore 4, 2) := by decide +kernel
theorem dX8_when_133 : decode cX8_when 133 = .ok (.iload 7, 2) := by decide +kernel
theorem dX8_when_135 : decode cX8_when 135 = .ok (.istore 5, 2) := by decide +kernel
theorem dX8_when_137 : decode cX8_when 137 = .ok (.iinc 6 1, 3) := by decide +kernel
theorem dX8_when_140 : decode cX8_when 140 = .ok (.goto (-67), 3) := by decide +kernel
theorem dX8_when_143 : decode cX8_when 143 = .ok (.iload 4, 2) := by decide +kernel
theorem dX8_when_145 : decode cX8_when 145 = .ok (.ireturn, 1) := by decide +kernel
theorem dX8_longest_0 : decode cX8_longest 0 = .ok (.aload_n 0, 1) := by decide +kernel
theorem dX8_longest_1 : decode cX8_longest 1 = .ok (.iload_n 1, 1) := by decide +kernel
theorem dX8_longest_2 : decode cX8_longest 2 = .ok (.invokevirtual 123, 3) := by decide +kernel
theorem dX8_longest_5 : decode cX8_longest 5 = .ok (.ifCond .eq 7, 3) := by decide +kernel
theorem dX8_longest_8 : decode cX8_longest 8 = .ok (.iconst 0, 1) := by decide +kernel
theorem dX8_longest_9 : decode cX8_longest 9 = .ok (.goto 4, 3) := by decide +kernel
theorem dX8_longest_12 : decode cX8_longest 12 = .ok (.iconst (-1), 1) := by decide +kernel
theorem dX8_longest_13 : decode cX8_longest 13 = .ok (.istore_n 3, 1) := by decide +kernel
theorem dX8_longest_14 : decode cX8_longest 14 = .ok (.iload_n 3, 1) := by decide +kernel
theorem dX8_longest_15 : decode cX8_longest 15 = .ok (.ifCond .ne 15, 3) := by decide +kernel
theorem dX8_longest_18 : decode cX8_longest 18 = .ok (.iload_n 2, 1) := by decide +kernel
theorem dX8_longest_19 : decode cX8_longest 19 = .ok (.ifCond .lt 8, 3) := by decide +kernel
theorem dX8_longest_22 : decode cX8_longest 22 = .ok (.iload_n 2, 1) := by decide +kernel
theorem dX8_longest_23 : decode cX8_longest 23 = .ok (.iconst 5, 1) := by decide +kernel
theorem dX8_longest_24 : decode cX8_longest 24 = .ok (.if_icmp .le 6, 3) := by decide +kernel
theorem dX8_longest_27 : decode cX8_longest 27 = .ok (.bipush (-6), 2) := by decide +kernel
theorem dX8_longest_29 : decode cX8_longest 29 = .ok (.istore_n 3, 1) := by decide +kernel
theorem dX8_longest_30 : decode cX8_longest 30 = .ok (.iload_n 3, 1) := by decide +kernel
theorem dX8_longest_31 : decode cX8_longest 31 = .ok (.ifCond .eq 12, 3) := by decide +kernel
theorem dX8_longest_34 : decode cX8_longest 34 = .ok (.aload_n 0, 1) := by decide +kernel
theorem dX8_longest_35 : decode cX8_longest 35 = .ok (.iload_n 3, 1) := by decide +kernel
theorem dX8_longest_36 : decode cX8_longest 36 = .ok (.invokevirtual 86, 3) := by decide +kernel
theorem dX8_longest_39 : decode cX8_longest 39 = .ok (.bipush 10, 2) := by decide +kernel
theorem dX8_longest_41 : decode cX8_longest 41 = .ok (.isub, 1) := by decide +kernel
theorem dX8_longest_42 : decode cX8_longest 42 = .ok (.ireturn, 1) := by decide +kernel
theorem dX8_longest_43 : decode cX8_longest 43 = .ok (.aload_n 0, 1) := by decide +kernel
theorem dX8_longest_44 : decode cX8_longest 44 = .ok (.getfield 57, 3) := by decide +kernel
theorem dX8_longest_47 : decode cX8_longest 47 = .ok (.aload_n 0, 1) := by decide +kernel
theorem dX8_longest_48 : decode cX8_longest 48 = .ok (.getfield 10, 3) := by decide +kernel
theorem dX8_longest_51 : decode cX8_longest 51 = .ok (.iload_n 1, 1) := by decide +kernel
theorem dX8_longest_52 : decode cX8_longest 52 = .ok (.iload_n 2, 1) := by decide +kernel
theorem dX8_longest_53 : decode cX8_longest 53 = .ok (.invokevirtual 261, 3) := by decide +kernel
theorem dX8_longest_56 : decode cX8_longest 56 = .ok (.istore 4, 2) := by decide +kernel
theorem dX8_longest_58 : decode cX8_longest 58 = .ok (.iload 4, 2) := by decide +kernel
theorem dX8_longest_60 : decode cX8_longest 60 = .ok (.sipush 400, 3) := by decide +kernel
theorem dX8_longest_63 : decode cX8_longest 63 = .ok (.if_icmp .le 7, 3) := by decide +kernel
theorem dX8_longest_66 : decode cX8_longest 66 = .ok (.iconst (-1), 1) := by decide +kernel
theorem dX8_longest_67 : decode cX8_longest 67 = .ok (.goto 5, 3) := by decide +kernel
theorem dX8_longest_70 : decode cX8_longest 70 = .ok (.iload 4, 2) := by decide +kernel
theorem dX8_longest_72 : decode cX8_longest 72 = .ok (.ireturn, 1) := by decide +kernel
theorem dX8_fits_0 : decode cX8_fits 0 = .ok (.aload_n 0, 1) := by decide +kernel
theorem dX8_fits_1 : decode cX8_fits 1 = .ok (.iload_n 1, 1) := by decide +kernel
theorem dX8_fits_2 : decode cX8_fits 2 = .ok (.invokevirtual 123, 3) := by decide +kernel
theorem dX8_fits_5 : decode cX8_fits 5 = .ok (.ifCond .eq 7, 3) := by decide +kernel
theorem dX8_fits_8 : decode cX8_fits 8 = .ok (.iconst 0, 1) := by decide +kernel
theorem dX8_fits_9 : decode cX8_fits 9 = .ok (.goto 4, 3) := by decide +kernel
theorem dX8_fits_12 : decode cX8_fits 12 = .ok (.iconst (-1), 1) := by decide +kernel
theorem dX8_fits_13 : decode cX8_fits 13 = .ok (.istore_n 3, 1) := by decide +kernel
theorem dX8_fits_14 : decode cX8_fits 14 = .ok (.iload_n 3, 1) := by decide +kernel
theorem dX8_fits_15 : decode cX8_fits 15 = .ok (.ifCond .ne 16, 3) := by decide +kernel
theorem dX8_fits_18 : decode cX8_fits 18 = .ok (.iload_n 2, 1) := by decide +kernel
theorem dX8_fits_19 : decode cX8_fits 19 = .ok (.ifCond .lt 9, 3) := by decide +kernel
theorem dX8_fits_22 : decode cX8_fits 22 = .ok (.iload_n 2, 1) := by decide +kernel
theorem dX8_fits_23 : decode cX8_fits 23 = .ok (.bipush 100, 2) := by decide +kernel
theorem dX8_fits_25 : decode cX8_fits 25 = .ok (.if_icmp .le 6, 3) := by decide +kernel
theorem dX8_fits_28 : decode cX8_fits 28 = .ok (.bipush (-6), 2) := by decide +kernel
theorem dX8_fits_30 : decode cX8_fits 30 = .ok (.istore_n 3, 1) := by decide +kernel
theorem dX8_fits_31 : decode cX8_fits 31 = .ok (.iload_n 3, 1) := by decide +kernel
theorem dX8_fits_32 : decode cX8_fits 32 = .ok (.ifCond .eq 12, 3) := by decide +kernel
theorem dX8_fits_35 : decode cX8_fits 35 = .ok (.aload_n 0, 1) := by decide +kernel
theorem dX8_fits_36 : decode cX8_fits 36 = .ok (.iload_n 3, 1) := by decide +kernel
theorem dX8_fits_37 : decode cX8_fits 37 = .ok (.invokevirtual 86, 3) := by decide +kernel
theorem dX8_fits_40 : decode cX8_fits 40 = .ok (.bipush 10, 2) := by decide +kernel
theorem dX8_fits_42 : decode cX8_fits 42 = .ok (.isub, 1) := by decide +kernel
theorem dX8_fits_43 : decode cX8_fits 43 = .ok (.ireturn, 1) := by decide +kernel
theorem dX8_fits_44 : decode cX8_fits 44 = .ok (.aload_n 0, 1) := by decide +kernel
theorem dX8_fits_45 : decode cX8_fits 45 = .ok (.getfield 57, 3) := by decide +kernel
theorem dX8_fits_48 : decode cX8_fits 48 = .ok (.aload_n 0, 1) := by decide +kernel
theorem dX8_fits_49 : decode cX8_fits 49 = .ok (.getfield 10, 3) := by decide +kernel
theorem dX8_fits_52 : decode cX8_fits 52 = .ok (.iload_n 1, 1) := by decide +kernel
theorem dX8_fits_53 : decode cX8_fits 53 = .ok (.iload_n 2, 1) := by decide +kernel
theorem dX8_fits_54 : decode cX8_fits 54 = .ok (.invokevirtual 264, 3) := by decide +kernel
theorem dX8_fits_57 : decode cX8_fits 57 = .ok (.ireturn, 1) := by decide +kernel
theorem dX8_judge_0 : decode cX8_judge 0 = .ok (.aload_n 0, 1) := by decide +kernel
theorem dX8_judge_1 : decode cX8_judge 1 = .ok (.iload_n 1, 1) := by decide +kernel
theorem dX8_judge_2 : decode cX8_judge 2 = .ok (.iload_n 2, 1) := by decide +kernel
theorem dX8_judge_3 : decode cX8_judge 3 = .ok (.iload_n 3, 1) := by decide +kernel
theorem dX8_judge_4 : decode cX8_judge 4 = .ok (.invokevirtual 267, 3) := by decide +kernel
theorem dX8_judge_7 : decode cX8_judge 7 = .ok (.istore 4, 2) := by decide +kernel
theorem dX8_judge_9 : decode cX8_judge 9 = .ok (.iload 4, 2) := by decide +kernel
theorem dX8_judge_11 : decode cX8_judge 11 = .ok (.ifCond .eq 13, 3) := by decide +kernel
theorem dX8_judge_14 : decode cX8_judge 14 = .ok (.aload_n 0, 1) := by decide +kernel
theorem dX8_judge_15 : decode cX8_judge 15 = .ok (.iload 4, 2) := by decide +kernel
theorem dX8_judge_17 : decode cX8_judge 17 = .ok (.invokevirtual 86, 3) := by decide +kernel
theorem dX8_judge_20 : decode cX8_judge 20 = .ok (.bipush 10, 2) := by decide +kernel
theorem dX8_judge_22 : decode cX8_judge 22 = .ok (.isub, 1) := by decide +kernel
theorem dX8_judge_23 : decode cX8_judge 23 = .ok (.ireturn, 1) := by decide +kernel
theorem dX8_judge_24 : decode cX8_judge 24 = .ok (.aload_n 0, 1) := by decide +kernel
theorem dX8_judge_25 : decode cX8_judge 25 = .ok (.iload_n 1, 1) := by decide +kernel
theorem dX8_judge_26 : decode cX8_judge 26 = .ok (.iload_n 2, 1) := by decide +kernel
theorem dX8_judge_27 : decode cX8_judge 27 = .ok (.iload_n 3, 1) := by decide +kernel
theorem dX8_judge_28 : decode cX8_judge 28 = .ok (.invokevirtual 270, 3) := by decide +kernel
theorem dX8_judge_31 : decode cX8_judge 31 = .ok (.ireturn, 1) := by decide +kernel
theorem dX8_breaks_0 : decode cX8_breaks 0 = .ok (.aload_n 0, 1) := by decide +kernel
theorem dX8_breaks_1 : decode cX8_breaks 1 = .ok (.iload_n 1, 1) := by decide +kernel
theorem dX8_breaks_2 : decode cX8_breaks 2 = .ok (.iload_n 2, 1) := by decide +kernel
theorem dX8_breaks_3 : decode cX8_breaks 3 = .ok (.iload_n 3, 1) := by decide +kernel
theorem dX8_breaks_4 : decode cX8_breaks 4 = .ok (.invokevirtual 267, 3) := by decide +kernel
theorem dX8_breaks_7 : decode cX8_breaks 7 = .ok (.istore 4, 2) := by decide +kernel
theorem dX8_breaks_9 : decode cX8_breaks 9 = .ok (.iload 4, 2) := by decide +kernel
theorem dX8_breaks_11 : decode cX8_breaks 11 = .ok (.ifCond .ne 18, 3) := by decide +kernel
theorem dX8_breaks_14 : decode cX8_breaks 14 = .ok (.aload_n 0, 1) := by decide +kernel
theorem dX8_breaks_15 : decode cX8_breaks 15 = .ok (.iload_n 1, 1) := by decide +kernel
theorem dX8_breaks_16 : decode cX8_breaks 16 = .ok (.iload_n 2, 1) := by decide +kernel
theorem dX8_breaks_17 : decode cX8_breaks 17 = .ok (.iload_n 3, 1) := by decide +kernel
theorem dX8_breaks_18 : decode cX8_breaks 18 = .ok (.invokevirtual 270, 3) := by decide +kernel
theorem dX8_breaks_21 : decode cX8_breaks 21 = .ok (.iconst (-1), 1) := by decide +kernel
theorem dX8_breaks_22 : decode cX8_breaks 22 = .ok (.if_icmp .eq 7, 3) := by decide +kernel
theorem dX8_breaks_25 : decode cX8_breaks 25 = .ok (.bipush (-6), 2) := by decide +kernel
theorem dX8_breaks_27 : decode cX8_breaks 27 = .ok (.istore 4, 2) := by decide +kernel
theorem dX8_breaks_29 : decode cX8_breaks 29 = .ok (.iload 4, 2) := by decide +kernel
theorem dX8_breaks_31 : decode cX8_breaks 31 = .ok (.ifCond .eq 10, 3) := by decide +kernel
theorem dX8_breaks_34 : decode cX8_breaks 34 = .ok (.aload_n 0, 1) := by decide +kernel
theorem dX8_breaks_35 : decode cX8_breaks 35 = .ok (.iload 4, 2) := by decide +kernel
theorem dX8_breaks_37 : decode cX8_breaks 37 = .ok (.invokevirtual 86, 3) := by decide +kernel
theorem dX8_breaks_40 : decode cX8_breaks 40 = .ok (.ireturn, 1) := by decide +kernel
theorem dX8_breaks_41 : decode cX8_breaks 41 = .ok (.aload_n 0, 1) := by decide +kernel
theorem dX8_breaks_42 : decode cX8_breaks 42 = .ok (.getfield 64, 3) := by decide +kernel
theorem dX8_breaks_45 : decode cX8_breaks 45 = .ok (.getfield 175, 3) := by decide +kernel
theorem dX8_breaks_48 : decode cX8_breaks 48 = .ok (.aload_n 0, 1) := by decide +kernel
theorem dX8_breaks_49 : decode cX8_breaks 49 = .ok (.getfield 10, 3) := by decide +kernel
theorem dX8_breaks_52 : decode cX8_breaks 52 = .ok (.getfield 144, 3) := by decide +kernel
theorem dX8_breaks_55 : decode cX8_breaks 55 = .ok (.iload_n 1, 1) := by decide +kernel
theorem dX8_breaks_56 : decode cX8_breaks 56 = .ok (.aaload, 1) := by decide +kernel
theorem dX8_breaks_57 : decode cX8_breaks 57 = .ok (.getfield 175, 3) := by decide +kernel
theorem dX8_breaks_60 : decode cX8_breaks 60 = .ok (.isub, 1) := by decide +kernel
theorem dX8_breaks_61 : decode cX8_breaks 61 = .ok (.ireturn, 1) := by decide +kernel
theorem dX8_quickest_0 : decode cX8_quickest 0 = .ok (.aload_n 0, 1) := by decide +kernel
theorem dX8_quickest_1 : decode cX8_quickest 1 = .ok (.iload_n 1, 1) := by decide +kernel
theorem dX8_quickest_2 : decode cX8_quickest 2 = .ok (.iload_n 2, 1) := by decide +kernel
theorem dX8_quickest_3 : decode cX8_quickest 3 = .ok (.invokevirtual 230, 3) := by decide +kernel
theorem dX8_quickest_6 : decode cX8_quickest 6 = .ok (.istore_n 3, 1) := by decide +kernel
theorem dX8_quickest_7 : decode cX8_quickest 7 = .ok (.iload_n 3, 1) := by decide +kernel
theorem dX8_quickest_8 : decode cX8_quickest 8 = .ok (.ifCond .eq 12, 3) := by decide +kernel
theorem dX8_quickest_11 : decode cX8_quickest 11 = .ok (.aload_n 0, 1) := by decide +kernel
theorem dX8_quickest_12 : decode cX8_quickest 12 = .ok (.iload_n 3, 1) := by decide +kernel
theorem dX8_quickest_13 : decode cX8_quickest 13 = .ok (.invokevirtual 86, 3) := by decide +kernel
theorem dX8_quickest_16 : decode cX8_quickest 16 = .ok (.bipush 10, 2) := by decide +kernel
theorem dX8_quickest_18 : decode cX8_quickest 18 = .ok (.isub, 1) := by decide +kernel
theorem dX8_quickest_19 : decode cX8_quickest 19 = .ok (.ireturn, 1) := by decide +kernel
theorem dX8_quickest_20 : decode cX8_quickest 20 = .ok (.iconst (-1), 1) := by decide +kernel
theorem dX8_quickest_21 : decode cX8_quickest 21 = .ok (.istore 4, 2) := by decide +kernel
theorem dX8_quickest_23 : decode cX8_quickest 23 = .ok (.sipush 401, 3) := by decide +kernel
theorem dX8_quickest_26 : decode cX8_quickest 26 = .ok (.istore 5, 2) := by decide +kernel
theorem dX8_quickest_28 : decode cX8_quickest 28 = .ok (.iconst 0, 1) := by decide +kernel
theorem dX8_quickest_29 : decode cX8_quickest 29 = .ok (.istore 6, 2) := by decide +kernel
theorem dX8_quickest_31 : decode cX8_quickest 31 = .ok (.iload 6, 2) := by decide +kernel
theorem dX8_quickest_33 : decode cX8_quickest 33 = .ok (.aload_n 0, 1) := by decide +kernel
theorem dX8_quickest_34 : decode cX8_quickest 34 = .ok (.getfield 10, 3) := by decide +kernel
theorem dX8_quickest_37 : decode cX8_quickest 37 = .ok (.getfield 273, 3) := by decide +kernel
theorem dX8_quickest_40 : decode cX8_quickest 40 = .ok (.if_icmp .ge 62, 3) := by decide +kernel
theorem dX8_quickest_43 : decode cX8_quickest 43 = .ok (.aload_n 0, 1) := by decide +kernel
theorem dX8_quickest_44 : decode cX8_quickest 44 = .ok (.getfield 43, 3) := by decide +kernel
theorem dX8_quickest_47 : decode cX8_quickest 47 = .ok (.aload_n 0, 1) := by decide +kernel
theorem dX8_quickest_48 : decode cX8_quickest 48 = .ok (.getfield 10, 3) := by decide +kernel
theorem dX8_quickest_51 : decode cX8_quickest 51 = .ok (.iload 6, 2) := by decide +kernel
theorem dX8_quickest_53 : decode cX8_quickest 53 = .ok (.aload_n 0, 1) := by decide +kernel
theorem dX8_quickest_54 : decode cX8_quickest 54 = .ok (.getfield 32, 3) := by decide +kernel
theorem dX8_quickest_57 : decode cX8_quickest 57 = .ok (.iload_n 1, 1) := by decide +kernel
theorem dX8_quickest_58 : decode cX8_quickest 58 = .ok (.aaload, 1) := by decide +kernel
theorem dX8_quickest_59 : decode cX8_quickest 59 = .ok (.iload_n 2, 1) := by decide +kernel
theorem dX8_quickest_60 : decode cX8_quickest 60 = .ok (.invokevirtual 220, 3) := by decide +kernel
theorem dX8_quickest_63 : decode cX8_quickest 63 = .ok (.aload_n 0, 1) := by decide +kernel
theorem dX8_quickest_64 : decode cX8_quickest 64 = .ok (.getfield 43, 3) := by decide +kernel
theorem dX8_quickest_67 : decode cX8_quickest 67 = .ok (.invokevirtual 233, 3) := by decide +kernel
theorem dX8_quickest_70 : decode cX8_quickest 70 = .ok (.istore 7, 2) := by decide +kernel
theorem dX8_quickest_72 : decode cX8_quickest 72 = .ok (.iload 7, 2) := by decide +kernel
theorem dX8_quickest_74 : decode cX8_quickest 74 = .ok (.iconst (-1), 1) := by decide +kernel
theorem dX8_quickest_75 : decode cX8_quickest 75 = .ok (.if_icmp .eq 21, 3) := by decide +kernel
theorem dX8_quickest_78 : decode cX8_quickest 78 = .ok (.iload 7, 2) := by decide +kernel
theorem dX8_quickest_80 : decode cX8_quickest 80 = .ok (.iload 5, 2) := by decide +kernel
theorem dX8_quickest_82 : decode cX8_quickest 82 = .ok (.if_icmp .lt 6, 3) := by decide +kernel
theorem dX8_quickest_85 : decode cX8_quickest 85 = .ok (.goto 11, 3) := by decide +kernel
theorem dX8_quickest_88 : decode cX8_quickest 88 = .ok (.iload 6, 2) := by decide +kernel
theorem dX8_quickest_90 : decode cX8_quickest 90 = .ok (.istore 4, 2) := by decide +kernel
theorem dX8_quickest_92 : decode cX8_quickest 92 = .ok (.iload 7, 2) := by decide +kernel
theorem dX8_quickest_94 : decode cX8_quickest 94 = .ok (.istore 5, 2) := by decide +kernel
theorem dX8_quickest_96 : decode cX8_quickest 96 = .ok (.iinc 6 1, 3) := by decide +kernel
theorem dX8_quickest_99 : decode cX8_quickest 99 = .ok (.goto (-68), 3) := by decide +kernel
theorem dX8_quickest_102 : decode cX8_quickest 102 = .ok (.iload 4, 2) := by decide +kernel
theorem dX8_quickest_104 : decode cX8_quickest 104 = .ok (.ireturn, 1) := by decide +kernel
theorem dX8_surest_0 : decode cX8_surest 0 = .ok (.aload_n 0, 1) := by decide +kernel
theorem dX8_surest_1 : decode cX8_surest 1 = .ok (.getfield 10, 3) := by decide +kernel
theorem dX8_surest_4 : decode cX8_surest 4 = .ok (.getfield 273, 3) := by decide +kernel
theorem dX8_surest_7 : decode cX8_surest 7 = .ok (.ifCond .ne 10, 3) := by decide +kernel
theorem dX8_surest_10 : decode cX8_surest 10 = .ok (.aload_n 0, 1) := by decide +kernel
theorem dX8_surest_11 : decode cX8_surest 11 = .ok (.bipush (-5), 2) := by decide +kernel
theorem dX8_surest_13 : decode cX8_surest 13 = .ok (.invokevirtual 86, 3) := by decide +kernel
theorem dX8_surest_16 : decode cX8_surest 16 = .ok (.ireturn, 1) := by decide +kernel
theorem dX8_surest_17 : decode cX8_surest 17 = .ok (.iload_n 1, 1) := by decide +kernel
theorem dX8_surest_18 : decode cX8_surest 18 = .ok (.ifCond .lt 10, 3) := by decide +kernel
theorem dX8_surest_21 : decode cX8_surest 21 = .ok (.iload_n 1, 1) := by decide +kernel
theorem dX8_surest_22 : decode cX8_surest 22 = .ok (.sipush 400, 3) := by decide +kernel
theorem dX8_surest_25 : decode cX8_surest 25 = .ok (.if_icmp .le 10, 3) := by decide +kernel
theorem dX8_surest_28 : decode cX8_surest 28 = .ok (.aload_n 0, 1) := by decide +kernel
theorem dX8_surest_29 : decode cX8_surest 29 = .ok (.bipush (-6), 2) := by decide +kernel
theorem dX8_surest_31 : decode cX8_surest 31 = .ok (.invokevirtual 86, 3) := by decide +kernel
theorem dX8_surest_34 : decode cX8_surest 34 = .ok (.ireturn, 1) := by decide +kernel
theorem dX8_surest_35 : decode cX8_surest 35 = .ok (.iconst 0, 1) := by decide +kernel
theorem dX8_surest_36 : decode cX8_surest 36 = .ok (.istore_n 2, 1) := by decide +kernel
theorem dX8_surest_37 : decode cX8_surest 37 = .ok (.iconst (-1), 1) := by decide +kernel
theorem dX8_surest_38 : decode cX8_surest 38 = .ok (.istore_n 3, 1) := by decide +kernel
theorem dX8_surest_39 : decode cX8_surest 39 = .ok (.iconst 0, 1) := by decide +kernel
theorem dX8_surest_40 : decode cX8_surest 40 = .ok (.istore 4, 2) := by decide +kernel
theorem dX8_surest_42 : decode cX8_surest 42 = .ok (.iload 4, 2) := by decide +kernel
theorem dX8_surest_44 : decode cX8_surest 44 = .ok (.aload_n 0, 1) := by decide +kernel
theorem dX8_surest_45 : decode cX8_surest 45 = .ok (.getfield 10, 3) := by decide +kernel
theorem dX8_surest_48 : decode cX8_surest 48 = .ok (.getfield 273, 3) := by decide +kernel
theorem dX8_surest_51 : decode cX8_surest 51 = .ok (.if_icmp .ge 40, 3) := by decide +kernel
theorem dX8_surest_54 : decode cX8_surest 54 = .ok (.aload_n 0, 1) := by decide +kernel
theorem dX8_surest_55 : decode cX8_surest 55 = .ok (.getfield 50, 3) := by decide +kernel
theorem dX8_surest_58 : decode cX8_surest 58 = .ok (.aload_n 0, 1) := by decide +kernel
theorem dX8_surest_59 : decode cX8_surest 59 = .ok (.getfield 10, 3) := by decide +kernel
theorem dX8_surest_62 : decode cX8_surest 62 = .ok (.iload 4, 2) := by decide +kernel
theorem dX8_surest_64 : decode cX8_surest 64 = .ok (.iload_n 1, 1) := by decide +kernel
theorem dX8_surest_65 : decode cX8_surest 65 = .ok (.invokevirtual 236, 3) := by decide +kernel
theorem dX8_surest_68 : decode cX8_surest 68 = .ok (.istore 5, 2) := by decide +kernel
theorem dX8_surest_70 : decode cX8_surest 70 = .ok (.iload 5, 2) := by decide +kernel
theorem dX8_surest_72 : decode cX8_surest 72 = .ok (.iload_n 3, 1) := by decide +kernel
theorem dX8_surest_73 : decode cX8_surest 73 = .ok (.if_icmp .gt 6, 3) := by decide +kernel
theorem dX8_surest_76 : decode cX8_surest 76 = .ok (.goto 9, 3) := by decide +kernel
theorem dX8_surest_79 : decode cX8_surest 79 = .ok (.iload 4, 2) := by decide +kernel
theorem dX8_surest_81 : decode cX8_surest 81 = .ok (.istore_n 2, 1) := by decide +kernel
theorem dX8_surest_82 : decode cX8_surest 82 = .ok (.iload 5, 2) := by decide +kernel
theorem dX8_surest_84 : decode cX8_surest 84 = .ok (.istore_n 3, 1) := by decide +kernel
theorem dX8_surest_85 : decode cX8_surest 85 = .ok (.iinc 4 1, 3) := by decide +kernel
theorem dX8_surest_88 : decode cX8_surest 88 = .ok (.goto (-46), 3) := by decide +kernel
theorem dX8_surest_91 : decode cX8_surest 91 = .ok (.iload_n 2, 1) := by decide +kernel
theorem dX8_surest_92 : decode cX8_surest 92 = .ok (.ireturn, 1) := by decide +kernel
theorem dX8_parted_0 : decode cX8_parted 0 = .ok (.aload_n 0, 1) := by decide +kernel
theorem dX8_parted_1 : decode cX8_parted 1 = .ok (.iload_n 1, 1) := by decide +kernel
theorem dX8_parted_2 : decode cX8_parted 2 = .ok (.invokevirtual 123, 3) := by decide +kernel
theorem dX8_parted_5 : decode cX8_parted 5 = .ok (.ifCond .eq 21, 3) := by decide +kernel
theorem dX8_parted_8 : decode cX8_parted 8 = .ok (.aload_n 0, 1) := by decide +kernel
theorem dX8_parted_9 : decode cX8_parted 9 = .ok (.iload_n 2, 1) := by decide +kernel
theorem dX8_parted_10 : decode cX8_parted 10 = .ok (.invokevirtual 123, 3) := by decide +kernel
theorem dX8_parted_13 : decode cX8_parted 13 = .ok (.ifCond .eq 13, 3) := by decide +kernel
theorem dX8_parted_16 : decode cX8_parted 16 = .ok (.aload_n 0, 1) := by decide +kernel
theorem dX8_parted_17 : decode cX8_parted 17 = .ok (.iload_n 3, 1) := by decide +kernel
theorem dX8_parted_18 : decode cX8_parted 18 = .ok (.iload 4, 2) := by decide +kernel
theorem dX8_parted_20 : decode cX8_parted 20 = .ok (.invokevirtual 104, 3) := by decide +kernel
theorem dX8_parted_23 : decode cX8_parted 23 = .ok (.goto 4, 3) := by decide +kernel
theorem dX8_parted_26 : decode cX8_parted 26 = .ok (.iconst (-1), 1) := by decide +kernel
theorem dX8_parted_27 : decode cX8_parted 27 = .ok (.istore 6, 2) := by decide +kernel
theorem dX8_parted_29 : decode cX8_parted 29 = .ok (.iload 6, 2) := by decide +kernel
theorem dX8_parted_31 : decode cX8_parted 31 = .ok (.ifCond .ne 26, 3) := by decide +kernel
theorem dX8_parted_34 : decode cX8_parted 34 = .ok (.iload_n 1, 1) := by decide +kernel
theorem dX8_parted_35 : decode cX8_parted 35 = .ok (.iload_n 2, 1) := by decide +kernel
theorem dX8_parted_36 : decode cX8_parted 36 = .ok (.if_icmp .eq 17, 3) := by decide +kernel
theorem dX8_parted_39 : decode cX8_parted 39 = .ok (.iload 5, 2) := by decide +kernel
theorem dX8_parted_41 : decode cX8_parted 41 = .ok (.iconst 1, 1) := by decide +kernel
theorem dX8_parted_42 : decode cX8_parted 42 = .ok (.if_icmp .lt 11, 3) := by decide +kernel
theorem dX8_parted_45 : decode cX8_parted 45 = .ok (.iload 5, 2) := by decide +kernel
theorem dX8_parted_47 : decode cX8_parted 47 = .ok (.sipush 200, 3) := by decide +kernel
theorem dX8_parted_50 : decode cX8_parted 50 = .ok (.if_icmp .le 7, 3) := by decide +kernel
theorem dX8_parted_53 : decode cX8_parted 53 = .ok (.bipush (-6), 2) := by decide +kernel
theorem dX8_parted_55 : decode cX8_parted 55 = .ok (.istore 6, 2) := by decide +kernel
theorem dX8_parted_57 : decode cX8_parted 57 = .ok (.iload 6, 2) := by decide +kernel
theorem dX8_parted_59 : decode cX8_parted 59 = .ok (.ifCond .ne 43, 3) := by decide +kernel
theorem dX8_parted_62 : decode cX8_parted 62 = .ok (.aload_n 0, 1) := by decide +kernel
theorem dX8_parted_63 : decode cX8_parted 63 = .ok (.iload_n 3, 1) := by decide +kernel
theorem dX8_parted_64 : decode cX8_parted 64 = .ok (.aload_n 0, 1) := by decide +kernel
theorem dX8_parted_65 : decode cX8_parted 65 = .ok (.getfield 32, 3) := by decide +kernel
theorem dX8_parted_68 : decode cX8_parted 68 = .ok (.iload_n 3, 1) := by decide +kernel
theorem dX8_parted_69 : decode cX8_parted 69 = .ok (.aaload, 1) := by decide +kernel
theorem dX8_parted_70 : decode cX8_parted 70 = .ok (.getfield 276, 3) := by decide +kernel
theorem dX8_parted_73 : decode cX8_parted 73 = .ok (.invokevirtual 217, 3) := by decide +kernel
theorem dX8_parted_76 : decode cX8_parted 76 = .ok (.ifCond .eq 22, 3) := by decide +kernel
theorem dX8_parted_79 : decode cX8_parted 79 = .ok (.aload_n 0, 1) := by decide +kernel
theorem dX8_parted_80 : decode cX8_parted 80 = .ok (.iload 4, 2) := by decide +kernel
theorem dX8_parted_82 : decode cX8_parted 82 = .ok (.aload_n 0, 1) := by decide +kernel
theorem dX8_parted_83 : decode cX8_parted 83 = .ok (.getfield 32, 3) := by decide +kernel
theorem dX8_parted_86 : decode cX8_parted 86 = .ok (.iload 4, 2) := by decide +kernel
theorem dX8_parted_88 : decode cX8_parted 88 = .ok (.aaload, 1) := by decide +kernel
theorem dX8_parted_89 : decode cX8_parted 89 = .ok (.getfield 276, 3) := by decide +kernel
theorem dX8_parted_92 : decode cX8_parted 92 = .ok (.invokevirtual 217, 3) := by decide +kernel
theorem dX8_parted_95 : decode cX8_parted 95 = .ok (.ifCond .ne 7, 3) := by decide +kernel
theorem dX8_parted_98 : decode cX8_parted 98 = .ok (.bipush (-6), 2) := by decide +kernel
theorem dX8_parted_100 : decode cX8_parted 100 = .ok (.istore 6, 2) := by decide +kernel
theorem dX8_parted_102 : decode cX8_parted 102 = .ok (.iload 6, 2) := by decide +kernel
theorem dX8_parted_104 : decode cX8_parted 104 = .ok (.ifCond .eq 13, 3) := by decide +kernel
theorem dX8_parted_107 : decode cX8_parted 107 = .ok (.aload_n 0, 1) := by decide +kernel
theorem dX8_parted_108 : decode cX8_parted 108 = .ok (.iload 6, 2) := by decide +kernel
theorem dX8_parted_110 : decode cX8_parted 110 = .ok (.invokevirtual 86, 3) := by decide +kernel
theorem dX8_parted_113 : decode cX8_parted 113 = .ok (.bipush 10, 2) := by decide +kernel
theorem dX8_parted_115 : decode cX8_parted 115 = .ok (.isub, 1) := by decide +kernel
theorem dX8_parted_116 : decode cX8_parted 116 = .ok (.ireturn, 1) := by decide +kernel
theorem dX8_parted_117 : decode cX8_parted 117 = .ok (.aload_n 0, 1) := by decide +kernel
theorem dX8_parted_118 : decode cX8_parted 118 = .ok (.iload_n 1, 1) := by decide +kernel
theorem dX8_parted_119 : decode cX8_parted 119 = .ok (.iload_n 3, 1) := by decide +kernel
theorem dX8_parted_120 : decode cX8_parted 120 = .ok (.aload_n 0, 1) := by decide +kernel
theorem dX8_parted_121 : decode cX8_parted 121 = .ok (.getfield 68, 3) := by decide +kernel
theorem dX8_parted_124 : decode cX8_parted 124 = .ok (.invokevirtual 279, 3) := by decide +kernel
theorem dX8_parted_127 : decode cX8_parted 127 = .ok (.aload_n 0, 1) := by decide +kernel
theorem dX8_parted_128 : decode cX8_parted 128 = .ok (.iload_n 2, 1) := by decide +kernel
theorem dX8_parted_129 : decode cX8_parted 129 = .ok (.iload 4, 2) := by decide +kernel
theorem dX8_parted_131 : decode cX8_parted 131 = .ok (.aload_n 0, 1) := by decide +kernel
theorem dX8_parted_132 : decode cX8_parted 132 = .ok (.getfield 71, 3) := by decide +kernel
theorem dX8_parted_135 : decode cX8_parted 135 = .ok (.invokevirtual 279, 3) := by decide +kernel
theorem dX8_parted_138 : decode cX8_parted 138 = .ok (.iload 5, 2) := by decide +kernel
theorem dX8_parted_140 : decode cX8_parted 140 = .ok (.istore 7, 2) := by decide +kernel
theorem dX8_parted_142 : decode cX8_parted 142 = .ok (.iload 7, 2) := by decide +kernel
theorem dX8_parted_144 : decode cX8_parted 144 = .ok (.aload_n 0, 1) := by decide +kernel
theorem dX8_parted_145 : decode cX8_parted 145 = .ok (.getfield 10, 3) := by decide +kernel
theorem dX8_parted_148 : decode cX8_parted 148 = .ok (.getfield 190, 3) := by decide +kernel
theorem dX8_parted_151 : decode cX8_parted 151 = .ok (.if_icmp .gt 33, 3) := by decide +kernel
theorem dX8_parted_154 : decode cX8_parted 154 = .ok (.aload_n 0, 1) := by decide +kernel
theorem dX8_parted_155 : decode cX8_parted 155 = .ok (.getfield 68, 3) := by decide +kernel
theorem dX8_parted_158 : decode cX8_parted 158 = .ok (.iload 7, 2) := by decide +kernel
theorem dX8_parted_160 : decode cX8_parted 160 = .ok (.iaload, 1) := by decide +kernel
theorem dX8_parted_161 : decode cX8_parted 161 = .ok (.aload_n 0, 1) := by decide +kernel
theorem dX8_parted_162 : decode cX8_parted 162 = .ok (.getfield 71, 3) := by decide +kernel
theorem dX8_parted_165 : decode cX8_parted 165 = .ok (.iload 7, 2) := by decide +kernel
theorem dX8_parted_167 : decode cX8_parted 167 = .ok (.iaload, 1) := by decide +kernel
theorem dX8_parted_168 : decode cX8_parted 168 = .ok (.if_icmp .eq 6, 3) := by decide +kernel
theorem dX8_parted_171 : decode cX8_parted 171 = .ok (.iload 7, 2) := by decide +kernel
theorem dX8_parted_173 : decode cX8_parted 173 = .ok (.ireturn, 1) := by decide +kernel
theorem dX8_parted_174 : decode cX8_parted 174 = .ok (.iload 7, 2) := by decide +kernel
theorem dX8_parted_176 : decode cX8_parted 176 = .ok (.iload 5, 2) := by decide +kernel
theorem dX8_parted_178 : decode cX8_parted 178 = .ok (.iadd, 1) := by decide +kernel
theorem dX8_parted_179 : decode cX8_parted 179 = .ok (.istore 7, 2) := by decide +kernel
theorem dX8_parted_181 : decode cX8_parted 181 = .ok (.goto (-39), 3) := by decide +kernel
theorem dX8_parted_184 : decode cX8_parted 184 = .ok (.iconst (-1), 1) := by decide +kernel
theorem dX8_parted_185 : decode cX8_parted 185 = .ok (.ireturn, 1) := by decide +kernel
theorem dX8_tally_0 : decode cX8_tally 0 = .ok (.iload_n 1, 1) := by decide +kernel
theorem dX8_tally_1 : decode cX8_tally 1 = .ok (.ifCond .lt 10, 3) := by decide +kernel
theorem dX8_tally_4 : decode cX8_tally 4 = .ok (.iload_n 1, 1) := by decide +kernel
theorem dX8_tally_5 : decode cX8_tally 5 = .ok (.sipush 9999, 3) := by decide +kernel
theorem dX8_tally_8 : decode cX8_tally 8 = .ok (.if_icmp .le 10, 3) := by decide +kernel
theorem dX8_tally_11 : decode cX8_tally 11 = .ok (.aload_n 0, 1) := by decide +kernel
theorem dX8_tally_12 : decode cX8_tally 12 = .ok (.bipush (-6), 2) := by decide +kernel
theorem dX8_tally_14 : decode cX8_tally 14 = .ok (.invokevirtual 86, 3) := by decide +kernel
theorem dX8_tally_17 : decode cX8_tally 17 = .ok (.ireturn, 1) := by decide +kernel
theorem dX8_tally_18 : decode cX8_tally 18 = .ok (.aload_n 0, 1) := by decide +kernel
theorem dX8_tally_19 : decode cX8_tally 19 = .ok (.getfield 10, 3) := by decide +kernel
theorem dX8_tally_22 : decode cX8_tally 22 = .ok (.invokevirtual 283, 3) := by decide +kernel
theorem dX8_tally_25 : decode cX8_tally 25 = .ok (.ifCond .ne 10, 3) := by decide +kernel
theorem dX8_tally_28 : decode cX8_tally 28 = .ok (.aload_n 0, 1) := by decide +kernel
theorem dX8_tally_29 : decode cX8_tally 29 = .ok (.bipush (-7), 2) := by decide +kernel
theorem dX8_tally_31 : decode cX8_tally 31 = .ok (.invokevirtual 86, 3) := by decide +kernel
theorem dX8_tally_34 : decode cX8_tally 34 = .ok (.ireturn, 1) := by decide +kernel
theorem dX8_tally_35 : decode cX8_tally 35 = .ok (.aload_n 0, 1) := by decide +kernel
theorem dX8_tally_36 : decode cX8_tally 36 = .ok (.getfield 10, 3) := by decide +kernel
theorem dX8_tally_39 : decode cX8_tally 39 = .ok (.iload_n 1, 1) := by decide +kernel
theorem dX8_tally_40 : decode cX8_tally 40 = .ok (.invokevirtual 286, 3) := by decide +kernel
theorem dX8_tally_43 : decode cX8_tally 43 = .ok (.ireturn, 1) := by decide +kernel
theorem dX8_tallies_0 : decode cX8_tallies 0 = .ok (.iload_n 1, 1) := by decide +kernel
theorem dX8_tallies_1 : decode cX8_tallies 1 = .ok (.tableswitch 63 0 3 #[31, 39, 47, 55], 31) := by decide +kernel
theorem dX8_tallies_32 : decode cX8_tallies 32 = .ok (.aload_n 0, 1) := by decide +kernel
theorem dX8_tallies_33 : decode cX8_tallies 33 = .ok (.getfield 10, 3) := by decide +kernel
theorem dX8_tallies_36 : decode cX8_tallies 36 = .ok (.invokevirtual 289, 3) := by decide +kernel
theorem dX8_tallies_39 : decode cX8_tallies 39 = .ok (.ireturn, 1) := by decide +kernel
theorem dX8_tallies_40 : decode cX8_tallies 40 = .ok (.aload_n 0, 1) := by decide +kernel
theorem dX8_tallies_41 : decode cX8_tallies 41 = .ok (.getfield 10, 3) := by decide +kernel
theorem dX8_tallies_44 : decode cX8_tallies 44 = .ok (.invokevirtual 292, 3) := by decide +kernel
theorem dX8_tallies_47 : decode cX8_tallies 47 = .ok (.ireturn, 1) := by decide +kernel
theorem dX8_tallies_48 : decode cX8_tallies 48 = .ok (.aload_n 0, 1) := by decide +kernel
theorem dX8_tallies_49 : decode cX8_tallies 49 = .ok (.getfield 10, 3) := by decide +kernel
theorem dX8_tallies_52 : decode cX8_tallies 52 = .ok (.invokevirtual 295, 3) := by decide +kernel
theorem dX8_tallies_55 : decode cX8_tallies 55 = .ok (.ireturn, 1) := by decide +kernel
theorem dX8_tallies_56 : decode cX8_tallies 56 = .ok (.aload_n 0, 1) := by decide +kernel
theorem dX8_tallies_57 : decode cX8_tallies 57 = .ok (.getfield 10, 3) := by decide +kernel
theorem dX8_tallies_60 : decode cX8_tallies 60 = .ok (.getfield 298, 3) := by decide +kernel
theorem dX8_tallies_63 : decode cX8_tallies 63 = .ok (.ireturn, 1) := by decide +kernel
theorem dX8_tallies_64 : decode cX8_tallies 64 = .ok (.iload_n 1, 1) := by decide +kernel
theorem dX8_tallies_65 : decode cX8_tallies 65 = .ok (.bipush 10, 2) := by decide +kernel
theorem dX8_tallies_67 : decode cX8_tallies 67 = .ok (.if_icmp .lt 17, 3) := by decide +kernel
theorem dX8_tallies_70 : decode cX8_tallies 70 = .ok (.iload_n 1, 1) := by decide +kernel
theorem dX8_tallies_71 : decode cX8_tallies 71 = .ok (.bipush 10, 2) := by decide +kernel
theorem dX8_tallies_73 : decode cX8_tallies 73 = .ok (.isub, 1) := by decide +kernel
theorem dX8_tallies_74 : decode cX8_tallies 74 = .ok (.aload_n 0, 1) := by decide +kernel
theorem dX8_tallies_75 : decode cX8_tallies 75 = .ok (.getfield 10, 3) := by decide +kernel
theorem dX8_tallies_78 : decode cX8_tallies 78 = .ok (.getfield 298, 3) := by decide +kernel
theorem dX8_tallies_81 : decode cX8_tallies 81 = .ok (.if_icmp .lt 13, 3) := by decide +kernel
theorem dX8_tallies_84 : decode cX8_tallies 84 = .ok (.aload_n 0, 1) := by decide +kernel
theorem dX8_tallies_85 : decode cX8_tallies 85 = .ok (.bipush (-5), 2) := by decide +kernel
theorem dX8_tallies_87 : decode cX8_tallies 87 = .ok (.invokevirtual 86, 3) := by decide +kernel
theorem dX8_tallies_90 : decode cX8_tallies 90 = .ok (.bipush 10, 2) := by decide +kernel
theorem dX8_tallies_92 : decode cX8_tallies 92 = .ok (.isub, 1) := by decide +kernel
theorem dX8_tallies_93 : decode cX8_tallies 93 = .ok (.ireturn, 1) := by decide +kernel
theorem dX8_tallies_94 : decode cX8_tallies 94 = .ok (.aload_n 0, 1) := by decide +kernel
theorem dX8_tallies_95 : decode cX8_tallies 95 = .ok (.getfield 10, 3) := by decide +kernel
theorem dX8_tallies_98 : decode cX8_tallies 98 = .ok (.getfield 301, 3) := by decide +kernel
theorem dX8_tallies_101 : decode cX8_tallies 101 = .ok (.iload_n 1, 1) := by decide +kernel
theorem dX8_tallies_102 : decode cX8_tallies 102 = .ok (.bipush 10, 2) := by decide +kernel
theorem dX8_tallies_104 : decode cX8_tallies 104 = .ok (.isub, 1) := by decide +kernel
theorem dX8_tallies_105 : decode cX8_tallies 105 = .ok (.iaload, 1) := by decide +kernel
theorem dX8_tallies_106 : decode cX8_tallies 106 = .ok (.ireturn, 1) := by decide +kernel
theorem dX8_forget_0 : decode cX8_forget 0 = .ok (.aload_n 0, 1) := by decide +kernel
theorem dX8_forget_1 : decode cX8_forget 1 = .ok (.getfield 10, 3) := by decide +kernel
theorem dX8_forget_4 : decode cX8_forget 4 = .ok (.getfield 298, 3) := by decide +kernel
theorem dX8_forget_7 : decode cX8_forget 7 = .ok (.istore_n 1, 1) := by decide +kernel
theorem dX8_forget_8 : decode cX8_forget 8 = .ok (.aload_n 0, 1) := by decide +kernel
theorem dX8_forget_9 : decode cX8_forget 9 = .ok (.getfield 10, 3) := by decide +kernel
theorem dX8_forget_12 : decode cX8_forget 12 = .ok (.iconst 0, 1) := by decide +kernel
theorem dX8_forget_13 : decode cX8_forget 13 = .ok (.putfield 298, 3) := by decide +kernel
theorem dX8_forget_16 : decode cX8_forget 16 = .ok (.iload_n 1, 1) := by decide +kernel
theorem dX8_forget_17 : decode cX8_forget 17 = .ok (.ireturn, 1) := by decide +kernel
theorem dX8_knits_0 : decode cX8_knits 0 = .ok (.aload_n 0, 1) := by decide +kernel
theorem dX8_knits_1 : decode cX8_knits 1 = .ok (.iload_n 1, 1) := by decide +kernel
theorem dX8_knits_2 : decode cX8_knits 2 = .ok (.invokevirtual 123, 3) := by decide +kernel
theorem dX8_knits_5 : decode cX8_knits 5 = .ok (.ifCond .ne 9, 3) := by decide +kernel
theorem dX8_knits_8 : decode cX8_knits 8 = .ok (.aload_n 0, 1) := by decide +kernel
theorem dX8_knits_9 : decode cX8_knits 9 = .ok (.iconst (-1), 1) := by decide +kernel
theorem dX8_knits_10 : decode cX8_knits 10 = .ok (.invokevirtual 86, 3) := by decide +kernel
theorem dX8_knits_13 : decode cX8_knits 13 = .ok (.ireturn, 1) := by decide +kernel
theorem dX8_knits_14 : decode cX8_knits 14 = .ok (.iload_n 2, 1) := by decide +kernel
theorem dX8_knits_15 : decode cX8_knits 15 = .ok (.iconst 1, 1) := by decide +kernel
theorem dX8_knits_16 : decode cX8_knits 16 = .ok (.if_icmp .lt 9, 3) := by decide +kernel
theorem dX8_knits_19 : decode cX8_knits 19 = .ok (.iload_n 2, 1) := by decide +kernel
theorem dX8_knits_20 : decode cX8_knits 20 = .ok (.bipush 100, 2) := by decide +kernel
theorem dX8_knits_22 : decode cX8_knits 22 = .ok (.if_icmp .le 10, 3) := by decide +kernel
theorem dX8_knits_25 : decode cX8_knits 25 = .ok (.aload_n 0, 1) := by decide +kernel
theorem dX8_knits_26 : decode cX8_knits 26 = .ok (.bipush (-6), 2) := by decide +kernel
theorem dX8_knits_28 : decode cX8_knits 28 = .ok (.invokevirtual 86, 3) := by decide +kernel
theorem dX8_knits_31 : decode cX8_knits 31 = .ok (.ireturn, 1) := by decide +kernel
theorem dX8_knits_32 : decode cX8_knits 32 = .ok (.iconst 0, 1) := by decide +kernel
theorem dX8_knits_33 : decode cX8_knits 33 = .ok (.istore_n 3, 1) := by decide +kernel
theorem dX8_knits_34 : decode cX8_knits 34 = .ok (.iload_n 3, 1) := by decide +kernel
theorem dX8_knits_35 : decode cX8_knits 35 = .ok (.iload_n 2, 1) := by decide +kernel
theorem dX8_knits_36 : decode cX8_knits 36 = .ok (.if_icmp .ge 18, 3) := by decide +kernel
theorem dX8_knits_39 : decode cX8_knits 39 = .ok (.aload_n 0, 1) := by decide +kernel
theorem dX8_knits_40 : decode cX8_knits 40 = .ok (.getfield 10, 3) := by decide +kernel
theorem dX8_knits_43 : decode cX8_knits 43 = .ok (.iload_n 1, 1) := by decide +kernel
theorem dX8_knits_44 : decode cX8_knits 44 = .ok (.iconst 0, 1) := by decide +kernel
theorem dX8_knits_45 : decode cX8_knits 45 = .ok (.invokevirtual 304, 3) := by decide +kernel
theorem dX8_knits_48 : decode cX8_knits 48 = .ok (.iinc 3 1, 3) := by decide +kernel
theorem dX8_knits_51 : decode cX8_knits 51 = .ok (.goto (-17), 3) := by decide +kernel
theorem dX8_knits_54 : decode cX8_knits 54 = .ok (.aload_n 0, 1) := by decide +kernel
theorem dX8_knits_55 : decode cX8_knits 55 = .ok (.getfield 10, 3) := by decide +kernel
theorem dX8_knits_58 : decode cX8_knits 58 = .ok (.getfield 144, 3) := by decide +kernel
theorem dX8_knits_61 : decode cX8_knits 61 = .ok (.iload_n 1, 1) := by decide +kernel
theorem dX8_knits_62 : decode cX8_knits 62 = .ok (.aaload, 1) := by decide +kernel
theorem dX8_knits_63 : decode cX8_knits 63 = .ok (.getfield 169, 3) := by decide +kernel
theorem dX8_knits_66 : decode cX8_knits 66 = .ok (.ireturn, 1) := by decide +kernel
theorem dX8_asks_0 : decode cX8_asks 0 = .ok (.aload_n 0, 1) := by decide +kernel
theorem dX8_asks_1 : decode cX8_asks 1 = .ok (.iload_n 1, 1) := by decide +kernel
theorem dX8_asks_2 : decode cX8_asks 2 = .ok (.invokevirtual 123, 3) := by decide +kernel
theorem dX8_asks_5 : decode cX8_asks 5 = .ok (.ifCond .ne 9, 3) := by decide +kernel
theorem dX8_asks_8 : decode cX8_asks 8 = .ok (.aload_n 0, 1) := by decide +kernel
theorem dX8_asks_9 : decode cX8_asks 9 = .ok (.iconst (-1), 1) := by decide +kernel
theorem dX8_asks_10 : decode cX8_asks 10 = .ok (.invokevirtual 86, 3) := by decide +kernel
theorem dX8_asks_13 : decode cX8_asks 13 = .ok (.ireturn, 1) := by decide +kernel
theorem dX8_asks_14 : decode cX8_asks 14 = .ok (.aload_n 0, 1) := by decide +kernel
theorem dX8_asks_15 : decode cX8_asks 15 = .ok (.getfield 10, 3) := by decide +kernel
theorem dX8_asks_18 : decode cX8_asks 18 = .ok (.iload_n 1, 1) := by decide +kernel
theorem dX8_asks_19 : decode cX8_asks 19 = .ok (.invokevirtual 207, 3) := by decide +kernel
theorem dX8_asks_22 : decode cX8_asks 22 = .ok (.ifCond .eq 10, 3) := by decide +kernel
theorem dX8_asks_25 : decode cX8_asks 25 = .ok (.aload_n 0, 1) := by decide +kernel
theorem dX8_asks_26 : decode cX8_asks 26 = .ok (.bipush (-6), 2) := by decide +kernel
theorem dX8_asks_28 : decode cX8_asks 28 = .ok (.invokevirtual 86, 3) := by decide +kernel
theorem dX8_asks_31 : decode cX8_asks 31 = .ok (.ireturn, 1) := by decide +kernel
theorem dX8_asks_32 : decode cX8_asks 32 = .ok (.aload_n 0, 1) := by decide +kernel
theorem dX8_asks_33 : decode cX8_asks 33 = .ok (.getfield 10, 3) := by decide +kernel
theorem dX8_asks_36 : decode cX8_asks 36 = .ok (.iload_n 1, 1) := by decide +kernel
theorem dX8_asks_37 : decode cX8_asks 37 = .ok (.iconst 1, 1) := by decide +kernel
theorem dX8_asks_38 : decode cX8_asks 38 = .ok (.invokevirtual 304, 3) := by decide +kernel
theorem dX8_asks_41 : decode cX8_asks 41 = .ok (.aload_n 0, 1) := by decide +kernel
theorem dX8_asks_42 : decode cX8_asks 42 = .ok (.getfield 10, 3) := by decide +kernel
theorem dX8_asks_45 : decode cX8_asks 45 = .ok (.getfield 144, 3) := by decide +kernel
theorem dX8_asks_48 : decode cX8_asks 48 = .ok (.iload_n 1, 1) := by decide +kernel
theorem dX8_asks_49 : decode cX8_asks 49 = .ok (.aaload, 1) := by decide +kernel
theorem dX8_asks_50 : decode cX8_asks 50 = .ok (.getfield 169, 3) := by decide +kernel
theorem dX8_asks_53 : decode cX8_asks 53 = .ok (.ireturn, 1) := by decide +kernel
theorem dX8_again_0 : decode cX8_again 0 = .ok (.aload_n 0, 1) := by decide +kernel
theorem dX8_again_1 : decode cX8_again 1 = .ok (.iload_n 1, 1) := by decide +kernel
theorem dX8_again_2 : decode cX8_again 2 = .ok (.invokevirtual 123, 3) := by decide +kernel
theorem dX8_again_5 : decode cX8_again 5 = .ok (.ifCond .ne 9, 3) := by decide +kernel
theorem dX8_again_8 : decode cX8_again 8 = .ok (.aload_n 0, 1) := by decide +kernel
theorem dX8_again_9 : decode cX8_again 9 = .ok (.iconst (-1), 1) := by decide +kernel
theorem dX8_again_10 : decode cX8_again 10 = .ok (.invokevirtual 86, 3) := by decide +kernel
theorem dX8_again_13 : decode cX8_again 13 = .ok (.ireturn, 1) := by decide +kernel
theorem dX8_again_14 : decode cX8_again 14 = .ok (.aload_n 0, 1) := by decide +kernel
theorem dX8_again_15 : decode cX8_again 15 = .ok (.getfield 10, 3) := by decide +kernel
theorem dX8_again_18 : decode cX8_again 18 = .ok (.getfield 144, 3) := by decide +kernel
theorem dX8_again_21 : decode cX8_again 21 = .ok (.iload_n 1, 1) := by decide +kernel
theorem dX8_again_22 : decode cX8_again 22 = .ok (.aaload, 1) := by decide +kernel
theorem dX8_again_23 : decode cX8_again 23 = .ok (.getfield 169, 3) := by decide +kernel
theorem dX8_again_26 : decode cX8_again 26 = .ok (.istore_n 2, 1) := by decide +kernel
theorem dX8_again_27 : decode cX8_again 27 = .ok (.aload_n 0, 1) := by decide +kernel
theorem dX8_again_28 : decode cX8_again 28 = .ok (.getfield 10, 3) := by decide +kernel
theorem dX8_again_31 : decode cX8_again 31 = .ok (.getfield 144, 3) := by decide +kernel
theorem dX8_again_34 : decode cX8_again 34 = .ok (.iload_n 1, 1) := by decide +kernel
theorem dX8_again_35 : decode cX8_again 35 = .ok (.aaload, 1) := by decide +kernel
theorem dX8_again_36 : decode cX8_again 36 = .ok (.invokevirtual 308, 3) := by decide +kernel
theorem dX8_again_39 : decode cX8_again 39 = .ok (.iload_n 2, 1) := by decide +kernel
theorem dX8_again_40 : decode cX8_again 40 = .ok (.ireturn, 1) := by decide +kernel
theorem dX8_evenings_0 : decode cX8_evenings 0 = .ok (.aload_n 0, 1) := by decide +kernel
theorem dX8_evenings_1 : decode cX8_evenings 1 = .ok (.getfield 10, 3) := by decide +kernel
theorem dX8_evenings_4 : decode cX8_evenings 4 = .ok (.getfield 273, 3) := by decide +kernel
theorem dX8_evenings_7 : decode cX8_evenings 7 = .ok (.ifCond .ne 10, 3) := by decide +kernel
theorem dX8_evenings_10 : decode cX8_evenings 10 = .ok (.aload_n 0, 1) := by decide +kernel
theorem dX8_evenings_11 : decode cX8_evenings 11 = .ok (.bipush (-5), 2) := by decide +kernel
theorem dX8_evenings_13 : decode cX8_evenings 13 = .ok (.invokevirtual 86, 3) := by decide +kernel
theorem dX8_evenings_16 : decode cX8_evenings 16 = .ok (.ireturn, 1) := by decide +kernel
theorem dX8_evenings_17 : decode cX8_evenings 17 = .ok (.iload_n 1, 1) := by decide +kernel
theorem dX8_evenings_18 : decode cX8_evenings 18 = .ok (.iconst 1, 1) := by decide +kernel
theorem dX8_evenings_19 : decode cX8_evenings 19 = .ok (.if_icmp .lt 8, 3) := by decide +kernel
theorem dX8_evenings_22 : decode cX8_evenings 22 = .ok (.iload_n 1, 1) := by decide +kernel
theorem dX8_evenings_23 : decode cX8_evenings 23 = .ok (.iconst 5, 1) := by decide +kernel
theorem dX8_evenings_24 : decode cX8_evenings 24 = .ok (.if_icmp .le 10, 3) := by decide +kernel
theorem dX8_evenings_27 : decode cX8_evenings 27 = .ok (.aload_n 0, 1) := by decide +kernel
theorem dX8_evenings_28 : decode cX8_evenings 28 = .ok (.bipush (-6), 2) := by decide +kernel
theorem dX8_evenings_30 : decode cX8_evenings 30 = .ok (.invokevirtual 86, 3) := by decide +kernel
theorem dX8_evenings_33 : decode cX8_evenings 33 = .ok (.ireturn, 1) := by decide +kernel
theorem dX8_evenings_34 : decode cX8_evenings 34 = .ok (.aload_n 0, 1) := by decide +kernel
theorem dX8_evenings_35 : decode cX8_evenings 35 = .ok (.getfield 10, 3) := by decide +kernel
theorem dX8_evenings_38 : decode cX8_evenings 38 = .ok (.getfield 311, 3) := by decide +kernel
theorem dX8_evenings_41 : decode cX8_evenings 41 = .ok (.istore_n 2, 1) := by decide +kernel
theorem dX8_evenings_42 : decode cX8_evenings 42 = .ok (.iconst 0, 1) := by decide +kernel
theorem dX8_evenings_43 : decode cX8_evenings 43 = .ok (.istore_n 3, 1) := by decide +kernel
theorem dX8_evenings_44 : decode cX8_evenings 44 = .ok (.iload_n 3, 1) := by decide +kernel
theorem dX8_evenings_45 : decode cX8_evenings 45 = .ok (.iload_n 1, 1) := by decide +kernel
theorem dX8_evenings_46 : decode cX8_evenings 46 = .ok (.if_icmp .ge 16, 3) := by decide +kernel
theorem dX8_evenings_49 : decode cX8_evenings 49 = .ok (.aload_n 0, 1) := by decide +kernel
theorem dX8_evenings_50 : decode cX8_evenings 50 = .ok (.getfield 10, 3) := by decide +kernel
theorem dX8_evenings_53 : decode cX8_evenings 53 = .ok (.invokevirtual 314, 3) := by decide +kernel
theorem dX8_evenings_56 : decode cX8_evenings 56 = .ok (.iinc 3 1, 3) := by decide +kernel
theorem dX8_evenings_59 : decode cX8_evenings 59 = .ok (.goto (-15), 3) := by decide +kernel
theorem dX8_evenings_62 : decode cX8_evenings 62 = .ok (.aload_n 0, 1) := by decide +kernel
theorem dX8_evenings_63 : decode cX8_evenings 63 = .ok (.getfield 10, 3) := by decide +kernel
theorem dX8_evenings_66 : decode cX8_evenings 66 = .ok (.getfield 311, 3) := by decide +kernel
theorem dX8_evenings_69 : decode cX8_evenings 69 = .ok (.iload_n 2, 1) := by decide +kernel
theorem dX8_evenings_70 : decode cX8_evenings 70 = .ok (.isub, 1) := by decide +kernel
theorem dX8_evenings_71 : decode cX8_evenings 71 = .ok (.ireturn, 1) := by decide +kernel
theorem dX8_seed_0 : decode cX8_seed 0 = .ok (.aload_n 0, 1) := by decide +kernel
theorem dX8_seed_1 : decode cX8_seed 1 = .ok (.getfield 10, 3) := by decide +kernel
theorem dX8_seed_4 : decode cX8_seed 4 = .ok (.getfield 317, 3) := by decide +kernel
theorem dX8_seed_7 : decode cX8_seed 7 = .ok (.istore_n 2, 1) := by decide +kernel
theorem dX8_seed_8 : decode cX8_seed 8 = .ok (.aload_n 0, 1) := by decide +kernel
theorem dX8_seed_9 : decode cX8_seed 9 = .ok (.getfield 10, 3) := by decide +kernel
theorem dX8_seed_12 : decode cX8_seed 12 = .ok (.iload_n 1, 1) := by decide +kernel
theorem dX8_seed_13 : decode cX8_seed 13 = .ok (.putfield 317, 3) := by decide +kernel
theorem dX8_seed_16 : decode cX8_seed 16 = .ok (.iload_n 2, 1) := by decide +kernel
theorem dX8_seed_17 : decode cX8_seed 17 = .ok (.ireturn, 1) := by decide +kernel
theorem dX8_act_0 : decode cX8_act 0 = .ok (.aload_n 0, 1) := by decide +kernel
theorem dX8_act_1 : decode cX8_act 1 = .ok (.getfield 77, 3) := by decide +kernel
theorem dX8_act_4 : decode cX8_act 4 = .ok (.invokevirtual 320, 3) := by decide +kernel
theorem dX8_act_7 : decode cX8_act 7 = .ok (.aload_n 0, 1) := by decide +kernel
theorem dX8_act_8 : decode cX8_act 8 = .ok (.iload_n 1, 1) := by decide +kernel
theorem dX8_act_9 : decode cX8_act 9 = .ok (.invokevirtual 123, 3) := by decide +kernel
theorem dX8_act_12 : decode cX8_act 12 = .ok (.ifCond .eq 12, 3) := by decide +kernel
theorem dX8_act_15 : decode cX8_act 15 = .ok (.iload_n 2, 1) := by decide +kernel
theorem dX8_act_16 : decode cX8_act 16 = .ok (.ifCond .lt 8, 3) := by decide +kernel
theorem dX8_act_19 : decode cX8_act 19 = .ok (.iload_n 2, 1) := by decide +kernel
theorem dX8_act_20 : decode cX8_act 20 = .ok (.iconst 2, 1) := by decide +kernel
theorem dX8_act_21 : decode cX8_act 21 = .ok (.if_icmp .le 5, 3) := by decide +kernel
theorem dX8_act_24 : decode cX8_act 24 = .ok (.iconst 0, 1) := by decide +kernel
theorem dX8_act_25 : decode cX8_act 25 = .ok (.ireturn, 1) := by decide +kernel
theorem dX8_act_26 : decode cX8_act 26 = .ok (.aload_n 0, 1) := by decide +kernel
theorem dX8_act_27 : decode cX8_act 27 = .ok (.getfield 77, 3) := by decide +kernel
theorem dX8_act_30 : decode cX8_act 30 = .ok (.aload_n 0, 1) := by decide +kernel
theorem dX8_act_31 : decode cX8_act 31 = .ok (.getfield 10, 3) := by decide +kernel
theorem dX8_act_34 : decode cX8_act 34 = .ok (.getfield 144, 3) := by decide +kernel
theorem dX8_act_37 : decode cX8_act 37 = .ok (.iload_n 1, 1) := by decide +kernel
theorem dX8_act_38 : decode cX8_act 38 = .ok (.aaload, 1) := by decide +kernel
theorem dX8_act_39 : decode cX8_act 39 = .ok (.iload_n 1, 1) := by decide +kernel
theorem dX8_act_40 : decode cX8_act 40 = .ok (.iload_n 2, 1) := by decide +kernel
theorem dX8_act_41 : decode cX8_act 41 = .ok (.iload_n 3, 1) := by decide +kernel
theorem dX8_act_42 : decode cX8_act 42 = .ok (.invokevirtual 323, 3) := by decide +kernel
theorem dX8_act_45 : decode cX8_act 45 = .ok (.ireturn, 1) := by decide +kernel
theorem dX8_trace_0 : decode cX8_trace 0 = .ok (.aload_n 0, 1) := by decide +kernel
theorem dX8_trace_1 : decode cX8_trace 1 = .ok (.getfield 77, 3) := by decide +kernel
theorem dX8_trace_4 : decode cX8_trace 4 = .ok (.iload_n 1, 1) := by decide +kernel
theorem dX8_trace_5 : decode cX8_trace 5 = .ok (.invokevirtual 327, 3) := by decide +kernel
theorem dX8_trace_8 : decode cX8_trace 8 = .ok (.ireturn, 1) := by decide +kernel
theorem dX8_image_0 : decode cX8_image 0 = .ok (.aload_n 0, 1) := by decide +kernel
theorem dX8_image_1 : decode cX8_image 1 = .ok (.getfield 16, 3) := by decide +kernel
theorem dX8_image_4 : decode cX8_image 4 = .ok (.aload_n 0, 1) := by decide +kernel
theorem dX8_image_5 : decode cX8_image 5 = .ok (.getfield 10, 3) := by decide +kernel
theorem dX8_image_8 : decode cX8_image 8 = .ok (.invokevirtual 203, 3) := by decide +kernel
theorem dX8_image_11 : decode cX8_image 11 = .ok (.aload_n 0, 1) := by decide +kernel
theorem dX8_image_12 : decode cX8_image 12 = .ok (.iconst 1, 1) := by decide +kernel
theorem dX8_image_13 : decode cX8_image 13 = .ok (.putfield 330, 3) := by decide +kernel
theorem dX8_image_16 : decode cX8_image 16 = .ok (.aload_n 0, 1) := by decide +kernel
theorem dX8_image_17 : decode cX8_image 17 = .ok (.getfield 10, 3) := by decide +kernel
theorem dX8_image_20 : decode cX8_image 20 = .ok (.getfield 273, 3) := by decide +kernel
theorem dX8_image_23 : decode cX8_image 23 = .ok (.ireturn, 1) := by decide +kernel
theorem dX8_restore_0 : decode cX8_restore 0 = .ok (.aload_n 0, 1) := by decide +kernel
theorem dX8_restore_1 : decode cX8_restore 1 = .ok (.getfield 330, 3) := by decide +kernel
theorem dX8_restore_4 : decode cX8_restore 4 = .ok (.ifCond .ne 10, 3) := by decide +kernel
theorem dX8_restore_7 : decode cX8_restore 7 = .ok (.aload_n 0, 1) := by decide +kernel
theorem dX8_restore_8 : decode cX8_restore 8 = .ok (.bipush (-6), 2) := by decide +kernel
theorem dX8_restore_10 : decode cX8_restore 10 = .ok (.invokevirtual 86, 3) := by decide +kernel
theorem dX8_restore_13 : decode cX8_restore 13 = .ok (.ireturn, 1) := by decide +kernel
theorem dX8_restore_14 : decode cX8_restore 14 = .ok (.aload_n 0, 1) := by decide +kernel
theorem dX8_restore_15 : decode cX8_restore 15 = .ok (.getfield 10, 3) := by decide +kernel
theorem dX8_restore_18 : decode cX8_restore 18 = .ok (.aload_n 0, 1) := by decide +kernel
theorem dX8_restore_19 : decode cX8_restore 19 = .ok (.getfield 16, 3) := by decide +kernel
theorem dX8_restore_22 : decode cX8_restore 22 = .ok (.invokevirtual 203, 3) := by decide +kernel
theorem dX8_restore_25 : decode cX8_restore 25 = .ok (.iconst 0, 1) := by decide +kernel
theorem dX8_restore_26 : decode cX8_restore 26 = .ok (.istore_n 1, 1) := by decide +kernel
theorem dX8_restore_27 : decode cX8_restore 27 = .ok (.iload_n 1, 1) := by decide +kernel
theorem dX8_restore_28 : decode cX8_restore 28 = .ok (.aload_n 0, 1) := by decide +kernel
theorem dX8_restore_29 : decode cX8_restore 29 = .ok (.getfield 32, 3) := by decide +kernel
theorem dX8_restore_32 : decode cX8_restore 32 = .ok (.arraylength, 1) := by decide +kernel
theorem dX8_restore_33 : decode cX8_restore 33 = .ok (.if_icmp .ge 38, 3) := by decide +kernel
theorem dX8_restore_36 : decode cX8_restore 36 = .ok (.aload_n 0, 1) := by decide +kernel
theorem dX8_restore_37 : decode cX8_restore 37 = .ok (.getfield 32, 3) := by decide +kernel
theorem dX8_restore_40 : decode cX8_restore 40 = .ok (.iload_n 1, 1) := by decide +kernel
theorem dX8_restore_41 : decode cX8_restore 41 = .ok (.aaload, 1) := by decide +kernel
theorem dX8_restore_42 : decode cX8_restore 42 = .ok (.getfield 141, 3) := by decide +kernel
theorem dX8_restore_45 : decode cX8_restore 45 = .ok (.aload_n 0, 1) := by decide +kernel
theorem dX8_restore_46 : decode cX8_restore 46 = .ok (.getfield 10, 3) := by decide +kernel
theorem dX8_restore_49 : decode cX8_restore 49 = .ok (.getfield 273, 3) := by decide +kernel
theorem dX8_restore_52 : decode cX8_restore 52 = .ok (.if_icmp .lt 13, 3) := by decide +kernel
theorem dX8_restore_55 : decode cX8_restore 55 = .ok (.aload_n 0, 1) := by decide +kernel
theorem dX8_restore_56 : decode cX8_restore 56 = .ok (.getfield 32, 3) := by decide +kernel
theorem dX8_restore_59 : decode cX8_restore 59 = .ok (.iload_n 1, 1) := by decide +kernel
theorem dX8_restore_60 : decode cX8_restore 60 = .ok (.aaload, 1) := by decide +kernel
theorem dX8_restore_61 : decode cX8_restore 61 = .ok (.iconst (-1), 1) := by decide +kernel
theorem dX8_restore_62 : decode cX8_restore 62 = .ok (.invokevirtual 126, 3) := by decide +kernel
theorem dX8_restore_65 : decode cX8_restore 65 = .ok (.iinc 1 1, 3) := by decide +kernel
theorem dX8_restore_68 : decode cX8_restore 68 = .ok (.goto (-41), 3) := by decide +kernel
theorem dX8_restore_71 : decode cX8_restore 71 = .ok (.aload_n 0, 1) := by decide +kernel
theorem dX8_restore_72 : decode cX8_restore 72 = .ok (.getfield 10, 3) := by decide +kernel
theorem dX8_restore_75 : decode cX8_restore 75 = .ok (.getfield 273, 3) := by decide +kernel
theorem dX8_restore_78 : decode cX8_restore 78 = .ok (.ireturn, 1) := by decide +kernel
theorem dX8_status_0 : decode cX8_status 0 = .ok (.iload_n 1, 1) := by decide +kernel
theorem dX8_status_1 : decode cX8_status 1 = .ok (.bipush 11, 2) := by decide +kernel
theorem dX8_status_3 : decode cX8_status 3 = .ok (.if_icmp .lt 19, 3) := by decide +kernel
theorem dX8_status_6 : decode cX8_status 6 = .ok (.iload_n 1, 1) := by decide +kernel
theorem dX8_status_7 : decode cX8_status 7 = .ok (.bipush 17, 2) := by decide +kernel
theorem dX8_status_9 : decode cX8_status 9 = .ok (.if_icmp .gt 13, 3) := by decide +kernel
theorem dX8_status_12 : decode cX8_status 12 = .ok (.aload_n 0, 1) := by decide +kernel
theorem dX8_status_13 : decode cX8_status 13 = .ok (.getfield 36, 3) := by decide +kernel
theorem dX8_status_16 : decode cX8_status 16 = .ok (.iload_n 1, 1) := by decide +kernel
theorem dX8_status_17 : decode cX8_status 17 = .ok (.bipush 10, 2) := by decide +kernel
theorem dX8_status_19 : decode cX8_status 19 = .ok (.isub, 1) := by decide +kernel
theorem dX8_status_20 : decode cX8_status 20 = .ok (.iaload, 1) := by decide +kernel
theorem dX8_status_21 : decode cX8_status 21 = .ok (.ireturn, 1) := by decide +kernel
theorem dX8_status_22 : decode cX8_status 22 = .ok (.iload_n 1, 1) := by decide +kernel
theorem dX8_status_23 : decode cX8_status 23 = .ok (.tableswitch 121 0 8 #[49, 57, 65, 73, 81, 89, 97, 105, 113], 49) := by decide +kernel
theorem dX8_status_72 : decode cX8_status 72 = .ok (.aload_n 0, 1) := by decide +kernel
theorem dX8_status_73 : decode cX8_status 73 = .ok (.getfield 10, 3) := by decide +kernel
theorem dX8_status_76 : decode cX8_status 76 = .ok (.getfield 273, 3) := by decide +kernel
theorem dX8_status_79 : decode cX8_status 79 = .ok (.ireturn, 1) := by decide +kernel
theorem dX8_status_80 : decode cX8_status 80 = .ok (.aload_n 0, 1) := by decide +kernel
theorem dX8_status_81 : decode cX8_status 81 = .ok (.getfield 10, 3) := by decide +kernel
theorem dX8_status_84 : decode cX8_status 84 = .ok (.invokevirtual 334, 3) := by decide +kernel
theorem dX8_status_87 : decode cX8_status 87 = .ok (.ireturn, 1) := by decide +kernel
theorem dX8_status_88 : decode cX8_status 88 = .ok (.aload_n 0, 1) := by decide +kernel
theorem dX8_status_89 : decode cX8_status 89 = .ok (.getfield 10, 3) := by decide +kernel
theorem dX8_status_92 : decode cX8_status 92 = .ok (.getfield 190, 3) := by decide +kernel
theorem dX8_status_95 : decode cX8_status 95 = .ok (.ireturn, 1) := by decide +kernel
theorem dX8_status_96 : decode cX8_status 96 = .ok (.aload_n 0, 1) := by decide +kernel
theorem dX8_status_97 : decode cX8_status 97 = .ok (.getfield 10, 3) := by decide +kernel
theorem dX8_status_100 : decode cX8_status 100 = .ok (.getfield 154, 3) := by decide +kernel
theorem dX8_status_103 : decode cX8_status 103 = .ok (.ireturn, 1) := by decide +kernel
theorem dX8_status_104 : decode cX8_status 104 = .ok (.aload_n 0, 1) := by decide +kernel
theorem dX8_status_105 : decode cX8_status 105 = .ok (.getfield 10, 3) := by decide +kernel
theorem dX8_status_108 : decode cX8_status 108 = .ok (.getfield 337, 3) := by decide +kernel
theorem dX8_status_111 : decode cX8_status 111 = .ok (.ireturn, 1) := by decide +kernel
theorem dX8_status_112 : decode cX8_status 112 = .ok (.aload_n 0, 1) := by decide +kernel
theorem dX8_status_113 : decode cX8_status 113 = .ok (.getfield 10, 3) := by decide +kernel
theorem dX8_status_116 : decode cX8_status 116 = .ok (.getfield 250, 3) := by decide +kernel
theorem dX8_status_119 : decode cX8_status 119 = .ok (.ireturn, 1) := by decide +kernel
theorem dX8_status_120 : decode cX8_status 120 = .ok (.aload_n 0, 1) := by decide +kernel
theorem dX8_status_121 : decode cX8_status 121 = .ok (.getfield 10, 3) := by decide +kernel
theorem dX8_status_124 : decode cX8_status 124 = .ok (.getfield 311, 3) := by decide +kernel
theorem dX8_status_127 : decode cX8_status 127 = .ok (.ireturn, 1) := by decide +kernel
theorem dX8_status_128 : decode cX8_status 128 = .ok (.aload_n 0, 1) := by decide +kernel
theorem dX8_status_129 : decode cX8_status 129 = .ok (.getfield 10, 3) := by decide +kernel
theorem dX8_status_132 : decode cX8_status 132 = .ok (.getfield 317, 3) := by decide +kernel
theorem dX8_status_135 : decode cX8_status 135 = .ok (.ireturn, 1) := by decide +kernel
theorem dX8_status_136 : decode cX8_status 136 = .ok (.aload_n 0, 1) := by decide +kernel
theorem dX8_status_137 : decode cX8_status 137 = .ok (.getfield 77, 3) := by decide +kernel
theorem dX8_status_140 : decode cX8_status 140 = .ok (.getfield 340, 3) := by decide +kernel
theorem dX8_status_143 : decode cX8_status 143 = .ok (.ireturn, 1) := by decide +kernel
theorem dX8_status_144 : decode cX8_status 144 = .ok (.iconst (-1), 1) := by decide +kernel
theorem dX8_status_145 : decode cX8_status 145 = .ok (.ireturn, 1) := by decide +kernel
theorem dX8_refuse_0 : decode cX8_refuse 0 = .ok (.iload_n 1, 1) := by decide +kernel
theorem dX8_refuse_1 : decode cX8_refuse 1 = .ok (.ifCond .ge 24, 3) := by decide +kernel
theorem dX8_refuse_4 : decode cX8_refuse 4 = .ok (.iload_n 1, 1) := by decide +kernel
theorem dX8_refuse_5 : decode cX8_refuse 5 = .ok (.ineg, 1) := by decide +kernel
theorem dX8_refuse_6 : decode cX8_refuse 6 = .ok (.aload_n 0, 1) := by decide +kernel
theorem dX8_refuse_7 : decode cX8_refuse 7 = .ok (.getfield 36, 3) := by decide +kernel
theorem dX8_refuse_10 : decode cX8_refuse 10 = .ok (.arraylength, 1) := by decide +kernel
theorem dX8_refuse_11 : decode cX8_refuse 11 = .ok (.if_icmp .ge 14, 3) := by decide +kernel
theorem dX8_refuse_14 : decode cX8_refuse 14 = .ok (.aload_n 0, 1) := by decide +kernel
theorem dX8_refuse_15 : decode cX8_refuse 15 = .ok (.getfield 36, 3) := by decide +kernel
theorem dX8_refuse_18 : decode cX8_refuse 18 = .ok (.iload_n 1, 1) := by decide +kernel
theorem dX8_refuse_19 : decode cX8_refuse 19 = .ok (.ineg, 1) := by decide +kernel
theorem dX8_refuse_20 : decode cX8_refuse 20 = .ok (.dup2, 1) := by decide +kernel
theorem dX8_refuse_21 : decode cX8_refuse 21 = .ok (.iaload, 1) := by decide +kernel
theorem dX8_refuse_22 : decode cX8_refuse 22 = .ok (.iconst 1, 1) := by decide +kernel
theorem dX8_refuse_23 : decode cX8_refuse 23 = .ok (.iadd, 1) := by decide +kernel
theorem dX8_refuse_24 : decode cX8_refuse 24 = .ok (.iastore, 1) := by decide +kernel
theorem dX8_refuse_25 : decode cX8_refuse 25 = .ok (.iload_n 1, 1) := by decide +kernel
theorem dX8_refuse_26 : decode cX8_refuse 26 = .ok (.ireturn, 1) := by decide +kernel
theorem dX8_rowRefusal_0 : decode cX8_rowRefusal 0 = .ok (.aload_n 0, 1) := by decide +kernel
theorem dX8_rowRefusal_1 : decode cX8_rowRefusal 1 = .ok (.iload_n 1, 1) := by decide +kernel
theorem dX8_rowRefusal_2 : decode cX8_rowRefusal 2 = .ok (.iload_n 1, 1) := by decide +kernel
theorem dX8_rowRefusal_3 : decode cX8_rowRefusal 3 = .ok (.invokevirtual 104, 3) := by decide +kernel
theorem dX8_rowRefusal_6 : decode cX8_rowRefusal 6 = .ok (.ireturn, 1) := by decide +kernel
theorem dX8_rowsRefusal_0 : decode cX8_rowsRefusal 0 = .ok (.iload_n 1, 1) := by decide +kernel
theorem dX8_rowsRefusal_1 : decode cX8_rowsRefusal 1 = .ok (.invokestatic 82, 3) := by decide +kernel
theorem dX8_rowsRefusal_4 : decode cX8_rowsRefusal 4 = .ok (.ifCond .eq 10, 3) := by decide +kernel
theorem dX8_rowsRefusal_7 : decode cX8_rowsRefusal 7 = .ok (.iload_n 2, 1) := by decide +kernel
theorem dX8_rowsRefusal_8 : decode cX8_rowsRefusal 8 = .ok (.invokestatic 82, 3) := by decide +kernel
theorem dX8_rowsRefusal_11 : decode cX8_rowsRefusal 11 = .ok (.ifCond .ne 5, 3) := by decide +kernel
theorem dX8_rowsRefusal_14 : decode cX8_rowsRefusal 14 = .ok (.iconst (-1), 1) := by decide +kernel
theorem dX8_rowsRefusal_15 : decode cX8_rowsRefusal 15 = .ok (.ireturn, 1) := by decide +kernel
theorem dX8_rowsRefusal_16 : decode cX8_rowsRefusal 16 = .ok (.aload_n 0, 1) := by decide +kernel
theorem dX8_rowsRefusal_17 : decode cX8_rowsRefusal 17 = .ok (.getfield 32, 3) := by decide +kernel
theorem dX8_rowsRefusal_20 : decode cX8_rowsRefusal 20 = .ok (.iload_n 1, 1) := by decide +kernel
theorem dX8_rowsRefusal_21 : decode cX8_rowsRefusal 21 = .ok (.aaload, 1) := by decide +kernel
theorem dX8_rowsRefusal_22 : decode cX8_rowsRefusal 22 = .ok (.invokevirtual 343, 3) := by decide +kernel
theorem dX8_rowsRefusal_25 : decode cX8_rowsRefusal 25 = .ok (.ifCond .ne 15, 3) := by decide +kernel
theorem dX8_rowsRefusal_28 : decode cX8_rowsRefusal 28 = .ok (.aload_n 0, 1) := by decide +kernel
theorem dX8_rowsRefusal_29 : decode cX8_rowsRefusal 29 = .ok (.getfield 32, 3) := by decide +kernel
theorem dX8_rowsRefusal_32 : decode cX8_rowsRefusal 32 = .ok (.iload_n 2, 1) := by decide +kernel
theorem dX8_rowsRefusal_33 : decode cX8_rowsRefusal 33 = .ok (.aaload, 1) := by decide +kernel
theorem dX8_rowsRefusal_34 : decode cX8_rowsRefusal 34 = .ok (.invokevirtual 343, 3) := by decide +kernel
theorem dX8_rowsRefusal_37 : decode cX8_rowsRefusal 37 = .ok (.ifCond .eq 6, 3) := by decide +kernel
theorem dX8_rowsRefusal_40 : decode cX8_rowsRefusal 40 = .ok (.bipush (-2), 2) := by decide +kernel
theorem dX8_rowsRefusal_42 : decode cX8_rowsRefusal 42 = .ok (.ireturn, 1) := by decide +kernel
theorem dX8_rowsRefusal_43 : decode cX8_rowsRefusal 43 = .ok (.aload_n 0, 1) := by decide +kernel
theorem dX8_rowsRefusal_44 : decode cX8_rowsRefusal 44 = .ok (.getfield 32, 3) := by decide +kernel
theorem dX8_rowsRefusal_47 : decode cX8_rowsRefusal 47 = .ok (.iload_n 1, 1) := by decide +kernel
theorem dX8_rowsRefusal_48 : decode cX8_rowsRefusal 48 = .ok (.aaload, 1) := by decide +kernel
theorem dX8_rowsRefusal_49 : decode cX8_rowsRefusal 49 = .ok (.invokevirtual 137, 3) := by decide +kernel
theorem dX8_rowsRefusal_52 : decode cX8_rowsRefusal 52 = .ok (.ifCond .eq 19, 3) := by decide +kernel
theorem dX8_rowsRefusal_55 : decode cX8_rowsRefusal 55 = .ok (.aload_n 0, 1) := by decide +kernel
theorem dX8_rowsRefusal_56 : decode cX8_rowsRefusal 56 = .ok (.getfield 32, 3) := by decide +kernel
theorem dX8_rowsRefusal_59 : decode cX8_rowsRefusal 59 = .ok (.iload_n 2, 1) := by decide +kernel
theorem dX8_rowsRefusal_60 : decode cX8_rowsRefusal 60 = .ok (.aaload, 1) := by decide +kernel
theorem dX8_rowsRefusal_61 : decode cX8_rowsRefusal 61 = .ok (.invokevirtual 137, 3) := by decide +kernel
theorem dX8_rowsRefusal_64 : decode cX8_rowsRefusal 64 = .ok (.ifCond .eq 7, 3) := by decide +kernel
theorem dX8_rowsRefusal_67 : decode cX8_rowsRefusal 67 = .ok (.iconst 0, 1) := by decide +kernel
theorem dX8_rowsRefusal_68 : decode cX8_rowsRefusal 68 = .ok (.goto 5, 3) := by decide +kernel
theorem dX8_rowsRefusal_71 : decode cX8_rowsRefusal 71 = .ok (.bipush (-3), 2) := by decide +kernel
theorem dX8_rowsRefusal_73 : decode cX8_rowsRefusal 73 = .ok (.ireturn, 1) := by decide +kernel
theorem dX8_partRefusal_0 : decode cX8_partRefusal 0 = .ok (.aload_n 0, 1) := by decide +kernel
theorem dX8_partRefusal_1 : decode cX8_partRefusal 1 = .ok (.iload_n 1, 1) := by decide +kernel
theorem dX8_partRefusal_2 : decode cX8_partRefusal 2 = .ok (.invokevirtual 94, 3) := by decide +kernel
theorem dX8_partRefusal_5 : decode cX8_partRefusal 5 = .ok (.istore_n 3, 1) := by decide +kernel
theorem dX8_partRefusal_6 : decode cX8_partRefusal 6 = .ok (.iload_n 3, 1) := by decide +kernel
theorem dX8_partRefusal_7 : decode cX8_partRefusal 7 = .ok (.ifCond .eq 5, 3) := by decide +kernel
theorem dX8_partRefusal_10 : decode cX8_partRefusal 10 = .ok (.iload_n 3, 1) := by decide +kernel
theorem dX8_partRefusal_11 : decode cX8_partRefusal 11 = .ok (.ireturn, 1) := by decide +kernel
theorem dX8_partRefusal_12 : decode cX8_partRefusal 12 = .ok (.iload_n 2, 1) := by decide +kernel
theorem dX8_partRefusal_13 : decode cX8_partRefusal 13 = .ok (.ifCond .ge 6, 3) := by decide +kernel
theorem dX8_partRefusal_16 : decode cX8_partRefusal 16 = .ok (.bipush (-4), 2) := by decide +kernel
theorem dX8_partRefusal_18 : decode cX8_partRefusal 18 = .ok (.ireturn, 1) := by decide +kernel
theorem dX8_partRefusal_19 : decode cX8_partRefusal 19 = .ok (.iload_n 2, 1) := by decide +kernel
theorem dX8_partRefusal_20 : decode cX8_partRefusal 20 = .ok (.aload_n 0, 1) := by decide +kernel
theorem dX8_partRefusal_21 : decode cX8_partRefusal 21 = .ok (.getfield 32, 3) := by decide +kernel
theorem dX8_partRefusal_24 : decode cX8_partRefusal 24 = .ok (.iload_n 1, 1) := by decide +kernel
theorem dX8_partRefusal_25 : decode cX8_partRefusal 25 = .ok (.aaload, 1) := by decide +kernel
theorem dX8_partRefusal_26 : decode cX8_partRefusal 26 = .ok (.getfield 276, 3) := by decide +kernel
theorem dX8_partRefusal_29 : decode cX8_partRefusal 29 = .ok (.if_icmp .le 8, 3) := by decide +kernel
theorem dX8_partRefusal_32 : decode cX8_partRefusal 32 = .ok (.bipush (-5), 2) := by decide +kernel
theorem dX8_partRefusal_34 : decode cX8_partRefusal 34 = .ok (.goto 4, 3) := by decide +kernel
theorem dX8_partRefusal_37 : decode cX8_partRefusal 37 = .ok (.iconst 0, 1) := by decide +kernel
theorem dX8_partRefusal_38 : decode cX8_partRefusal 38 = .ok (.ireturn, 1) := by decide +kernel
theorem dX8_secondsRefusal_0 : decode cX8_secondsRefusal 0 = .ok (.aload_n 0, 1) := by decide +kernel
theorem dX8_secondsRefusal_1 : decode cX8_secondsRefusal 1 = .ok (.iload_n 1, 1) := by decide +kernel
theorem dX8_secondsRefusal_2 : decode cX8_secondsRefusal 2 = .ok (.iload_n 2, 1) := by decide +kernel
theorem dX8_secondsRefusal_3 : decode cX8_secondsRefusal 3 = .ok (.invokevirtual 214, 3) := by decide +kernel
theorem dX8_secondsRefusal_6 : decode cX8_secondsRefusal 6 = .ok (.istore_n 3, 1) := by decide +kernel
theorem dX8_secondsRefusal_7 : decode cX8_secondsRefusal 7 = .ok (.iload_n 3, 1) := by decide +kernel
theorem dX8_secondsRefusal_8 : decode cX8_secondsRefusal 8 = .ok (.ifCond .eq 5, 3) := by decide +kernel
theorem dX8_secondsRefusal_11 : decode cX8_secondsRefusal 11 = .ok (.iload_n 3, 1) := by decide +kernel
theorem dX8_secondsRefusal_12 : decode cX8_secondsRefusal 12 = .ok (.ireturn, 1) := by decide +kernel
theorem dX8_secondsRefusal_13 : decode cX8_secondsRefusal 13 = .ok (.aload_n 0, 1) := by decide +kernel
theorem dX8_secondsRefusal_14 : decode cX8_secondsRefusal 14 = .ok (.iload_n 1, 1) := by decide +kernel
theorem dX8_secondsRefusal_15 : decode cX8_secondsRefusal 15 = .ok (.iload_n 2, 1) := by decide +kernel
theorem dX8_secondsRefusal_16 : decode cX8_secondsRefusal 16 = .ok (.invokevirtual 217, 3) := by decide +kernel
theorem dX8_secondsRefusal_19 : decode cX8_secondsRefusal 19 = .ok (.ifCond .eq 7, 3) := by decide +kernel
theorem dX8_secondsRefusal_22 : decode cX8_secondsRefusal 22 = .ok (.iconst 0, 1) := by decide +kernel
theorem dX8_secondsRefusal_23 : decode cX8_secondsRefusal 23 = .ok (.goto 5, 3) := by decide +kernel
theorem dX8_secondsRefusal_26 : decode cX8_secondsRefusal 26 = .ok (.bipush (-6), 2) := by decide +kernel
theorem dX8_secondsRefusal_28 : decode cX8_secondsRefusal 28 = .ok (.ireturn, 1) := by decide +kernel
theorem dX8_saidRefusal_0 : decode cX8_saidRefusal 0 = .ok (.aload_n 0, 1) := by decide +kernel
theorem dX8_saidRefusal_1 : decode cX8_saidRefusal 1 = .ok (.iload_n 1, 1) := by decide +kernel
theorem dX8_saidRefusal_2 : decode cX8_saidRefusal 2 = .ok (.invokevirtual 123, 3) := by decide +kernel
theorem dX8_saidRefusal_5 : decode cX8_saidRefusal 5 = .ok (.ifCond .eq 12, 3) := by decide +kernel
theorem dX8_saidRefusal_8 : decode cX8_saidRefusal 8 = .ok (.aload_n 0, 1) := by decide +kernel
theorem dX8_saidRefusal_9 : decode cX8_saidRefusal 9 = .ok (.iload_n 2, 1) := by decide +kernel
theorem dX8_saidRefusal_10 : decode cX8_saidRefusal 10 = .ok (.iload_n 3, 1) := by decide +kernel
theorem dX8_saidRefusal_11 : decode cX8_saidRefusal 11 = .ok (.invokevirtual 214, 3) := by decide +kernel
theorem dX8_saidRefusal_14 : decode cX8_saidRefusal 14 = .ok (.goto 4, 3) := by decide +kernel
theorem dX8_saidRefusal_17 : decode cX8_saidRefusal 17 = .ok (.iconst (-1), 1) := by decide +kernel
theorem dX8_saidRefusal_18 : decode cX8_saidRefusal 18 = .ok (.istore 4, 2) := by decide +kernel
theorem dX8_saidRefusal_20 : decode cX8_saidRefusal 20 = .ok (.iload 4, 2) := by decide +kernel
theorem dX8_saidRefusal_22 : decode cX8_saidRefusal 22 = .ok (.ifCond .eq 6, 3) := by decide +kernel
theorem dX8_saidRefusal_25 : decode cX8_saidRefusal 25 = .ok (.iload 4, 2) := by decide +kernel
theorem dX8_saidRefusal_27 : decode cX8_saidRefusal 27 = .ok (.ireturn, 1) := by decide +kernel
theorem dX8_saidRefusal_28 : decode cX8_saidRefusal 28 = .ok (.iload_n 3, 1) := by decide +kernel
theorem dX8_saidRefusal_29 : decode cX8_saidRefusal 29 = .ok (.bipush 40, 2) := by decide +kernel
theorem dX8_saidRefusal_31 : decode cX8_saidRefusal 31 = .ok (.if_icmp .le 8, 3) := by decide +kernel
theorem dX8_saidRefusal_34 : decode cX8_saidRefusal 34 = .ok (.bipush (-6), 2) := by decide +kernel
theorem dX8_saidRefusal_36 : decode cX8_saidRefusal 36 = .ok (.goto 4, 3) := by decide +kernel
theorem dX8_saidRefusal_39 : decode cX8_saidRefusal 39 = .ok (.iconst 0, 1) := by decide +kernel
theorem dX8_saidRefusal_40 : decode cX8_saidRefusal 40 = .ok (.ireturn, 1) := by decide +kernel
theorem dX8_chanceRefusal_0 : decode cX8_chanceRefusal 0 = .ok (.aload_n 0, 1) := by decide +kernel
theorem dX8_chanceRefusal_1 : decode cX8_chanceRefusal 1 = .ok (.iload_n 1, 1) := by decide +kernel
theorem dX8_chanceRefusal_2 : decode cX8_chanceRefusal 2 = .ok (.invokevirtual 123, 3) := by decide +kernel
theorem dX8_chanceRefusal_5 : decode cX8_chanceRefusal 5 = .ok (.ifCond .ne 5, 3) := by decide +kernel
theorem dX8_chanceRefusal_8 : decode cX8_chanceRefusal 8 = .ok (.iconst (-1), 1) := by decide +kernel
theorem dX8_chanceRefusal_9 : decode cX8_chanceRefusal 9 = .ok (.ireturn, 1) := by decide +kernel
theorem dX8_chanceRefusal_10 : decode cX8_chanceRefusal 10 = .ok (.iload_n 2, 1) := by decide +kernel
theorem dX8_chanceRefusal_11 : decode cX8_chanceRefusal 11 = .ok (.iconst 1, 1) := by decide +kernel
theorem dX8_chanceRefusal_12 : decode cX8_chanceRefusal 12 = .ok (.if_icmp .lt 10, 3) := by decide +kernel
theorem dX8_chanceRefusal_15 : decode cX8_chanceRefusal 15 = .ok (.iload_n 2, 1) := by decide +kernel
theorem dX8_chanceRefusal_16 : decode cX8_chanceRefusal 16 = .ok (.ldc_w 346, 3) := by decide +kernel
theorem dX8_chanceRefusal_19 : decode cX8_chanceRefusal 19 = .ok (.if_icmp .le 8, 3) := by decide +kernel
theorem dX8_chanceRefusal_22 : decode cX8_chanceRefusal 22 = .ok (.bipush (-6), 2) := by decide +kernel
theorem dX8_chanceRefusal_24 : decode cX8_chanceRefusal 24 = .ok (.goto 4, 3) := by decide +kernel
theorem dX8_chanceRefusal_27 : decode cX8_chanceRefusal 27 = .ok (.iconst 0, 1) := by decide +kernel
theorem dX8_chanceRefusal_28 : decode cX8_chanceRefusal 28 = .ok (.ireturn, 1) := by decide +kernel
theorem dX8_areSeconds_0 : decode cX8_areSeconds 0 = .ok (.iload_n 2, 1) := by decide +kernel
theorem dX8_areSeconds_1 : decode cX8_areSeconds 1 = .ok (.bipush 40, 2) := by decide +kernel
theorem dX8_areSeconds_3 : decode cX8_areSeconds 3 = .ok (.if_icmp .le 5, 3) := by decide +kernel
theorem dX8_areSeconds_6 : decode cX8_areSeconds 6 = .ok (.iconst 0, 1) := by decide +kernel
theorem dX8_areSeconds_7 : decode cX8_areSeconds 7 = .ok (.ireturn, 1) := by decide +kernel
theorem dX8_areSeconds_8 : decode cX8_areSeconds 8 = .ok (.iconst 0, 1) := by decide +kernel
theorem dX8_areSeconds_9 : decode cX8_areSeconds 9 = .ok (.istore_n 3, 1) := by decide +kernel
theorem dX8_areSeconds_10 : decode cX8_areSeconds 10 = .ok (.iconst 0, 1) := by decide +kernel
theorem dX8_areSeconds_11 : decode cX8_areSeconds 11 = .ok (.istore 4, 2) := by decide +kernel
theorem dX8_areSeconds_13 : decode cX8_areSeconds 13 = .ok (.iload 4, 2) := by decide +kernel
theorem dX8_areSeconds_15 : decode cX8_areSeconds 15 = .ok (.iload_n 2, 1) := by decide +kernel
theorem dX8_areSeconds_16 : decode cX8_areSeconds 16 = .ok (.if_icmp .ge 33, 3) := by decide +kernel
theorem dX8_areSeconds_19 : decode cX8_areSeconds 19 = .ok (.aload_n 0, 1) := by decide +kernel
theorem dX8_areSeconds_20 : decode cX8_areSeconds 20 = .ok (.getfield 32, 3) := by decide +kernel
theorem dX8_areSeconds_23 : decode cX8_areSeconds 23 = .ok (.iload_n 1, 1) := by decide +kernel
theorem dX8_areSeconds_24 : decode cX8_areSeconds 24 = .ok (.aaload, 1) := by decide +kernel
theorem dX8_areSeconds_25 : decode cX8_areSeconds 25 = .ok (.iload 4, 2) := by decide +kernel
theorem dX8_areSeconds_27 : decode cX8_areSeconds 27 = .ok (.invokevirtual 347, 3) := by decide +kernel
theorem dX8_areSeconds_30 : decode cX8_areSeconds 30 = .ok (.istore 5, 2) := by decide +kernel
theorem dX8_areSeconds_32 : decode cX8_areSeconds 32 = .ok (.iload 5, 2) := by decide +kernel
theorem dX8_areSeconds_34 : decode cX8_areSeconds 34 = .ok (.iload_n 3, 1) := by decide +kernel
theorem dX8_areSeconds_35 : decode cX8_areSeconds 35 = .ok (.if_icmp .gt 5, 3) := by decide +kernel
theorem dX8_areSeconds_38 : decode cX8_areSeconds 38 = .ok (.iconst 0, 1) := by decide +kernel
theorem dX8_areSeconds_39 : decode cX8_areSeconds 39 = .ok (.ireturn, 1) := by decide +kernel
theorem dX8_areSeconds_40 : decode cX8_areSeconds 40 = .ok (.iload 5, 2) := by decide +kernel
theorem dX8_areSeconds_42 : decode cX8_areSeconds 42 = .ok (.istore_n 3, 1) := by decide +kernel
theorem dX8_areSeconds_43 : decode cX8_areSeconds 43 = .ok (.iinc 4 1, 3) := by decide +kernel
theorem dX8_areSeconds_46 : decode cX8_areSeconds 46 = .ok (.goto (-33), 3) := by decide +kernel
theorem dX8_areSeconds_49 : decode cX8_areSeconds 49 = .ok (.iconst 1, 1) := by decide +kernel
theorem dX8_areSeconds_50 : decode cX8_areSeconds 50 = .ok (.ireturn, 1) := by decide +kernel
theorem dX8_isShelf_0 : decode cX8_isShelf 0 = .ok (.iload_n 0, 1) := by decide +kernel
theorem dX8_isShelf_1 : decode cX8_isShelf 1 = .ok (.ifCond .lt 13, 3) := by decide +kernel
theorem dX8_isShelf_4 : decode cX8_isShelf 4 = .ok (.iload_n 0, 1) := by decide +kernel
theorem dX8_isShelf_5 : decode cX8_isShelf 5 = .ok (.bipush 8, 2) := by decide +kernel
theorem dX8_isShelf_7 : decode cX8_isShelf 7 = .ok (.if_icmp .ge 7, 3) := by decide +kernel
theorem dX8_isShelf_10 : decode cX8_isShelf 10 = .ok (.iconst 1, 1) := by decide +kernel
theorem dX8_isShelf_11 : decode cX8_isShelf 11 = .ok (.goto 4, 3) := by decide +kernel
theorem dX8_isShelf_14 : decode cX8_isShelf 14 = .ok (.iconst 0, 1) := by decide +kernel
theorem dX8_isShelf_15 : decode cX8_isShelf 15 = .ok (.ireturn, 1) := by decide +kernel
theorem dX8_isCounter_0 : decode cX8_isCounter 0 = .ok (.iload_n 1, 1) := by decide +kernel
theorem dX8_isCounter_1 : decode cX8_isCounter 1 = .ok (.ifCond .lt 18, 3) := by decide +kernel
theorem dX8_isCounter_4 : decode cX8_isCounter 4 = .ok (.iload_n 1, 1) := by decide +kernel
theorem dX8_isCounter_5 : decode cX8_isCounter 5 = .ok (.aload_n 0, 1) := by decide +kernel
theorem dX8_isCounter_6 : decode cX8_isCounter 6 = .ok (.getfield 10, 3) := by decide +kernel
theorem dX8_isCounter_9 : decode cX8_isCounter 9 = .ok (.getfield 273, 3) := by decide +kernel
theorem dX8_isCounter_12 : decode cX8_isCounter 12 = .ok (.if_icmp .ge 7, 3) := by decide +kernel
theorem dX8_isCounter_15 : decode cX8_isCounter 15 = .ok (.iconst 1, 1) := by decide +kernel
theorem dX8_isCounter_16 : decode cX8_isCounter 16 = .ok (.goto 4, 3) := by decide +kernel
theorem dX8_isCounter_19 : decode cX8_isCounter 19 = .ok (.iconst 0, 1) := by decide +kernel
theorem dX8_isCounter_20 : decode cX8_isCounter 20 = .ok (.ireturn, 1) := by decide +kernel
theorem dX8_isKind_0 : decode cX8_isKind 0 = .ok (.iload_n 0, 1) := by decide +kernel
theorem dX8_isKind_1 : decode cX8_isKind 1 = .ok (.ifCond .lt 15, 3) := by decide +kernel
theorem dX8_isKind_4 : decode cX8_isKind 4 = .ok (.iload_n 0, 1) := by decide +kernel
theorem dX8_isKind_5 : decode cX8_isKind 5 = .ok (.getstatic 350, 3) := by decide +kernel
theorem dX8_isKind_8 : decode cX8_isKind 8 = .ok (.arraylength, 1) := by decide +kernel
theorem dX8_isKind_9 : decode cX8_isKind 9 = .ok (.if_icmp .ge 7, 3) := by decide +kernel
theorem dX8_isKind_12 : decode cX8_isKind 12 = .ok (.iconst 1, 1) := by decide +kernel
theorem dX8_isKind_13 : decode cX8_isKind 13 = .ok (.goto 4, 3) := by decide +kernel
theorem dX8_isKind_16 : decode cX8_isKind 16 = .ok (.iconst 0, 1) := by decide +kernel
theorem dX8_isKind_17 : decode cX8_isKind 17 = .ok (.ireturn, 1) := by decide +kernel
theorem dX8_isSetting_0 : decode cX8_isSetting 0 = .ok (.iload_n 0, 1) := by decide +kernel
theorem dX8_isSetting_1 : decode cX8_isSetting 1 = .ok (.ifCond .lt 15, 3) := by decide +kernel
theorem dX8_isSetting_4 : decode cX8_isSetting 4 = .ok (.iload_n 0, 1) := by decide +kernel
theorem dX8_isSetting_5 : decode cX8_isSetting 5 = .ok (.getstatic 184, 3) := by decide +kernel
theorem dX8_isSetting_8 : decode cX8_isSetting 8 = .ok (.arraylength, 1) := by decide +kernel
theorem dX8_isSetting_9 : decode cX8_isSetting 9 = .ok (.if_icmp .ge 7, 3) := by decide +kernel
theorem dX8_isSetting_12 : decode cX8_isSetting 12 = .ok (.iconst 1, 1) := by decide +kernel
theorem dX8_isSetting_13 : decode cX8_isSetting 13 = .ok (.goto 4, 3) := by decide +kernel
theorem dX8_isSetting_16 : decode cX8_isSetting 16 = .ok (.iconst 0, 1) := by decide +kernel
theorem dX8_isSetting_17 : decode cX8_isSetting 17 = .ok (.ireturn, 1) := by decide +kernel
theorem dX8_throughWithBreak_0 : decode cX8_throughWithBreak 0 = .ok (.aload_n 0, 1) := by decide +kernel
theorem dX8_throughWithBreak_1 : decode cX8_throughWithBreak 1 = .ok (.getfield 10, 3) := by decide +kernel
theorem dX8_throughWithBreak_4 : decode cX8_throughWithBreak 4 = .ok (.getfield 144, 3) := by decide +kernel
theorem dX8_throughWithBreak_7 : decode cX8_throughWithBreak 7 = .ok (.iload_n 1, 1) := by decide +kernel
theorem dX8_throughWithBreak_8 : decode cX8_throughWithBreak 8 = .ok (.aaload, 1) := by decide +kernel
theorem dX8_throughWithBreak_9 : decode cX8_throughWithBreak 9 = .ok (.astore_n 3, 1) := by decide +kernel
theorem dX8_throughWithBreak_10 : decode cX8_throughWithBreak 10 = .ok (.aload_n 0, 1) := by decide +kernel
theorem dX8_throughWithBreak_11 : decode cX8_throughWithBreak 11 = .ok (.getfield 10, 3) := by decide +kernel
theorem dX8_throughWithBreak_14 : decode cX8_throughWithBreak 14 = .ok (.getfield 190, 3) := by decide +kernel
theorem dX8_throughWithBreak_17 : decode cX8_throughWithBreak 17 = .ok (.aload_n 3, 1) := by decide +kernel
theorem dX8_throughWithBreak_18 : decode cX8_throughWithBreak 18 = .ok (.getfield 169, 3) := by decide +kernel
theorem dX8_throughWithBreak_21 : decode cX8_throughWithBreak 21 = .ok (.isub, 1) := by decide +kernel
theorem dX8_throughWithBreak_22 : decode cX8_throughWithBreak 22 = .ok (.istore 4, 2) := by decide +kernel
theorem dX8_throughWithBreak_24 : decode cX8_throughWithBreak 24 = .ok (.iload_n 2, 1) := by decide +kernel
theorem dX8_throughWithBreak_25 : decode cX8_throughWithBreak 25 = .ok (.iload 4, 2) := by decide +kernel
theorem dX8_throughWithBreak_27 : decode cX8_throughWithBreak 27 = .ok (.if_icmp .le 6, 3) := by decide +kernel
theorem dX8_throughWithBreak_30 : decode cX8_throughWithBreak 30 = .ok (.iload 4, 2) := by decide +kernel
theorem dX8_throughWithBreak_32 : decode cX8_throughWithBreak 32 = .ok (.ireturn, 1) := by decide +kernel
theorem dX8_throughWithBreak_33 : decode cX8_throughWithBreak 33 = .ok (.aload_n 3, 1) := by decide +kernel
theorem dX8_throughWithBreak_34 : decode cX8_throughWithBreak 34 = .ok (.aload_n 3, 1) := by decide +kernel
theorem dX8_throughWithBreak_35 : decode cX8_throughWithBreak 35 = .ok (.getfield 169, 3) := by decide +kernel
theorem dX8_throughWithBreak_38 : decode cX8_throughWithBreak 38 = .ok (.iload_n 2, 1) := by decide +kernel
theorem dX8_throughWithBreak_39 : decode cX8_throughWithBreak 39 = .ok (.iadd, 1) := by decide +kernel
theorem dX8_throughWithBreak_40 : decode cX8_throughWithBreak 40 = .ok (.iconst 1, 1) := by decide +kernel
theorem dX8_throughWithBreak_41 : decode cX8_throughWithBreak 41 = .ok (.isub, 1) := by decide +kernel
theorem dX8_throughWithBreak_42 : decode cX8_throughWithBreak 42 = .ok (.aload_n 3, 1) := by decide +kernel
theorem dX8_throughWithBreak_43 : decode cX8_throughWithBreak 43 = .ok (.getfield 175, 3) := by decide +kernel
theorem dX8_throughWithBreak_46 : decode cX8_throughWithBreak 46 = .ok (.iconst 1, 1) := by decide +kernel
theorem dX8_throughWithBreak_47 : decode cX8_throughWithBreak 47 = .ok (.iadd, 1) := by decide +kernel
theorem dX8_throughWithBreak_48 : decode cX8_throughWithBreak 48 = .ok (.aload_n 0, 1) := by decide +kernel
theorem dX8_throughWithBreak_49 : decode cX8_throughWithBreak 49 = .ok (.getfield 10, 3) := by decide +kernel
theorem dX8_throughWithBreak_52 : decode cX8_throughWithBreak 52 = .ok (.getfield 154, 3) := by decide +kernel
theorem dX8_throughWithBreak_55 : decode cX8_throughWithBreak 55 = .ok (.invokevirtual 210, 3) := by decide +kernel
theorem dX8_throughWithBreak_58 : decode cX8_throughWithBreak 58 = .ok (.istore 5, 2) := by decide +kernel
theorem dX8_throughWithBreak_60 : decode cX8_throughWithBreak 60 = .ok (.iload_n 2, 1) := by decide +kernel
theorem dX8_throughWithBreak_61 : decode cX8_throughWithBreak 61 = .ok (.aload_n 0, 1) := by decide +kernel
theorem dX8_throughWithBreak_62 : decode cX8_throughWithBreak 62 = .ok (.getfield 10, 3) := by decide +kernel
theorem dX8_throughWithBreak_65 : decode cX8_throughWithBreak 65 = .ok (.getfield 190, 3) := by decide +kernel
theorem dX8_throughWithBreak_68 : decode cX8_throughWithBreak 68 = .ok (.iadd, 1) := by decide +kernel
theorem dX8_throughWithBreak_69 : decode cX8_throughWithBreak 69 = .ok (.iload 5, 2) := by decide +kernel
theorem dX8_throughWithBreak_71 : decode cX8_throughWithBreak 71 = .ok (.isub, 1) := by decide +kernel
theorem dX8_throughWithBreak_72 : decode cX8_throughWithBreak 72 = .ok (.ireturn, 1) := by decide +kernel
theorem dX8_firstWrong_0 : decode cX8_firstWrong 0 = .ok (.aload_n 0, 1) := by decide +kernel
theorem dX8_firstWrong_1 : decode cX8_firstWrong 1 = .ok (.getfield 64, 3) := by decide +kernel
theorem dX8_firstWrong_4 : decode cX8_firstWrong 4 = .ok (.aload_n 0, 1) := by decide +kernel
theorem dX8_firstWrong_5 : decode cX8_firstWrong 5 = .ok (.getfield 10, 3) := by decide +kernel
theorem dX8_firstWrong_8 : decode cX8_firstWrong 8 = .ok (.getfield 144, 3) := by decide +kernel
theorem dX8_firstWrong_11 : decode cX8_firstWrong 11 = .ok (.iload_n 1, 1) := by decide +kernel
theorem dX8_firstWrong_12 : decode cX8_firstWrong 12 = .ok (.aaload, 1) := by decide +kernel
theorem dX8_firstWrong_13 : decode cX8_firstWrong 13 = .ok (.invokevirtual 353, 3) := by decide +kernel
theorem dX8_firstWrong_16 : decode cX8_firstWrong 16 = .ok (.iconst 0, 1) := by decide +kernel
theorem dX8_firstWrong_17 : decode cX8_firstWrong 17 = .ok (.istore 4, 2) := by decide +kernel
theorem dX8_firstWrong_19 : decode cX8_firstWrong 19 = .ok (.iload 4, 2) := by decide +kernel
theorem dX8_firstWrong_21 : decode cX8_firstWrong 21 = .ok (.iload_n 3, 1) := by decide +kernel
theorem dX8_firstWrong_22 : decode cX8_firstWrong 22 = .ok (.if_icmp .ge 123, 3) := by decide +kernel
theorem dX8_firstWrong_25 : decode cX8_firstWrong 25 = .ok (.aload_n 0, 1) := by decide +kernel
theorem dX8_firstWrong_26 : decode cX8_firstWrong 26 = .ok (.getfield 64, 3) := by decide +kernel
theorem dX8_firstWrong_29 : decode cX8_firstWrong 29 = .ok (.getfield 169, 3) := by decide +kernel
theorem dX8_firstWrong_32 : decode cX8_firstWrong 32 = .ok (.aload_n 0, 1) := by decide +kernel
theorem dX8_firstWrong_33 : decode cX8_firstWrong 33 = .ok (.getfield 10, 3) := by decide +kernel
theorem dX8_firstWrong_36 : decode cX8_firstWrong 36 = .ok (.getfield 190, 3) := by decide +kernel
theorem dX8_firstWrong_39 : decode cX8_firstWrong 39 = .ok (.if_icmp .lt 6, 3) := by decide +kernel
theorem dX8_firstWrong_42 : decode cX8_firstWrong 42 = .ok (.iload 4, 2) := by decide +kernel
theorem dX8_firstWrong_44 : decode cX8_firstWrong 44 = .ok (.ireturn, 1) := by decide +kernel
theorem dX8_firstWrong_45 : decode cX8_firstWrong 45 = .ok (.aload_n 0, 1) := by decide +kernel
theorem dX8_firstWrong_46 : decode cX8_firstWrong 46 = .ok (.getfield 32, 3) := by decide +kernel
theorem dX8_firstWrong_49 : decode cX8_firstWrong 49 = .ok (.iload_n 2, 1) := by decide +kernel
theorem dX8_firstWrong_50 : decode cX8_firstWrong 50 = .ok (.aaload, 1) := by decide +kernel
theorem dX8_firstWrong_51 : decode cX8_firstWrong 51 = .ok (.iload 4, 2) := by decide +kernel
theorem dX8_firstWrong_53 : decode cX8_firstWrong 53 = .ok (.invokevirtual 347, 3) := by decide +kernel
theorem dX8_firstWrong_56 : decode cX8_firstWrong 56 = .ok (.istore 5, 2) := by decide +kernel
theorem dX8_firstWrong_58 : decode cX8_firstWrong 58 = .ok (.iload 5, 2) := by decide +kernel
theorem dX8_firstWrong_60 : decode cX8_firstWrong 60 = .ok (.aload_n 0, 1) := by decide +kernel
theorem dX8_firstWrong_61 : decode cX8_firstWrong 61 = .ok (.getfield 64, 3) := by decide +kernel
theorem dX8_firstWrong_64 : decode cX8_firstWrong 64 = .ok (.getfield 169, 3) := by decide +kernel
theorem dX8_firstWrong_67 : decode cX8_firstWrong 67 = .ok (.iconst 1, 1) := by decide +kernel
theorem dX8_firstWrong_68 : decode cX8_firstWrong 68 = .ok (.iadd, 1) := by decide +kernel
theorem dX8_firstWrong_69 : decode cX8_firstWrong 69 = .ok (.if_icmp .ne 15, 3) := by decide +kernel
theorem dX8_firstWrong_72 : decode cX8_firstWrong 72 = .ok (.aload_n 0, 1) := by decide +kernel
theorem dX8_firstWrong_73 : decode cX8_firstWrong 73 = .ok (.getfield 64, 3) := by decide +kernel
theorem dX8_firstWrong_76 : decode cX8_firstWrong 76 = .ok (.iload 5, 2) := by decide +kernel
theorem dX8_firstWrong_78 : decode cX8_firstWrong 78 = .ok (.putfield 169, 3) := by decide +kernel
theorem dX8_firstWrong_81 : decode cX8_firstWrong 81 = .ok (.goto 58, 3) := by decide +kernel
theorem dX8_firstWrong_84 : decode cX8_firstWrong 84 = .ok (.iload 5, 2) := by decide +kernel
theorem dX8_firstWrong_86 : decode cX8_firstWrong 86 = .ok (.aload_n 0, 1) := by decide +kernel
theorem dX8_firstWrong_87 : decode cX8_firstWrong 87 = .ok (.getfield 64, 3) := by decide +kernel
theorem dX8_firstWrong_90 : decode cX8_firstWrong 90 = .ok (.aload_n 0, 1) := by decide +kernel
theorem dX8_firstWrong_91 : decode cX8_firstWrong 91 = .ok (.getfield 64, 3) := by decide +kernel
theorem dX8_firstWrong_94 : decode cX8_firstWrong 94 = .ok (.getfield 169, 3) := by decide +kernel
theorem dX8_firstWrong_97 : decode cX8_firstWrong 97 = .ok (.aload_n 0, 1) := by decide +kernel
theorem dX8_firstWrong_98 : decode cX8_firstWrong 98 = .ok (.getfield 64, 3) := by decide +kernel
theorem dX8_firstWrong_101 : decode cX8_firstWrong 101 = .ok (.getfield 175, 3) := by decide +kernel
theorem dX8_firstWrong_104 : decode cX8_firstWrong 104 = .ok (.iconst 1, 1) := by decide +kernel
theorem dX8_firstWrong_105 : decode cX8_firstWrong 105 = .ok (.iadd, 1) := by decide +kernel
theorem dX8_firstWrong_106 : decode cX8_firstWrong 106 = .ok (.aload_n 0, 1) := by decide +kernel
theorem dX8_firstWrong_107 : decode cX8_firstWrong 107 = .ok (.getfield 10, 3) := by decide +kernel
theorem dX8_firstWrong_110 : decode cX8_firstWrong 110 = .ok (.getfield 154, 3) := by decide +kernel
theorem dX8_firstWrong_113 : decode cX8_firstWrong 113 = .ok (.invokevirtual 210, 3) := by decide +kernel
theorem dX8_firstWrong_116 : decode cX8_firstWrong 116 = .ok (.if_icmp .ne 20, 3) := by decide +kernel
theorem dX8_firstWrong_119 : decode cX8_firstWrong 119 = .ok (.aload_n 0, 1) := by decide +kernel
theorem dX8_firstWrong_120 : decode cX8_firstWrong 120 = .ok (.getfield 64, 3) := by decide +kernel
theorem dX8_firstWrong_123 : decode cX8_firstWrong 123 = .ok (.aload_n 0, 1) := by decide +kernel
theorem dX8_firstWrong_124 : decode cX8_firstWrong 124 = .ok (.getfield 10, 3) := by decide +kernel
theorem dX8_firstWrong_127 : decode cX8_firstWrong 127 = .ok (.getfield 154, 3) := by decide +kernel
theorem dX8_firstWrong_130 : decode cX8_firstWrong 130 = .ok (.invokevirtual 356, 3) := by decide +kernel
theorem dX8_firstWrong_133 : decode cX8_firstWrong 133 = .ok (.goto 6, 3) := by decide +kernel
theorem dX8_firstWrong_136 : decode cX8_firstWrong 136 = .ok (.iload 4, 2) := by decide +kernel
theorem dX8_firstWrong_138 : decode cX8_firstWrong 138 = .ok (.ireturn, 1) := by decide +kernel
theorem dX8_firstWrong_139 : decode cX8_firstWrong 139 = .ok (.iinc 4 1, 3) := by decide +kernel
theorem dX8_firstWrong_142 : decode cX8_firstWrong 142 = .ok (.goto (-123), 3) := by decide +kernel
theorem dX8_firstWrong_145 : decode cX8_firstWrong 145 = .ok (.iconst (-1), 1) := by decide +kernel
theorem dX8_firstWrong_146 : decode cX8_firstWrong 146 = .ok (.ireturn, 1) := by decide +kernel
theorem dX8_noteFirstOffs_0 : decode cX8_noteFirstOffs 0 = .ok (.aload_n 3, 1) := by decide +kernel
theorem dX8_noteFirstOffs_1 : decode cX8_noteFirstOffs 1 = .ok (.iconst (-1), 1) := by decide +kernel
theorem dX8_noteFirstOffs_2 : decode cX8_noteFirstOffs 2 = .ok (.invokestatic 359, 3) := by decide +kernel
theorem dX8_noteFirstOffs_5 : decode cX8_noteFirstOffs 5 = .ok (.aload_n 0, 1) := by decide +kernel
theorem dX8_noteFirstOffs_6 : decode cX8_noteFirstOffs 6 = .ok (.getfield 43, 3) := by decide +kernel
theorem dX8_noteFirstOffs_9 : decode cX8_noteFirstOffs 9 = .ok (.aload_n 0, 1) := by decide +kernel
theorem dX8_noteFirstOffs_10 : decode cX8_noteFirstOffs 10 = .ok (.getfield 10, 3) := by decide +kernel
theorem dX8_noteFirstOffs_13 : decode cX8_noteFirstOffs 13 = .ok (.iload_n 1, 1) := by decide +kernel
theorem dX8_noteFirstOffs_14 : decode cX8_noteFirstOffs 14 = .ok (.aload_n 0, 1) := by decide +kernel
theorem dX8_noteFirstOffs_15 : decode cX8_noteFirstOffs 15 = .ok (.getfield 32, 3) := by decide +kernel
theorem dX8_noteFirstOffs_18 : decode cX8_noteFirstOffs 18 = .ok (.iload_n 2, 1) := by decide +kernel
theorem dX8_noteFirstOffs_19 : decode cX8_noteFirstOffs 19 = .ok (.aaload, 1) := by decide +kernel
theorem dX8_noteFirstOffs_20 : decode cX8_noteFirstOffs 20 = .ok (.aload_n 0, 1) := by decide +kernel
theorem dX8_noteFirstOffs_21 : decode cX8_noteFirstOffs 21 = .ok (.getfield 32, 3) := by decide +kernel
theorem dX8_noteFirstOffs_24 : decode cX8_noteFirstOffs 24 = .ok (.iload_n 2, 1) := by decide +kernel
theorem dX8_noteFirstOffs_25 : decode cX8_noteFirstOffs 25 = .ok (.aaload, 1) := by decide +kernel
theorem dX8_noteFirstOffs_26 : decode cX8_noteFirstOffs 26 = .ok (.getfield 276, 3) := by decide +kernel
theorem dX8_noteFirstOffs_29 : decode cX8_noteFirstOffs 29 = .ok (.invokevirtual 220, 3) := by decide +kernel
theorem dX8_noteFirstOffs_32 : decode cX8_noteFirstOffs 32 = .ok (.iconst 0, 1) := by decide +kernel
theorem dX8_noteFirstOffs_33 : decode cX8_noteFirstOffs 33 = .ok (.istore 4, 2) := by decide +kernel
theorem dX8_noteFirstOffs_35 : decode cX8_noteFirstOffs 35 = .ok (.iload 4, 2) := by decide +kernel
theorem dX8_noteFirstOffs_37 : decode cX8_noteFirstOffs 37 = .ok (.sipush 400, 3) := by decide +kernel
theorem dX8_noteFirstOffs_40 : decode cX8_noteFirstOffs 40 = .ok (.if_icmp .gt 62, 3) := by decide +kernel
theorem dX8_noteFirstOffs_43 : decode cX8_noteFirstOffs 43 = .ok (.aload_n 0, 1) := by decide +kernel
theorem dX8_noteFirstOffs_44 : decode cX8_noteFirstOffs 44 = .ok (.getfield 43, 3) := by decide +kernel
theorem dX8_noteFirstOffs_47 : decode cX8_noteFirstOffs 47 = .ok (.getfield 227, 3) := by decide +kernel
theorem dX8_noteFirstOffs_50 : decode cX8_noteFirstOffs 50 = .ok (.getfield 169, 3) := by decide +kernel
theorem dX8_noteFirstOffs_53 : decode cX8_noteFirstOffs 53 = .ok (.istore 5, 2) := by decide +kernel
theorem dX8_noteFirstOffs_55 : decode cX8_noteFirstOffs 55 = .ok (.iload 5, 2) := by decide +kernel
theorem dX8_noteFirstOffs_57 : decode cX8_noteFirstOffs 57 = .ok (.ifCond .lt 32, 3) := by decide +kernel
theorem dX8_noteFirstOffs_60 : decode cX8_noteFirstOffs 60 = .ok (.iload 5, 2) := by decide +kernel
theorem dX8_noteFirstOffs_62 : decode cX8_noteFirstOffs 62 = .ok (.aload_n 3, 1) := by decide +kernel
theorem dX8_noteFirstOffs_63 : decode cX8_noteFirstOffs 63 = .ok (.arraylength, 1) := by decide +kernel
theorem dX8_noteFirstOffs_64 : decode cX8_noteFirstOffs 64 = .ok (.if_icmp .ge 25, 3) := by decide +kernel
theorem dX8_noteFirstOffs_67 : decode cX8_noteFirstOffs 67 = .ok (.aload_n 3, 1) := by decide +kernel
theorem dX8_noteFirstOffs_68 : decode cX8_noteFirstOffs 68 = .ok (.iload 5, 2) := by decide +kernel
theorem dX8_noteFirstOffs_70 : decode cX8_noteFirstOffs 70 = .ok (.iaload, 1) := by decide +kernel
theorem dX8_noteFirstOffs_71 : decode cX8_noteFirstOffs 71 = .ok (.iconst (-1), 1) := by decide +kernel
theorem dX8_noteFirstOffs_72 : decode cX8_noteFirstOffs 72 = .ok (.if_icmp .ne 17, 3) := by decide +kernel
theorem dX8_noteFirstOffs_75 : decode cX8_noteFirstOffs 75 = .ok (.aload_n 3, 1) := by decide +kernel
theorem dX8_noteFirstOffs_76 : decode cX8_noteFirstOffs 76 = .ok (.iload 5, 2) := by decide +kernel
theorem dX8_noteFirstOffs_78 : decode cX8_noteFirstOffs 78 = .ok (.aload_n 0, 1) := by decide +kernel
theorem dX8_noteFirstOffs_79 : decode cX8_noteFirstOffs 79 = .ok (.getfield 43, 3) := by decide +kernel
theorem dX8_noteFirstOffs_82 : decode cX8_noteFirstOffs 82 = .ok (.getfield 227, 3) := by decide +kernel
theorem dX8_noteFirstOffs_85 : decode cX8_noteFirstOffs 85 = .ok (.getfield 172, 3) := by decide +kernel
theorem dX8_noteFirstOffs_88 : decode cX8_noteFirstOffs 88 = .ok (.iastore, 1) := by decide +kernel
theorem dX8_noteFirstOffs_89 : decode cX8_noteFirstOffs 89 = .ok (.aload_n 0, 1) := by decide +kernel
theorem dX8_noteFirstOffs_90 : decode cX8_noteFirstOffs 90 = .ok (.getfield 43, 3) := by decide +kernel
theorem dX8_noteFirstOffs_93 : decode cX8_noteFirstOffs 93 = .ok (.invokevirtual 224, 3) := by decide +kernel
theorem dX8_noteFirstOffs_96 : decode cX8_noteFirstOffs 96 = .ok (.iinc 4 1, 3) := by decide +kernel
theorem dX8_noteFirstOffs_99 : decode cX8_noteFirstOffs 99 = .ok (.goto (-64), 3) := by decide +kernel
theorem dX8_noteFirstOffs_102 : decode cX8_noteFirstOffs 102 = .ok (.return_, 1) := by decide +kernel
theorem dX8_isUnder_0 : decode cX8_isUnder 0 = .ok (.iload_n 0, 1) := by decide +kernel
theorem dX8_isUnder_1 : decode cX8_isUnder 1 = .ok (.istore_n 2, 1) := by decide +kernel
theorem dX8_isUnder_2 : decode cX8_isUnder 2 = .ok (.iconst 0, 1) := by decide +kernel
theorem dX8_isUnder_3 : decode cX8_isUnder 3 = .ok (.istore_n 3, 1) := by decide +kernel
theorem dX8_isUnder_4 : decode cX8_isUnder 4 = .ok (.iload_n 3, 1) := by decide +kernel
theorem dX8_isUnder_5 : decode cX8_isUnder 5 = .ok (.getstatic 350, 3) := by decide +kernel
theorem dX8_isUnder_8 : decode cX8_isUnder 8 = .ok (.arraylength, 1) := by decide +kernel
theorem dX8_isUnder_9 : decode cX8_isUnder 9 = .ok (.if_icmp .ge 21, 3) := by decide +kernel
theorem dX8_isUnder_12 : decode cX8_isUnder 12 = .ok (.iload_n 2, 1) := by decide +kernel
theorem dX8_isUnder_13 : decode cX8_isUnder 13 = .ok (.iload_n 1, 1) := by decide +kernel
theorem dX8_isUnder_14 : decode cX8_isUnder 14 = .ok (.if_icmp .ne 5, 3) := by decide +kernel
theorem dX8_isUnder_17 : decode cX8_isUnder 17 = .ok (.iconst 1, 1) := by decide +kernel
theorem dX8_isUnder_18 : decode cX8_isUnder 18 = .ok (.ireturn, 1) := by decide +kernel
theorem dX8_isUnder_19 : decode cX8_isUnder 19 = .ok (.iload_n 2, 1) := by decide +kernel
theorem dX8_isUnder_20 : decode cX8_isUnder 20 = .ok (.invokestatic 365, 3) := by decide +kernel
theorem dX8_isUnder_23 : decode cX8_isUnder 23 = .ok (.istore_n 2, 1) := by decide +kernel
theorem dX8_isUnder_24 : decode cX8_isUnder 24 = .ok (.iinc 3 1, 3) := by decide +kernel
theorem dX8_isUnder_27 : decode cX8_isUnder 27 = .ok (.goto (-23), 3) := by decide +kernel
theorem dX8_isUnder_30 : decode cX8_isUnder 30 = .ok (.iconst 0, 1) := by decide +kernel
theorem dX8_isUnder_31 : decode cX8_isUnder 31 = .ok (.ireturn, 1) := by decide +kernel
theorem dX8_above_0 : decode cX8_above 0 = .ok (.iload_n 0, 1) := by decide +kernel
theorem dX8_above_1 : decode cX8_above 1 = .ok (.invokestatic 134, 3) := by decide +kernel
theorem dX8_above_4 : decode cX8_above 4 = .ok (.ifCond .eq 11, 3) := by decide +kernel
theorem dX8_above_7 : decode cX8_above 7 = .ok (.getstatic 350, 3) := by decide +kernel
theorem dX8_above_10 : decode cX8_above 10 = .ok (.iload_n 0, 1) := by decide +kernel
theorem dX8_above_11 : decode cX8_above 11 = .ok (.iaload, 1) := by decide +kernel
theorem dX8_above_12 : decode cX8_above 12 = .ok (.goto 4, 3) := by decide +kernel
theorem dX8_above_15 : decode cX8_above 15 = .ok (.iconst (-1), 1) := by decide +kernel
theorem dX8_above_16 : decode cX8_above 16 = .ok (.ireturn, 1) := by decide +kernel
theorem dX8_leftOver_0 : decode cX8_leftOver 0 = .ok (.iload_n 1, 1) := by decide +kernel
theorem dX8_leftOver_1 : decode cX8_leftOver 1 = .ok (.iconst 1, 1) := by decide +kernel
theorem dX8_leftOver_2 : decode cX8_leftOver 2 = .ok (.if_icmp .ge 7, 3) := by decide +kernel
theorem dX8_leftOver_5 : decode cX8_leftOver 5 = .ok (.iconst 0, 1) := by decide +kernel
theorem dX8_leftOver_6 : decode cX8_leftOver 6 = .ok (.goto 6, 3) := by decide +kernel
theorem dX8_leftOver_9 : decode cX8_leftOver 9 = .ok (.iload_n 0, 1) := by decide +kernel
theorem dX8_leftOver_10 : decode cX8_leftOver 10 = .ok (.iload_n 1, 1) := by decide +kernel
theorem dX8_leftOver_11 : decode cX8_leftOver 11 = .ok (.irem, 1) := by decide +kernel
theorem dX8_leftOver_12 : decode cX8_leftOver 12 = .ok (.ireturn, 1) := by decide +kernel
theorem dX9_init_0 : decode cX9_init 0 = .ok (.aload_n 0, 1) := by decide +kernel
theorem dX9_init_1 : decode cX9_init 1 = .ok (.invokespecial 1, 3) := by decide +kernel
theorem dX9_init_4 : decode cX9_init 4 = .ok (.aload_n 0, 1) := by decide +kernel
theorem dX9_init_5 : decode cX9_init 5 = .ok (.bipush 20, 2) := by decide +kernel
theorem dX9_init_7 : decode cX9_init 7 = .ok (.putfield 7, 3) := by decide +kernel
theorem dX9_init_10 : decode cX9_init 10 = .ok (.aload_n 0, 1) := by decide +kernel
theorem dX9_init_11 : decode cX9_init 11 = .ok (.iconst 5, 1) := by decide +kernel
theorem dX9_init_12 : decode cX9_init 12 = .ok (.putfield 13, 3) := by decide +kernel
theorem dX9_init_15 : decode cX9_init 15 = .ok (.aload_n 0, 1) := by decide +kernel
theorem dX9_init_16 : decode cX9_init 16 = .ok (.bipush 100, 2) := by decide +kernel
theorem dX9_init_18 : decode cX9_init 18 = .ok (.putfield 16, 3) := by decide +kernel
theorem dX9_init_21 : decode cX9_init 21 = .ok (.aload_n 0, 1) := by decide +kernel
theorem dX9_init_22 : decode cX9_init 22 = .ok (.iconst 1, 1) := by decide +kernel
theorem dX9_init_23 : decode cX9_init 23 = .ok (.putfield 19, 3) := by decide +kernel
theorem dX9_init_26 : decode cX9_init 26 = .ok (.aload_n 0, 1) := by decide +kernel
theorem dX9_init_27 : decode cX9_init 27 = .ok (.iconst 1, 1) := by decide +kernel
theorem dX9_init_28 : decode cX9_init 28 = .ok (.putfield 22, 3) := by decide +kernel
theorem dX9_init_31 : decode cX9_init 31 = .ok (.aload_n 0, 1) := by decide +kernel
theorem dX9_init_32 : decode cX9_init 32 = .ok (.iconst (-1), 1) := by decide +kernel
theorem dX9_init_33 : decode cX9_init 33 = .ok (.putfield 25, 3) := by decide +kernel
theorem dX9_init_36 : decode cX9_init 36 = .ok (.aload_n 0, 1) := by decide +kernel
theorem dX9_init_37 : decode cX9_init 37 = .ok (.bipush 8, 2) := by decide +kernel
theorem dX9_init_39 : decode cX9_init 39 = .ok (.newarray .int, 2) := by decide +kernel
theorem dX9_init_41 : decode cX9_init 41 = .ok (.putfield 28, 3) := by decide +kernel
theorem dX9_init_44 : decode cX9_init 44 = .ok (.aload_n 0, 1) := by decide +kernel
theorem dX9_init_45 : decode cX9_init 45 = .ok (.bipush 6, 2) := by decide +kernel
theorem dX9_init_47 : decode cX9_init 47 = .ok (.newarray .int, 2) := by decide +kernel
theorem dX9_init_49 : decode cX9_init 49 = .ok (.putfield 32, 3) := by decide +kernel
theorem dX9_init_52 : decode cX9_init 52 = .ok (.aload_n 0, 1) := by decide +kernel
theorem dX9_init_53 : decode cX9_init 53 = .ok (.bipush 6, 2) := by decide +kernel
theorem dX9_init_55 : decode cX9_init 55 = .ok (.newarray .int, 2) := by decide +kernel
theorem dX9_init_57 : decode cX9_init 57 = .ok (.putfield 35, 3) := by decide +kernel
theorem dX9_init_60 : decode cX9_init 60 = .ok (.aload_n 0, 1) := by decide +kernel
theorem dX9_init_61 : decode cX9_init 61 = .ok (.bipush 6, 2) := by decide +kernel
theorem dX9_init_63 : decode cX9_init 63 = .ok (.newarray .int, 2) := by decide +kernel
theorem dX9_init_65 : decode cX9_init 65 = .ok (.putfield 38, 3) := by decide +kernel
theorem dX9_init_68 : decode cX9_init 68 = .ok (.aload_n 0, 1) := by decide +kernel
theorem dX9_init_69 : decode cX9_init 69 = .ok (.bipush 6, 2) := by decide +kernel
theorem dX9_init_71 : decode cX9_init 71 = .ok (.newarray .int, 2) := by decide +kernel
theorem dX9_init_73 : decode cX9_init 73 = .ok (.putfield 41, 3) := by decide +kernel
theorem dX9_init_76 : decode cX9_init 76 = .ok (.aload_n 0, 1) := by decide +kernel
theorem dX9_init_77 : decode cX9_init 77 = .ok (.bipush 6, 2) := by decide +kernel
theorem dX9_init_79 : decode cX9_init 79 = .ok (.newarray .int, 2) := by decide +kernel
theorem dX9_init_81 : decode cX9_init 81 = .ok (.putfield 44, 3) := by decide +kernel
theorem dX9_init_84 : decode cX9_init 84 = .ok (.aload_n 0, 1) := by decide +kernel
theorem dX9_init_85 : decode cX9_init 85 = .ok (.bipush 8, 2) := by decide +kernel
theorem dX9_init_87 : decode cX9_init 87 = .ok (.newarray .int, 2) := by decide +kernel
theorem dX9_init_89 : decode cX9_init 89 = .ok (.putfield 47, 3) := by decide +kernel
theorem dX9_init_92 : decode cX9_init 92 = .ok (.aload_n 0, 1) := by decide +kernel
theorem dX9_init_93 : decode cX9_init 93 = .ok (.bipush 8, 2) := by decide +kernel
theorem dX9_init_95 : decode cX9_init 95 = .ok (.newarray .int, 2) := by decide +kernel
theorem dX9_init_97 : decode cX9_init 97 = .ok (.putfield 50, 3) := by decide +kernel
theorem dX9_init_100 : decode cX9_init 100 = .ok (.aload_n 0, 1) := by decide +kernel
theorem dX9_init_101 : decode cX9_init 101 = .ok (.bipush 8, 2) := by decide +kernel
theorem dX9_init_103 : decode cX9_init 103 = .ok (.newarray .int, 2) := by decide +kernel
theorem dX9_init_105 : decode cX9_init 105 = .ok (.putfield 53, 3) := by decide +kernel
theorem dX9_init_108 : decode cX9_init 108 = .ok (.aload_n 0, 1) := by decide +kernel
theorem dX9_init_109 : decode cX9_init 109 = .ok (.bipush 8, 2) := by decide +kernel
theorem dX9_init_111 : decode cX9_init 111 = .ok (.newarray .int, 2) := by decide +kernel
theorem dX9_init_113 : decode cX9_init 113 = .ok (.putfield 56, 3) := by decide +kernel
theorem dX9_init_116 : decode cX9_init 116 = .ok (.aload_n 0, 1) := by decide +kernel
theorem dX9_init_117 : decode cX9_init 117 = .ok (.bipush 8, 2) := by decide +kernel
theorem dX9_init_119 : decode cX9_init 119 = .ok (.newarray .int, 2) := by decide +kernel
theorem dX9_init_121 : decode cX9_init 121 = .ok (.putfield 59, 3) := by decide +kernel
theorem dX9_init_124 : decode cX9_init 124 = .ok (.aload_n 0, 1) := by decide +kernel
theorem dX9_init_125 : decode cX9_init 125 = .ok (.sipush 1280, 3) := by decide +kernel
theorem dX9_init_128 : decode cX9_init 128 = .ok (.newarray .long, 2) := by decide +kernel
theorem dX9_init_130 : decode cX9_init 130 = .ok (.putfield 62, 3) := by decide +kernel
theorem dX9_init_133 : decode cX9_init 133 = .ok (.aload_n 0, 1) := by decide +kernel
theorem dX9_init_134 : decode cX9_init 134 = .ok (.sipush 160, 3) := by decide +kernel
theorem dX9_init_137 : decode cX9_init 137 = .ok (.newarray .long, 2) := by decide +kernel
theorem dX9_init_139 : decode cX9_init 139 = .ok (.putfield 66, 3) := by decide +kernel
theorem dX9_init_142 : decode cX9_init 142 = .ok (.aload_n 0, 1) := by decide +kernel
theorem dX9_init_143 : decode cX9_init 143 = .ok (.bipush 44, 2) := by decide +kernel
theorem dX9_init_145 : decode cX9_init 145 = .ok (.newarray .int, 2) := by decide +kernel
theorem dX9_init_147 : decode cX9_init 147 = .ok (.dup, 1) := by decide +kernel
theorem dX9_init_148 : decode cX9_init 148 = .ok (.iconst 0, 1) := by decide +kernel
theorem dX9_init_149 : decode cX9_init 149 = .ok (.bipush 99, 2) := by decide +kernel
theorem dX9_init_151 : decode cX9_init 151 = .ok (.iastore, 1) := by decide +kernel
theorem dX9_init_152 : decode cX9_init 152 = .ok (.dup, 1) := by decide +kernel
theorem dX9_init_153 : decode cX9_init 153 = .ok (.iconst 1, 1) := by decide +kernel
theorem dX9_init_154 : decode cX9_init 154 = .ok (.bipush 111, 2) := by decide +kernel
theorem dX9_init_156 : decode cX9_init 156 = .ok (.iastore, 1) := by decide +kernel
theorem dX9_init_157 : decode cX9_init 157 = .ok (.dup, 1) := by decide +kernel
theorem dX9_init_158 : decode cX9_init 158 = .ok (.iconst 2, 1) := by decide +kernel
theorem dX9_init_159 : decode cX9_init 159 = .ok (.bipush 117, 2) := by decide +kernel
theorem dX9_init_161 : decode cX9_init 161 = .ok (.iastore, 1) := by decide +kernel
theorem dX9_init_162 : decode cX9_init 162 = .ok (.dup, 1) := by decide +kernel
theorem dX9_init_163 : decode cX9_init 163 = .ok (.iconst 3, 1) := by decide +kernel
theorem dX9_init_164 : decode cX9_init 164 = .ok (.bipush 110, 2) := by decide +kernel
theorem dX9_init_166 : decode cX9_init 166 = .ok (.iastore, 1) := by decide +kernel
theorem dX9_init_167 : decode cX9_init 167 = .ok (.dup, 1) := by decide +kernel
theorem dX9_init_168 : decode cX9_init 168 = .ok (.iconst 4, 1) := by decide +kernel
theorem dX9_init_169 : decode cX9_init 169 = .ok (.bipush 116, 2) := by decide +kernel
theorem dX9_init_171 : decode cX9_init 171 = .ok (.iastore, 1) := by decide +kernel
theorem dX9_init_172 : decode cX9_init 172 = .ok (.dup, 1) := by decide +kernel
theorem dX9_init_173 : decode cX9_init 173 = .ok (.iconst 5, 1) := by decide +kernel
theorem dX9_init_174 : decode cX9_init 174 = .ok (.bipush 101, 2) := by decide +kernel
theorem dX9_init_176 : decode cX9_init 176 = .ok (.iastore, 1) := by decide +kernel
theorem dX9_init_177 : decode cX9_init 177 = .ok (.dup, 1) := by decide +kernel
theorem dX9_init_178 : decode cX9_init 178 = .ok (.bipush 6, 2) := by decide +kernel
theorem dX9_init_180 : decode cX9_init 180 = .ok (.bipush 114, 2) := by decide +kernel
theorem dX9_init_182 : decode cX9_init 182 = .ok (.iastore, 1) := by decide +kernel
theorem dX9_init_183 : decode cX9_init 183 = .ok (.dup, 1) := by decide +kernel
theorem dX9_init_184 : decode cX9_init 184 = .ok (.bipush 7, 2) := by decide +kernel
theorem dX9_init_186 : decode cX9_init 186 = .ok (.bipush 32, 2) := by decide +kernel
theorem dX9_init_188 : decode cX9_init 188 = .ok (.iastore, 1) := by decide +kernel
theorem dX9_init_189 : decode cX9_init 189 = .ok (.dup, 1) := by decide +kernel
theorem dX9_init_190 : decode cX9_init 190 = .ok (.bipush 8, 2) := by decide +kernel
theorem dX9_init_192 : decode cX9_init 192 = .ok (.iconst 0, 1) := by decide +kernel
theorem dX9_init_193 : decode cX9_init 193 = .ok (.iastore, 1) := by decide +kernel
theorem dX9_init_194 : decode cX9_init 194 = .ok (.dup, 1) := by decide +kernel
theorem dX9_init_195 : decode cX9_init 195 = .ok (.bipush 9, 2) := by decide +kernel
theorem dX9_init_197 : decode cX9_init 197 = .ok (.bipush 116, 2) := by decide +kernel
theorem dX9_init_199 : decode cX9_init 199 = .ok (.iastore, 1) := by decide +kernel
theorem dX9_init_200 : decode cX9_init 200 = .ok (.dup, 1) := by decide +kernel
theorem dX9_init_201 : decode cX9_init 201 = .ok (.bipush 10, 2) := by decide +kernel
theorem dX9_init_203 : decode cX9_init 203 = .ok (.bipush 111, 2) := by decide +kernel
theorem dX9_init_205 : decode cX9_init 205 = .ok (.iastore, 1) := by decide +kernel
theorem dX9_init_206 : decode cX9_init 206 = .ok (.dup, 1) := by decide +kernel
theorem dX9_init_207 : decode cX9_init 207 = .ok (.bipush 11, 2) := by decide +kernel
theorem dX9_init_209 : decode cX9_init 209 = .ok (.bipush 32, 2) := by decide +kernel
theorem dX9_init_211 : decode cX9_init 211 = .ok (.iastore, 1) := by decide +kernel
theorem dX9_init_212 : decode cX9_init 212 = .ok (.dup, 1) := by decide +kernel
theorem dX9_init_213 : decode cX9_init 213 = .ok (.bipush 12, 2) := by decide +kernel
theorem dX9_init_215 : decode cX9_init 215 = .ok (.iconst 0, 1) := by decide +kernel
theorem dX9_init_216 : decode cX9_init 216 = .ok (.iastore, 1) := by decide +kernel
theorem dX9_init_217 : decode cX9_init 217 = .ok (.dup, 1) := by decide +kernel
theorem dX9_init_218 : decode cX9_init 218 = .ok (.bipush 13, 2) := by decide +kernel
theorem dX9_init_220 : decode cX9_init 220 = .ok (.bipush 97, 2) := by decide +kernel
theorem dX9_init_222 : decode cX9_init 222 = .ok (.iastore, 1) := by decide +kernel
theorem dX9_init_223 : decode cX9_init 223 = .ok (.dup, 1) := by decide +kernel
theorem dX9_init_224 : decode cX9_init 224 = .ok (.bipush 14, 2) := by decide +kernel
theorem dX9_init_226 : decode cX9_init 226 = .ok (.bipush 112, 2) := by decide +kernel
theorem dX9_init_228 : decode cX9_init 228 = .ok (.iastore, 1) := by decide +kernel
theorem dX9_init_229 : decode cX9_init 229 = .ok (.dup, 1) := by decide +kernel
theorem dX9_init_230 : decode cX9_init 230 = .ok (.bipush 15, 2) := by decide +kernel
theorem dX9_init_232 : decode cX9_init 232 = .ok (.bipush 97, 2) := by decide +kernel
theorem dX9_init_234 : decode cX9_init 234 = .ok (.iastore, 1) := by decide +kernel
theorem dX9_init_235 : decode cX9_init 235 = .ok (.dup, 1) := by decide +kernel
theorem dX9_init_236 : decode cX9_init 236 = .ok (.bipush 16, 2) := by decide +kernel
theorem dX9_init_238 : decode cX9_init 238 = .ok (.bipush 114, 2) := by decide +kernel
theorem dX9_init_240 : decode cX9_init 240 = .ok (.iastore, 1) := by decide +kernel
theorem dX9_init_241 : decode cX9_init 241 = .ok (.dup, 1) := by decide +kernel
theorem dX9_init_242 : decode cX9_init 242 = .ok (.bipush 17, 2) := by decide +kernel
theorem dX9_init_244 : decode cX9_init 244 = .ok (.bipush 116, 2) := by decide +kernel
theorem dX9_init_246 : decode cX9_init 246 = .ok (.iastore, 1) := by decide +kernel
theorem dX9_init_247 : decode cX9_init 247 = .ok (.dup, 1) := by decide +kernel
theorem dX9_init_248 : decode cX9_init 248 = .ok (.bipush 18, 2) := by decide +kernel
theorem dX9_init_250 : decode cX9_init 250 = .ok (.bipush 32, 2) := by decide +kernel
theorem dX9_init_252 : decode cX9_init 252 = .ok (.iastore, 1) := by decide +kernel
theorem dX9_init_253 : decode cX9_init 253 = .ok (.dup, 1) := by decide +kernel
theorem dX9_init_254 : decode cX9_init 254 = .ok (.bipush 19, 2) := by decide +kernel
theorem dX9_init_256 : decode cX9_init 256 = .ok (.iconst 0, 1) := by decide +kernel
theorem dX9_init_257 : decode cX9_init 257 = .ok (.iastore, 1) := by decide +kernel
theorem dX9_init_258 : decode cX9_init 258 = .ok (.dup, 1) := by decide +kernel
theorem dX9_init_259 : decode cX9_init 259 = .ok (.bipush 20, 2) := by decide +kernel
theorem dX9_init_261 : decode cX9_init 261 = .ok (.bipush 111, 2) := by decide +kernel
theorem dX9_init_263 : decode cX9_init 263 = .ok (.iastore, 1) := by decide +kernel
theorem dX9_init_264 : decode cX9_init 264 = .ok (.dup, 1) := by decide +kernel
theorem dX9_init_265 : decode cX9_init 265 = .ok (.bipush 21, 2) := by decide +kernel
theorem dX9_init_267 : decode cX9_init 267 = .ok (.bipush 100, 2) := by decide +kernel
theorem dX9_init_269 : decode cX9_init 269 = .ok (.iastore, 1) := by decide +kernel
theorem dX9_init_270 : decode cX9_init 270 = .ok (.dup, 1) := by decide +kernel
theorem dX9_init_271 : decode cX9_init 271 = .ok (.bipush 22, 2) := by decide +kernel
theorem dX9_init_273 : decode cX9_init 273 = .ok (.bipush 100, 2) := by decide +kernel
theorem dX9_init_275 : decode cX9_init 275 = .ok (.iastore, 1) := by decide +kernel
theorem dX9_init_276 : decode cX9_init 276 = .ok (.dup, 1) := by decide +kernel
theorem dX9_init_277 : decode cX9_init 277 = .ok (.bipush 23, 2) := by decide +kernel
theorem dX9_init_279 : decode cX9_init 279 = .ok (.bipush 115, 2) := by decide +kernel
theorem dX9_init_281 : decode cX9_init 281 = .ok (.iastore, 1) := by decide +kernel
theorem dX9_init_282 : decode cX9_init 282 = .ok (.dup, 1) := by decide +kernel
theorem dX9_init_283 : decode cX9_init 283 = .ok (.bipush 24, 2) := by decide +kernel
theorem dX9_init_285 : decode cX9_init 285 = .ok (.bipush 32, 2) := by decide +kernel
theorem dX9_init_287 : decode cX9_init 287 = .ok (.iastore, 1) := by decide +kernel
theorem dX9_init_288 : decode cX9_init 288 = .ok (.dup, 1) := by decide +kernel
theorem dX9_init_289 : decode cX9_init 289 = .ok (.bipush 25, 2) := by decide +kernel
theorem dX9_init_291 : decode cX9_init 291 = .ok (.iconst 0, 1) := by decide +kernel
theorem dX9_init_292 : decode cX9_init 292 = .ok (.iastore, 1) := by decide +kernel
theorem dX9_init_293 : decode cX9_init 293 = .ok (.dup, 1) := by decide +kernel
theorem dX9_init_294 : decode cX9_init 294 = .ok (.bipush 26, 2) := by decide +kernel
theorem dX9_init_296 : decode cX9_init 296 = .ok (.bipush 99, 2) := by decide +kernel
theorem dX9_init_298 : decode cX9_init 298 = .ok (.iastore, 1) := by decide +kernel
theorem dX9_init_299 : decode cX9_init 299 = .ok (.dup, 1) := by decide +kernel
theorem dX9_init_300 : decode cX9_init 300 = .ok (.bipush 27, 2) := by decide +kernel
theorem dX9_init_302 : decode cX9_init 302 = .ok (.bipush 111, 2) := by decide +kernel
theorem dX9_init_304 : decode cX9_init 304 = .ok (.iastore, 1) := by decide +kernel
theorem dX9_init_305 : decode cX9_init 305 = .ok (.dup, 1) := by decide +kernel
theorem dX9_init_306 : decode cX9_init 306 = .ok (.bipush 28, 2) := by decide +kernel
theorem dX9_init_308 : decode cX9_init 308 = .ok (.bipush 115, 2) := by decide +kernel
theorem dX9_init_310 : decode cX9_init 310 = .ok (.iastore, 1) := by decide +kernel
theorem dX9_init_311 : decode cX9_init 311 = .ok (.dup, 1) := by decide +kernel
theorem dX9_init_312 : decode cX9_init 312 = .ok (.bipush 29, 2) := by decide +kernel
theorem dX9_init_314 : decode cX9_init 314 = .ok (.bipush 116, 2) := by decide +kernel
theorem dX9_init_316 : decode cX9_init 316 = .ok (.iastore, 1) := by decide +kernel
theorem dX9_init_317 : decode cX9_init 317 = .ok (.dup, 1) := by decide +kernel
theorem dX9_init_318 : decode cX9_init 318 = .ok (.bipush 30, 2) := by decide +kernel
theorem dX9_init_320 : decode cX9_init 320 = .ok (.bipush 32, 2) := by decide +kernel
theorem dX9_init_322 : decode cX9_init 322 = .ok (.iastore, 1) := by decide +kernel
theorem dX9_init_323 : decode cX9_init 323 = .ok (.dup, 1) := by decide +kernel
theorem dX9_init_324 : decode cX9_init 324 = .ok (.bipush 31, 2) := by decide +kernel
theorem dX9_init_326 : decode cX9_init 326 = .ok (.iconst 0, 1) := by decide +kernel
theorem dX9_init_327 : decode cX9_init 327 = .ok (.iastore, 1) := by decide +kernel
theorem dX9_init_328 : decode cX9_init 328 = .ok (.dup, 1) := by decide +kernel
theorem dX9_init_329 : decode cX9_init 329 = .ok (.bipush 32, 2) := by decide +kernel
theorem dX9_init_331 : decode cX9_init 331 = .ok (.bipush 116, 2) := by decide +kernel
theorem dX9_init_333 : decode cX9_init 333 = .ok (.iastore, 1) := by decide +kernel
theorem dX9_init_334 : decode cX9_init 334 = .ok (.dup, 1) := by decide +kernel
theorem dX9_init_335 : decode cX9_init 335 = .ok (.bipush 33, 2) := by decide +kernel
theorem dX9_init_337 : decode cX9_init 337 = .ok (.bipush 97, 2) := by decide +kernel
theorem dX9_init_339 : decode cX9_init 339 = .ok (.iastore, 1) := by decide +kernel
theorem dX9_init_340 : decode cX9_init 340 = .ok (.dup, 1) := by decide +kernel
theorem dX9_init_341 : decode cX9_init 341 = .ok (.bipush 34, 2) := by decide +kernel
theorem dX9_init_343 : decode cX9_init 343 = .ok (.bipush 108, 2) := by decide +kernel
theorem dX9_init_345 : decode cX9_init 345 = .ok (.iastore, 1) := by decide +kernel
theorem dX9_init_346 : decode cX9_init 346 = .ok (.dup, 1) := by decide +kernel
theorem dX9_init_347 : decode cX9_init 347 = .ok (.bipush 35, 2) := by decide +kernel
theorem dX9_init_349 : decode cX9_init 349 = .ok (.bipush 108, 2) := by decide +kernel
theorem dX9_init_351 : decode cX9_init 351 = .ok (.iastore, 1) := by decide +kernel
theorem dX9_init_352 : decode cX9_init 352 = .ok (.dup, 1) := by decide +kernel
theorem dX9_init_353 : decode cX9_init 353 = .ok (.bipush 36, 2) := by decide +kernel
theorem dX9_init_355 : decode cX9_init 355 = .ok (.bipush 121, 2) := by decide +kernel
theorem dX9_init_357 : decode cX9_init 357 = .ok (.iastore, 1) := by decide +kernel
theorem dX9_init_358 : decode cX9_init 358 = .ok (.dup, 1) := by decide +kernel
theorem dX9_init_359 : decode cX9_init 359 = .ok (.bipush 37, 2) := by decide +kernel
theorem dX9_init_361 : decode cX9_init 361 = .ok (.bipush 32, 2) := by decide +kernel
theorem dX9_init_363 : decode cX9_init 363 = .ok (.iastore, 1) := by decide +kernel
theorem dX9_init_364 : decode cX9_init 364 = .ok (.dup, 1) := by decide +kernel
theorem dX9_init_365 : decode cX9_init 365 = .ok (.bipush 38, 2) := by decide +kernel
theorem dX9_init_367 : decode cX9_init 367 = .ok (.iconst 0, 1) := by decide +kernel
theorem dX9_init_368 : decode cX9_init 368 = .ok (.iastore, 1) := by decide +kernel
theorem dX9_init_369 : decode cX9_init 369 = .ok (.dup, 1) := by decide +kernel
theorem dX9_init_370 : decode cX9_init 370 = .ok (.bipush 39, 2) := by decide +kernel
theorem dX9_init_372 : decode cX9_init 372 = .ok (.bipush 97, 2) := by decide +kernel
theorem dX9_init_374 : decode cX9_init 374 = .ok (.iastore, 1) := by decide +kernel
theorem dX9_init_375 : decode cX9_init 375 = .ok (.dup, 1) := by decide +kernel
theorem dX9_init_376 : decode cX9_init 376 = .ok (.bipush 40, 2) := by decide +kernel
theorem dX9_init_378 : decode cX9_init 378 = .ok (.bipush 115, 2) := by decide +kernel
theorem dX9_init_380 : decode cX9_init 380 = .ok (.iastore, 1) := by decide +kernel
theorem dX9_init_381 : decode cX9_init 381 = .ok (.dup, 1) := by decide +kernel
theorem dX9_init_382 : decode cX9_init 382 = .ok (.bipush 41, 2) := by decide +kernel
theorem dX9_init_384 : decode cX9_init 384 = .ok (.bipush 107, 2) := by decide +kernel
theorem dX9_init_386 : decode cX9_init 386 = .ok (.iastore, 1) := by decide +kernel
theorem dX9_init_387 : decode cX9_init 387 = .ok (.dup, 1) := by decide +kernel
theorem dX9_init_388 : decode cX9_init 388 = .ok (.bipush 42, 2) := by decide +kernel
theorem dX9_init_390 : decode cX9_init 390 = .ok (.bipush 32, 2) := by decide +kernel
theorem dX9_init_392 : decode cX9_init 392 = .ok (.iastore, 1) := by decide +kernel
theorem dX9_init_393 : decode cX9_init 393 = .ok (.dup, 1) := by decide +kernel
theorem dX9_init_394 : decode cX9_init 394 = .ok (.bipush 43, 2) := by decide +kernel
theorem dX9_init_396 : decode cX9_init 396 = .ok (.iconst 0, 1) := by decide +kernel
theorem dX9_init_397 : decode cX9_init 397 = .ok (.iastore, 1) := by decide +kernel
theorem dX9_init_398 : decode cX9_init 398 = .ok (.putfield 69, 3) := by decide +kernel
theorem dX9_init_401 : decode cX9_init 401 = .ok (.aload_n 0, 1) := by decide +kernel
theorem dX9_init_402 : decode cX9_init 402 = .ok (.iconst 2, 1) := by decide +kernel
theorem dX9_init_403 : decode cX9_init 403 = .ok (.newarray .int, 2) := by decide +kernel
theorem dX9_init_405 : decode cX9_init 405 = .ok (.putfield 72, 3) := by decide +kernel
theorem dX9_init_408 : decode cX9_init 408 = .ok (.aload_n 0, 1) := by decide +kernel
theorem dX9_init_409 : decode cX9_init 409 = .ok (.bipush 50, 2) := by decide +kernel
theorem dX9_init_411 : decode cX9_init 411 = .ok (.newarray .int, 2) := by decide +kernel
theorem dX9_init_413 : decode cX9_init 413 = .ok (.putfield 75, 3) := by decide +kernel
theorem dX9_init_416 : decode cX9_init 416 = .ok (.aload_n 0, 1) := by decide +kernel
theorem dX9_init_417 : decode cX9_init 417 = .ok (.bipush 50, 2) := by decide +kernel
theorem dX9_init_419 : decode cX9_init 419 = .ok (.newarray .int, 2) := by decide +kernel
theorem dX9_init_421 : decode cX9_init 421 = .ok (.putfield 78, 3) := by decide +kernel
theorem dX9_init_424 : decode cX9_init 424 = .ok (.aload_n 0, 1) := by decide +kernel
theorem dX9_init_425 : decode cX9_init 425 = .ok (.sipush 2010, 3) := by decide +kernel
theorem dX9_init_428 : decode cX9_init 428 = .ok (.newarray .int, 2) := by decide +kernel
theorem dX9_init_430 : decode cX9_init 430 = .ok (.putfield 81, 3) := by decide +kernel
theorem dX9_init_433 : decode cX9_init 433 = .ok (.aload_n 0, 1) := by decide +kernel
theorem dX9_init_434 : decode cX9_init 434 = .ok (.sipush 2010, 3) := by decide +kernel
theorem dX9_init_437 : decode cX9_init 437 = .ok (.newarray .int, 2) := by decide +kernel
theorem dX9_init_439 : decode cX9_init 439 = .ok (.putfield 84, 3) := by decide +kernel
theorem dX9_init_442 : decode cX9_init 442 = .ok (.aload_n 0, 1) := by decide +kernel
theorem dX9_init_443 : decode cX9_init 443 = .ok (.sipush 402, 3) := by decide +kernel
theorem dX9_init_446 : decode cX9_init 446 = .ok (.newarray .int, 2) := by decide +kernel
theorem dX9_init_448 : decode cX9_init 448 = .ok (.putfield 87, 3) := by decide +kernel
theorem dX9_init_451 : decode cX9_init 451 = .ok (.aload_n 0, 1) := by decide +kernel
theorem dX9_init_452 : decode cX9_init 452 = .ok (.bipush 20, 2) := by decide +kernel
theorem dX9_init_454 : decode cX9_init 454 = .ok (.newarray .int, 2) := by decide +kernel
theorem dX9_init_456 : decode cX9_init 456 = .ok (.putfield 90, 3) := by decide +kernel
theorem dX9_init_459 : decode cX9_init 459 = .ok (.return_, 1) := by decide +kernel
theorem dX9_no_0 : decode cX9_no 0 = .ok (.aload_n 0, 1) := by decide +kernel
theorem dX9_no_1 : decode cX9_no 1 = .ok (.getfield 28, 3) := by decide +kernel
theorem dX9_no_4 : decode cX9_no 4 = .ok (.iload_n 1, 1) := by decide +kernel
theorem dX9_no_5 : decode cX9_no 5 = .ok (.ineg, 1) := by decide +kernel
theorem dX9_no_6 : decode cX9_no 6 = .ok (.dup2, 1) := by decide +kernel
theorem dX9_no_7 : decode cX9_no 7 = .ok (.iaload, 1) := by decide +kernel
theorem dX9_no_8 : decode cX9_no 8 = .ok (.iconst 1, 1) := by decide +kernel
theorem dX9_no_9 : decode cX9_no 9 = .ok (.iadd, 1) := by decide +kernel
theorem dX9_no_10 : decode cX9_no 10 = .ok (.iastore, 1) := by decide +kernel
theorem dX9_no_11 : decode cX9_no 11 = .ok (.iload_n 1, 1) := by decide +kernel
theorem dX9_no_12 : decode cX9_no 12 = .ok (.ireturn, 1) := by decide +kernel
theorem dX9_noTen_0 : decode cX9_noTen 0 = .ok (.aload_n 0, 1) := by decide +kernel
theorem dX9_noTen_1 : decode cX9_noTen 1 = .ok (.getfield 28, 3) := by decide +kernel
theorem dX9_noTen_4 : decode cX9_noTen 4 = .ok (.iload_n 1, 1) := by decide +kernel
theorem dX9_noTen_5 : decode cX9_noTen 5 = .ok (.ineg, 1) := by decide +kernel
theorem dX9_noTen_6 : decode cX9_noTen 6 = .ok (.dup2, 1) := by decide +kernel
theorem dX9_noTen_7 : decode cX9_noTen 7 = .ok (.iaload, 1) := by decide +kernel
theorem dX9_noTen_8 : decode cX9_noTen 8 = .ok (.iconst 1, 1) := by decide +kernel
theorem dX9_noTen_9 : decode cX9_noTen 9 = .ok (.iadd, 1) := by decide +kernel
theorem dX9_noTen_10 : decode cX9_noTen 10 = .ok (.iastore, 1) := by decide +kernel
theorem dX9_noTen_11 : decode cX9_noTen 11 = .ok (.iload_n 1, 1) := by decide +kernel
theorem dX9_noTen_12 : decode cX9_noTen 12 = .ok (.bipush 10, 2) := by decide +kernel
theorem dX9_noTen_14 : decode cX9_noTen 14 = .ok (.isub, 1) := by decide +kernel
theorem dX9_noTen_15 : decode cX9_noTen 15 = .ok (.ireturn, 1) := by decide +kernel
theorem dX9_isShelf_0 : decode cX9_isShelf 0 = .ok (.iload_n 1, 1) := by decide +kernel
theorem dX9_isShelf_1 : decode cX9_isShelf 1 = .ok (.ifCond .lt 13, 3) := by decide +kernel
theorem dX9_isShelf_4 : decode cX9_isShelf 4 = .ok (.iload_n 1, 1) := by decide +kernel
theorem dX9_isShelf_5 : decode cX9_isShelf 5 = .ok (.bipush 8, 2) := by decide +kernel
theorem dX9_isShelf_7 : decode cX9_isShelf 7 = .ok (.if_icmp .ge 7, 3) := by decide +kernel
theorem dX9_isShelf_10 : decode cX9_isShelf 10 = .ok (.iconst 1, 1) := by decide +kernel
theorem dX9_isShelf_11 : decode cX9_isShelf 11 = .ok (.goto 4, 3) := by decide +kernel
theorem dX9_isShelf_14 : decode cX9_isShelf 14 = .ok (.iconst 0, 1) := by decide +kernel
theorem dX9_isShelf_15 : decode cX9_isShelf 15 = .ok (.ireturn, 1) := by decide +kernel
theorem dX9_isCounter_0 : decode cX9_isCounter 0 = .ok (.iload_n 1, 1) := by decide +kernel
theorem dX9_isCounter_1 : decode cX9_isCounter 1 = .ok (.ifCond .lt 15, 3) := by decide +kernel
theorem dX9_isCounter_4 : decode cX9_isCounter 4 = .ok (.iload_n 1, 1) := by decide +kernel
theorem dX9_isCounter_5 : decode cX9_isCounter 5 = .ok (.aload_n 0, 1) := by decide +kernel
theorem dX9_isCounter_6 : decode cX9_isCounter 6 = .ok (.getfield 93, 3) := by decide +kernel
theorem dX9_isCounter_9 : decode cX9_isCounter 9 = .ok (.if_icmp .ge 7, 3) := by decide +kernel
theorem dX9_isCounter_12 : decode cX9_isCounter 12 = .ok (.iconst 1, 1) := by decide +kernel
theorem dX9_isCounter_13 : decode cX9_isCounter 13 = .ok (.goto 4, 3) := by decide +kernel
theorem dX9_isCounter_16 : decode cX9_isCounter 16 = .ok (.iconst 0, 1) := by decide +kernel
theorem dX9_isCounter_17 : decode cX9_isCounter 17 = .ok (.ireturn, 1) := by decide +kernel
theorem dX9_row_0 : decode cX9_row 0 = .ok (.aload_n 0, 1) := by decide +kernel
theorem dX9_row_1 : decode cX9_row 1 = .ok (.iload_n 1, 1) := by decide +kernel
theorem dX9_row_2 : decode cX9_row 2 = .ok (.invokevirtual 96, 3) := by decide +kernel
theorem dX9_row_5 : decode cX9_row 5 = .ok (.ifCond .ne 9, 3) := by decide +kernel
theorem dX9_row_8 : decode cX9_row 8 = .ok (.aload_n 0, 1) := by decide +kernel
theorem dX9_row_9 : decode cX9_row 9 = .ok (.iconst (-1), 1) := by decide +kernel
theorem dX9_row_10 : decode cX9_row 10 = .ok (.invokevirtual 100, 3) := by decide +kernel
theorem dX9_row_13 : decode cX9_row 13 = .ok (.ireturn, 1) := by decide +kernel
theorem dX9_row_14 : decode cX9_row 14 = .ok (.iload_n 3, 1) := by decide +kernel
theorem dX9_row_15 : decode cX9_row 15 = .ok (.ifCond .ge 10, 3) := by decide +kernel
theorem dX9_row_18 : decode cX9_row 18 = .ok (.aload_n 0, 1) := by decide +kernel
theorem dX9_row_19 : decode cX9_row 19 = .ok (.bipush (-4), 2) := by decide +kernel
theorem dX9_row_21 : decode cX9_row 21 = .ok (.invokevirtual 100, 3) := by decide +kernel
theorem dX9_row_24 : decode cX9_row 24 = .ok (.ireturn, 1) := by decide +kernel
theorem dX9_row_25 : decode cX9_row 25 = .ok (.iload_n 2, 1) := by decide +kernel
theorem dX9_row_26 : decode cX9_row 26 = .ok (.ifCond .lt 8, 3) := by decide +kernel
theorem dX9_row_29 : decode cX9_row 29 = .ok (.iload_n 2, 1) := by decide +kernel
theorem dX9_row_30 : decode cX9_row 30 = .ok (.iconst 3, 1) := by decide +kernel
theorem dX9_row_31 : decode cX9_row 31 = .ok (.if_icmp .le 10, 3) := by decide +kernel
theorem dX9_row_34 : decode cX9_row 34 = .ok (.aload_n 0, 1) := by decide +kernel
theorem dX9_row_35 : decode cX9_row 35 = .ok (.bipush (-6), 2) := by decide +kernel
theorem dX9_row_37 : decode cX9_row 37 = .ok (.invokevirtual 100, 3) := by decide +kernel
theorem dX9_row_40 : decode cX9_row 40 = .ok (.ireturn, 1) := by decide +kernel
theorem dX9_row_41 : decode cX9_row 41 = .ok (.iload_n 3, 1) := by decide +kernel
theorem dX9_row_42 : decode cX9_row 42 = .ok (.sipush 160, 3) := by decide +kernel
theorem dX9_row_45 : decode cX9_row 45 = .ok (.if_icmp .le 10, 3) := by decide +kernel
theorem dX9_row_48 : decode cX9_row 48 = .ok (.aload_n 0, 1) := by decide +kernel
theorem dX9_row_49 : decode cX9_row 49 = .ok (.bipush (-7), 2) := by decide +kernel
theorem dX9_row_51 : decode cX9_row 51 = .ok (.invokevirtual 100, 3) := by decide +kernel
theorem dX9_row_54 : decode cX9_row 54 = .ok (.ireturn, 1) := by decide +kernel
theorem dX9_row_55 : decode cX9_row 55 = .ok (.aload_n 0, 1) := by decide +kernel
theorem dX9_row_56 : decode cX9_row 56 = .ok (.getfield 50, 3) := by decide +kernel
theorem dX9_row_59 : decode cX9_row 59 = .ok (.iload_n 1, 1) := by decide +kernel
theorem dX9_row_60 : decode cX9_row 60 = .ok (.iconst 1, 1) := by decide +kernel
theorem dX9_row_61 : decode cX9_row 61 = .ok (.iastore, 1) := by decide +kernel
theorem dX9_row_62 : decode cX9_row 62 = .ok (.aload_n 0, 1) := by decide +kernel
theorem dX9_row_63 : decode cX9_row 63 = .ok (.getfield 53, 3) := by decide +kernel
theorem dX9_row_66 : decode cX9_row 66 = .ok (.iload_n 1, 1) := by decide +kernel
theorem dX9_row_67 : decode cX9_row 67 = .ok (.iload_n 2, 1) := by decide +kernel
theorem dX9_row_68 : decode cX9_row 68 = .ok (.iastore, 1) := by decide +kernel
theorem dX9_row_69 : decode cX9_row 69 = .ok (.aload_n 0, 1) := by decide +kernel
theorem dX9_row_70 : decode cX9_row 70 = .ok (.getfield 56, 3) := by decide +kernel
theorem dX9_row_73 : decode cX9_row 73 = .ok (.iload_n 1, 1) := by decide +kernel
theorem dX9_row_74 : decode cX9_row 74 = .ok (.iload_n 3, 1) := by decide +kernel
theorem dX9_row_75 : decode cX9_row 75 = .ok (.iastore, 1) := by decide +kernel
theorem dX9_row_76 : decode cX9_row 76 = .ok (.iconst 0, 1) := by decide +kernel
theorem dX9_row_77 : decode cX9_row 77 = .ok (.istore 4, 2) := by decide +kernel
theorem dX9_row_79 : decode cX9_row 79 = .ok (.iload 4, 2) := by decide +kernel
theorem dX9_row_81 : decode cX9_row 81 = .ok (.sipush 160, 3) := by decide +kernel
theorem dX9_row_84 : decode cX9_row 84 = .ok (.if_icmp .ge 23, 3) := by decide +kernel
theorem dX9_row_87 : decode cX9_row 87 = .ok (.aload_n 0, 1) := by decide +kernel
theorem dX9_row_88 : decode cX9_row 88 = .ok (.getfield 62, 3) := by decide +kernel
theorem dX9_row_91 : decode cX9_row 91 = .ok (.sipush 160, 3) := by decide +kernel
theorem dX9_row_94 : decode cX9_row 94 = .ok (.iload_n 1, 1) := by decide +kernel
theorem dX9_row_95 : decode cX9_row 95 = .ok (.imul, 1) := by decide +kernel
theorem dX9_row_96 : decode cX9_row 96 = .ok (.iload 4, 2) := by decide +kernel
theorem dX9_row_98 : decode cX9_row 98 = .ok (.iadd, 1) := by decide +kernel
theorem dX9_row_99 : decode cX9_row 99 = .ok (.lconst 0, 1) := by decide +kernel
theorem dX9_row_100 : decode cX9_row 100 = .ok (.lastore, 1) := by decide +kernel
theorem dX9_row_101 : decode cX9_row 101 = .ok (.iinc 4 1, 3) := by decide +kernel
theorem dX9_row_104 : decode cX9_row 104 = .ok (.goto (-25), 3) := by decide +kernel
theorem dX9_row_107 : decode cX9_row 107 = .ok (.iconst 1, 1) := by decide +kernel
theorem dX9_row_108 : decode cX9_row 108 = .ok (.ireturn, 1) := by decide +kernel
theorem dX9_set_0 : decode cX9_set 0 = .ok (.aload_n 0, 1) := by decide +kernel
theorem dX9_set_1 : decode cX9_set 1 = .ok (.iload_n 1, 1) := by decide +kernel
theorem dX9_set_2 : decode cX9_set 2 = .ok (.invokevirtual 96, 3) := by decide +kernel
theorem dX9_set_5 : decode cX9_set 5 = .ok (.ifCond .ne 9, 3) := by decide +kernel
theorem dX9_set_8 : decode cX9_set 8 = .ok (.aload_n 0, 1) := by decide +kernel
theorem dX9_set_9 : decode cX9_set 9 = .ok (.iconst (-1), 1) := by decide +kernel
theorem dX9_set_10 : decode cX9_set 10 = .ok (.invokevirtual 100, 3) := by decide +kernel
theorem dX9_set_13 : decode cX9_set 13 = .ok (.ireturn, 1) := by decide +kernel
theorem dX9_set_14 : decode cX9_set 14 = .ok (.aload_n 0, 1) := by decide +kernel
theorem dX9_set_15 : decode cX9_set 15 = .ok (.getfield 50, 3) := by decide +kernel
theorem dX9_set_18 : decode cX9_set 18 = .ok (.iload_n 1, 1) := by decide +kernel
theorem dX9_set_19 : decode cX9_set 19 = .ok (.iaload, 1) := by decide +kernel
theorem dX9_set_20 : decode cX9_set 20 = .ok (.iconst 2, 1) := by decide +kernel
theorem dX9_set_21 : decode cX9_set 21 = .ok (.if_icmp .ne 10, 3) := by decide +kernel
theorem dX9_set_24 : decode cX9_set 24 = .ok (.aload_n 0, 1) := by decide +kernel
theorem dX9_set_25 : decode cX9_set 25 = .ok (.bipush (-2), 2) := by decide +kernel
theorem dX9_set_27 : decode cX9_set 27 = .ok (.invokevirtual 100, 3) := by decide +kernel
theorem dX9_set_30 : decode cX9_set 30 = .ok (.ireturn, 1) := by decide +kernel
theorem dX9_set_31 : decode cX9_set 31 = .ok (.aload_n 0, 1) := by decide +kernel
theorem dX9_set_32 : decode cX9_set 32 = .ok (.getfield 50, 3) := by decide +kernel
theorem dX9_set_35 : decode cX9_set 35 = .ok (.iload_n 1, 1) := by decide +kernel
theorem dX9_set_36 : decode cX9_set 36 = .ok (.iaload, 1) := by decide +kernel
theorem dX9_set_37 : decode cX9_set 37 = .ok (.ifCond .ne 10, 3) := by decide +kernel
theorem dX9_set_40 : decode cX9_set 40 = .ok (.aload_n 0, 1) := by decide +kernel
theorem dX9_set_41 : decode cX9_set 41 = .ok (.bipush (-3), 2) := by decide +kernel
theorem dX9_set_43 : decode cX9_set 43 = .ok (.invokevirtual 100, 3) := by decide +kernel
theorem dX9_set_46 : decode cX9_set 46 = .ok (.ireturn, 1) := by decide +kernel
theorem dX9_set_47 : decode cX9_set 47 = .ok (.iload_n 2, 1) := by decide +kernel
theorem dX9_set_48 : decode cX9_set 48 = .ok (.ifCond .lt 13, 3) := by decide +kernel
theorem dX9_set_51 : decode cX9_set 51 = .ok (.iload_n 2, 1) := by decide +kernel
theorem dX9_set_52 : decode cX9_set 52 = .ok (.aload_n 0, 1) := by decide +kernel
theorem dX9_set_53 : decode cX9_set 53 = .ok (.getfield 56, 3) := by decide +kernel
theorem dX9_set_56 : decode cX9_set 56 = .ok (.iload_n 1, 1) := by decide +kernel
theorem dX9_set_57 : decode cX9_set 57 = .ok (.iaload, 1) := by decide +kernel
theorem dX9_set_58 : decode cX9_set 58 = .ok (.if_icmp .lt 10, 3) := by decide +kernel
theorem dX9_set_61 : decode cX9_set 61 = .ok (.aload_n 0, 1) := by decide +kernel
theorem dX9_set_62 : decode cX9_set 62 = .ok (.bipush (-5), 2) := by decide +kernel
theorem dX9_set_64 : decode cX9_set 64 = .ok (.invokevirtual 100, 3) := by decide +kernel
theorem dX9_set_67 : decode cX9_set 67 = .ok (.ireturn, 1) := by decide +kernel
theorem dX9_set_68 : decode cX9_set 68 = .ok (.aload_n 0, 1) := by decide +kernel
theorem dX9_set_69 : decode cX9_set 69 = .ok (.getfield 62, 3) := by decide +kernel
theorem dX9_set_72 : decode cX9_set 72 = .ok (.sipush 160, 3) := by decide +kernel
theorem dX9_set_75 : decode cX9_set 75 = .ok (.iload_n 1, 1) := by decide +kernel
theorem dX9_set_76 : decode cX9_set 76 = .ok (.imul, 1) := by decide +kernel
theorem dX9_set_77 : decode cX9_set 77 = .ok (.iload_n 2, 1) := by decide +kernel
theorem dX9_set_78 : decode cX9_set 78 = .ok (.iadd, 1) := by decide +kernel
theorem dX9_set_79 : decode cX9_set 79 = .ok (.aload_n 0, 1) := by decide +kernel
theorem dX9_set_80 : decode cX9_set 80 = .ok (.getfield 53, 3) := by decide +kernel
theorem dX9_set_83 : decode cX9_set 83 = .ok (.iload_n 1, 1) := by decide +kernel
theorem dX9_set_84 : decode cX9_set 84 = .ok (.iaload, 1) := by decide +kernel
theorem dX9_set_85 : decode cX9_set 85 = .ok (.ifCond .ne 10, 3) := by decide +kernel
theorem dX9_set_88 : decode cX9_set 88 = .ok (.lload_n 3, 1) := by decide +kernel
theorem dX9_set_89 : decode cX9_set 89 = .ok (.l2i, 1) := by decide +kernel
theorem dX9_set_90 : decode cX9_set 90 = .ok (.i2b, 1) := by decide +kernel
theorem dX9_set_91 : decode cX9_set 91 = .ok (.i2l, 1) := by decide +kernel
theorem dX9_set_92 : decode cX9_set 92 = .ok (.goto 37, 3) := by decide +kernel
theorem dX9_set_95 : decode cX9_set 95 = .ok (.aload_n 0, 1) := by decide +kernel
theorem dX9_set_96 : decode cX9_set 96 = .ok (.getfield 53, 3) := by decide +kernel
theorem dX9_set_99 : decode cX9_set 99 = .ok (.iload_n 1, 1) := by decide +kernel
theorem dX9_set_100 : decode cX9_set 100 = .ok (.iaload, 1) := by decide +kernel
theorem dX9_set_101 : decode cX9_set 101 = .ok (.iconst 1, 1) := by decide +kernel
theorem dX9_set_102 : decode cX9_set 102 = .ok (.if_icmp .ne 10, 3) := by decide +kernel
theorem dX9_set_105 : decode cX9_set 105 = .ok (.lload_n 3, 1) := by decide +kernel
theorem dX9_set_106 : decode cX9_set 106 = .ok (.l2i, 1) := by decide +kernel
theorem dX9_set_107 : decode cX9_set 107 = .ok (.i2s, 1) := by decide +kernel
theorem dX9_set_108 : decode cX9_set 108 = .ok (.i2l, 1) := by decide +kernel
theorem dX9_set_109 : decode cX9_set 109 = .ok (.goto 20, 3) := by decide +kernel
theorem dX9_set_112 : decode cX9_set 112 = .ok (.aload_n 0, 1) := by decide +kernel
theorem dX9_set_113 : decode cX9_set 113 = .ok (.getfield 53, 3) := by decide +kernel
theorem dX9_set_116 : decode cX9_set 116 = .ok (.iload_n 1, 1) := by decide +kernel
theorem dX9_set_117 : decode cX9_set 117 = .ok (.iaload, 1) := by decide +kernel
theorem dX9_set_118 : decode cX9_set 118 = .ok (.iconst 2, 1) := by decide +kernel
theorem dX9_set_119 : decode cX9_set 119 = .ok (.if_icmp .ne 9, 3) := by decide +kernel
theorem dX9_set_122 : decode cX9_set 122 = .ok (.lload_n 3, 1) := by decide +kernel
theorem dX9_set_123 : decode cX9_set 123 = .ok (.l2i, 1) := by decide +kernel
theorem dX9_set_124 : decode cX9_set 124 = .ok (.i2l, 1) := by decide +kernel
theorem dX9_set_125 : decode cX9_set 125 = .ok (.goto 4, 3) := by decide +kernel
theorem dX9_set_128 : decode cX9_set 128 = .ok (.lload_n 3, 1) := by decide +kernel
theorem dX9_set_129 : decode cX9_set 129 = .ok (.lastore, 1) := by decide +kernel
theorem dX9_set_130 : decode cX9_set 130 = .ok (.iconst 1, 1) := by decide +kernel
theorem dX9_set_131 : decode cX9_set 131 = .ok (.ireturn, 1) := by decide +kernel
theorem dX9_copy_0 : decode cX9_copy 0 = .ok (.aload_n 0, 1) := by decide +kernel
theorem dX9_copy_1 : decode cX9_copy 1 = .ok (.iload_n 1, 1) := by decide +kernel
theorem dX9_copy_2 : decode cX9_copy 2 = .ok (.invokevirtual 96, 3) := by decide +kernel
theorem dX9_copy_5 : decode cX9_copy 5 = .ok (.ifCond .eq 11, 3) := by decide +kernel
theorem dX9_copy_8 : decode cX9_copy 8 = .ok (.aload_n 0, 1) := by decide +kernel
theorem dX9_copy_9 : decode cX9_copy 9 = .ok (.iload_n 2, 1) := by decide +kernel
theorem dX9_copy_10 : decode cX9_copy 10 = .ok (.invokevirtual 96, 3) := by decide +kernel
theorem dX9_copy_13 : decode cX9_copy 13 = .ok (.ifCond .ne 9, 3) := by decide +kernel
theorem dX9_copy_16 : decode cX9_copy 16 = .ok (.aload_n 0, 1) := by decide +kernel
theorem dX9_copy_17 : decode cX9_copy 17 = .ok (.iconst (-1), 1) := by decide +kernel
theorem dX9_copy_18 : decode cX9_copy 18 = .ok (.invokevirtual 100, 3) := by decide +kernel
theorem dX9_copy_21 : decode cX9_copy 21 = .ok (.ireturn, 1) := by decide +kernel
theorem dX9_copy_22 : decode cX9_copy 22 = .ok (.aload_n 0, 1) := by decide +kernel
theorem dX9_copy_23 : decode cX9_copy 23 = .ok (.getfield 50, 3) := by decide +kernel
theorem dX9_copy_26 : decode cX9_copy 26 = .ok (.iload_n 1, 1) := by decide +kernel
theorem dX9_copy_27 : decode cX9_copy 27 = .ok (.iaload, 1) := by decide +kernel
theorem dX9_copy_28 : decode cX9_copy 28 = .ok (.iconst 2, 1) := by decide +kernel
theorem dX9_copy_29 : decode cX9_copy 29 = .ok (.if_icmp .eq 48, 3) := by decide +kernel
theorem dX9_copy_32 : decode cX9_copy 32 = .ok (.aload_n 0, 1) := by decide +kernel
theorem dX9_copy_33 : decode cX9_copy 33 = .ok (.getfield 50, 3) := by decide +kernel
theorem dX9_copy_36 : decode cX9_copy 36 = .ok (.iload_n 2, 1) := by decide +kernel
theorem dX9_copy_37 : decode cX9_copy 37 = .ok (.iaload, 1) := by decide +kernel
theorem dX9_copy_38 : decode cX9_copy 38 = .ok (.iconst 2, 1) := by decide +kernel
theorem dX9_copy_39 : decode cX9_copy 39 = .ok (.if_icmp .eq 38, 3) := by decide +kernel
theorem dX9_copy_42 : decode cX9_copy 42 = .ok (.aload_n 0, 1) := by decide +kernel
theorem dX9_copy_43 : decode cX9_copy 43 = .ok (.getfield 50, 3) := by decide +kernel
theorem dX9_copy_46 : decode cX9_copy 46 = .ok (.iload_n 1, 1) := by decide +kernel
theorem dX9_copy_47 : decode cX9_copy 47 = .ok (.iaload, 1) := by decide +kernel
theorem dX9_copy_48 : decode cX9_copy 48 = .ok (.iconst 1, 1) := by decide +kernel
theorem dX9_copy_49 : decode cX9_copy 49 = .ok (.if_icmp .ne 35, 3) := by decide +kernel
theorem dX9_copy_52 : decode cX9_copy 52 = .ok (.aload_n 0, 1) := by decide +kernel
theorem dX9_copy_53 : decode cX9_copy 53 = .ok (.getfield 50, 3) := by decide +kernel
theorem dX9_copy_56 : decode cX9_copy 56 = .ok (.iload_n 2, 1) := by decide +kernel
theorem dX9_copy_57 : decode cX9_copy 57 = .ok (.iaload, 1) := by decide +kernel
theorem dX9_copy_58 : decode cX9_copy 58 = .ok (.iconst 1, 1) := by decide +kernel
theorem dX9_copy_59 : decode cX9_copy 59 = .ok (.if_icmp .ne 25, 3) := by decide +kernel
theorem dX9_copy_62 : decode cX9_copy 62 = .ok (.aload_n 0, 1) := by decide +kernel
theorem dX9_copy_63 : decode cX9_copy 63 = .ok (.getfield 53, 3) := by decide +kernel
theorem dX9_copy_66 : decode cX9_copy 66 = .ok (.iload_n 1, 1) := by decide +kernel
theorem dX9_copy_67 : decode cX9_copy 67 = .ok (.iaload, 1) := by decide +kernel
theorem dX9_copy_68 : decode cX9_copy 68 = .ok (.aload_n 0, 1) := by decide +kernel
theorem dX9_copy_69 : decode cX9_copy 69 = .ok (.getfield 53, 3) := by decide +kernel
theorem dX9_copy_72 : decode cX9_copy 72 = .ok (.iload_n 2, 1) := by decide +kernel
theorem dX9_copy_73 : decode cX9_copy 73 = .ok (.iaload, 1) := by decide +kernel
theorem dX9_copy_74 : decode cX9_copy 74 = .ok (.if_icmp .eq 10, 3) := by decide +kernel
theorem dX9_copy_77 : decode cX9_copy 77 = .ok (.aload_n 0, 1) := by decide +kernel
theorem dX9_copy_78 : decode cX9_copy 78 = .ok (.bipush (-2), 2) := by decide +kernel
theorem dX9_copy_80 : decode cX9_copy 80 = .ok (.invokevirtual 100, 3) := by decide +kernel
theorem dX9_copy_83 : decode cX9_copy 83 = .ok (.ireturn, 1) := by decide +kernel
theorem dX9_copy_84 : decode cX9_copy 84 = .ok (.aload_n 0, 1) := by decide +kernel
theorem dX9_copy_85 : decode cX9_copy 85 = .ok (.getfield 50, 3) := by decide +kernel
theorem dX9_copy_88 : decode cX9_copy 88 = .ok (.iload_n 1, 1) := by decide +kernel
theorem dX9_copy_89 : decode cX9_copy 89 = .ok (.iaload, 1) := by decide +kernel
theorem dX9_copy_90 : decode cX9_copy 90 = .ok (.ifCond .eq 12, 3) := by decide +kernel
theorem dX9_copy_93 : decode cX9_copy 93 = .ok (.aload_n 0, 1) := by decide +kernel
theorem dX9_copy_94 : decode cX9_copy 94 = .ok (.getfield 50, 3) := by decide +kernel
theorem dX9_copy_97 : decode cX9_copy 97 = .ok (.iload_n 2, 1) := by decide +kernel
theorem dX9_copy_98 : decode cX9_copy 98 = .ok (.iaload, 1) := by decide +kernel
theorem dX9_copy_99 : decode cX9_copy 99 = .ok (.ifCond .ne 10, 3) := by decide +kernel
theorem dX9_copy_102 : decode cX9_copy 102 = .ok (.aload_n 0, 1) := by decide +kernel
theorem dX9_copy_103 : decode cX9_copy 103 = .ok (.bipush (-3), 2) := by decide +kernel
theorem dX9_copy_105 : decode cX9_copy 105 = .ok (.invokevirtual 100, 3) := by decide +kernel
theorem dX9_copy_108 : decode cX9_copy 108 = .ok (.ireturn, 1) := by decide +kernel
theorem dX9_copy_109 : decode cX9_copy 109 = .ok (.iload 5, 2) := by decide +kernel
theorem dX9_copy_111 : decode cX9_copy 111 = .ok (.ifCond .ge 10, 3) := by decide +kernel
theorem dX9_copy_114 : decode cX9_copy 114 = .ok (.aload_n 0, 1) := by decide +kernel
theorem dX9_copy_115 : decode cX9_copy 115 = .ok (.bipush (-4), 2) := by decide +kernel
theorem dX9_copy_117 : decode cX9_copy 117 = .ok (.invokevirtual 100, 3) := by decide +kernel
theorem dX9_copy_120 : decode cX9_copy 120 = .ok (.ireturn, 1) := by decide +kernel
theorem dX9_copy_121 : decode cX9_copy 121 = .ok (.iload_n 3, 1) := by decide +kernel
theorem dX9_copy_122 : decode cX9_copy 122 = .ok (.ifCond .lt 35, 3) := by decide +kernel
theorem dX9_copy_125 : decode cX9_copy 125 = .ok (.iload 4, 2) := by decide +kernel
theorem dX9_copy_127 : decode cX9_copy 127 = .ok (.ifCond .lt 30, 3) := by decide +kernel
theorem dX9_copy_130 : decode cX9_copy 130 = .ok (.iload_n 3, 1) := by decide +kernel
theorem dX9_copy_131 : decode cX9_copy 131 = .ok (.aload_n 0, 1) := by decide +kernel
theorem dX9_copy_132 : decode cX9_copy 132 = .ok (.getfield 56, 3) := by decide +kernel
theorem dX9_copy_135 : decode cX9_copy 135 = .ok (.iload_n 1, 1) := by decide +kernel
theorem dX9_copy_136 : decode cX9_copy 136 = .ok (.iaload, 1) := by decide +kernel
theorem dX9_copy_137 : decode cX9_copy 137 = .ok (.iload 5, 2) := by decide +kernel
theorem dX9_copy_139 : decode cX9_copy 139 = .ok (.isub, 1) := by decide +kernel
theorem dX9_copy_140 : decode cX9_copy 140 = .ok (.if_icmp .gt 17, 3) := by decide +kernel
theorem dX9_copy_143 : decode cX9_copy 143 = .ok (.iload 4, 2) := by decide +kernel
theorem dX9_copy_145 : decode cX9_copy 145 = .ok (.aload_n 0, 1) := by decide +kernel
theorem dX9_copy_146 : decode cX9_copy 146 = .ok (.getfield 56, 3) := by decide +kernel
theorem dX9_copy_149 : decode cX9_copy 149 = .ok (.iload_n 2, 1) := by decide +kernel
theorem dX9_copy_150 : decode cX9_copy 150 = .ok (.iaload, 1) := by decide +kernel
theorem dX9_copy_151 : decode cX9_copy 151 = .ok (.iload 5, 2) := by decide +kernel
theorem dX9_copy_153 : decode cX9_copy 153 = .ok (.isub, 1) := by decide +kernel
theorem dX9_copy_154 : decode cX9_copy 154 = .ok (.if_icmp .le 10, 3) := by decide +kernel
theorem dX9_copy_157 : decode cX9_copy 157 = .ok (.aload_n 0, 1) := by decide +kernel
theorem dX9_copy_158 : decode cX9_copy 158 = .ok (.bipush (-5), 2) := by decide +kernel
theorem dX9_copy_160 : decode cX9_copy 160 = .ok (.invokevirtual 100, 3) := by decide +kernel
theorem dX9_copy_163 : decode cX9_copy 163 = .ok (.ireturn, 1) := by decide +kernel
theorem dX9_copy_164 : decode cX9_copy 164 = .ok (.iconst 0, 1) := by decide +kernel
theorem dX9_copy_165 : decode cX9_copy 165 = .ok (.istore 6, 2) := by decide +kernel
theorem dX9_copy_167 : decode cX9_copy 167 = .ok (.iload 6, 2) := by decide +kernel
theorem dX9_copy_169 : decode cX9_copy 169 = .ok (.iload 5, 2) := by decide +kernel
theorem dX9_copy_171 : decode cX9_copy 171 = .ok (.if_icmp .ge 31, 3) := by decide +kernel
theorem dX9_copy_174 : decode cX9_copy 174 = .ok (.aload_n 0, 1) := by decide +kernel
theorem dX9_copy_175 : decode cX9_copy 175 = .ok (.getfield 66, 3) := by decide +kernel
theorem dX9_copy_178 : decode cX9_copy 178 = .ok (.iload 6, 2) := by decide +kernel
theorem dX9_copy_180 : decode cX9_copy 180 = .ok (.aload_n 0, 1) := by decide +kernel
theorem dX9_copy_181 : decode cX9_copy 181 = .ok (.getfield 62, 3) := by decide +kernel
theorem dX9_copy_184 : decode cX9_copy 184 = .ok (.sipush 160, 3) := by decide +kernel
theorem dX9_copy_187 : decode cX9_copy 187 = .ok (.iload_n 1, 1) := by decide +kernel
theorem dX9_copy_188 : decode cX9_copy 188 = .ok (.imul, 1) := by decide +kernel
theorem dX9_copy_189 : decode cX9_copy 189 = .ok (.iload_n 3, 1) := by decide +kernel
theorem dX9_copy_190 : decode cX9_copy 190 = .ok (.iadd, 1) := by decide +kernel
theorem dX9_copy_191 : decode cX9_copy 191 = .ok (.iload 6, 2) := by decide +kernel
theorem dX9_copy_193 : decode cX9_copy 193 = .ok (.iadd, 1) := by decide +kernel
theorem dX9_copy_194 : decode cX9_copy 194 = .ok (.laload, 1) := by decide +kernel
theorem dX9_copy_195 : decode cX9_copy 195 = .ok (.lastore, 1) := by decide +kernel
theorem dX9_copy_196 : decode cX9_copy 196 = .ok (.iinc 6 1, 3) := by decide +kernel
theorem dX9_copy_199 : decode cX9_copy 199 = .ok (.goto (-32), 3) := by decide +kernel
theorem dX9_copy_202 : decode cX9_copy 202 = .ok (.iconst 0, 1) := by decide +kernel
theorem dX9_copy_203 : decode cX9_copy 203 = .ok (.istore 6, 2) := by decide +kernel
theorem dX9_copy_205 : decode cX9_copy 205 = .ok (.iload 6, 2) := by decide +kernel
theorem dX9_copy_207 : decode cX9_copy 207 = .ok (.iload 5, 2) := by decide +kernel
theorem dX9_copy_209 : decode cX9_copy 209 = .ok (.if_icmp .ge 32, 3) := by decide +kernel
theorem dX9_copy_212 : decode cX9_copy 212 = .ok (.aload_n 0, 1) := by decide +kernel
theorem dX9_copy_213 : decode cX9_copy 213 = .ok (.getfield 62, 3) := by decide +kernel
theorem dX9_copy_216 : decode cX9_copy 216 = .ok (.sipush 160, 3) := by decide +kernel
theorem dX9_copy_219 : decode cX9_copy 219 = .ok (.iload_n 2, 1) := by decide +kernel
theorem dX9_copy_220 : decode cX9_copy 220 = .ok (.imul, 1) := by decide +kernel
theorem dX9_copy_221 : decode cX9_copy 221 = .ok (.iload 4, 2) := by decide +kernel
theorem dX9_copy_223 : decode cX9_copy 223 = .ok (.iadd, 1) := by decide +kernel
theorem dX9_copy_224 : decode cX9_copy 224 = .ok (.iload 6, 2) := by decide +kernel
theorem dX9_copy_226 : decode cX9_copy 226 = .ok (.iadd, 1) := by decide +kernel
theorem dX9_copy_227 : decode cX9_copy 227 = .ok (.aload_n 0, 1) := by decide +kernel
theorem dX9_copy_228 : decode cX9_copy 228 = .ok (.getfield 66, 3) := by decide +kernel
theorem dX9_copy_231 : decode cX9_copy 231 = .ok (.iload 6, 2) := by decide +kernel
theorem dX9_copy_233 : decode cX9_copy 233 = .ok (.laload, 1) := by decide +kernel
theorem dX9_copy_234 : decode cX9_copy 234 = .ok (.lastore, 1) := by decide +kernel
theorem dX9_copy_235 : decode cX9_copy 235 = .ok (.iinc 6 1, 3) := by decide +kernel
theorem dX9_copy_238 : decode cX9_copy 238 = .ok (.goto (-33), 3) := by decide +kernel
theorem dX9_copy_241 : decode cX9_copy 241 = .ok (.iconst 1, 1) := by decide +kernel
theorem dX9_copy_242 : decode cX9_copy 242 = .ok (.ireturn, 1) := by decide +kernel
theorem dX9_element_0 : decode cX9_element 0 = .ok (.aload_n 0, 1) := by decide +kernel
theorem dX9_element_1 : decode cX9_element 1 = .ok (.iload_n 1, 1) := by decide +kernel
theorem dX9_element_2 : decode cX9_element 2 = .ok (.invokevirtual 96, 3) := by decide +kernel
theorem dX9_element_5 : decode cX9_element 5 = .ok (.ifCond .eq 42, 3) := by decide +kernel
theorem dX9_element_8 : decode cX9_element 8 = .ok (.aload_n 0, 1) := by decide +kernel
theorem dX9_element_9 : decode cX9_element 9 = .ok (.getfield 50, 3) := by decide +kernel
theorem dX9_element_12 : decode cX9_element 12 = .ok (.iload_n 1, 1) := by decide +kernel
theorem dX9_element_13 : decode cX9_element 13 = .ok (.iaload, 1) := by decide +kernel
theorem dX9_element_14 : decode cX9_element 14 = .ok (.iconst 1, 1) := by decide +kernel
theorem dX9_element_15 : decode cX9_element 15 = .ok (.if_icmp .ne 32, 3) := by decide +kernel
theorem dX9_element_18 : decode cX9_element 18 = .ok (.iload_n 2, 1) := by decide +kernel
theorem dX9_element_19 : decode cX9_element 19 = .ok (.ifCond .lt 28, 3) := by decide +kernel
theorem dX9_element_22 : decode cX9_element 22 = .ok (.iload_n 2, 1) := by decide +kernel
theorem dX9_element_23 : decode cX9_element 23 = .ok (.aload_n 0, 1) := by decide +kernel
theorem dX9_element_24 : decode cX9_element 24 = .ok (.getfield 56, 3) := by decide +kernel
theorem dX9_element_27 : decode cX9_element 27 = .ok (.iload_n 1, 1) := by decide +kernel
theorem dX9_element_28 : decode cX9_element 28 = .ok (.iaload, 1) := by decide +kernel
theorem dX9_element_29 : decode cX9_element 29 = .ok (.if_icmp .ge 18, 3) := by decide +kernel
theorem dX9_element_32 : decode cX9_element 32 = .ok (.aload_n 0, 1) := by decide +kernel
theorem dX9_element_33 : decode cX9_element 33 = .ok (.getfield 62, 3) := by decide +kernel
theorem dX9_element_36 : decode cX9_element 36 = .ok (.sipush 160, 3) := by decide +kernel
theorem dX9_element_39 : decode cX9_element 39 = .ok (.iload_n 1, 1) := by decide +kernel
theorem dX9_element_40 : decode cX9_element 40 = .ok (.imul, 1) := by decide +kernel
theorem dX9_element_41 : decode cX9_element 41 = .ok (.iload_n 2, 1) := by decide +kernel
theorem dX9_element_42 : decode cX9_element 42 = .ok (.iadd, 1) := by decide +kernel
theorem dX9_element_43 : decode cX9_element 43 = .ok (.laload, 1) := by decide +kernel
theorem dX9_element_44 : decode cX9_element 44 = .ok (.goto 4, 3) := by decide +kernel
theorem dX9_element_47 : decode cX9_element 47 = .ok (.lconst 0, 1) := by decide +kernel
theorem dX9_element_48 : decode cX9_element 48 = .ok (.lreturn, 1) := by decide +kernel
theorem dX9_show_0 : decode cX9_show 0 = .ok (.aload_n 0, 1) := by decide +kernel
theorem dX9_show_1 : decode cX9_show 1 = .ok (.iload_n 1, 1) := by decide +kernel
theorem dX9_show_2 : decode cX9_show 2 = .ok (.invokevirtual 96, 3) := by decide +kernel
theorem dX9_show_5 : decode cX9_show 5 = .ok (.ifCond .eq 16, 3) := by decide +kernel
theorem dX9_show_8 : decode cX9_show 8 = .ok (.iload_n 2, 1) := by decide +kernel
theorem dX9_show_9 : decode cX9_show 9 = .ok (.iconst (-1), 1) := by decide +kernel
theorem dX9_show_10 : decode cX9_show 10 = .ok (.if_icmp .eq 17, 3) := by decide +kernel
theorem dX9_show_13 : decode cX9_show 13 = .ok (.aload_n 0, 1) := by decide +kernel
theorem dX9_show_14 : decode cX9_show 14 = .ok (.iload_n 2, 1) := by decide +kernel
theorem dX9_show_15 : decode cX9_show 15 = .ok (.invokevirtual 104, 3) := by decide +kernel
theorem dX9_show_18 : decode cX9_show 18 = .ok (.ifCond .ne 9, 3) := by decide +kernel
theorem dX9_show_21 : decode cX9_show 21 = .ok (.aload_n 0, 1) := by decide +kernel
theorem dX9_show_22 : decode cX9_show 22 = .ok (.iconst (-1), 1) := by decide +kernel
theorem dX9_show_23 : decode cX9_show 23 = .ok (.invokevirtual 100, 3) := by decide +kernel
theorem dX9_show_26 : decode cX9_show 26 = .ok (.ireturn, 1) := by decide +kernel
theorem dX9_show_27 : decode cX9_show 27 = .ok (.aload_n 0, 1) := by decide +kernel
theorem dX9_show_28 : decode cX9_show 28 = .ok (.getfield 50, 3) := by decide +kernel
theorem dX9_show_31 : decode cX9_show 31 = .ok (.iload_n 1, 1) := by decide +kernel
theorem dX9_show_32 : decode cX9_show 32 = .ok (.iload_n 2, 1) := by decide +kernel
theorem dX9_show_33 : decode cX9_show 33 = .ok (.iconst (-1), 1) := by decide +kernel
theorem dX9_show_34 : decode cX9_show 34 = .ok (.if_icmp .ne 7, 3) := by decide +kernel
theorem dX9_show_37 : decode cX9_show 37 = .ok (.iconst 0, 1) := by decide +kernel
theorem dX9_show_38 : decode cX9_show 38 = .ok (.goto 4, 3) := by decide +kernel
theorem dX9_show_41 : decode cX9_show 41 = .ok (.iconst 2, 1) := by decide +kernel
theorem dX9_show_42 : decode cX9_show 42 = .ok (.iastore, 1) := by decide +kernel
theorem dX9_show_43 : decode cX9_show 43 = .ok (.aload_n 0, 1) := by decide +kernel
theorem dX9_show_44 : decode cX9_show 44 = .ok (.getfield 59, 3) := by decide +kernel
theorem dX9_show_47 : decode cX9_show 47 = .ok (.iload_n 1, 1) := by decide +kernel
theorem dX9_show_48 : decode cX9_show 48 = .ok (.iload_n 2, 1) := by decide +kernel
theorem dX9_show_49 : decode cX9_show 49 = .ok (.iastore, 1) := by decide +kernel
theorem dX9_show_50 : decode cX9_show 50 = .ok (.iload_n 2, 1) := by decide +kernel
theorem dX9_show_51 : decode cX9_show 51 = .ok (.iconst (-1), 1) := by decide +kernel
theorem dX9_show_52 : decode cX9_show 52 = .ok (.if_icmp .ne 7, 3) := by decide +kernel
theorem dX9_show_55 : decode cX9_show 55 = .ok (.iconst 0, 1) := by decide +kernel
theorem dX9_show_56 : decode cX9_show 56 = .ok (.goto 4, 3) := by decide +kernel
theorem dX9_show_59 : decode cX9_show 59 = .ok (.iconst 1, 1) := by decide +kernel
theorem dX9_show_60 : decode cX9_show 60 = .ok (.ireturn, 1) := by decide +kernel
theorem dX9_holds_0 : decode cX9_holds 0 = .ok (.aload_n 0, 1) := by decide +kernel
theorem dX9_holds_1 : decode cX9_holds 1 = .ok (.iload_n 1, 1) := by decide +kernel
theorem dX9_holds_2 : decode cX9_holds 2 = .ok (.invokevirtual 96, 3) := by decide +kernel
theorem dX9_holds_5 : decode cX9_holds 5 = .ok (.ifCond .eq 12, 3) := by decide +kernel
theorem dX9_holds_8 : decode cX9_holds 8 = .ok (.aload_n 0, 1) := by decide +kernel
theorem dX9_holds_9 : decode cX9_holds 9 = .ok (.getfield 50, 3) := by decide +kernel
theorem dX9_holds_12 : decode cX9_holds 12 = .ok (.iload_n 1, 1) := by decide +kernel
theorem dX9_holds_13 : decode cX9_holds 13 = .ok (.iaload, 1) := by decide +kernel
theorem dX9_holds_14 : decode cX9_holds 14 = .ok (.ifCond .ne 5, 3) := by decide +kernel
theorem dX9_holds_17 : decode cX9_holds 17 = .ok (.iconst (-1), 1) := by decide +kernel
theorem dX9_holds_18 : decode cX9_holds 18 = .ok (.ireturn, 1) := by decide +kernel
theorem dX9_holds_19 : decode cX9_holds 19 = .ok (.aload_n 0, 1) := by decide +kernel
theorem dX9_holds_20 : decode cX9_holds 20 = .ok (.getfield 50, 3) := by decide +kernel
theorem dX9_holds_23 : decode cX9_holds 23 = .ok (.iload_n 1, 1) := by decide +kernel
theorem dX9_holds_24 : decode cX9_holds 24 = .ok (.iaload, 1) := by decide +kernel
theorem dX9_holds_25 : decode cX9_holds 25 = .ok (.iconst 1, 1) := by decide +kernel
theorem dX9_holds_26 : decode cX9_holds 26 = .ok (.if_icmp .ne 15, 3) := by decide +kernel
theorem dX9_holds_29 : decode cX9_holds 29 = .ok (.bipush 100, 2) := by decide +kernel
theorem dX9_holds_31 : decode cX9_holds 31 = .ok (.aload_n 0, 1) := by decide +kernel
theorem dX9_holds_32 : decode cX9_holds 32 = .ok (.getfield 53, 3) := by decide +kernel
theorem dX9_holds_35 : decode cX9_holds 35 = .ok (.iload_n 1, 1) := by decide +kernel
theorem dX9_holds_36 : decode cX9_holds 36 = .ok (.iaload, 1) := by decide +kernel
theorem dX9_holds_37 : decode cX9_holds 37 = .ok (.iadd, 1) := by decide +kernel
theorem dX9_holds_38 : decode cX9_holds 38 = .ok (.goto 9, 3) := by decide +kernel
theorem dX9_holds_41 : decode cX9_holds 41 = .ok (.aload_n 0, 1) := by decide +kernel
theorem dX9_holds_42 : decode cX9_holds 42 = .ok (.getfield 59, 3) := by decide +kernel
theorem dX9_holds_45 : decode cX9_holds 45 = .ok (.iload_n 1, 1) := by decide +kernel
theorem dX9_holds_46 : decode cX9_holds 46 = .ok (.iaload, 1) := by decide +kernel
theorem dX9_holds_47 : decode cX9_holds 47 = .ok (.ireturn, 1) := by decide +kernel
theorem dX9_says_0 : decode cX9_says 0 = .ok (.aload_n 0, 1) := by decide +kernel
theorem dX9_says_1 : decode cX9_says 1 = .ok (.iload_n 1, 1) := by decide +kernel
theorem dX9_says_2 : decode cX9_says 2 = .ok (.invokevirtual 96, 3) := by decide +kernel
theorem dX9_says_5 : decode cX9_says 5 = .ok (.ifCond .eq 13, 3) := by decide +kernel
theorem dX9_says_8 : decode cX9_says 8 = .ok (.iload_n 2, 1) := by decide +kernel
theorem dX9_says_9 : decode cX9_says 9 = .ok (.ifCond .lt 9, 3) := by decide +kernel
theorem dX9_says_12 : decode cX9_says 12 = .ok (.iload_n 2, 1) := by decide +kernel
theorem dX9_says_13 : decode cX9_says 13 = .ok (.bipush 6, 2) := by decide +kernel
theorem dX9_says_15 : decode cX9_says 15 = .ok (.if_icmp .le 9, 3) := by decide +kernel
theorem dX9_says_18 : decode cX9_says 18 = .ok (.aload_n 0, 1) := by decide +kernel
theorem dX9_says_19 : decode cX9_says 19 = .ok (.iconst (-1), 1) := by decide +kernel
theorem dX9_says_20 : decode cX9_says 20 = .ok (.invokevirtual 100, 3) := by decide +kernel
theorem dX9_says_23 : decode cX9_says 23 = .ok (.ireturn, 1) := by decide +kernel
theorem dX9_says_24 : decode cX9_says 24 = .ok (.aload_n 0, 1) := by decide +kernel
theorem dX9_says_25 : decode cX9_says 25 = .ok (.getfield 50, 3) := by decide +kernel
theorem dX9_says_28 : decode cX9_says 28 = .ok (.iload_n 1, 1) := by decide +kernel
theorem dX9_says_29 : decode cX9_says 29 = .ok (.iaload, 1) := by decide +kernel
theorem dX9_says_30 : decode cX9_says 30 = .ok (.iconst 1, 1) := by decide +kernel
theorem dX9_says_31 : decode cX9_says 31 = .ok (.if_icmp .ne 10, 3) := by decide +kernel
theorem dX9_says_34 : decode cX9_says 34 = .ok (.aload_n 0, 1) := by decide +kernel
theorem dX9_says_35 : decode cX9_says 35 = .ok (.bipush (-2), 2) := by decide +kernel
theorem dX9_says_37 : decode cX9_says 37 = .ok (.invokevirtual 100, 3) := by decide +kernel
theorem dX9_says_40 : decode cX9_says 40 = .ok (.ireturn, 1) := by decide +kernel
theorem dX9_says_41 : decode cX9_says 41 = .ok (.aload_n 0, 1) := by decide +kernel
theorem dX9_says_42 : decode cX9_says 42 = .ok (.getfield 50, 3) := by decide +kernel
theorem dX9_says_45 : decode cX9_says 45 = .ok (.iload_n 1, 1) := by decide +kernel
theorem dX9_says_46 : decode cX9_says 46 = .ok (.iaload, 1) := by decide +kernel
theorem dX9_says_47 : decode cX9_says 47 = .ok (.ifCond .ne 10, 3) := by decide +kernel
theorem dX9_says_50 : decode cX9_says 50 = .ok (.aload_n 0, 1) := by decide +kernel
theorem dX9_says_51 : decode cX9_says 51 = .ok (.bipush (-3), 2) := by decide +kernel
theorem dX9_says_53 : decode cX9_says 53 = .ok (.invokevirtual 100, 3) := by decide +kernel
theorem dX9_says_56 : decode cX9_says 56 = .ok (.ireturn, 1) := by decide +kernel
theorem dX9_says_57 : decode cX9_says 57 = .ok (.aload_n 0, 1) := by decide +kernel
theorem dX9_says_58 : decode cX9_says 58 = .ok (.getfield 59, 3) := by decide +kernel
theorem dX9_says_61 : decode cX9_says 61 = .ok (.iload_n 1, 1) := by decide +kernel
theorem dX9_says_62 : decode cX9_says 62 = .ok (.iaload, 1) := by decide +kernel
theorem dX9_says_63 : decode cX9_says 63 = .ok (.istore_n 3, 1) := by decide +kernel
theorem dX9_says_64 : decode cX9_says 64 = .ok (.aload_n 0, 1) := by decide +kernel
theorem dX9_says_65 : decode cX9_says 65 = .ok (.getfield 32, 3) := by decide +kernel
theorem dX9_says_68 : decode cX9_says 68 = .ok (.iload_n 3, 1) := by decide +kernel
theorem dX9_says_69 : decode cX9_says 69 = .ok (.iaload, 1) := by decide +kernel
theorem dX9_says_70 : decode cX9_says 70 = .ok (.istore 4, 2) := by decide +kernel
theorem dX9_says_72 : decode cX9_says 72 = .ok (.iload_n 2, 1) := by decide +kernel
theorem dX9_says_73 : decode cX9_says 73 = .ok (.iconst 1, 1) := by decide +kernel
theorem dX9_says_74 : decode cX9_says 74 = .ok (.if_icmp .ne 9, 3) := by decide +kernel
theorem dX9_says_77 : decode cX9_says 77 = .ok (.iload 4, 2) := by decide +kernel
theorem dX9_says_79 : decode cX9_says 79 = .ok (.iconst 5, 1) := by decide +kernel
theorem dX9_says_80 : decode cX9_says 80 = .ok (.if_icmp .eq 26, 3) := by decide +kernel
theorem dX9_says_83 : decode cX9_says 83 = .ok (.iload_n 2, 1) := by decide +kernel
theorem dX9_says_84 : decode cX9_says 84 = .ok (.iconst 2, 1) := by decide +kernel
theorem dX9_says_85 : decode cX9_says 85 = .ok (.if_icmp .ne 9, 3) := by decide +kernel
theorem dX9_says_88 : decode cX9_says 88 = .ok (.iload 4, 2) := by decide +kernel
theorem dX9_says_90 : decode cX9_says 90 = .ok (.iconst 3, 1) := by decide +kernel
theorem dX9_says_91 : decode cX9_says 91 = .ok (.if_icmp .eq 15, 3) := by decide +kernel
theorem dX9_says_94 : decode cX9_says 94 = .ok (.iload_n 2, 1) := by decide +kernel
theorem dX9_says_95 : decode cX9_says 95 = .ok (.iconst 4, 1) := by decide +kernel
theorem dX9_says_96 : decode cX9_says 96 = .ok (.if_icmp .ne 14, 3) := by decide +kernel
theorem dX9_says_99 : decode cX9_says 99 = .ok (.iload 4, 2) := by decide +kernel
theorem dX9_says_101 : decode cX9_says 101 = .ok (.bipush 6, 2) := by decide +kernel
theorem dX9_says_103 : decode cX9_says 103 = .ok (.if_icmp .ne 7, 3) := by decide +kernel
theorem dX9_says_106 : decode cX9_says 106 = .ok (.iconst 1, 1) := by decide +kernel
theorem dX9_says_107 : decode cX9_says 107 = .ok (.goto 4, 3) := by decide +kernel
theorem dX9_says_110 : decode cX9_says 110 = .ok (.iconst 0, 1) := by decide +kernel
theorem dX9_says_111 : decode cX9_says 111 = .ok (.istore 5, 2) := by decide +kernel
theorem dX9_says_113 : decode cX9_says 113 = .ok (.iload_n 2, 1) := by decide +kernel
theorem dX9_says_114 : decode cX9_says 114 = .ok (.ifCond .eq 21, 3) := by decide +kernel
theorem dX9_says_117 : decode cX9_says 117 = .ok (.iload_n 2, 1) := by decide +kernel
theorem dX9_says_118 : decode cX9_says 118 = .ok (.iload 4, 2) := by decide +kernel
theorem dX9_says_120 : decode cX9_says 120 = .ok (.if_icmp .eq 15, 3) := by decide +kernel
theorem dX9_says_123 : decode cX9_says 123 = .ok (.iload 5, 2) := by decide +kernel
theorem dX9_says_125 : decode cX9_says 125 = .ok (.ifCond .ne 10, 3) := by decide +kernel
theorem dX9_says_128 : decode cX9_says 128 = .ok (.aload_n 0, 1) := by decide +kernel
theorem dX9_says_129 : decode cX9_says 129 = .ok (.bipush (-2), 2) := by decide +kernel
theorem dX9_says_131 : decode cX9_says 131 = .ok (.invokevirtual 100, 3) := by decide +kernel
theorem dX9_says_134 : decode cX9_says 134 = .ok (.ireturn, 1) := by decide +kernel
theorem dX9_says_135 : decode cX9_says 135 = .ok (.iload_n 2, 1) := by decide +kernel
theorem dX9_says_136 : decode cX9_says 136 = .ok (.tableswitch 86 0 6 #[44, 51, 86, 86, 70, 51, 77], 44) := by decide +kernel
theorem dX9_says_180 : decode cX9_says 180 = .ok (.aload_n 0, 1) := by decide +kernel
theorem dX9_says_181 : decode cX9_says 181 = .ok (.getfield 38, 3) := by decide +kernel
theorem dX9_says_184 : decode cX9_says 184 = .ok (.iload_n 3, 1) := by decide +kernel
theorem dX9_says_185 : decode cX9_says 185 = .ok (.iaload, 1) := by decide +kernel
theorem dX9_says_186 : decode cX9_says 186 = .ok (.ireturn, 1) := by decide +kernel
theorem dX9_says_187 : decode cX9_says 187 = .ok (.aload_n 0, 1) := by decide +kernel
theorem dX9_says_188 : decode cX9_says 188 = .ok (.getfield 38, 3) := by decide +kernel
theorem dX9_says_191 : decode cX9_says 191 = .ok (.iload_n 3, 1) := by decide +kernel
theorem dX9_says_192 : decode cX9_says 192 = .ok (.iaload, 1) := by decide +kernel
theorem dX9_says_193 : decode cX9_says 193 = .ok (.aload_n 0, 1) := by decide +kernel
theorem dX9_says_194 : decode cX9_says 194 = .ok (.getfield 38, 3) := by decide +kernel
theorem dX9_says_197 : decode cX9_says 197 = .ok (.iload_n 3, 1) := by decide +kernel
theorem dX9_says_198 : decode cX9_says 198 = .ok (.iaload, 1) := by decide +kernel
theorem dX9_says_199 : decode cX9_says 199 = .ok (.aload_n 0, 1) := by decide +kernel
theorem dX9_says_200 : decode cX9_says 200 = .ok (.getfield 13, 3) := by decide +kernel
theorem dX9_says_203 : decode cX9_says 203 = .ok (.irem, 1) := by decide +kernel
theorem dX9_says_204 : decode cX9_says 204 = .ok (.isub, 1) := by decide +kernel
theorem dX9_says_205 : decode cX9_says 205 = .ok (.ireturn, 1) := by decide +kernel
theorem dX9_says_206 : decode cX9_says 206 = .ok (.aload_n 0, 1) := by decide +kernel
theorem dX9_says_207 : decode cX9_says 207 = .ok (.getfield 44, 3) := by decide +kernel
theorem dX9_says_210 : decode cX9_says 210 = .ok (.iload_n 3, 1) := by decide +kernel
theorem dX9_says_211 : decode cX9_says 211 = .ok (.iaload, 1) := by decide +kernel
theorem dX9_says_212 : decode cX9_says 212 = .ok (.ireturn, 1) := by decide +kernel
theorem dX9_says_213 : decode cX9_says 213 = .ok (.aload_n 0, 1) := by decide +kernel
theorem dX9_says_214 : decode cX9_says 214 = .ok (.getfield 38, 3) := by decide +kernel
theorem dX9_says_217 : decode cX9_says 217 = .ok (.iload_n 3, 1) := by decide +kernel
theorem dX9_says_218 : decode cX9_says 218 = .ok (.iaload, 1) := by decide +kernel
theorem dX9_says_219 : decode cX9_says 219 = .ok (.iconst 2, 1) := by decide +kernel
theorem dX9_says_220 : decode cX9_says 220 = .ok (.idiv, 1) := by decide +kernel
theorem dX9_says_221 : decode cX9_says 221 = .ok (.ireturn, 1) := by decide +kernel
theorem dX9_says_222 : decode cX9_says 222 = .ok (.aload_n 0, 1) := by decide +kernel
theorem dX9_says_223 : decode cX9_says 223 = .ok (.getfield 38, 3) := by decide +kernel
theorem dX9_says_226 : decode cX9_says 226 = .ok (.iload_n 3, 1) := by decide +kernel
theorem dX9_says_227 : decode cX9_says 227 = .ok (.iaload, 1) := by decide +kernel
theorem dX9_says_228 : decode cX9_says 228 = .ok (.aload_n 0, 1) := by decide +kernel
theorem dX9_says_229 : decode cX9_says 229 = .ok (.getfield 41, 3) := by decide +kernel
theorem dX9_says_232 : decode cX9_says 232 = .ok (.iload_n 3, 1) := by decide +kernel
theorem dX9_says_233 : decode cX9_says 233 = .ok (.iaload, 1) := by decide +kernel
theorem dX9_says_234 : decode cX9_says 234 = .ok (.iadd, 1) := by decide +kernel
theorem dX9_says_235 : decode cX9_says 235 = .ok (.ireturn, 1) := by decide +kernel
theorem dX9_wanted_0 : decode cX9_wanted 0 = .ok (.aload_n 0, 1) := by decide +kernel
theorem dX9_wanted_1 : decode cX9_wanted 1 = .ok (.iload_n 1, 1) := by decide +kernel
theorem dX9_wanted_2 : decode cX9_wanted 2 = .ok (.invokevirtual 96, 3) := by decide +kernel
theorem dX9_wanted_5 : decode cX9_wanted 5 = .ok (.ifCond .ne 7, 3) := by decide +kernel
theorem dX9_wanted_8 : decode cX9_wanted 8 = .ok (.iconst (-1), 1) := by decide +kernel
theorem dX9_wanted_9 : decode cX9_wanted 9 = .ok (.goto 33, 3) := by decide +kernel
theorem dX9_wanted_12 : decode cX9_wanted 12 = .ok (.aload_n 0, 1) := by decide +kernel
theorem dX9_wanted_13 : decode cX9_wanted 13 = .ok (.getfield 50, 3) := by decide +kernel
theorem dX9_wanted_16 : decode cX9_wanted 16 = .ok (.iload_n 1, 1) := by decide +kernel
theorem dX9_wanted_17 : decode cX9_wanted 17 = .ok (.iaload, 1) := by decide +kernel
theorem dX9_wanted_18 : decode cX9_wanted 18 = .ok (.iconst 2, 1) := by decide +kernel
theorem dX9_wanted_19 : decode cX9_wanted 19 = .ok (.if_icmp .ne 8, 3) := by decide +kernel
theorem dX9_wanted_22 : decode cX9_wanted 22 = .ok (.bipush (-2), 2) := by decide +kernel
theorem dX9_wanted_24 : decode cX9_wanted 24 = .ok (.goto 18, 3) := by decide +kernel
theorem dX9_wanted_27 : decode cX9_wanted 27 = .ok (.aload_n 0, 1) := by decide +kernel
theorem dX9_wanted_28 : decode cX9_wanted 28 = .ok (.getfield 50, 3) := by decide +kernel
theorem dX9_wanted_31 : decode cX9_wanted 31 = .ok (.iload_n 1, 1) := by decide +kernel
theorem dX9_wanted_32 : decode cX9_wanted 32 = .ok (.iaload, 1) := by decide +kernel
theorem dX9_wanted_33 : decode cX9_wanted 33 = .ok (.ifCond .ne 8, 3) := by decide +kernel
theorem dX9_wanted_36 : decode cX9_wanted 36 = .ok (.bipush (-3), 2) := by decide +kernel
theorem dX9_wanted_38 : decode cX9_wanted 38 = .ok (.goto 4, 3) := by decide +kernel
theorem dX9_wanted_41 : decode cX9_wanted 41 = .ok (.iconst 0, 1) := by decide +kernel
theorem dX9_wanted_42 : decode cX9_wanted 42 = .ok (.ireturn, 1) := by decide +kernel
theorem dX9_intAt_0 : decode cX9_intAt 0 = .ok (.aload_n 0, 1) := by decide +kernel
theorem dX9_intAt_1 : decode cX9_intAt 1 = .ok (.getfield 62, 3) := by decide +kernel
theorem dX9_intAt_4 : decode cX9_intAt 4 = .ok (.sipush 160, 3) := by decide +kernel
theorem dX9_intAt_7 : decode cX9_intAt 7 = .ok (.iload_n 1, 1) := by decide +kernel
theorem dX9_intAt_8 : decode cX9_intAt 8 = .ok (.imul, 1) := by decide +kernel
theorem dX9_intAt_9 : decode cX9_intAt 9 = .ok (.iload_n 2, 1) := by decide +kernel
theorem dX9_intAt_10 : decode cX9_intAt 10 = .ok (.iadd, 1) := by decide +kernel
theorem dX9_intAt_11 : decode cX9_intAt 11 = .ok (.laload, 1) := by decide +kernel
theorem dX9_intAt_12 : decode cX9_intAt 12 = .ok (.l2i, 1) := by decide +kernel
theorem dX9_intAt_13 : decode cX9_intAt 13 = .ok (.ireturn, 1) := by decide +kernel
theorem dX9_bars_0 : decode cX9_bars 0 = .ok (.aload_n 0, 1) := by decide +kernel
theorem dX9_bars_1 : decode cX9_bars 1 = .ok (.iload_n 1, 1) := by decide +kernel
theorem dX9_bars_2 : decode cX9_bars 2 = .ok (.invokevirtual 107, 3) := by decide +kernel
theorem dX9_bars_5 : decode cX9_bars 5 = .ok (.istore_n 3, 1) := by decide +kernel
theorem dX9_bars_6 : decode cX9_bars 6 = .ok (.iload_n 3, 1) := by decide +kernel
theorem dX9_bars_7 : decode cX9_bars 7 = .ok (.ifCond .eq 5, 3) := by decide +kernel
theorem dX9_bars_10 : decode cX9_bars 10 = .ok (.iload_n 3, 1) := by decide +kernel
theorem dX9_bars_11 : decode cX9_bars 11 = .ok (.ireturn, 1) := by decide +kernel
theorem dX9_bars_12 : decode cX9_bars 12 = .ok (.iload_n 2, 1) := by decide +kernel
theorem dX9_bars_13 : decode cX9_bars 13 = .ok (.ifCond .ge 8, 3) := by decide +kernel
theorem dX9_bars_16 : decode cX9_bars 16 = .ok (.bipush (-4), 2) := by decide +kernel
theorem dX9_bars_18 : decode cX9_bars 18 = .ok (.goto 19, 3) := by decide +kernel
theorem dX9_bars_21 : decode cX9_bars 21 = .ok (.iload_n 2, 1) := by decide +kernel
theorem dX9_bars_22 : decode cX9_bars 22 = .ok (.aload_n 0, 1) := by decide +kernel
theorem dX9_bars_23 : decode cX9_bars 23 = .ok (.getfield 56, 3) := by decide +kernel
theorem dX9_bars_26 : decode cX9_bars 26 = .ok (.iload_n 1, 1) := by decide +kernel
theorem dX9_bars_27 : decode cX9_bars 27 = .ok (.iaload, 1) := by decide +kernel
theorem dX9_bars_28 : decode cX9_bars 28 = .ok (.if_icmp .le 8, 3) := by decide +kernel
theorem dX9_bars_31 : decode cX9_bars 31 = .ok (.bipush (-5), 2) := by decide +kernel
theorem dX9_bars_33 : decode cX9_bars 33 = .ok (.goto 4, 3) := by decide +kernel
theorem dX9_bars_36 : decode cX9_bars 36 = .ok (.iconst 0, 1) := by decide +kernel
theorem dX9_bars_37 : decode cX9_bars 37 = .ok (.ireturn, 1) := by decide +kernel
theorem dX9_areSeconds_0 : decode cX9_areSeconds 0 = .ok (.iconst 0, 1) := by decide +kernel
