theorem dX6_init_49 : decode cX6_init 49 = .ok (.new 33, 3) := by decide +kernel
theorem dX6_init_52 : decode cX6_init 52 = .ok (.dup, 1) := by decide +kernel
theorem dX6_init_53 : decode cX6_init 53 = .ok (.aload_n 0, 1) := by decide +kernel
theorem dX6_init_54 : decode cX6_init 54 = .ok (.getfield 12, 3) := by decide +kernel
theorem dX6_init_57 : decode cX6_init 57 = .ok (.invokespecial 35, 3) := by decide +kernel
theorem dX6_init_60 : decode cX6_init 60 = .ok (.putfield 38, 3) := by decide +kernel
theorem dX6_init_63 : decode cX6_init 63 = .ok (.aload_n 0, 1) := by decide +kernel
theorem dX6_init_64 : decode cX6_init 64 = .ok (.new 42, 3) := by decide +kernel
theorem dX6_init_67 : decode cX6_init 67 = .ok (.dup, 1) := by decide +kernel
theorem dX6_init_68 : decode cX6_init 68 = .ok (.invokespecial 44, 3) := by decide +kernel
theorem dX6_init_71 : decode cX6_init 71 = .ok (.putfield 45, 3) := by decide +kernel
theorem dX6_init_74 : decode cX6_init 74 = .ok (.aload_n 0, 1) := by decide +kernel
theorem dX6_init_75 : decode cX6_init 75 = .ok (.new 49, 3) := by decide +kernel
theorem dX6_init_78 : decode cX6_init 78 = .ok (.dup, 1) := by decide +kernel
theorem dX6_init_79 : decode cX6_init 79 = .ok (.invokespecial 51, 3) := by decide +kernel
theorem dX6_init_82 : decode cX6_init 82 = .ok (.putfield 52, 3) := by decide +kernel
theorem dX6_init_85 : decode cX6_init 85 = .ok (.return_, 1) := by decide +kernel
theorem dX6_flow_0 : decode cX6_flow 0 = .ok (.iload_n 1, 1) := by decide +kernel
theorem dX6_flow_1 : decode cX6_flow 1 = .ok (.iconst 2, 1) := by decide +kernel
theorem dX6_flow_2 : decode cX6_flow 2 = .ok (.if_icmp .lt 9, 3) := by decide +kernel
theorem dX6_flow_5 : decode cX6_flow 5 = .ok (.iload_n 1, 1) := by decide +kernel
theorem dX6_flow_6 : decode cX6_flow 6 = .ok (.bipush 12, 2) := by decide +kernel
theorem dX6_flow_8 : decode cX6_flow 8 = .ok (.if_icmp .le 5, 3) := by decide +kernel
theorem dX6_flow_11 : decode cX6_flow 11 = .ok (.iconst 0, 1) := by decide +kernel
theorem dX6_flow_12 : decode cX6_flow 12 = .ok (.ireturn, 1) := by decide +kernel
theorem dX6_flow_13 : decode cX6_flow 13 = .ok (.aload_n 0, 1) := by decide +kernel
theorem dX6_flow_14 : decode cX6_flow 14 = .ok (.getfield 12, 3) := by decide +kernel
theorem dX6_flow_17 : decode cX6_flow 17 = .ok (.iload_n 1, 1) := by decide +kernel
theorem dX6_flow_18 : decode cX6_flow 18 = .ok (.invokevirtual 56, 3) := by decide +kernel
theorem dX6_flow_21 : decode cX6_flow 21 = .ok (.aload_n 0, 1) := by decide +kernel
theorem dX6_flow_22 : decode cX6_flow 22 = .ok (.getfield 52, 3) := by decide +kernel
theorem dX6_flow_25 : decode cX6_flow 25 = .ok (.invokevirtual 60, 3) := by decide +kernel
theorem dX6_flow_28 : decode cX6_flow 28 = .ok (.aload_n 0, 1) := by decide +kernel
theorem dX6_flow_29 : decode cX6_flow 29 = .ok (.invokevirtual 63, 3) := by decide +kernel
theorem dX6_flow_32 : decode cX6_flow 32 = .ok (.iconst 1, 1) := by decide +kernel
theorem dX6_flow_33 : decode cX6_flow 33 = .ok (.ireturn, 1) := by decide +kernel
theorem dX6_step_0 : decode cX6_step 0 = .ok (.aload_n 0, 1) := by decide +kernel
theorem dX6_step_1 : decode cX6_step 1 = .ok (.getfield 12, 3) := by decide +kernel
theorem dX6_step_4 : decode cX6_step 4 = .ok (.iload_n 1, 1) := by decide +kernel
theorem dX6_step_5 : decode cX6_step 5 = .ok (.invokevirtual 66, 3) := by decide +kernel
theorem dX6_step_8 : decode cX6_step 8 = .ok (.ifCond .eq 23, 3) := by decide +kernel
theorem dX6_step_11 : decode cX6_step 11 = .ok (.aload_n 0, 1) := by decide +kernel
theorem dX6_step_12 : decode cX6_step 12 = .ok (.getfield 12, 3) := by decide +kernel
theorem dX6_step_15 : decode cX6_step 15 = .ok (.iload_n 2, 1) := by decide +kernel
theorem dX6_step_16 : decode cX6_step 16 = .ok (.invokevirtual 66, 3) := by decide +kernel
theorem dX6_step_19 : decode cX6_step 19 = .ok (.ifCond .eq 12, 3) := by decide +kernel
theorem dX6_step_22 : decode cX6_step 22 = .ok (.iload_n 2, 1) := by decide +kernel
theorem dX6_step_23 : decode cX6_step 23 = .ok (.iload_n 1, 1) := by decide +kernel
theorem dX6_step_24 : decode cX6_step 24 = .ok (.if_icmp .le 7, 3) := by decide +kernel
theorem dX6_step_27 : decode cX6_step 27 = .ok (.iconst 1, 1) := by decide +kernel
theorem dX6_step_28 : decode cX6_step 28 = .ok (.goto 4, 3) := by decide +kernel
theorem dX6_step_31 : decode cX6_step 31 = .ok (.iconst 0, 1) := by decide +kernel
theorem dX6_step_32 : decode cX6_step 32 = .ok (.istore 4, 2) := by decide +kernel
theorem dX6_step_34 : decode cX6_step 34 = .ok (.iload 4, 2) := by decide +kernel
theorem dX6_step_36 : decode cX6_step 36 = .ok (.ifCond .eq 22, 3) := by decide +kernel
theorem dX6_step_39 : decode cX6_step 39 = .ok (.iload_n 3, 1) := by decide +kernel
theorem dX6_step_40 : decode cX6_step 40 = .ok (.invokestatic 70, 3) := by decide +kernel
theorem dX6_step_43 : decode cX6_step 43 = .ok (.ifCond .eq 15, 3) := by decide +kernel
theorem dX6_step_46 : decode cX6_step 46 = .ok (.aload_n 0, 1) := by decide +kernel
theorem dX6_step_47 : decode cX6_step 47 = .ok (.getfield 12, 3) := by decide +kernel
theorem dX6_step_50 : decode cX6_step 50 = .ok (.getfield 73, 3) := by decide +kernel
theorem dX6_step_53 : decode cX6_step 53 = .ok (.bipush 16, 2) := by decide +kernel
theorem dX6_step_55 : decode cX6_step 55 = .ok (.if_icmp .lt 5, 3) := by decide +kernel
theorem dX6_step_58 : decode cX6_step 58 = .ok (.iconst (-1), 1) := by decide +kernel
theorem dX6_step_59 : decode cX6_step 59 = .ok (.ireturn, 1) := by decide +kernel
theorem dX6_step_60 : decode cX6_step 60 = .ok (.aload_n 0, 1) := by decide +kernel
theorem dX6_step_61 : decode cX6_step 61 = .ok (.invokevirtual 63, 3) := by decide +kernel
theorem dX6_step_64 : decode cX6_step 64 = .ok (.aload_n 0, 1) := by decide +kernel
theorem dX6_step_65 : decode cX6_step 65 = .ok (.getfield 12, 3) := by decide +kernel
theorem dX6_step_68 : decode cX6_step 68 = .ok (.iload_n 1, 1) := by decide +kernel
theorem dX6_step_69 : decode cX6_step 69 = .ok (.iload_n 2, 1) := by decide +kernel
theorem dX6_step_70 : decode cX6_step 70 = .ok (.iload_n 3, 1) := by decide +kernel
theorem dX6_step_71 : decode cX6_step 71 = .ok (.invokevirtual 77, 3) := by decide +kernel
theorem dX6_step_74 : decode cX6_step 74 = .ok (.ireturn, 1) := by decide +kernel
theorem dX6_counted_0 : decode cX6_counted 0 = .ok (.aload_n 0, 1) := by decide +kernel
theorem dX6_counted_1 : decode cX6_counted 1 = .ok (.getfield 12, 3) := by decide +kernel
theorem dX6_counted_4 : decode cX6_counted 4 = .ok (.iload_n 1, 1) := by decide +kernel
theorem dX6_counted_5 : decode cX6_counted 5 = .ok (.invokevirtual 81, 3) := by decide +kernel
theorem dX6_counted_8 : decode cX6_counted 8 = .ok (.ifCond .eq 10, 3) := by decide +kernel
theorem dX6_counted_11 : decode cX6_counted 11 = .ok (.iload_n 2, 1) := by decide +kernel
theorem dX6_counted_12 : decode cX6_counted 12 = .ok (.invokestatic 70, 3) := by decide +kernel
theorem dX6_counted_15 : decode cX6_counted 15 = .ok (.ifCond .ne 5, 3) := by decide +kernel
theorem dX6_counted_18 : decode cX6_counted 18 = .ok (.iconst 0, 1) := by decide +kernel
theorem dX6_counted_19 : decode cX6_counted 19 = .ok (.ireturn, 1) := by decide +kernel
theorem dX6_counted_20 : decode cX6_counted 20 = .ok (.aload_n 0, 1) := by decide +kernel
theorem dX6_counted_21 : decode cX6_counted 21 = .ok (.getfield 12, 3) := by decide +kernel
theorem dX6_counted_24 : decode cX6_counted 24 = .ok (.getfield 84, 3) := by decide +kernel
theorem dX6_counted_27 : decode cX6_counted 27 = .ok (.iload_n 1, 1) := by decide +kernel
theorem dX6_counted_28 : decode cX6_counted 28 = .ok (.iload_n 2, 1) := by decide +kernel
theorem dX6_counted_29 : decode cX6_counted 29 = .ok (.iastore, 1) := by decide +kernel
theorem dX6_counted_30 : decode cX6_counted 30 = .ok (.iconst 1, 1) := by decide +kernel
theorem dX6_counted_31 : decode cX6_counted 31 = .ok (.ireturn, 1) := by decide +kernel
theorem dX6_line_0 : decode cX6_line 0 = .ok (.aload_n 0, 1) := by decide +kernel
theorem dX6_line_1 : decode cX6_line 1 = .ok (.getfield 12, 3) := by decide +kernel
theorem dX6_line_4 : decode cX6_line 4 = .ok (.iload_n 1, 1) := by decide +kernel
theorem dX6_line_5 : decode cX6_line 5 = .ok (.invokevirtual 81, 3) := by decide +kernel
theorem dX6_line_8 : decode cX6_line 8 = .ok (.ifCond .eq 18, 3) := by decide +kernel
theorem dX6_line_11 : decode cX6_line 11 = .ok (.aload_n 0, 1) := by decide +kernel
theorem dX6_line_12 : decode cX6_line 12 = .ok (.getfield 12, 3) := by decide +kernel
theorem dX6_line_15 : decode cX6_line 15 = .ok (.getfield 88, 3) := by decide +kernel
theorem dX6_line_18 : decode cX6_line 18 = .ok (.iload_n 1, 1) := by decide +kernel
theorem dX6_line_19 : decode cX6_line 19 = .ok (.invokestatic 91, 3) := by decide +kernel
theorem dX6_line_22 : decode cX6_line 22 = .ok (.iload_n 2, 1) := by decide +kernel
theorem dX6_line_23 : decode cX6_line 23 = .ok (.if_icmp .ne 5, 3) := by decide +kernel
theorem dX6_line_26 : decode cX6_line 26 = .ok (.iconst 0, 1) := by decide +kernel
theorem dX6_line_27 : decode cX6_line 27 = .ok (.ireturn, 1) := by decide +kernel
theorem dX6_line_28 : decode cX6_line 28 = .ok (.aload_n 0, 1) := by decide +kernel
theorem dX6_line_29 : decode cX6_line 29 = .ok (.getfield 12, 3) := by decide +kernel
theorem dX6_line_32 : decode cX6_line 32 = .ok (.dup, 1) := by decide +kernel
theorem dX6_line_33 : decode cX6_line 33 = .ok (.getfield 88, 3) := by decide +kernel
theorem dX6_line_36 : decode cX6_line 36 = .ok (.iconst 1, 1) := by decide +kernel
theorem dX6_line_37 : decode cX6_line 37 = .ok (.iload_n 1, 1) := by decide +kernel
theorem dX6_line_38 : decode cX6_line 38 = .ok (.ishl, 1) := by decide +kernel
theorem dX6_line_39 : decode cX6_line 39 = .ok (.ixor, 1) := by decide +kernel
theorem dX6_line_40 : decode cX6_line 40 = .ok (.putfield 88, 3) := by decide +kernel
theorem dX6_line_43 : decode cX6_line 43 = .ok (.iconst 1, 1) := by decide +kernel
theorem dX6_line_44 : decode cX6_line 44 = .ok (.ireturn, 1) := by decide +kernel
theorem dX6_fault_0 : decode cX6_fault 0 = .ok (.aload_n 0, 1) := by decide +kernel
theorem dX6_fault_1 : decode cX6_fault 1 = .ok (.getfield 12, 3) := by decide +kernel
theorem dX6_fault_4 : decode cX6_fault 4 = .ok (.iload_n 1, 1) := by decide +kernel
theorem dX6_fault_5 : decode cX6_fault 5 = .ok (.invokevirtual 66, 3) := by decide +kernel
theorem dX6_fault_8 : decode cX6_fault 8 = .ok (.ifCond .eq 18, 3) := by decide +kernel
theorem dX6_fault_11 : decode cX6_fault 11 = .ok (.aload_n 0, 1) := by decide +kernel
theorem dX6_fault_12 : decode cX6_fault 12 = .ok (.getfield 12, 3) := by decide +kernel
theorem dX6_fault_15 : decode cX6_fault 15 = .ok (.getfield 95, 3) := by decide +kernel
theorem dX6_fault_18 : decode cX6_fault 18 = .ok (.iload_n 1, 1) := by decide +kernel
theorem dX6_fault_19 : decode cX6_fault 19 = .ok (.invokestatic 91, 3) := by decide +kernel
theorem dX6_fault_22 : decode cX6_fault 22 = .ok (.iload_n 2, 1) := by decide +kernel
theorem dX6_fault_23 : decode cX6_fault 23 = .ok (.if_icmp .ne 5, 3) := by decide +kernel
theorem dX6_fault_26 : decode cX6_fault 26 = .ok (.iconst 0, 1) := by decide +kernel
theorem dX6_fault_27 : decode cX6_fault 27 = .ok (.ireturn, 1) := by decide +kernel
theorem dX6_fault_28 : decode cX6_fault 28 = .ok (.aload_n 0, 1) := by decide +kernel
theorem dX6_fault_29 : decode cX6_fault 29 = .ok (.getfield 12, 3) := by decide +kernel
theorem dX6_fault_32 : decode cX6_fault 32 = .ok (.dup, 1) := by decide +kernel
theorem dX6_fault_33 : decode cX6_fault 33 = .ok (.getfield 95, 3) := by decide +kernel
theorem dX6_fault_36 : decode cX6_fault 36 = .ok (.iconst 1, 1) := by decide +kernel
theorem dX6_fault_37 : decode cX6_fault 37 = .ok (.iload_n 1, 1) := by decide +kernel
theorem dX6_fault_38 : decode cX6_fault 38 = .ok (.ishl, 1) := by decide +kernel
theorem dX6_fault_39 : decode cX6_fault 39 = .ok (.ixor, 1) := by decide +kernel
theorem dX6_fault_40 : decode cX6_fault 40 = .ok (.putfield 95, 3) := by decide +kernel
theorem dX6_fault_43 : decode cX6_fault 43 = .ok (.aload_n 0, 1) := by decide +kernel
theorem dX6_fault_44 : decode cX6_fault 44 = .ok (.getfield 30, 3) := by decide +kernel
theorem dX6_fault_47 : decode cX6_fault 47 = .ok (.iconst 1, 1) := by decide +kernel
theorem dX6_fault_48 : decode cX6_fault 48 = .ok (.putfield 98, 3) := by decide +kernel
theorem dX6_fault_51 : decode cX6_fault 51 = .ok (.iconst 1, 1) := by decide +kernel
theorem dX6_fault_52 : decode cX6_fault 52 = .ok (.ireturn, 1) := by decide +kernel
theorem dX6_ways_0 : decode cX6_ways 0 = .ok (.aload_n 0, 1) := by decide +kernel
theorem dX6_ways_1 : decode cX6_ways 1 = .ok (.invokevirtual 102, 3) := by decide +kernel
theorem dX6_ways_4 : decode cX6_ways 4 = .ok (.ifCond .eq 8, 3) := by decide +kernel
theorem dX6_ways_7 : decode cX6_ways 7 = .ok (.bipush (-2), 2) := by decide +kernel
theorem dX6_ways_9 : decode cX6_ways 9 = .ok (.goto 10, 3) := by decide +kernel
theorem dX6_ways_12 : decode cX6_ways 12 = .ok (.aload_n 0, 1) := by decide +kernel
theorem dX6_ways_13 : decode cX6_ways 13 = .ok (.getfield 19, 3) := by decide +kernel
theorem dX6_ways_16 : decode cX6_ways 16 = .ok (.getfield 106, 3) := by decide +kernel
theorem dX6_ways_19 : decode cX6_ways 19 = .ok (.ireturn, 1) := by decide +kernel
theorem dX6_way_0 : decode cX6_way 0 = .ok (.aload_n 0, 1) := by decide +kernel
theorem dX6_way_1 : decode cX6_way 1 = .ok (.iload_n 1, 1) := by decide +kernel
theorem dX6_way_2 : decode cX6_way 2 = .ok (.invokevirtual 109, 3) := by decide +kernel
theorem dX6_way_5 : decode cX6_way 5 = .ok (.ifCond .eq 23, 3) := by decide +kernel
theorem dX6_way_8 : decode cX6_way 8 = .ok (.aload_n 0, 1) := by decide +kernel
theorem dX6_way_9 : decode cX6_way 9 = .ok (.getfield 12, 3) := by decide +kernel
theorem dX6_way_12 : decode cX6_way 12 = .ok (.aload_n 0, 1) := by decide +kernel
theorem dX6_way_13 : decode cX6_way 13 = .ok (.getfield 19, 3) := by decide +kernel
theorem dX6_way_16 : decode cX6_way 16 = .ok (.getfield 112, 3) := by decide +kernel
theorem dX6_way_19 : decode cX6_way 19 = .ok (.iload_n 1, 1) := by decide +kernel
theorem dX6_way_20 : decode cX6_way 20 = .ok (.iaload, 1) := by decide +kernel
theorem dX6_way_21 : decode cX6_way 21 = .ok (.iload_n 2, 1) := by decide +kernel
theorem dX6_way_22 : decode cX6_way 22 = .ok (.invokevirtual 115, 3) := by decide +kernel
theorem dX6_way_25 : decode cX6_way 25 = .ok (.goto 4, 3) := by decide +kernel
theorem dX6_way_28 : decode cX6_way 28 = .ok (.iconst (-1), 1) := by decide +kernel
theorem dX6_way_29 : decode cX6_way 29 = .ok (.ireturn, 1) := by decide +kernel
theorem dX6_log_0 : decode cX6_log 0 = .ok (.aload_n 0, 1) := by decide +kernel
theorem dX6_log_1 : decode cX6_log 1 = .ok (.iload_n 1, 1) := by decide +kernel
theorem dX6_log_2 : decode cX6_log 2 = .ok (.invokevirtual 109, 3) := by decide +kernel
theorem dX6_log_5 : decode cX6_log 5 = .ok (.ifCond .eq 31, 3) := by decide +kernel
theorem dX6_log_8 : decode cX6_log 8 = .ok (.aload_n 0, 1) := by decide +kernel
theorem dX6_log_9 : decode cX6_log 9 = .ok (.getfield 12, 3) := by decide +kernel
theorem dX6_log_12 : decode cX6_log 12 = .ok (.aload_n 0, 1) := by decide +kernel
theorem dX6_log_13 : decode cX6_log 13 = .ok (.getfield 19, 3) := by decide +kernel
theorem dX6_log_16 : decode cX6_log 16 = .ok (.getfield 112, 3) := by decide +kernel
theorem dX6_log_19 : decode cX6_log 19 = .ok (.iload_n 1, 1) := by decide +kernel
theorem dX6_log_20 : decode cX6_log 20 = .ok (.iaload, 1) := by decide +kernel
theorem dX6_log_21 : decode cX6_log 21 = .ok (.aload_n 0, 1) := by decide +kernel
theorem dX6_log_22 : decode cX6_log 22 = .ok (.getfield 12, 3) := by decide +kernel
theorem dX6_log_25 : decode cX6_log 25 = .ok (.getfield 88, 3) := by decide +kernel
theorem dX6_log_28 : decode cX6_log 28 = .ok (.iand, 1) := by decide +kernel
theorem dX6_log_29 : decode cX6_log 29 = .ok (.iload_n 2, 1) := by decide +kernel
theorem dX6_log_30 : decode cX6_log 30 = .ok (.invokevirtual 115, 3) := by decide +kernel
theorem dX6_log_33 : decode cX6_log 33 = .ok (.goto 4, 3) := by decide +kernel
theorem dX6_log_36 : decode cX6_log 36 = .ok (.iconst (-1), 1) := by decide +kernel
theorem dX6_log_37 : decode cX6_log 37 = .ok (.ireturn, 1) := by decide +kernel
theorem dX6_heaps_0 : decode cX6_heaps 0 = .ok (.aload_n 0, 1) := by decide +kernel
theorem dX6_heaps_1 : decode cX6_heaps 1 = .ok (.invokevirtual 102, 3) := by decide +kernel
theorem dX6_heaps_4 : decode cX6_heaps 4 = .ok (.ifCond .eq 8, 3) := by decide +kernel
theorem dX6_heaps_7 : decode cX6_heaps 7 = .ok (.bipush (-2), 2) := by decide +kernel
theorem dX6_heaps_9 : decode cX6_heaps 9 = .ok (.goto 17, 3) := by decide +kernel
theorem dX6_heaps_12 : decode cX6_heaps 12 = .ok (.aload_n 0, 1) := by decide +kernel
theorem dX6_heaps_13 : decode cX6_heaps 13 = .ok (.getfield 19, 3) := by decide +kernel
theorem dX6_heaps_16 : decode cX6_heaps 16 = .ok (.aload_n 0, 1) := by decide +kernel
theorem dX6_heaps_17 : decode cX6_heaps 17 = .ok (.getfield 12, 3) := by decide +kernel
theorem dX6_heaps_20 : decode cX6_heaps 20 = .ok (.getfield 88, 3) := by decide +kernel
theorem dX6_heaps_23 : decode cX6_heaps 23 = .ok (.invokevirtual 119, 3) := by decide +kernel
theorem dX6_heaps_26 : decode cX6_heaps 26 = .ok (.ireturn, 1) := by decide +kernel
theorem dX6_heap_0 : decode cX6_heap 0 = .ok (.aload_n 0, 1) := by decide +kernel
theorem dX6_heap_1 : decode cX6_heap 1 = .ok (.iload_n 1, 1) := by decide +kernel
theorem dX6_heap_2 : decode cX6_heap 2 = .ok (.invokevirtual 109, 3) := by decide +kernel
theorem dX6_heap_5 : decode cX6_heap 5 = .ok (.ifCond .eq 21, 3) := by decide +kernel
theorem dX6_heap_8 : decode cX6_heap 8 = .ok (.aload_n 0, 1) := by decide +kernel
theorem dX6_heap_9 : decode cX6_heap 9 = .ok (.getfield 19, 3) := by decide +kernel
theorem dX6_heap_12 : decode cX6_heap 12 = .ok (.iload_n 1, 1) := by decide +kernel
theorem dX6_heap_13 : decode cX6_heap 13 = .ok (.aload_n 0, 1) := by decide +kernel
theorem dX6_heap_14 : decode cX6_heap 14 = .ok (.getfield 12, 3) := by decide +kernel
theorem dX6_heap_17 : decode cX6_heap 17 = .ok (.getfield 88, 3) := by decide +kernel
theorem dX6_heap_20 : decode cX6_heap 20 = .ok (.invokevirtual 123, 3) := by decide +kernel
theorem dX6_heap_23 : decode cX6_heap 23 = .ok (.goto 4, 3) := by decide +kernel
theorem dX6_heap_26 : decode cX6_heap 26 = .ok (.iconst (-1), 1) := by decide +kernel
theorem dX6_heap_27 : decode cX6_heap 27 = .ok (.ireturn, 1) := by decide +kernel
theorem dX6_apart_0 : decode cX6_apart 0 = .ok (.iload_n 1, 1) := by decide +kernel
theorem dX6_apart_1 : decode cX6_apart 1 = .ok (.invokestatic 126, 3) := by decide +kernel
theorem dX6_apart_4 : decode cX6_apart 4 = .ok (.ifCond .ne 5, 3) := by decide +kernel
theorem dX6_apart_7 : decode cX6_apart 7 = .ok (.iconst (-1), 1) := by decide +kernel
theorem dX6_apart_8 : decode cX6_apart 8 = .ok (.ireturn, 1) := by decide +kernel
theorem dX6_apart_9 : decode cX6_apart 9 = .ok (.aload_n 0, 1) := by decide +kernel
theorem dX6_apart_10 : decode cX6_apart 10 = .ok (.invokevirtual 102, 3) := by decide +kernel
theorem dX6_apart_13 : decode cX6_apart 13 = .ok (.ifCond .eq 6, 3) := by decide +kernel
theorem dX6_apart_16 : decode cX6_apart 16 = .ok (.bipush (-2), 2) := by decide +kernel
theorem dX6_apart_18 : decode cX6_apart 18 = .ok (.ireturn, 1) := by decide +kernel
theorem dX6_apart_19 : decode cX6_apart 19 = .ok (.aload_n 0, 1) := by decide +kernel
theorem dX6_apart_20 : decode cX6_apart 20 = .ok (.iload_n 1, 1) := by decide +kernel
theorem dX6_apart_21 : decode cX6_apart 21 = .ok (.invokevirtual 129, 3) := by decide +kernel
theorem dX6_apart_24 : decode cX6_apart 24 = .ok (.aload_n 0, 1) := by decide +kernel
theorem dX6_apart_25 : decode cX6_apart 25 = .ok (.getfield 12, 3) := by decide +kernel
theorem dX6_apart_28 : decode cX6_apart 28 = .ok (.getfield 88, 3) := by decide +kernel
theorem dX6_apart_31 : decode cX6_apart 31 = .ok (.invokevirtual 133, 3) := by decide +kernel
theorem dX6_apart_34 : decode cX6_apart 34 = .ok (.ifCond .eq 7, 3) := by decide +kernel
theorem dX6_apart_37 : decode cX6_apart 37 = .ok (.iconst 1, 1) := by decide +kernel
theorem dX6_apart_38 : decode cX6_apart 38 = .ok (.goto 4, 3) := by decide +kernel
theorem dX6_apart_41 : decode cX6_apart 41 = .ok (.iconst 0, 1) := by decide +kernel
theorem dX6_apart_42 : decode cX6_apart 42 = .ok (.ireturn, 1) := by decide +kernel
theorem dX6_cheapest_0 : decode cX6_cheapest 0 = .ok (.iload_n 1, 1) := by decide +kernel
theorem dX6_cheapest_1 : decode cX6_cheapest 1 = .ok (.invokestatic 126, 3) := by decide +kernel
theorem dX6_cheapest_4 : decode cX6_cheapest 4 = .ok (.ifCond .ne 5, 3) := by decide +kernel
theorem dX6_cheapest_7 : decode cX6_cheapest 7 = .ok (.iconst (-1), 1) := by decide +kernel
theorem dX6_cheapest_8 : decode cX6_cheapest 8 = .ok (.ireturn, 1) := by decide +kernel
theorem dX6_cheapest_9 : decode cX6_cheapest 9 = .ok (.aload_n 0, 1) := by decide +kernel
theorem dX6_cheapest_10 : decode cX6_cheapest 10 = .ok (.invokevirtual 102, 3) := by decide +kernel
theorem dX6_cheapest_13 : decode cX6_cheapest 13 = .ok (.ifCond .eq 6, 3) := by decide +kernel
theorem dX6_cheapest_16 : decode cX6_cheapest 16 = .ok (.bipush (-2), 2) := by decide +kernel
theorem dX6_cheapest_18 : decode cX6_cheapest 18 = .ok (.ireturn, 1) := by decide +kernel
theorem dX6_cheapest_19 : decode cX6_cheapest 19 = .ok (.aload_n 0, 1) := by decide +kernel
theorem dX6_cheapest_20 : decode cX6_cheapest 20 = .ok (.getfield 38, 3) := by decide +kernel
theorem dX6_cheapest_23 : decode cX6_cheapest 23 = .ok (.iload_n 2, 1) := by decide +kernel
theorem dX6_cheapest_24 : decode cX6_cheapest 24 = .ok (.ifCond .eq 13, 3) := by decide +kernel
theorem dX6_cheapest_27 : decode cX6_cheapest 27 = .ok (.aload_n 0, 1) := by decide +kernel
theorem dX6_cheapest_28 : decode cX6_cheapest 28 = .ok (.getfield 12, 3) := by decide +kernel
theorem dX6_cheapest_31 : decode cX6_cheapest 31 = .ok (.getfield 88, 3) := by decide +kernel
theorem dX6_cheapest_34 : decode cX6_cheapest 34 = .ok (.goto 4, 3) := by decide +kernel
theorem dX6_cheapest_37 : decode cX6_cheapest 37 = .ok (.iconst 0, 1) := by decide +kernel
theorem dX6_cheapest_38 : decode cX6_cheapest 38 = .ok (.aload_n 0, 1) := by decide +kernel
theorem dX6_cheapest_39 : decode cX6_cheapest 39 = .ok (.iload_n 1, 1) := by decide +kernel
theorem dX6_cheapest_40 : decode cX6_cheapest 40 = .ok (.invokevirtual 129, 3) := by decide +kernel
theorem dX6_cheapest_43 : decode cX6_cheapest 43 = .ok (.invokevirtual 136, 3) := by decide +kernel
theorem dX6_cheapest_46 : decode cX6_cheapest 46 = .ok (.ireturn, 1) := by decide +kernel
theorem dX6_price_0 : decode cX6_price 0 = .ok (.iload_n 1, 1) := by decide +kernel
theorem dX6_price_1 : decode cX6_price 1 = .ok (.aload_n 0, 1) := by decide +kernel
theorem dX6_price_2 : decode cX6_price 2 = .ok (.getfield 12, 3) := by decide +kernel
theorem dX6_price_5 : decode cX6_price 5 = .ok (.invokevirtual 140, 3) := by decide +kernel
theorem dX6_price_8 : decode cX6_price 8 = .ok (.iconst (-1), 1) := by decide +kernel
theorem dX6_price_9 : decode cX6_price 9 = .ok (.ixor, 1) := by decide +kernel
theorem dX6_price_10 : decode cX6_price 10 = .ok (.iand, 1) := by decide +kernel
theorem dX6_price_11 : decode cX6_price 11 = .ok (.ifCond .ne 14, 3) := by decide +kernel
theorem dX6_price_14 : decode cX6_price 14 = .ok (.aload_n 0, 1) := by decide +kernel
theorem dX6_price_15 : decode cX6_price 15 = .ok (.getfield 12, 3) := by decide +kernel
theorem dX6_price_18 : decode cX6_price 18 = .ok (.iload_n 1, 1) := by decide +kernel
theorem dX6_price_19 : decode cX6_price 19 = .ok (.invokevirtual 144, 3) := by decide +kernel
theorem dX6_price_22 : decode cX6_price 22 = .ok (.goto 6, 3) := by decide +kernel
theorem dX6_price_25 : decode cX6_price 25 = .ok (.ldc2_w 148, 3) := by decide +kernel
theorem dX6_price_28 : decode cX6_price 28 = .ok (.lreturn, 1) := by decide +kernel
theorem dX6_useless_0 : decode cX6_useless 0 = .ok (.aload_n 0, 1) := by decide +kernel
theorem dX6_useless_1 : decode cX6_useless 1 = .ok (.invokevirtual 102, 3) := by decide +kernel
theorem dX6_useless_4 : decode cX6_useless 4 = .ok (.ifCond .eq 5, 3) := by decide +kernel
theorem dX6_useless_7 : decode cX6_useless 7 = .ok (.iconst (-1), 1) := by decide +kernel
theorem dX6_useless_8 : decode cX6_useless 8 = .ok (.ireturn, 1) := by decide +kernel
theorem dX6_useless_9 : decode cX6_useless 9 = .ok (.aload_n 0, 1) := by decide +kernel
theorem dX6_useless_10 : decode cX6_useless 10 = .ok (.getfield 12, 3) := by decide +kernel
theorem dX6_useless_13 : decode cX6_useless 13 = .ok (.getfield 88, 3) := by decide +kernel
theorem dX6_useless_16 : decode cX6_useless 16 = .ok (.aload_n 0, 1) := by decide +kernel
theorem dX6_useless_17 : decode cX6_useless 17 = .ok (.getfield 19, 3) := by decide +kernel
theorem dX6_useless_20 : decode cX6_useless 20 = .ok (.aload_n 0, 1) := by decide +kernel
theorem dX6_useless_21 : decode cX6_useless 21 = .ok (.getfield 12, 3) := by decide +kernel
theorem dX6_useless_24 : decode cX6_useless 24 = .ok (.getfield 88, 3) := by decide +kernel
theorem dX6_useless_27 : decode cX6_useless 27 = .ok (.invokevirtual 150, 3) := by decide +kernel
theorem dX6_useless_30 : decode cX6_useless 30 = .ok (.iconst (-1), 1) := by decide +kernel
theorem dX6_useless_31 : decode cX6_useless 31 = .ok (.ixor, 1) := by decide +kernel
theorem dX6_useless_32 : decode cX6_useless 32 = .ok (.iand, 1) := by decide +kernel
theorem dX6_useless_33 : decode cX6_useless 33 = .ok (.iload_n 1, 1) := by decide +kernel
theorem dX6_useless_34 : decode cX6_useless 34 = .ok (.invokestatic 153, 3) := by decide +kernel
theorem dX6_useless_37 : decode cX6_useless 37 = .ok (.ireturn, 1) := by decide +kernel
theorem dX6_why_0 : decode cX6_why 0 = .ok (.iload_n 2, 1) := by decide +kernel
theorem dX6_why_1 : decode cX6_why 1 = .ok (.invokestatic 156, 3) := by decide +kernel
theorem dX6_why_4 : decode cX6_why 4 = .ok (.ifCond .eq 35, 3) := by decide +kernel
theorem dX6_why_7 : decode cX6_why 7 = .ok (.aload_n 0, 1) := by decide +kernel
theorem dX6_why_8 : decode cX6_why 8 = .ok (.getfield 12, 3) := by decide +kernel
theorem dX6_why_11 : decode cX6_why 11 = .ok (.iload_n 1, 1) := by decide +kernel
theorem dX6_why_12 : decode cX6_why 12 = .ok (.invokevirtual 81, 3) := by decide +kernel
theorem dX6_why_15 : decode cX6_why 15 = .ok (.ifCond .eq 24, 3) := by decide +kernel
theorem dX6_why_18 : decode cX6_why 18 = .ok (.aload_n 0, 1) := by decide +kernel
theorem dX6_why_19 : decode cX6_why 19 = .ok (.getfield 12, 3) := by decide +kernel
theorem dX6_why_22 : decode cX6_why 22 = .ok (.getfield 88, 3) := by decide +kernel
theorem dX6_why_25 : decode cX6_why 25 = .ok (.iload_n 1, 1) := by decide +kernel
theorem dX6_why_26 : decode cX6_why 26 = .ok (.invokestatic 91, 3) := by decide +kernel
theorem dX6_why_29 : decode cX6_why 29 = .ok (.ifCond .eq 10, 3) := by decide +kernel
theorem dX6_why_32 : decode cX6_why 32 = .ok (.aload_n 0, 1) := by decide +kernel
theorem dX6_why_33 : decode cX6_why 33 = .ok (.invokevirtual 102, 3) := by decide +kernel
theorem dX6_why_36 : decode cX6_why 36 = .ok (.ifCond .eq 5, 3) := by decide +kernel
theorem dX6_why_39 : decode cX6_why 39 = .ok (.iconst (-1), 1) := by decide +kernel
theorem dX6_why_40 : decode cX6_why 40 = .ok (.ireturn, 1) := by decide +kernel
theorem dX6_why_41 : decode cX6_why 41 = .ok (.aload_n 0, 1) := by decide +kernel
theorem dX6_why_42 : decode cX6_why 42 = .ok (.getfield 19, 3) := by decide +kernel
theorem dX6_why_45 : decode cX6_why 45 = .ok (.iconst 1, 1) := by decide +kernel
theorem dX6_why_46 : decode cX6_why 46 = .ok (.iload_n 1, 1) := by decide +kernel
theorem dX6_why_47 : decode cX6_why 47 = .ok (.ishl, 1) := by decide +kernel
theorem dX6_why_48 : decode cX6_why 48 = .ok (.aload_n 0, 1) := by decide +kernel
theorem dX6_why_49 : decode cX6_why 49 = .ok (.getfield 12, 3) := by decide +kernel
theorem dX6_why_52 : decode cX6_why 52 = .ok (.getfield 88, 3) := by decide +kernel
theorem dX6_why_55 : decode cX6_why 55 = .ok (.invokevirtual 159, 3) := by decide +kernel
theorem dX6_why_58 : decode cX6_why 58 = .ok (.istore_n 3, 1) := by decide +kernel
theorem dX6_why_59 : decode cX6_why 59 = .ok (.iload_n 3, 1) := by decide +kernel
theorem dX6_why_60 : decode cX6_why 60 = .ok (.iconst (-1), 1) := by decide +kernel
theorem dX6_why_61 : decode cX6_why 61 = .ok (.if_icmp .ne 5, 3) := by decide +kernel
theorem dX6_why_64 : decode cX6_why 64 = .ok (.iconst (-1), 1) := by decide +kernel
theorem dX6_why_65 : decode cX6_why 65 = .ok (.ireturn, 1) := by decide +kernel
theorem dX6_why_66 : decode cX6_why 66 = .ok (.iload_n 2, 1) := by decide +kernel
theorem dX6_why_67 : decode cX6_why 67 = .ok (.ifCond .ne 11, 3) := by decide +kernel
theorem dX6_why_70 : decode cX6_why 70 = .ok (.iload_n 3, 1) := by decide +kernel
theorem dX6_why_71 : decode cX6_why 71 = .ok (.sipush 200, 3) := by decide +kernel
theorem dX6_why_74 : decode cX6_why 74 = .ok (.idiv, 1) := by decide +kernel
theorem dX6_why_75 : decode cX6_why 75 = .ok (.goto 8, 3) := by decide +kernel
theorem dX6_why_78 : decode cX6_why 78 = .ok (.iload_n 3, 1) := by decide +kernel
theorem dX6_why_79 : decode cX6_why 79 = .ok (.sipush 200, 3) := by decide +kernel
theorem dX6_why_82 : decode cX6_why 82 = .ok (.irem, 1) := by decide +kernel
theorem dX6_why_83 : decode cX6_why 83 = .ok (.ireturn, 1) := by decide +kernel
theorem dX6_feed_0 : decode cX6_feed 0 = .ok (.aload_n 0, 1) := by decide +kernel
theorem dX6_feed_1 : decode cX6_feed 1 = .ok (.getfield 45, 3) := by decide +kernel
theorem dX6_feed_4 : decode cX6_feed 4 = .ok (.getfield 162, 3) := by decide +kernel
theorem dX6_feed_7 : decode cX6_feed 7 = .ok (.bipush 20, 2) := by decide +kernel
theorem dX6_feed_9 : decode cX6_feed 9 = .ok (.iadd, 1) := by decide +kernel
theorem dX6_feed_10 : decode cX6_feed 10 = .ok (.bipush 40, 2) := by decide +kernel
theorem dX6_feed_12 : decode cX6_feed 12 = .ok (.if_icmp .le 5, 3) := by decide +kernel
theorem dX6_feed_15 : decode cX6_feed 15 = .ok (.iconst (-1), 1) := by decide +kernel
theorem dX6_feed_16 : decode cX6_feed 16 = .ok (.ireturn, 1) := by decide +kernel
theorem dX6_feed_17 : decode cX6_feed 17 = .ok (.aload_n 0, 1) := by decide +kernel
theorem dX6_feed_18 : decode cX6_feed 18 = .ok (.getfield 45, 3) := by decide +kernel
theorem dX6_feed_21 : decode cX6_feed 21 = .ok (.iload_n 1, 1) := by decide +kernel
theorem dX6_feed_22 : decode cX6_feed 22 = .ok (.invokevirtual 165, 3) := by decide +kernel
theorem dX6_feed_25 : decode cX6_feed 25 = .ok (.aload_n 0, 1) := by decide +kernel
theorem dX6_feed_26 : decode cX6_feed 26 = .ok (.getfield 45, 3) := by decide +kernel
theorem dX6_feed_29 : decode cX6_feed 29 = .ok (.iload_n 2, 1) := by decide +kernel
theorem dX6_feed_30 : decode cX6_feed 30 = .ok (.invokevirtual 165, 3) := by decide +kernel
theorem dX6_feed_33 : decode cX6_feed 33 = .ok (.aload_n 0, 1) := by decide +kernel
theorem dX6_feed_34 : decode cX6_feed 34 = .ok (.getfield 45, 3) := by decide +kernel
theorem dX6_feed_37 : decode cX6_feed 37 = .ok (.iload_n 3, 1) := by decide +kernel
theorem dX6_feed_38 : decode cX6_feed 38 = .ok (.invokevirtual 165, 3) := by decide +kernel
theorem dX6_feed_41 : decode cX6_feed 41 = .ok (.aload_n 0, 1) := by decide +kernel
theorem dX6_feed_42 : decode cX6_feed 42 = .ok (.getfield 45, 3) := by decide +kernel
theorem dX6_feed_45 : decode cX6_feed 45 = .ok (.iload 4, 2) := by decide +kernel
theorem dX6_feed_47 : decode cX6_feed 47 = .ok (.invokevirtual 165, 3) := by decide +kernel
theorem dX6_feed_50 : decode cX6_feed 50 = .ok (.aload_n 0, 1) := by decide +kernel
theorem dX6_feed_51 : decode cX6_feed 51 = .ok (.getfield 45, 3) := by decide +kernel
theorem dX6_feed_54 : decode cX6_feed 54 = .ok (.iload 5, 2) := by decide +kernel
theorem dX6_feed_56 : decode cX6_feed 56 = .ok (.invokevirtual 165, 3) := by decide +kernel
theorem dX6_feed_59 : decode cX6_feed 59 = .ok (.aload_n 0, 1) := by decide +kernel
theorem dX6_feed_60 : decode cX6_feed 60 = .ok (.getfield 45, 3) := by decide +kernel
theorem dX6_feed_63 : decode cX6_feed 63 = .ok (.getfield 162, 3) := by decide +kernel
theorem dX6_feed_66 : decode cX6_feed 66 = .ok (.ireturn, 1) := by decide +kernel
theorem dX6_read_0 : decode cX6_read 0 = .ok (.iload_n 1, 1) := by decide +kernel
theorem dX6_read_1 : decode cX6_read 1 = .ok (.ifCond .lt 20, 3) := by decide +kernel
theorem dX6_read_4 : decode cX6_read 4 = .ok (.iload_n 1, 1) := by decide +kernel
theorem dX6_read_5 : decode cX6_read 5 = .ok (.bipush 16, 2) := by decide +kernel
theorem dX6_read_7 : decode cX6_read 7 = .ok (.if_icmp .gt 14, 3) := by decide +kernel
theorem dX6_read_10 : decode cX6_read 10 = .ok (.iload_n 1, 1) := by decide +kernel
theorem dX6_read_11 : decode cX6_read 11 = .ok (.aload_n 0, 1) := by decide +kernel
theorem dX6_read_12 : decode cX6_read 12 = .ok (.getfield 45, 3) := by decide +kernel
theorem dX6_read_15 : decode cX6_read 15 = .ok (.getfield 162, 3) := by decide +kernel
theorem dX6_read_18 : decode cX6_read 18 = .ok (.if_icmp .le 5, 3) := by decide +kernel
theorem dX6_read_21 : decode cX6_read 21 = .ok (.iconst (-1), 1) := by decide +kernel
theorem dX6_read_22 : decode cX6_read 22 = .ok (.ireturn, 1) := by decide +kernel
theorem dX6_read_23 : decode cX6_read 23 = .ok (.aload_n 0, 1) := by decide +kernel
theorem dX6_read_24 : decode cX6_read 24 = .ok (.getfield 52, 3) := by decide +kernel
theorem dX6_read_27 : decode cX6_read 27 = .ok (.aload_n 0, 1) := by decide +kernel
theorem dX6_read_28 : decode cX6_read 28 = .ok (.getfield 45, 3) := by decide +kernel
theorem dX6_read_31 : decode cX6_read 31 = .ok (.iload_n 1, 1) := by decide +kernel
theorem dX6_read_32 : decode cX6_read 32 = .ok (.iload_n 2, 1) := by decide +kernel
theorem dX6_read_33 : decode cX6_read 33 = .ok (.invokevirtual 168, 3) := by decide +kernel
theorem dX6_read_36 : decode cX6_read 36 = .ok (.aload_n 0, 1) := by decide +kernel
theorem dX6_read_37 : decode cX6_read 37 = .ok (.getfield 45, 3) := by decide +kernel
theorem dX6_read_40 : decode cX6_read 40 = .ok (.iconst 0, 1) := by decide +kernel
theorem dX6_read_41 : decode cX6_read 41 = .ok (.putfield 162, 3) := by decide +kernel
theorem dX6_read_44 : decode cX6_read 44 = .ok (.aload_n 0, 1) := by decide +kernel
theorem dX6_read_45 : decode cX6_read 45 = .ok (.invokevirtual 102, 3) := by decide +kernel
theorem dX6_read_48 : decode cX6_read 48 = .ok (.ifCond .eq 6, 3) := by decide +kernel
theorem dX6_read_51 : decode cX6_read 51 = .ok (.bipush (-2), 2) := by decide +kernel
theorem dX6_read_53 : decode cX6_read 53 = .ok (.ireturn, 1) := by decide +kernel
theorem dX6_read_54 : decode cX6_read 54 = .ok (.aload_n 0, 1) := by decide +kernel
theorem dX6_read_55 : decode cX6_read 55 = .ok (.getfield 52, 3) := by decide +kernel
theorem dX6_read_58 : decode cX6_read 58 = .ok (.aload_n 0, 1) := by decide +kernel
theorem dX6_read_59 : decode cX6_read 59 = .ok (.getfield 12, 3) := by decide +kernel
theorem dX6_read_62 : decode cX6_read 62 = .ok (.invokevirtual 172, 3) := by decide +kernel
theorem dX6_read_65 : decode cX6_read 65 = .ok (.aload_n 0, 1) := by decide +kernel
theorem dX6_read_66 : decode cX6_read 66 = .ok (.getfield 52, 3) := by decide +kernel
theorem dX6_read_69 : decode cX6_read 69 = .ok (.aload_n 0, 1) := by decide +kernel
theorem dX6_read_70 : decode cX6_read 70 = .ok (.getfield 19, 3) := by decide +kernel
theorem dX6_read_73 : decode cX6_read 73 = .ok (.invokevirtual 175, 3) := by decide +kernel
theorem dX6_read_76 : decode cX6_read 76 = .ok (.ireturn, 1) := by decide +kernel
theorem dX6_allowed_0 : decode cX6_allowed 0 = .ok (.aload_n 0, 1) := by decide +kernel
theorem dX6_allowed_1 : decode cX6_allowed 1 = .ok (.invokevirtual 102, 3) := by decide +kernel
theorem dX6_allowed_4 : decode cX6_allowed 4 = .ok (.ifCond .eq 5, 3) := by decide +kernel
theorem dX6_allowed_7 : decode cX6_allowed 7 = .ok (.iconst (-1), 1) := by decide +kernel
theorem dX6_allowed_8 : decode cX6_allowed 8 = .ok (.ireturn, 1) := by decide +kernel
theorem dX6_allowed_9 : decode cX6_allowed 9 = .ok (.aload_n 0, 1) := by decide +kernel
theorem dX6_allowed_10 : decode cX6_allowed 10 = .ok (.getfield 52, 3) := by decide +kernel
theorem dX6_allowed_13 : decode cX6_allowed 13 = .ok (.aload_n 0, 1) := by decide +kernel
theorem dX6_allowed_14 : decode cX6_allowed 14 = .ok (.getfield 12, 3) := by decide +kernel
theorem dX6_allowed_17 : decode cX6_allowed 17 = .ok (.invokevirtual 172, 3) := by decide +kernel
theorem dX6_allowed_20 : decode cX6_allowed 20 = .ok (.aload_n 0, 1) := by decide +kernel
theorem dX6_allowed_21 : decode cX6_allowed 21 = .ok (.getfield 52, 3) := by decide +kernel
theorem dX6_allowed_24 : decode cX6_allowed 24 = .ok (.aload_n 0, 1) := by decide +kernel
theorem dX6_allowed_25 : decode cX6_allowed 25 = .ok (.getfield 19, 3) := by decide +kernel
theorem dX6_allowed_28 : decode cX6_allowed 28 = .ok (.iload_n 1, 1) := by decide +kernel
theorem dX6_allowed_29 : decode cX6_allowed 29 = .ok (.invokevirtual 179, 3) := by decide +kernel
theorem dX6_allowed_32 : decode cX6_allowed 32 = .ok (.ireturn, 1) := by decide +kernel
theorem dX6_found_0 : decode cX6_found 0 = .ok (.iload_n 1, 1) := by decide +kernel
theorem dX6_found_1 : decode cX6_found 1 = .ok (.ifCond .lt 15, 3) := by decide +kernel
theorem dX6_found_4 : decode cX6_found 4 = .ok (.iload_n 1, 1) := by decide +kernel
theorem dX6_found_5 : decode cX6_found 5 = .ok (.iconst 3, 1) := by decide +kernel
theorem dX6_found_6 : decode cX6_found 6 = .ok (.if_icmp .gt 10, 3) := by decide +kernel
theorem dX6_found_9 : decode cX6_found 9 = .ok (.aload_n 0, 1) := by decide +kernel
theorem dX6_found_10 : decode cX6_found 10 = .ok (.invokevirtual 102, 3) := by decide +kernel
theorem dX6_found_13 : decode cX6_found 13 = .ok (.ifCond .eq 5, 3) := by decide +kernel
theorem dX6_found_16 : decode cX6_found 16 = .ok (.iconst (-1), 1) := by decide +kernel
theorem dX6_found_17 : decode cX6_found 17 = .ok (.ireturn, 1) := by decide +kernel
theorem dX6_found_18 : decode cX6_found 18 = .ok (.aload_n 0, 1) := by decide +kernel
theorem dX6_found_19 : decode cX6_found 19 = .ok (.getfield 52, 3) := by decide +kernel
theorem dX6_found_22 : decode cX6_found 22 = .ok (.aload_n 0, 1) := by decide +kernel
theorem dX6_found_23 : decode cX6_found 23 = .ok (.getfield 12, 3) := by decide +kernel
theorem dX6_found_26 : decode cX6_found 26 = .ok (.invokevirtual 172, 3) := by decide +kernel
theorem dX6_found_29 : decode cX6_found 29 = .ok (.aload_n 0, 1) := by decide +kernel
theorem dX6_found_30 : decode cX6_found 30 = .ok (.getfield 52, 3) := by decide +kernel
theorem dX6_found_33 : decode cX6_found 33 = .ok (.aload_n 0, 1) := by decide +kernel
theorem dX6_found_34 : decode cX6_found 34 = .ok (.getfield 19, 3) := by decide +kernel
theorem dX6_found_37 : decode cX6_found 37 = .ok (.invokevirtual 175, 3) := by decide +kernel
theorem dX6_found_40 : decode cX6_found 40 = .ok (.ifCond .ne 5, 3) := by decide +kernel
theorem dX6_found_43 : decode cX6_found 43 = .ok (.iconst (-1), 1) := by decide +kernel
theorem dX6_found_44 : decode cX6_found 44 = .ok (.ireturn, 1) := by decide +kernel
theorem dX6_found_45 : decode cX6_found 45 = .ok (.iload_n 1, 1) := by decide +kernel
theorem dX6_found_46 : decode cX6_found 46 = .ok (.iconst 2, 1) := by decide +kernel
theorem dX6_found_47 : decode cX6_found 47 = .ok (.if_icmp .ge 13, 3) := by decide +kernel
theorem dX6_found_50 : decode cX6_found 50 = .ok (.aload_n 0, 1) := by decide +kernel
theorem dX6_found_51 : decode cX6_found 51 = .ok (.getfield 19, 3) := by decide +kernel
theorem dX6_found_54 : decode cX6_found 54 = .ok (.getfield 112, 3) := by decide +kernel
theorem dX6_found_57 : decode cX6_found 57 = .ok (.goto 10, 3) := by decide +kernel
theorem dX6_found_60 : decode cX6_found 60 = .ok (.aload_n 0, 1) := by decide +kernel
theorem dX6_found_61 : decode cX6_found 61 = .ok (.getfield 19, 3) := by decide +kernel
theorem dX6_found_64 : decode cX6_found 64 = .ok (.getfield 183, 3) := by decide +kernel
theorem dX6_found_67 : decode cX6_found 67 = .ok (.astore_n 2, 1) := by decide +kernel
theorem dX6_found_68 : decode cX6_found 68 = .ok (.iload_n 1, 1) := by decide +kernel
theorem dX6_found_69 : decode cX6_found 69 = .ok (.iconst 2, 1) := by decide +kernel
theorem dX6_found_70 : decode cX6_found 70 = .ok (.if_icmp .ge 13, 3) := by decide +kernel
theorem dX6_found_73 : decode cX6_found 73 = .ok (.aload_n 0, 1) := by decide +kernel
theorem dX6_found_74 : decode cX6_found 74 = .ok (.getfield 12, 3) := by decide +kernel
theorem dX6_found_77 : decode cX6_found 77 = .ok (.invokevirtual 140, 3) := by decide +kernel
theorem dX6_found_80 : decode cX6_found 80 = .ok (.goto 10, 3) := by decide +kernel
theorem dX6_found_83 : decode cX6_found 83 = .ok (.aload_n 0, 1) := by decide +kernel
theorem dX6_found_84 : decode cX6_found 84 = .ok (.getfield 12, 3) := by decide +kernel
theorem dX6_found_87 : decode cX6_found 87 = .ok (.getfield 95, 3) := by decide +kernel
theorem dX6_found_90 : decode cX6_found 90 = .ok (.istore_n 3, 1) := by decide +kernel
theorem dX6_found_91 : decode cX6_found 91 = .ok (.iload_n 1, 1) := by decide +kernel
theorem dX6_found_92 : decode cX6_found 92 = .ok (.iconst 2, 1) := by decide +kernel
theorem dX6_found_93 : decode cX6_found 93 = .ok (.irem, 1) := by decide +kernel
theorem dX6_found_94 : decode cX6_found 94 = .ok (.ifCond .ne 7, 3) := by decide +kernel
theorem dX6_found_97 : decode cX6_found 97 = .ok (.iconst 1, 1) := by decide +kernel
theorem dX6_found_98 : decode cX6_found 98 = .ok (.goto 4, 3) := by decide +kernel
theorem dX6_found_101 : decode cX6_found 101 = .ok (.iconst 0, 1) := by decide +kernel
theorem dX6_found_102 : decode cX6_found 102 = .ok (.istore 4, 2) := by decide +kernel
theorem dX6_found_104 : decode cX6_found 104 = .ok (.iload_n 3, 1) := by decide +kernel
theorem dX6_found_105 : decode cX6_found 105 = .ok (.iload 4, 2) := by decide +kernel
theorem dX6_found_107 : decode cX6_found 107 = .ok (.ifCond .eq 18, 3) := by decide +kernel
theorem dX6_found_110 : decode cX6_found 110 = .ok (.aload_n 0, 1) := by decide +kernel
theorem dX6_found_111 : decode cX6_found 111 = .ok (.getfield 52, 3) := by decide +kernel
theorem dX6_found_114 : decode cX6_found 114 = .ok (.aload_n 0, 1) := by decide +kernel
theorem dX6_found_115 : decode cX6_found 115 = .ok (.getfield 19, 3) := by decide +kernel
theorem dX6_found_118 : decode cX6_found 118 = .ok (.aload_n 2, 1) := by decide +kernel
theorem dX6_found_119 : decode cX6_found 119 = .ok (.invokevirtual 186, 3) := by decide +kernel
theorem dX6_found_122 : decode cX6_found 122 = .ok (.goto 15, 3) := by decide +kernel
theorem dX6_found_125 : decode cX6_found 125 = .ok (.aload_n 0, 1) := by decide +kernel
theorem dX6_found_126 : decode cX6_found 126 = .ok (.getfield 52, 3) := by decide +kernel
theorem dX6_found_129 : decode cX6_found 129 = .ok (.aload_n 0, 1) := by decide +kernel
theorem dX6_found_130 : decode cX6_found 130 = .ok (.getfield 19, 3) := by decide +kernel
theorem dX6_found_133 : decode cX6_found 133 = .ok (.aload_n 2, 1) := by decide +kernel
theorem dX6_found_134 : decode cX6_found 134 = .ok (.invokevirtual 190, 3) := by decide +kernel
theorem dX6_found_137 : decode cX6_found 137 = .ok (.iand, 1) := by decide +kernel
theorem dX6_found_138 : decode cX6_found 138 = .ok (.ireturn, 1) := by decide +kernel
theorem dX6_look_0 : decode cX6_look 0 = .ok (.aload_n 0, 1) := by decide +kernel
theorem dX6_look_1 : decode cX6_look 1 = .ok (.getfield 12, 3) := by decide +kernel
theorem dX6_look_4 : decode cX6_look 4 = .ok (.iload_n 1, 1) := by decide +kernel
theorem dX6_look_5 : decode cX6_look 5 = .ok (.invokevirtual 81, 3) := by decide +kernel
theorem dX6_look_8 : decode cX6_look 8 = .ok (.ifCond .ne 5, 3) := by decide +kernel
theorem dX6_look_11 : decode cX6_look 11 = .ok (.iconst (-1), 1) := by decide +kernel
theorem dX6_look_12 : decode cX6_look 12 = .ok (.ireturn, 1) := by decide +kernel
theorem dX6_look_13 : decode cX6_look 13 = .ok (.iload_n 2, 1) := by decide +kernel
theorem dX6_look_14 : decode cX6_look 14 = .ok (.tableswitch 80 0 3 #[30, 40, 50, 60], 30) := by decide +kernel
theorem dX6_look_44 : decode cX6_look 44 = .ok (.aload_n 0, 1) := by decide +kernel
theorem dX6_look_45 : decode cX6_look 45 = .ok (.getfield 12, 3) := by decide +kernel
theorem dX6_look_48 : decode cX6_look 48 = .ok (.getfield 193, 3) := by decide +kernel
theorem dX6_look_51 : decode cX6_look 51 = .ok (.iload_n 1, 1) := by decide +kernel
theorem dX6_look_52 : decode cX6_look 52 = .ok (.iaload, 1) := by decide +kernel
theorem dX6_look_53 : decode cX6_look 53 = .ok (.ireturn, 1) := by decide +kernel
theorem dX6_look_54 : decode cX6_look 54 = .ok (.aload_n 0, 1) := by decide +kernel
theorem dX6_look_55 : decode cX6_look 55 = .ok (.getfield 12, 3) := by decide +kernel
theorem dX6_look_58 : decode cX6_look 58 = .ok (.getfield 196, 3) := by decide +kernel
theorem dX6_look_61 : decode cX6_look 61 = .ok (.iload_n 1, 1) := by decide +kernel
theorem dX6_look_62 : decode cX6_look 62 = .ok (.iaload, 1) := by decide +kernel
theorem dX6_look_63 : decode cX6_look 63 = .ok (.ireturn, 1) := by decide +kernel
theorem dX6_look_64 : decode cX6_look 64 = .ok (.aload_n 0, 1) := by decide +kernel
theorem dX6_look_65 : decode cX6_look 65 = .ok (.getfield 12, 3) := by decide +kernel
theorem dX6_look_68 : decode cX6_look 68 = .ok (.getfield 84, 3) := by decide +kernel
theorem dX6_look_71 : decode cX6_look 71 = .ok (.iload_n 1, 1) := by decide +kernel
theorem dX6_look_72 : decode cX6_look 72 = .ok (.iaload, 1) := by decide +kernel
theorem dX6_look_73 : decode cX6_look 73 = .ok (.ireturn, 1) := by decide +kernel
theorem dX6_look_74 : decode cX6_look 74 = .ok (.aload_n 0, 1) := by decide +kernel
theorem dX6_look_75 : decode cX6_look 75 = .ok (.getfield 12, 3) := by decide +kernel
theorem dX6_look_78 : decode cX6_look 78 = .ok (.getfield 88, 3) := by decide +kernel
theorem dX6_look_81 : decode cX6_look 81 = .ok (.iload_n 1, 1) := by decide +kernel
theorem dX6_look_82 : decode cX6_look 82 = .ok (.invokestatic 91, 3) := by decide +kernel
theorem dX6_look_85 : decode cX6_look 85 = .ok (.ifCond .eq 7, 3) := by decide +kernel
theorem dX6_look_88 : decode cX6_look 88 = .ok (.iconst 1, 1) := by decide +kernel
theorem dX6_look_89 : decode cX6_look 89 = .ok (.goto 4, 3) := by decide +kernel
theorem dX6_look_92 : decode cX6_look 92 = .ok (.iconst 0, 1) := by decide +kernel
theorem dX6_look_93 : decode cX6_look 93 = .ok (.ireturn, 1) := by decide +kernel
theorem dX6_look_94 : decode cX6_look 94 = .ok (.iconst (-1), 1) := by decide +kernel
theorem dX6_look_95 : decode cX6_look 95 = .ok (.ireturn, 1) := by decide +kernel
theorem dX6_count_0 : decode cX6_count 0 = .ok (.iload_n 1, 1) := by decide +kernel
theorem dX6_count_1 : decode cX6_count 1 = .ok (.tableswitch 105 0 5 #[39, 48, 57, 69, 81, 96], 39) := by decide +kernel
theorem dX6_count_40 : decode cX6_count 40 = .ok (.aload_n 0, 1) := by decide +kernel
theorem dX6_count_41 : decode cX6_count 41 = .ok (.getfield 12, 3) := by decide +kernel
theorem dX6_count_44 : decode cX6_count 44 = .ok (.getfield 199, 3) := by decide +kernel
theorem dX6_count_47 : decode cX6_count 47 = .ok (.i2l, 1) := by decide +kernel
theorem dX6_count_48 : decode cX6_count 48 = .ok (.lreturn, 1) := by decide +kernel
theorem dX6_count_49 : decode cX6_count 49 = .ok (.aload_n 0, 1) := by decide +kernel
theorem dX6_count_50 : decode cX6_count 50 = .ok (.getfield 12, 3) := by decide +kernel
theorem dX6_count_53 : decode cX6_count 53 = .ok (.getfield 73, 3) := by decide +kernel
theorem dX6_count_56 : decode cX6_count 56 = .ok (.i2l, 1) := by decide +kernel
theorem dX6_count_57 : decode cX6_count 57 = .ok (.lreturn, 1) := by decide +kernel
theorem dX6_count_58 : decode cX6_count 58 = .ok (.aload_n 0, 1) := by decide +kernel
theorem dX6_count_59 : decode cX6_count 59 = .ok (.getfield 12, 3) := by decide +kernel
theorem dX6_count_62 : decode cX6_count 62 = .ok (.getfield 88, 3) := by decide +kernel
theorem dX6_count_65 : decode cX6_count 65 = .ok (.invokestatic 202, 3) := by decide +kernel
theorem dX6_count_68 : decode cX6_count 68 = .ok (.i2l, 1) := by decide +kernel
theorem dX6_count_69 : decode cX6_count 69 = .ok (.lreturn, 1) := by decide +kernel
theorem dX6_count_70 : decode cX6_count 70 = .ok (.aload_n 0, 1) := by decide +kernel
theorem dX6_count_71 : decode cX6_count 71 = .ok (.getfield 12, 3) := by decide +kernel
theorem dX6_count_74 : decode cX6_count 74 = .ok (.getfield 95, 3) := by decide +kernel
theorem dX6_count_77 : decode cX6_count 77 = .ok (.invokestatic 202, 3) := by decide +kernel
theorem dX6_count_80 : decode cX6_count 80 = .ok (.i2l, 1) := by decide +kernel
theorem dX6_count_81 : decode cX6_count 81 = .ok (.lreturn, 1) := by decide +kernel
theorem dX6_count_82 : decode cX6_count 82 = .ok (.aload_n 0, 1) := by decide +kernel
theorem dX6_count_83 : decode cX6_count 83 = .ok (.getfield 12, 3) := by decide +kernel
theorem dX6_count_86 : decode cX6_count 86 = .ok (.aload_n 0, 1) := by decide +kernel
theorem dX6_count_87 : decode cX6_count 87 = .ok (.getfield 12, 3) := by decide +kernel
theorem dX6_count_90 : decode cX6_count 90 = .ok (.getfield 88, 3) := by decide +kernel
theorem dX6_count_93 : decode cX6_count 93 = .ok (.invokevirtual 144, 3) := by decide +kernel
theorem dX6_count_96 : decode cX6_count 96 = .ok (.lreturn, 1) := by decide +kernel
theorem dX6_count_97 : decode cX6_count 97 = .ok (.aload_n 0, 1) := by decide +kernel
theorem dX6_count_98 : decode cX6_count 98 = .ok (.getfield 45, 3) := by decide +kernel
theorem dX6_count_101 : decode cX6_count 101 = .ok (.getfield 162, 3) := by decide +kernel
theorem dX6_count_104 : decode cX6_count 104 = .ok (.i2l, 1) := by decide +kernel
theorem dX6_count_105 : decode cX6_count 105 = .ok (.lreturn, 1) := by decide +kernel
theorem dX6_count_106 : decode cX6_count 106 = .ok (.ldc2_w 148, 3) := by decide +kernel
theorem dX6_count_109 : decode cX6_count 109 = .ok (.lreturn, 1) := by decide +kernel
theorem dX6_canBeCounted_0 : decode cX6_canBeCounted 0 = .ok (.iload_n 0, 1) := by decide +kernel
theorem dX6_canBeCounted_1 : decode cX6_canBeCounted 1 = .ok (.ifCond .lt 13, 3) := by decide +kernel
theorem dX6_canBeCounted_4 : decode cX6_canBeCounted 4 = .ok (.iload_n 0, 1) := by decide +kernel
theorem dX6_canBeCounted_5 : decode cX6_canBeCounted 5 = .ok (.ldc 207, 2) := by decide +kernel
theorem dX6_canBeCounted_7 : decode cX6_canBeCounted 7 = .ok (.if_icmp .gt 7, 3) := by decide +kernel
theorem dX6_canBeCounted_10 : decode cX6_canBeCounted 10 = .ok (.iconst 1, 1) := by decide +kernel
theorem dX6_canBeCounted_11 : decode cX6_canBeCounted 11 = .ok (.goto 4, 3) := by decide +kernel
theorem dX6_canBeCounted_14 : decode cX6_canBeCounted 14 = .ok (.iconst 0, 1) := by decide +kernel
theorem dX6_canBeCounted_15 : decode cX6_canBeCounted 15 = .ok (.ireturn, 1) := by decide +kernel
theorem dX6_isWaysOrFaults_0 : decode cX6_isWaysOrFaults 0 = .ok (.iload_n 0, 1) := by decide +kernel
theorem dX6_isWaysOrFaults_1 : decode cX6_isWaysOrFaults 1 = .ok (.ifCond .eq 8, 3) := by decide +kernel
theorem dX6_isWaysOrFaults_4 : decode cX6_isWaysOrFaults 4 = .ok (.iload_n 0, 1) := by decide +kernel
theorem dX6_isWaysOrFaults_5 : decode cX6_isWaysOrFaults 5 = .ok (.iconst 1, 1) := by decide +kernel
theorem dX6_isWaysOrFaults_6 : decode cX6_isWaysOrFaults 6 = .ok (.if_icmp .ne 7, 3) := by decide +kernel
theorem dX6_isWaysOrFaults_9 : decode cX6_isWaysOrFaults 9 = .ok (.iconst 1, 1) := by decide +kernel
theorem dX6_isWaysOrFaults_10 : decode cX6_isWaysOrFaults 10 = .ok (.goto 4, 3) := by decide +kernel
theorem dX6_isWaysOrFaults_13 : decode cX6_isWaysOrFaults 13 = .ok (.iconst 0, 1) := by decide +kernel
theorem dX6_isWaysOrFaults_14 : decode cX6_isWaysOrFaults 14 = .ok (.ireturn, 1) := by decide +kernel
theorem dX6_isFirstOrOther_0 : decode cX6_isFirstOrOther 0 = .ok (.iload_n 0, 1) := by decide +kernel
theorem dX6_isFirstOrOther_1 : decode cX6_isFirstOrOther 1 = .ok (.ifCond .eq 8, 3) := by decide +kernel
theorem dX6_isFirstOrOther_4 : decode cX6_isFirstOrOther 4 = .ok (.iload_n 0, 1) := by decide +kernel
theorem dX6_isFirstOrOther_5 : decode cX6_isFirstOrOther 5 = .ok (.iconst 1, 1) := by decide +kernel
theorem dX6_isFirstOrOther_6 : decode cX6_isFirstOrOther 6 = .ok (.if_icmp .ne 7, 3) := by decide +kernel
theorem dX6_isFirstOrOther_9 : decode cX6_isFirstOrOther 9 = .ok (.iconst 1, 1) := by decide +kernel
theorem dX6_isFirstOrOther_10 : decode cX6_isFirstOrOther 10 = .ok (.goto 4, 3) := by decide +kernel
theorem dX6_isFirstOrOther_13 : decode cX6_isFirstOrOther 13 = .ok (.iconst 0, 1) := by decide +kernel
theorem dX6_isFirstOrOther_14 : decode cX6_isFirstOrOther 14 = .ok (.ireturn, 1) := by decide +kernel
theorem dX6_has_0 : decode cX6_has 0 = .ok (.iload_n 0, 1) := by decide +kernel
theorem dX6_has_1 : decode cX6_has 1 = .ok (.iload_n 1, 1) := by decide +kernel
theorem dX6_has_2 : decode cX6_has 2 = .ok (.ishr, 1) := by decide +kernel
theorem dX6_has_3 : decode cX6_has 3 = .ok (.iconst 1, 1) := by decide +kernel
theorem dX6_has_4 : decode cX6_has 4 = .ok (.iand, 1) := by decide +kernel
theorem dX6_has_5 : decode cX6_has 5 = .ok (.iconst 1, 1) := by decide +kernel
theorem dX6_has_6 : decode cX6_has 6 = .ok (.if_icmp .ne 7, 3) := by decide +kernel
theorem dX6_has_9 : decode cX6_has 9 = .ok (.iconst 1, 1) := by decide +kernel
theorem dX6_has_10 : decode cX6_has 10 = .ok (.goto 4, 3) := by decide +kernel
theorem dX6_has_13 : decode cX6_has 13 = .ok (.iconst 0, 1) := by decide +kernel
theorem dX6_has_14 : decode cX6_has 14 = .ok (.ireturn, 1) := by decide +kernel
theorem dX6_member_0 : decode cX6_member 0 = .ok (.iload_n 1, 1) := by decide +kernel
theorem dX6_member_1 : decode cX6_member 1 = .ok (.istore_n 2, 1) := by decide +kernel
theorem dX6_member_2 : decode cX6_member 2 = .ok (.iconst 0, 1) := by decide +kernel
theorem dX6_member_3 : decode cX6_member 3 = .ok (.istore_n 3, 1) := by decide +kernel
theorem dX6_member_4 : decode cX6_member 4 = .ok (.iload_n 3, 1) := by decide +kernel
theorem dX6_member_5 : decode cX6_member 5 = .ok (.bipush 16, 2) := by decide +kernel
theorem dX6_member_7 : decode cX6_member 7 = .ok (.if_icmp .ge 26, 3) := by decide +kernel
theorem dX6_member_10 : decode cX6_member 10 = .ok (.iload_n 0, 1) := by decide +kernel
theorem dX6_member_11 : decode cX6_member 11 = .ok (.iload_n 3, 1) := by decide +kernel
theorem dX6_member_12 : decode cX6_member 12 = .ok (.invokestatic 91, 3) := by decide +kernel
theorem dX6_member_15 : decode cX6_member 15 = .ok (.ifCond .eq 12, 3) := by decide +kernel
theorem dX6_member_18 : decode cX6_member 18 = .ok (.iload_n 2, 1) := by decide +kernel
theorem dX6_member_19 : decode cX6_member 19 = .ok (.ifCond .ne 5, 3) := by decide +kernel
theorem dX6_member_22 : decode cX6_member 22 = .ok (.iload_n 3, 1) := by decide +kernel
theorem dX6_member_23 : decode cX6_member 23 = .ok (.ireturn, 1) := by decide +kernel
theorem dX6_member_24 : decode cX6_member 24 = .ok (.iinc 2 (-1), 3) := by decide +kernel
theorem dX6_member_27 : decode cX6_member 27 = .ok (.iinc 3 1, 3) := by decide +kernel
theorem dX6_member_30 : decode cX6_member 30 = .ok (.goto (-26), 3) := by decide +kernel
theorem dX6_member_33 : decode cX6_member 33 = .ok (.iconst (-1), 1) := by decide +kernel
theorem dX6_member_34 : decode cX6_member 34 = .ok (.ireturn, 1) := by decide +kernel
theorem dX6_forgetWays_0 : decode cX6_forgetWays 0 = .ok (.aload_n 0, 1) := by decide +kernel
theorem dX6_forgetWays_1 : decode cX6_forgetWays 1 = .ok (.getfield 19, 3) := by decide +kernel
theorem dX6_forgetWays_4 : decode cX6_forgetWays 4 = .ok (.iconst 1, 1) := by decide +kernel
theorem dX6_forgetWays_5 : decode cX6_forgetWays 5 = .ok (.putfield 208, 3) := by decide +kernel
theorem dX6_forgetWays_8 : decode cX6_forgetWays 8 = .ok (.aload_n 0, 1) := by decide +kernel
theorem dX6_forgetWays_9 : decode cX6_forgetWays 9 = .ok (.getfield 26, 3) := by decide +kernel
theorem dX6_forgetWays_12 : decode cX6_forgetWays 12 = .ok (.iconst 1, 1) := by decide +kernel
theorem dX6_forgetWays_13 : decode cX6_forgetWays 13 = .ok (.putfield 98, 3) := by decide +kernel
theorem dX6_forgetWays_16 : decode cX6_forgetWays 16 = .ok (.aload_n 0, 1) := by decide +kernel
theorem dX6_forgetWays_17 : decode cX6_forgetWays 17 = .ok (.getfield 30, 3) := by decide +kernel
theorem dX6_forgetWays_20 : decode cX6_forgetWays 20 = .ok (.iconst 1, 1) := by decide +kernel
theorem dX6_forgetWays_21 : decode cX6_forgetWays 21 = .ok (.putfield 98, 3) := by decide +kernel
theorem dX6_forgetWays_24 : decode cX6_forgetWays 24 = .ok (.return_, 1) := by decide +kernel
theorem dX6_tooMany_0 : decode cX6_tooMany 0 = .ok (.aload_n 0, 1) := by decide +kernel
theorem dX6_tooMany_1 : decode cX6_tooMany 1 = .ok (.getfield 19, 3) := by decide +kernel
theorem dX6_tooMany_4 : decode cX6_tooMany 4 = .ok (.getfield 208, 3) := by decide +kernel
theorem dX6_tooMany_7 : decode cX6_tooMany 7 = .ok (.ifCond .eq 14, 3) := by decide +kernel
theorem dX6_tooMany_10 : decode cX6_tooMany 10 = .ok (.aload_n 0, 1) := by decide +kernel
theorem dX6_tooMany_11 : decode cX6_tooMany 11 = .ok (.getfield 19, 3) := by decide +kernel
theorem dX6_tooMany_14 : decode cX6_tooMany 14 = .ok (.aload_n 0, 1) := by decide +kernel
theorem dX6_tooMany_15 : decode cX6_tooMany 15 = .ok (.getfield 12, 3) := by decide +kernel
theorem dX6_tooMany_18 : decode cX6_tooMany 18 = .ok (.invokevirtual 209, 3) := by decide +kernel
theorem dX6_tooMany_21 : decode cX6_tooMany 21 = .ok (.aload_n 0, 1) := by decide +kernel
theorem dX6_tooMany_22 : decode cX6_tooMany 22 = .ok (.getfield 19, 3) := by decide +kernel
theorem dX6_tooMany_25 : decode cX6_tooMany 25 = .ok (.getfield 212, 3) := by decide +kernel
theorem dX6_tooMany_28 : decode cX6_tooMany 28 = .ok (.ireturn, 1) := by decide +kernel
theorem dX6_hasWay_0 : decode cX6_hasWay 0 = .ok (.aload_n 0, 1) := by decide +kernel
theorem dX6_hasWay_1 : decode cX6_hasWay 1 = .ok (.invokevirtual 102, 3) := by decide +kernel
theorem dX6_hasWay_4 : decode cX6_hasWay 4 = .ok (.ifCond .ne 22, 3) := by decide +kernel
theorem dX6_hasWay_7 : decode cX6_hasWay 7 = .ok (.iload_n 1, 1) := by decide +kernel
theorem dX6_hasWay_8 : decode cX6_hasWay 8 = .ok (.ifCond .lt 18, 3) := by decide +kernel
theorem dX6_hasWay_11 : decode cX6_hasWay 11 = .ok (.iload_n 1, 1) := by decide +kernel
theorem dX6_hasWay_12 : decode cX6_hasWay 12 = .ok (.aload_n 0, 1) := by decide +kernel
theorem dX6_hasWay_13 : decode cX6_hasWay 13 = .ok (.getfield 19, 3) := by decide +kernel
theorem dX6_hasWay_16 : decode cX6_hasWay 16 = .ok (.getfield 106, 3) := by decide +kernel
theorem dX6_hasWay_19 : decode cX6_hasWay 19 = .ok (.if_icmp .ge 7, 3) := by decide +kernel
theorem dX6_hasWay_22 : decode cX6_hasWay 22 = .ok (.iconst 1, 1) := by decide +kernel
theorem dX6_hasWay_23 : decode cX6_hasWay 23 = .ok (.goto 4, 3) := by decide +kernel
theorem dX6_hasWay_26 : decode cX6_hasWay 26 = .ok (.iconst 0, 1) := by decide +kernel
theorem dX6_hasWay_27 : decode cX6_hasWay 27 = .ok (.ireturn, 1) := by decide +kernel
theorem dX6_partings_0 : decode cX6_partings 0 = .ok (.iload_n 1, 1) := by decide +kernel
theorem dX6_partings_1 : decode cX6_partings 1 = .ok (.ifCond .ne 10, 3) := by decide +kernel
theorem dX6_partings_4 : decode cX6_partings 4 = .ok (.aload_n 0, 1) := by decide +kernel
theorem dX6_partings_5 : decode cX6_partings 5 = .ok (.getfield 26, 3) := by decide +kernel
theorem dX6_partings_8 : decode cX6_partings 8 = .ok (.goto 7, 3) := by decide +kernel
theorem dX6_partings_11 : decode cX6_partings 11 = .ok (.aload_n 0, 1) := by decide +kernel
theorem dX6_partings_12 : decode cX6_partings 12 = .ok (.getfield 30, 3) := by decide +kernel
theorem dX6_partings_15 : decode cX6_partings 15 = .ok (.astore_n 2, 1) := by decide +kernel
theorem dX6_partings_16 : decode cX6_partings 16 = .ok (.aload_n 2, 1) := by decide +kernel
theorem dX6_partings_17 : decode cX6_partings 17 = .ok (.getfield 98, 3) := by decide +kernel
theorem dX6_partings_20 : decode cX6_partings 20 = .ok (.ifCond .eq 27, 3) := by decide +kernel
theorem dX6_partings_23 : decode cX6_partings 23 = .ok (.aload_n 2, 1) := by decide +kernel
theorem dX6_partings_24 : decode cX6_partings 24 = .ok (.aload_n 0, 1) := by decide +kernel
theorem dX6_partings_25 : decode cX6_partings 25 = .ok (.getfield 19, 3) := by decide +kernel
theorem dX6_partings_28 : decode cX6_partings 28 = .ok (.iload_n 1, 1) := by decide +kernel
theorem dX6_partings_29 : decode cX6_partings 29 = .ok (.ifCond .ne 7, 3) := by decide +kernel
theorem dX6_partings_32 : decode cX6_partings 32 = .ok (.iconst 1, 1) := by decide +kernel
theorem dX6_partings_33 : decode cX6_partings 33 = .ok (.goto 4, 3) := by decide +kernel
theorem dX6_partings_36 : decode cX6_partings 36 = .ok (.iconst 0, 1) := by decide +kernel
theorem dX6_partings_37 : decode cX6_partings 37 = .ok (.aload_n 0, 1) := by decide +kernel
theorem dX6_partings_38 : decode cX6_partings 38 = .ok (.getfield 12, 3) := by decide +kernel
theorem dX6_partings_41 : decode cX6_partings 41 = .ok (.getfield 95, 3) := by decide +kernel
theorem dX6_partings_44 : decode cX6_partings 44 = .ok (.invokevirtual 214, 3) := by decide +kernel
theorem dX6_partings_47 : decode cX6_partings 47 = .ok (.aload_n 2, 1) := by decide +kernel
theorem dX6_partings_48 : decode cX6_partings 48 = .ok (.areturn, 1) := by decide +kernel
theorem dX7_init_0 : decode cX7_init 0 = .ok (.aload_n 0, 1) := by decide +kernel
theorem dX7_init_1 : decode cX7_init 1 = .ok (.invokespecial 1, 3) := by decide +kernel
theorem dX7_init_4 : decode cX7_init 4 = .ok (.aload_n 0, 1) := by decide +kernel
theorem dX7_init_5 : decode cX7_init 5 = .ok (.bipush 40, 2) := by decide +kernel
theorem dX7_init_7 : decode cX7_init 7 = .ok (.newarray .byte, 2) := by decide +kernel
theorem dX7_init_9 : decode cX7_init 9 = .ok (.putfield 7, 3) := by decide +kernel
theorem dX7_init_12 : decode cX7_init 12 = .ok (.aload_n 0, 1) := by decide +kernel
theorem dX7_init_13 : decode cX7_init 13 = .ok (.iconst 2, 1) := by decide +kernel
theorem dX7_init_14 : decode cX7_init 14 = .ok (.putfield 13, 3) := by decide +kernel
theorem dX7_init_17 : decode cX7_init 17 = .ok (.aload_n 0, 1) := by decide +kernel
theorem dX7_init_18 : decode cX7_init 18 = .ok (.bipush 16, 2) := by decide +kernel
theorem dX7_init_20 : decode cX7_init 20 = .ok (.newarray .int, 2) := by decide +kernel
theorem dX7_init_22 : decode cX7_init 22 = .ok (.putfield 17, 3) := by decide +kernel
theorem dX7_init_25 : decode cX7_init 25 = .ok (.aload_n 0, 1) := by decide +kernel
theorem dX7_init_26 : decode cX7_init 26 = .ok (.bipush 16, 2) := by decide +kernel
theorem dX7_init_28 : decode cX7_init 28 = .ok (.newarray .int, 2) := by decide +kernel
theorem dX7_init_30 : decode cX7_init 30 = .ok (.putfield 21, 3) := by decide +kernel
theorem dX7_init_33 : decode cX7_init 33 = .ok (.aload_n 0, 1) := by decide +kernel
theorem dX7_init_34 : decode cX7_init 34 = .ok (.bipush 16, 2) := by decide +kernel
theorem dX7_init_36 : decode cX7_init 36 = .ok (.newarray .int, 2) := by decide +kernel
theorem dX7_init_38 : decode cX7_init 38 = .ok (.putfield 24, 3) := by decide +kernel
theorem dX7_init_41 : decode cX7_init 41 = .ok (.aload_n 0, 1) := by decide +kernel
theorem dX7_init_42 : decode cX7_init 42 = .ok (.sipush 3200, 3) := by decide +kernel
theorem dX7_init_45 : decode cX7_init 45 = .ok (.newarray .int, 2) := by decide +kernel
theorem dX7_init_47 : decode cX7_init 47 = .ok (.putfield 27, 3) := by decide +kernel
theorem dX7_init_50 : decode cX7_init 50 = .ok (.aload_n 0, 1) := by decide +kernel
theorem dX7_init_51 : decode cX7_init 51 = .ok (.sipush 200, 3) := by decide +kernel
theorem dX7_init_54 : decode cX7_init 54 = .ok (.newarray .int, 2) := by decide +kernel
theorem dX7_init_56 : decode cX7_init 56 = .ok (.putfield 30, 3) := by decide +kernel
theorem dX7_init_59 : decode cX7_init 59 = .ok (.aload_n 0, 1) := by decide +kernel
theorem dX7_init_60 : decode cX7_init 60 = .ok (.sipush 200, 3) := by decide +kernel
theorem dX7_init_63 : decode cX7_init 63 = .ok (.newarray .int, 2) := by decide +kernel
theorem dX7_init_65 : decode cX7_init 65 = .ok (.putfield 33, 3) := by decide +kernel
theorem dX7_init_68 : decode cX7_init 68 = .ok (.aload_n 0, 1) := by decide +kernel
theorem dX7_init_69 : decode cX7_init 69 = .ok (.sipush 200, 3) := by decide +kernel
theorem dX7_init_72 : decode cX7_init 72 = .ok (.newarray .int, 2) := by decide +kernel
theorem dX7_init_74 : decode cX7_init 74 = .ok (.putfield 36, 3) := by decide +kernel
theorem dX7_init_77 : decode cX7_init 77 = .ok (.aload_n 0, 1) := by decide +kernel
theorem dX7_init_78 : decode cX7_init 78 = .ok (.bipush 16, 2) := by decide +kernel
theorem dX7_init_80 : decode cX7_init 80 = .ok (.newarray .int, 2) := by decide +kernel
theorem dX7_init_82 : decode cX7_init 82 = .ok (.putfield 39, 3) := by decide +kernel
theorem dX7_init_85 : decode cX7_init 85 = .ok (.aload_n 0, 1) := by decide +kernel
theorem dX7_init_86 : decode cX7_init 86 = .ok (.bipush 16, 2) := by decide +kernel
theorem dX7_init_88 : decode cX7_init 88 = .ok (.newarray .int, 2) := by decide +kernel
theorem dX7_init_90 : decode cX7_init 90 = .ok (.putfield 42, 3) := by decide +kernel
theorem dX7_init_93 : decode cX7_init 93 = .ok (.aload_n 0, 1) := by decide +kernel
theorem dX7_init_94 : decode cX7_init 94 = .ok (.ldc 45, 2) := by decide +kernel
theorem dX7_init_96 : decode cX7_init 96 = .ok (.newarray .int, 2) := by decide +kernel
theorem dX7_init_98 : decode cX7_init 98 = .ok (.putfield 46, 3) := by decide +kernel
theorem dX7_init_101 : decode cX7_init 101 = .ok (.aload_n 0, 1) := by decide +kernel
theorem dX7_init_102 : decode cX7_init 102 = .ok (.ldc 45, 2) := by decide +kernel
theorem dX7_init_104 : decode cX7_init 104 = .ok (.newarray .int, 2) := by decide +kernel
theorem dX7_init_106 : decode cX7_init 106 = .ok (.putfield 49, 3) := by decide +kernel
theorem dX7_init_109 : decode cX7_init 109 = .ok (.return_, 1) := by decide +kernel
theorem dX7_lies_0 : decode cX7_lies 0 = .ok (.lload_n 0, 1) := by decide +kernel
theorem dX7_lies_1 : decode cX7_lies 1 = .ok (.lload_n 2, 1) := by decide +kernel
theorem dX7_lies_2 : decode cX7_lies 2 = .ok (.lcmp, 1) := by decide +kernel
theorem dX7_lies_3 : decode cX7_lies 3 = .ok (.ifCond .lt 14, 3) := by decide +kernel
theorem dX7_lies_6 : decode cX7_lies 6 = .ok (.lload_n 0, 1) := by decide +kernel
theorem dX7_lies_7 : decode cX7_lies 7 = .ok (.lload 4, 2) := by decide +kernel
theorem dX7_lies_9 : decode cX7_lies 9 = .ok (.lcmp, 1) := by decide +kernel
theorem dX7_lies_10 : decode cX7_lies 10 = .ok (.ifCond .gt 7, 3) := by decide +kernel
theorem dX7_lies_13 : decode cX7_lies 13 = .ok (.iconst 1, 1) := by decide +kernel
theorem dX7_lies_14 : decode cX7_lies 14 = .ok (.goto 4, 3) := by decide +kernel
theorem dX7_lies_17 : decode cX7_lies 17 = .ok (.iconst 0, 1) := by decide +kernel
theorem dX7_lies_18 : decode cX7_lies 18 = .ok (.ireturn, 1) := by decide +kernel
theorem dX7_isStep_0 : decode cX7_isStep 0 = .ok (.iload_n 1, 1) := by decide +kernel
theorem dX7_isStep_1 : decode cX7_isStep 1 = .ok (.i2l, 1) := by decide +kernel
theorem dX7_isStep_2 : decode cX7_isStep 2 = .ok (.lconst 0, 1) := by decide +kernel
theorem dX7_isStep_3 : decode cX7_isStep 3 = .ok (.aload_n 0, 1) := by decide +kernel
theorem dX7_isStep_4 : decode cX7_isStep 4 = .ok (.getfield 52, 3) := by decide +kernel
theorem dX7_isStep_7 : decode cX7_isStep 7 = .ok (.iconst 1, 1) := by decide +kernel
theorem dX7_isStep_8 : decode cX7_isStep 8 = .ok (.isub, 1) := by decide +kernel
theorem dX7_isStep_9 : decode cX7_isStep 9 = .ok (.i2l, 1) := by decide +kernel
theorem dX7_isStep_10 : decode cX7_isStep 10 = .ok (.invokestatic 55, 3) := by decide +kernel
theorem dX7_isStep_13 : decode cX7_isStep 13 = .ok (.ireturn, 1) := by decide +kernel
theorem dX7_isIn_0 : decode cX7_isIn 0 = .ok (.iload_n 0, 1) := by decide +kernel
theorem dX7_isIn_1 : decode cX7_isIn 1 = .ok (.iload_n 1, 1) := by decide +kernel
theorem dX7_isIn_2 : decode cX7_isIn 2 = .ok (.ishr, 1) := by decide +kernel
theorem dX7_isIn_3 : decode cX7_isIn 3 = .ok (.iconst 1, 1) := by decide +kernel
theorem dX7_isIn_4 : decode cX7_isIn 4 = .ok (.iand, 1) := by decide +kernel
theorem dX7_isIn_5 : decode cX7_isIn 5 = .ok (.iconst 1, 1) := by decide +kernel
theorem dX7_isIn_6 : decode cX7_isIn 6 = .ok (.if_icmp .ne 7, 3) := by decide +kernel
theorem dX7_isIn_9 : decode cX7_isIn 9 = .ok (.iconst 1, 1) := by decide +kernel
theorem dX7_isIn_10 : decode cX7_isIn 10 = .ok (.goto 4, 3) := by decide +kernel
theorem dX7_isIn_13 : decode cX7_isIn 13 = .ok (.iconst 0, 1) := by decide +kernel
theorem dX7_isIn_14 : decode cX7_isIn 14 = .ok (.ireturn, 1) := by decide +kernel
theorem dX7_sizeOf_0 : decode cX7_sizeOf 0 = .ok (.iconst 0, 1) := by decide +kernel
theorem dX7_sizeOf_1 : decode cX7_sizeOf 1 = .ok (.istore_n 1, 1) := by decide +kernel
theorem dX7_sizeOf_2 : decode cX7_sizeOf 2 = .ok (.iload_n 0, 1) := by decide +kernel
theorem dX7_sizeOf_3 : decode cX7_sizeOf 3 = .ok (.istore_n 2, 1) := by decide +kernel
theorem dX7_sizeOf_4 : decode cX7_sizeOf 4 = .ok (.iload_n 2, 1) := by decide +kernel
theorem dX7_sizeOf_5 : decode cX7_sizeOf 5 = .ok (.ifCond .eq 15, 3) := by decide +kernel
theorem dX7_sizeOf_8 : decode cX7_sizeOf 8 = .ok (.iinc 1 1, 3) := by decide +kernel
theorem dX7_sizeOf_11 : decode cX7_sizeOf 11 = .ok (.iload_n 2, 1) := by decide +kernel
theorem dX7_sizeOf_12 : decode cX7_sizeOf 12 = .ok (.iload_n 2, 1) := by decide +kernel
theorem dX7_sizeOf_13 : decode cX7_sizeOf 13 = .ok (.iconst 1, 1) := by decide +kernel
theorem dX7_sizeOf_14 : decode cX7_sizeOf 14 = .ok (.isub, 1) := by decide +kernel
theorem dX7_sizeOf_15 : decode cX7_sizeOf 15 = .ok (.iand, 1) := by decide +kernel
theorem dX7_sizeOf_16 : decode cX7_sizeOf 16 = .ok (.istore_n 2, 1) := by decide +kernel
theorem dX7_sizeOf_17 : decode cX7_sizeOf 17 = .ok (.goto (-13), 3) := by decide +kernel
theorem dX7_sizeOf_20 : decode cX7_sizeOf 20 = .ok (.iload_n 1, 1) := by decide +kernel
theorem dX7_sizeOf_21 : decode cX7_sizeOf 21 = .ok (.ireturn, 1) := by decide +kernel
theorem dX7_flow_0 : decode cX7_flow 0 = .ok (.iload_n 1, 1) := by decide +kernel
theorem dX7_flow_1 : decode cX7_flow 1 = .ok (.i2l, 1) := by decide +kernel
theorem dX7_flow_2 : decode cX7_flow 2 = .ok (.ldc2_w 59, 3) := by decide +kernel
theorem dX7_flow_5 : decode cX7_flow 5 = .ok (.ldc2_w 61, 3) := by decide +kernel
theorem dX7_flow_8 : decode cX7_flow 8 = .ok (.invokestatic 55, 3) := by decide +kernel
theorem dX7_flow_11 : decode cX7_flow 11 = .ok (.ifCond .ne 5, 3) := by decide +kernel
theorem dX7_flow_14 : decode cX7_flow 14 = .ok (.iconst 0, 1) := by decide +kernel
theorem dX7_flow_15 : decode cX7_flow 15 = .ok (.ireturn, 1) := by decide +kernel
theorem dX7_flow_16 : decode cX7_flow 16 = .ok (.aload_n 0, 1) := by decide +kernel
theorem dX7_flow_17 : decode cX7_flow 17 = .ok (.iload_n 1, 1) := by decide +kernel
theorem dX7_flow_18 : decode cX7_flow 18 = .ok (.putfield 13, 3) := by decide +kernel
theorem dX7_flow_21 : decode cX7_flow 21 = .ok (.aload_n 0, 1) := by decide +kernel
theorem dX7_flow_22 : decode cX7_flow 22 = .ok (.iconst 0, 1) := by decide +kernel
theorem dX7_flow_23 : decode cX7_flow 23 = .ok (.putfield 52, 3) := by decide +kernel
theorem dX7_flow_26 : decode cX7_flow 26 = .ok (.aload_n 0, 1) := by decide +kernel
theorem dX7_flow_27 : decode cX7_flow 27 = .ok (.iconst 0, 1) := by decide +kernel
theorem dX7_flow_28 : decode cX7_flow 28 = .ok (.putfield 63, 3) := by decide +kernel
theorem dX7_flow_31 : decode cX7_flow 31 = .ok (.aload_n 0, 1) := by decide +kernel
theorem dX7_flow_32 : decode cX7_flow 32 = .ok (.iconst 0, 1) := by decide +kernel
theorem dX7_flow_33 : decode cX7_flow 33 = .ok (.putfield 66, 3) := by decide +kernel
theorem dX7_flow_36 : decode cX7_flow 36 = .ok (.aload_n 0, 1) := by decide +kernel
theorem dX7_flow_37 : decode cX7_flow 37 = .ok (.iconst 0, 1) := by decide +kernel
theorem dX7_flow_38 : decode cX7_flow 38 = .ok (.putfield 69, 3) := by decide +kernel
theorem dX7_flow_41 : decode cX7_flow 41 = .ok (.iconst 1, 1) := by decide +kernel
theorem dX7_flow_42 : decode cX7_flow 42 = .ok (.ireturn, 1) := by decide +kernel
theorem dX7_step_0 : decode cX7_step 0 = .ok (.aload_n 0, 1) := by decide +kernel
theorem dX7_step_1 : decode cX7_step 1 = .ok (.getfield 52, 3) := by decide +kernel
theorem dX7_step_4 : decode cX7_step 4 = .ok (.bipush 16, 2) := by decide +kernel
theorem dX7_step_6 : decode cX7_step 6 = .ok (.if_icmp .eq 50, 3) := by decide +kernel
theorem dX7_step_9 : decode cX7_step 9 = .ok (.iload_n 1, 1) := by decide +kernel
theorem dX7_step_10 : decode cX7_step 10 = .ok (.i2l, 1) := by decide +kernel
theorem dX7_step_11 : decode cX7_step 11 = .ok (.lconst 0, 1) := by decide +kernel
theorem dX7_step_12 : decode cX7_step 12 = .ok (.aload_n 0, 1) := by decide +kernel
theorem dX7_step_13 : decode cX7_step 13 = .ok (.getfield 13, 3) := by decide +kernel
theorem dX7_step_16 : decode cX7_step 16 = .ok (.iconst 1, 1) := by decide +kernel
theorem dX7_step_17 : decode cX7_step 17 = .ok (.isub, 1) := by decide +kernel
theorem dX7_step_18 : decode cX7_step 18 = .ok (.i2l, 1) := by decide +kernel
theorem dX7_step_19 : decode cX7_step 19 = .ok (.invokestatic 55, 3) := by decide +kernel
theorem dX7_step_22 : decode cX7_step 22 = .ok (.ifCond .eq 34, 3) := by decide +kernel
theorem dX7_step_25 : decode cX7_step 25 = .ok (.iload_n 2, 1) := by decide +kernel
theorem dX7_step_26 : decode cX7_step 26 = .ok (.i2l, 1) := by decide +kernel
theorem dX7_step_27 : decode cX7_step 27 = .ok (.iload_n 1, 1) := by decide +kernel
theorem dX7_step_28 : decode cX7_step 28 = .ok (.iconst 1, 1) := by decide +kernel
theorem dX7_step_29 : decode cX7_step 29 = .ok (.iadd, 1) := by decide +kernel
theorem dX7_step_30 : decode cX7_step 30 = .ok (.i2l, 1) := by decide +kernel
theorem dX7_step_31 : decode cX7_step 31 = .ok (.aload_n 0, 1) := by decide +kernel
theorem dX7_step_32 : decode cX7_step 32 = .ok (.getfield 13, 3) := by decide +kernel
theorem dX7_step_35 : decode cX7_step 35 = .ok (.iconst 1, 1) := by decide +kernel
theorem dX7_step_36 : decode cX7_step 36 = .ok (.isub, 1) := by decide +kernel
theorem dX7_step_37 : decode cX7_step 37 = .ok (.i2l, 1) := by decide +kernel
theorem dX7_step_38 : decode cX7_step 38 = .ok (.invokestatic 55, 3) := by decide +kernel
theorem dX7_step_41 : decode cX7_step 41 = .ok (.ifCond .eq 15, 3) := by decide +kernel
theorem dX7_step_44 : decode cX7_step 44 = .ok (.iload_n 3, 1) := by decide +kernel
theorem dX7_step_45 : decode cX7_step 45 = .ok (.i2l, 1) := by decide +kernel
theorem dX7_step_46 : decode cX7_step 46 = .ok (.lconst 0, 1) := by decide +kernel
theorem dX7_step_47 : decode cX7_step 47 = .ok (.ldc2_w 73, 3) := by decide +kernel
theorem dX7_step_50 : decode cX7_step 50 = .ok (.invokestatic 55, 3) := by decide +kernel
theorem dX7_step_53 : decode cX7_step 53 = .ok (.ifCond .ne 5, 3) := by decide +kernel
theorem dX7_step_56 : decode cX7_step 56 = .ok (.iconst (-1), 1) := by decide +kernel
theorem dX7_step_57 : decode cX7_step 57 = .ok (.ireturn, 1) := by decide +kernel
theorem dX7_step_58 : decode cX7_step 58 = .ok (.aload_n 0, 1) := by decide +kernel
theorem dX7_step_59 : decode cX7_step 59 = .ok (.getfield 17, 3) := by decide +kernel
theorem dX7_step_62 : decode cX7_step 62 = .ok (.aload_n 0, 1) := by decide +kernel
theorem dX7_step_63 : decode cX7_step 63 = .ok (.getfield 52, 3) := by decide +kernel
theorem dX7_step_66 : decode cX7_step 66 = .ok (.iload_n 1, 1) := by decide +kernel
theorem dX7_step_67 : decode cX7_step 67 = .ok (.iastore, 1) := by decide +kernel
theorem dX7_step_68 : decode cX7_step 68 = .ok (.aload_n 0, 1) := by decide +kernel
theorem dX7_step_69 : decode cX7_step 69 = .ok (.getfield 21, 3) := by decide +kernel
theorem dX7_step_72 : decode cX7_step 72 = .ok (.aload_n 0, 1) := by decide +kernel
theorem dX7_step_73 : decode cX7_step 73 = .ok (.getfield 52, 3) := by decide +kernel
theorem dX7_step_76 : decode cX7_step 76 = .ok (.iload_n 2, 1) := by decide +kernel
theorem dX7_step_77 : decode cX7_step 77 = .ok (.iastore, 1) := by decide +kernel
theorem dX7_step_78 : decode cX7_step 78 = .ok (.aload_n 0, 1) := by decide +kernel
theorem dX7_step_79 : decode cX7_step 79 = .ok (.getfield 24, 3) := by decide +kernel
theorem dX7_step_82 : decode cX7_step 82 = .ok (.aload_n 0, 1) := by decide +kernel
theorem dX7_step_83 : decode cX7_step 83 = .ok (.getfield 52, 3) := by decide +kernel
theorem dX7_step_86 : decode cX7_step 86 = .ok (.iload_n 3, 1) := by decide +kernel
theorem dX7_step_87 : decode cX7_step 87 = .ok (.iastore, 1) := by decide +kernel
theorem dX7_step_88 : decode cX7_step 88 = .ok (.aload_n 0, 1) := by decide +kernel
theorem dX7_step_89 : decode cX7_step 89 = .ok (.dup, 1) := by decide +kernel
theorem dX7_step_90 : decode cX7_step 90 = .ok (.getfield 52, 3) := by decide +kernel
theorem dX7_step_93 : decode cX7_step 93 = .ok (.iconst 1, 1) := by decide +kernel
theorem dX7_step_94 : decode cX7_step 94 = .ok (.iadd, 1) := by decide +kernel
theorem dX7_step_95 : decode cX7_step 95 = .ok (.putfield 52, 3) := by decide +kernel
theorem dX7_step_98 : decode cX7_step 98 = .ok (.aload_n 0, 1) := by decide +kernel
theorem dX7_step_99 : decode cX7_step 99 = .ok (.getfield 52, 3) := by decide +kernel
theorem dX7_step_102 : decode cX7_step 102 = .ok (.iconst 1, 1) := by decide +kernel
theorem dX7_step_103 : decode cX7_step 103 = .ok (.isub, 1) := by decide +kernel
theorem dX7_step_104 : decode cX7_step 104 = .ok (.ireturn, 1) := by decide +kernel
theorem dX7_counted_0 : decode cX7_counted 0 = .ok (.aload_n 0, 1) := by decide +kernel
theorem dX7_counted_1 : decode cX7_counted 1 = .ok (.iload_n 1, 1) := by decide +kernel
theorem dX7_counted_2 : decode cX7_counted 2 = .ok (.invokevirtual 75, 3) := by decide +kernel
theorem dX7_counted_5 : decode cX7_counted 5 = .ok (.ifCond .eq 15, 3) := by decide +kernel
theorem dX7_counted_8 : decode cX7_counted 8 = .ok (.iload_n 2, 1) := by decide +kernel
theorem dX7_counted_9 : decode cX7_counted 9 = .ok (.i2l, 1) := by decide +kernel
theorem dX7_counted_10 : decode cX7_counted 10 = .ok (.lconst 0, 1) := by decide +kernel
theorem dX7_counted_11 : decode cX7_counted 11 = .ok (.ldc2_w 73, 3) := by decide +kernel
theorem dX7_counted_14 : decode cX7_counted 14 = .ok (.invokestatic 55, 3) := by decide +kernel
theorem dX7_counted_17 : decode cX7_counted 17 = .ok (.ifCond .ne 5, 3) := by decide +kernel
theorem dX7_counted_20 : decode cX7_counted 20 = .ok (.iconst 0, 1) := by decide +kernel
theorem dX7_counted_21 : decode cX7_counted 21 = .ok (.ireturn, 1) := by decide +kernel
theorem dX7_counted_22 : decode cX7_counted 22 = .ok (.aload_n 0, 1) := by decide +kernel
theorem dX7_counted_23 : decode cX7_counted 23 = .ok (.getfield 24, 3) := by decide +kernel
theorem dX7_counted_26 : decode cX7_counted 26 = .ok (.iload_n 1, 1) := by decide +kernel
theorem dX7_counted_27 : decode cX7_counted 27 = .ok (.iload_n 2, 1) := by decide +kernel
theorem dX7_counted_28 : decode cX7_counted 28 = .ok (.iastore, 1) := by decide +kernel
theorem dX7_counted_29 : decode cX7_counted 29 = .ok (.iconst 1, 1) := by decide +kernel
theorem dX7_counted_30 : decode cX7_counted 30 = .ok (.ireturn, 1) := by decide +kernel
theorem dX7_line_0 : decode cX7_line 0 = .ok (.aload_n 0, 1) := by decide +kernel
theorem dX7_line_1 : decode cX7_line 1 = .ok (.iload_n 1, 1) := by decide +kernel
theorem dX7_line_2 : decode cX7_line 2 = .ok (.invokevirtual 75, 3) := by decide +kernel
theorem dX7_line_5 : decode cX7_line 5 = .ok (.ifCond .eq 15, 3) := by decide +kernel
theorem dX7_line_8 : decode cX7_line 8 = .ok (.aload_n 0, 1) := by decide +kernel
theorem dX7_line_9 : decode cX7_line 9 = .ok (.getfield 63, 3) := by decide +kernel
theorem dX7_line_12 : decode cX7_line 12 = .ok (.iload_n 1, 1) := by decide +kernel
theorem dX7_line_13 : decode cX7_line 13 = .ok (.invokestatic 79, 3) := by decide +kernel
theorem dX7_line_16 : decode cX7_line 16 = .ok (.iload_n 2, 1) := by decide +kernel
theorem dX7_line_17 : decode cX7_line 17 = .ok (.if_icmp .ne 5, 3) := by decide +kernel
theorem dX7_line_20 : decode cX7_line 20 = .ok (.iconst 0, 1) := by decide +kernel
theorem dX7_line_21 : decode cX7_line 21 = .ok (.ireturn, 1) := by decide +kernel
theorem dX7_line_22 : decode cX7_line 22 = .ok (.aload_n 0, 1) := by decide +kernel
theorem dX7_line_23 : decode cX7_line 23 = .ok (.dup, 1) := by decide +kernel
theorem dX7_line_24 : decode cX7_line 24 = .ok (.getfield 63, 3) := by decide +kernel
theorem dX7_line_27 : decode cX7_line 27 = .ok (.iconst 1, 1) := by decide +kernel
theorem dX7_line_28 : decode cX7_line 28 = .ok (.iload_n 1, 1) := by decide +kernel
theorem dX7_line_29 : decode cX7_line 29 = .ok (.ishl, 1) := by decide +kernel
theorem dX7_line_30 : decode cX7_line 30 = .ok (.ixor, 1) := by decide +kernel
theorem dX7_line_31 : decode cX7_line 31 = .ok (.putfield 63, 3) := by decide +kernel
theorem dX7_line_34 : decode cX7_line 34 = .ok (.iconst 1, 1) := by decide +kernel
theorem dX7_line_35 : decode cX7_line 35 = .ok (.ireturn, 1) := by decide +kernel
theorem dX7_fault_0 : decode cX7_fault 0 = .ok (.iload_n 1, 1) := by decide +kernel
theorem dX7_fault_1 : decode cX7_fault 1 = .ok (.i2l, 1) := by decide +kernel
theorem dX7_fault_2 : decode cX7_fault 2 = .ok (.lconst 0, 1) := by decide +kernel
theorem dX7_fault_3 : decode cX7_fault 3 = .ok (.aload_n 0, 1) := by decide +kernel
theorem dX7_fault_4 : decode cX7_fault 4 = .ok (.getfield 13, 3) := by decide +kernel
theorem dX7_fault_7 : decode cX7_fault 7 = .ok (.iconst 1, 1) := by decide +kernel
theorem dX7_fault_8 : decode cX7_fault 8 = .ok (.isub, 1) := by decide +kernel
theorem dX7_fault_9 : decode cX7_fault 9 = .ok (.i2l, 1) := by decide +kernel
theorem dX7_fault_10 : decode cX7_fault 10 = .ok (.invokestatic 55, 3) := by decide +kernel
theorem dX7_fault_13 : decode cX7_fault 13 = .ok (.ifCond .eq 15, 3) := by decide +kernel
theorem dX7_fault_16 : decode cX7_fault 16 = .ok (.aload_n 0, 1) := by decide +kernel
theorem dX7_fault_17 : decode cX7_fault 17 = .ok (.getfield 66, 3) := by decide +kernel
theorem dX7_fault_20 : decode cX7_fault 20 = .ok (.iload_n 1, 1) := by decide +kernel
theorem dX7_fault_21 : decode cX7_fault 21 = .ok (.invokestatic 79, 3) := by decide +kernel
theorem dX7_fault_24 : decode cX7_fault 24 = .ok (.iload_n 2, 1) := by decide +kernel
theorem dX7_fault_25 : decode cX7_fault 25 = .ok (.if_icmp .ne 5, 3) := by decide +kernel
theorem dX7_fault_28 : decode cX7_fault 28 = .ok (.iconst 0, 1) := by decide +kernel
theorem dX7_fault_29 : decode cX7_fault 29 = .ok (.ireturn, 1) := by decide +kernel
theorem dX7_fault_30 : decode cX7_fault 30 = .ok (.aload_n 0, 1) := by decide +kernel
theorem dX7_fault_31 : decode cX7_fault 31 = .ok (.dup, 1) := by decide +kernel
theorem dX7_fault_32 : decode cX7_fault 32 = .ok (.getfield 66, 3) := by decide +kernel
theorem dX7_fault_35 : decode cX7_fault 35 = .ok (.iconst 1, 1) := by decide +kernel
theorem dX7_fault_36 : decode cX7_fault 36 = .ok (.iload_n 1, 1) := by decide +kernel
theorem dX7_fault_37 : decode cX7_fault 37 = .ok (.ishl, 1) := by decide +kernel
theorem dX7_fault_38 : decode cX7_fault 38 = .ok (.ixor, 1) := by decide +kernel
theorem dX7_fault_39 : decode cX7_fault 39 = .ok (.putfield 66, 3) := by decide +kernel
theorem dX7_fault_42 : decode cX7_fault 42 = .ok (.iconst 1, 1) := by decide +kernel
theorem dX7_fault_43 : decode cX7_fault 43 = .ok (.ireturn, 1) := by decide +kernel
theorem dX7_keeps_0 : decode cX7_keeps 0 = .ok (.aload_n 0, 1) := by decide +kernel
theorem dX7_keeps_1 : decode cX7_keeps 1 = .ok (.getfield 83, 3) := by decide +kernel
theorem dX7_keeps_4 : decode cX7_keeps 4 = .ok (.sipush 200, 3) := by decide +kernel
theorem dX7_keeps_7 : decode cX7_keeps 7 = .ok (.if_icmp .ne 9, 3) := by decide +kernel
theorem dX7_keeps_10 : decode cX7_keeps 10 = .ok (.aload_n 0, 1) := by decide +kernel
theorem dX7_keeps_11 : decode cX7_keeps 11 = .ok (.iconst 1, 1) := by decide +kernel
theorem dX7_keeps_12 : decode cX7_keeps 12 = .ok (.putfield 86, 3) := by decide +kernel
theorem dX7_keeps_15 : decode cX7_keeps 15 = .ok (.return_, 1) := by decide +kernel
theorem dX7_keeps_16 : decode cX7_keeps 16 = .ok (.aload_n 0, 1) := by decide +kernel
theorem dX7_keeps_17 : decode cX7_keeps 17 = .ok (.getfield 30, 3) := by decide +kernel
theorem dX7_keeps_20 : decode cX7_keeps 20 = .ok (.aload_n 0, 1) := by decide +kernel
theorem dX7_keeps_21 : decode cX7_keeps 21 = .ok (.getfield 83, 3) := by decide +kernel
theorem dX7_keeps_24 : decode cX7_keeps 24 = .ok (.iload_n 1, 1) := by decide +kernel
theorem dX7_keeps_25 : decode cX7_keeps 25 = .ok (.iastore, 1) := by decide +kernel
theorem dX7_keeps_26 : decode cX7_keeps 26 = .ok (.aload_n 0, 1) := by decide +kernel
theorem dX7_keeps_27 : decode cX7_keeps 27 = .ok (.getfield 33, 3) := by decide +kernel
theorem dX7_keeps_30 : decode cX7_keeps 30 = .ok (.aload_n 0, 1) := by decide +kernel
theorem dX7_keeps_31 : decode cX7_keeps 31 = .ok (.getfield 83, 3) := by decide +kernel
theorem dX7_keeps_34 : decode cX7_keeps 34 = .ok (.iconst 0, 1) := by decide +kernel
theorem dX7_keeps_35 : decode cX7_keeps 35 = .ok (.iastore, 1) := by decide +kernel
theorem dX7_keeps_36 : decode cX7_keeps 36 = .ok (.aload_n 0, 1) := by decide +kernel
theorem dX7_keeps_37 : decode cX7_keeps 37 = .ok (.getfield 36, 3) := by decide +kernel
theorem dX7_keeps_40 : decode cX7_keeps 40 = .ok (.aload_n 0, 1) := by decide +kernel
theorem dX7_keeps_41 : decode cX7_keeps 41 = .ok (.getfield 83, 3) := by decide +kernel
theorem dX7_keeps_44 : decode cX7_keeps 44 = .ok (.aload_n 0, 1) := by decide +kernel
theorem dX7_keeps_45 : decode cX7_keeps 45 = .ok (.getfield 66, 3) := by decide +kernel
theorem dX7_keeps_48 : decode cX7_keeps 48 = .ok (.iconst 1, 1) := by decide +kernel
theorem dX7_keeps_49 : decode cX7_keeps 49 = .ok (.iand, 1) := by decide +kernel
theorem dX7_keeps_50 : decode cX7_keeps 50 = .ok (.iastore, 1) := by decide +kernel
theorem dX7_keeps_51 : decode cX7_keeps 51 = .ok (.iconst 0, 1) := by decide +kernel
theorem dX7_keeps_52 : decode cX7_keeps 52 = .ok (.istore_n 2, 1) := by decide +kernel
theorem dX7_keeps_53 : decode cX7_keeps 53 = .ok (.iload_n 2, 1) := by decide +kernel
theorem dX7_keeps_54 : decode cX7_keeps 54 = .ok (.iload_n 1, 1) := by decide +kernel
theorem dX7_keeps_55 : decode cX7_keeps 55 = .ok (.if_icmp .ge 79, 3) := by decide +kernel
theorem dX7_keeps_58 : decode cX7_keeps 58 = .ok (.aload_n 0, 1) := by decide +kernel
theorem dX7_keeps_59 : decode cX7_keeps 59 = .ok (.getfield 27, 3) := by decide +kernel
theorem dX7_keeps_62 : decode cX7_keeps 62 = .ok (.bipush 16, 2) := by decide +kernel
