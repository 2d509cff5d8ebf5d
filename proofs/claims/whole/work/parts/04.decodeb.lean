theorem dX4_opens_107 : decode cX4_opens 107 = .ok (.iload_n 1, 1) := by decide +kernel
theorem dX4_opens_108 : decode cX4_opens 108 = .ok (.iconst 0, 1) := by decide +kernel
theorem dX4_opens_109 : decode cX4_opens 109 = .ok (.iastore, 1) := by decide +kernel
theorem dX4_opens_110 : decode cX4_opens 110 = .ok (.aload_n 0, 1) := by decide +kernel
theorem dX4_opens_111 : decode cX4_opens 111 = .ok (.iload_n 1, 1) := by decide +kernel
theorem dX4_opens_112 : decode cX4_opens 112 = .ok (.invokevirtual 171, 3) := by decide +kernel
theorem dX4_opens_115 : decode cX4_opens 115 = .ok (.iload 4, 2) := by decide +kernel
theorem dX4_opens_117 : decode cX4_opens 117 = .ok (.ireturn, 1) := by decide +kernel
theorem dX4_asks_0 : decode cX4_asks 0 = .ok (.aload_n 0, 1) := by decide +kernel
theorem dX4_asks_1 : decode cX4_asks 1 = .ok (.aload_n 0, 1) := by decide +kernel
theorem dX4_asks_2 : decode cX4_asks 2 = .ok (.iload_n 1, 1) := by decide +kernel
theorem dX4_asks_3 : decode cX4_asks 3 = .ok (.invokevirtual 142, 3) := by decide +kernel
theorem dX4_asks_6 : decode cX4_asks 6 = .ok (.ifCond .eq 21, 3) := by decide +kernel
theorem dX4_asks_9 : decode cX4_asks 9 = .ok (.iload_n 2, 1) := by decide +kernel
theorem dX4_asks_10 : decode cX4_asks 10 = .ok (.invokestatic 128, 3) := by decide +kernel
theorem dX4_asks_13 : decode cX4_asks 13 = .ok (.ifCond .eq 14, 3) := by decide +kernel
theorem dX4_asks_16 : decode cX4_asks 16 = .ok (.iload_n 3, 1) := by decide +kernel
theorem dX4_asks_17 : decode cX4_asks 17 = .ok (.invokestatic 121, 3) := by decide +kernel
theorem dX4_asks_20 : decode cX4_asks 20 = .ok (.ifCond .eq 7, 3) := by decide +kernel
theorem dX4_asks_23 : decode cX4_asks 23 = .ok (.iconst 0, 1) := by decide +kernel
theorem dX4_asks_24 : decode cX4_asks 24 = .ok (.goto 4, 3) := by decide +kernel
theorem dX4_asks_27 : decode cX4_asks 27 = .ok (.iconst 1, 1) := by decide +kernel
theorem dX4_asks_28 : decode cX4_asks 28 = .ok (.putfield 104, 3) := by decide +kernel
theorem dX4_asks_31 : decode cX4_asks 31 = .ok (.aload_n 0, 1) := by decide +kernel
theorem dX4_asks_32 : decode cX4_asks 32 = .ok (.getfield 104, 3) := by decide +kernel
theorem dX4_asks_35 : decode cX4_asks 35 = .ok (.ifCond .ne 34, 3) := by decide +kernel
theorem dX4_asks_38 : decode cX4_asks 38 = .ok (.aload_n 0, 1) := by decide +kernel
theorem dX4_asks_39 : decode cX4_asks 39 = .ok (.iload_n 1, 1) := by decide +kernel
theorem dX4_asks_40 : decode cX4_asks 40 = .ok (.iload_n 2, 1) := by decide +kernel
theorem dX4_asks_41 : decode cX4_asks 41 = .ok (.invokevirtual 145, 3) := by decide +kernel
theorem dX4_asks_44 : decode cX4_asks 44 = .ok (.ifCond .eq 20, 3) := by decide +kernel
theorem dX4_asks_47 : decode cX4_asks 47 = .ok (.aload_n 0, 1) := by decide +kernel
theorem dX4_asks_48 : decode cX4_asks 48 = .ok (.iload_n 2, 1) := by decide +kernel
theorem dX4_asks_49 : decode cX4_asks 49 = .ok (.invokevirtual 131, 3) := by decide +kernel
theorem dX4_asks_52 : decode cX4_asks 52 = .ok (.ifCond .ne 12, 3) := by decide +kernel
theorem dX4_asks_55 : decode cX4_asks 55 = .ok (.aload_n 0, 1) := by decide +kernel
theorem dX4_asks_56 : decode cX4_asks 56 = .ok (.iload_n 3, 1) := by decide +kernel
theorem dX4_asks_57 : decode cX4_asks 57 = .ok (.invokevirtual 175, 3) := by decide +kernel
theorem dX4_asks_60 : decode cX4_asks 60 = .ok (.iload_n 1, 1) := by decide +kernel
theorem dX4_asks_61 : decode cX4_asks 61 = .ok (.if_icmp .eq 8, 3) := by decide +kernel
theorem dX4_asks_64 : decode cX4_asks 64 = .ok (.aload_n 0, 1) := by decide +kernel
theorem dX4_asks_65 : decode cX4_asks 65 = .ok (.iconst 2, 1) := by decide +kernel
theorem dX4_asks_66 : decode cX4_asks 66 = .ok (.putfield 104, 3) := by decide +kernel
theorem dX4_asks_69 : decode cX4_asks 69 = .ok (.return_, 1) := by decide +kernel
theorem dX4_dig_0 : decode cX4_dig 0 = .ok (.aload_n 0, 1) := by decide +kernel
theorem dX4_dig_1 : decode cX4_dig 1 = .ok (.iload_n 1, 1) := by decide +kernel
theorem dX4_dig_2 : decode cX4_dig 2 = .ok (.iload_n 2, 1) := by decide +kernel
theorem dX4_dig_3 : decode cX4_dig 3 = .ok (.iload_n 3, 1) := by decide +kernel
theorem dX4_dig_4 : decode cX4_dig 4 = .ok (.invokevirtual 178, 3) := by decide +kernel
theorem dX4_dig_7 : decode cX4_dig 7 = .ok (.aload_n 0, 1) := by decide +kernel
theorem dX4_dig_8 : decode cX4_dig 8 = .ok (.getfield 104, 3) := by decide +kernel
theorem dX4_dig_11 : decode cX4_dig 11 = .ok (.ifCond .ne 26, 3) := by decide +kernel
theorem dX4_dig_14 : decode cX4_dig 14 = .ok (.aload_n 0, 1) := by decide +kernel
theorem dX4_dig_15 : decode cX4_dig 15 = .ok (.getfield 7, 3) := by decide +kernel
theorem dX4_dig_18 : decode cX4_dig 18 = .ok (.iload_n 3, 1) := by decide +kernel
theorem dX4_dig_19 : decode cX4_dig 19 = .ok (.iaload, 1) := by decide +kernel
theorem dX4_dig_20 : decode cX4_dig 20 = .ok (.iconst 1, 1) := by decide +kernel
theorem dX4_dig_21 : decode cX4_dig 21 = .ok (.if_icmp .eq 11, 3) := by decide +kernel
theorem dX4_dig_24 : decode cX4_dig 24 = .ok (.aload_n 0, 1) := by decide +kernel
theorem dX4_dig_25 : decode cX4_dig 25 = .ok (.iload_n 3, 1) := by decide +kernel
theorem dX4_dig_26 : decode cX4_dig 26 = .ok (.invokevirtual 182, 3) := by decide +kernel
theorem dX4_dig_29 : decode cX4_dig 29 = .ok (.ifCond .ne 8, 3) := by decide +kernel
theorem dX4_dig_32 : decode cX4_dig 32 = .ok (.aload_n 0, 1) := by decide +kernel
theorem dX4_dig_33 : decode cX4_dig 33 = .ok (.iconst 2, 1) := by decide +kernel
theorem dX4_dig_34 : decode cX4_dig 34 = .ok (.putfield 104, 3) := by decide +kernel
theorem dX4_dig_37 : decode cX4_dig 37 = .ok (.aload_n 0, 1) := by decide +kernel
theorem dX4_dig_38 : decode cX4_dig 38 = .ok (.getfield 104, 3) := by decide +kernel
theorem dX4_dig_41 : decode cX4_dig 41 = .ok (.ifCond .le 5, 3) := by decide +kernel
theorem dX4_dig_44 : decode cX4_dig 44 = .ok (.iconst 0, 1) := by decide +kernel
theorem dX4_dig_45 : decode cX4_dig 45 = .ok (.ireturn, 1) := by decide +kernel
theorem dX4_dig_46 : decode cX4_dig 46 = .ok (.aload_n 0, 1) := by decide +kernel
theorem dX4_dig_47 : decode cX4_dig 47 = .ok (.getfield 47, 3) := by decide +kernel
theorem dX4_dig_50 : decode cX4_dig 50 = .ok (.iload_n 1, 1) := by decide +kernel
theorem dX4_dig_51 : decode cX4_dig 51 = .ok (.aload_n 0, 1) := by decide +kernel
theorem dX4_dig_52 : decode cX4_dig 52 = .ok (.getfield 118, 3) := by decide +kernel
theorem dX4_dig_55 : decode cX4_dig 55 = .ok (.iastore, 1) := by decide +kernel
theorem dX4_dig_56 : decode cX4_dig 56 = .ok (.aload_n 0, 1) := by decide +kernel
theorem dX4_dig_57 : decode cX4_dig 57 = .ok (.iload_n 3, 1) := by decide +kernel
theorem dX4_dig_58 : decode cX4_dig 58 = .ok (.iconst (-1), 1) := by decide +kernel
theorem dX4_dig_59 : decode cX4_dig 59 = .ok (.iload_n 1, 1) := by decide +kernel
theorem dX4_dig_60 : decode cX4_dig 60 = .ok (.invokevirtual 185, 3) := by decide +kernel
theorem dX4_dig_63 : decode cX4_dig 63 = .ok (.ireturn, 1) := by decide +kernel
theorem dX4_sink_0 : decode cX4_sink 0 = .ok (.aload_n 0, 1) := by decide +kernel
theorem dX4_sink_1 : decode cX4_sink 1 = .ok (.iload_n 1, 1) := by decide +kernel
theorem dX4_sink_2 : decode cX4_sink 2 = .ok (.iload_n 2, 1) := by decide +kernel
theorem dX4_sink_3 : decode cX4_sink 3 = .ok (.iload_n 3, 1) := by decide +kernel
theorem dX4_sink_4 : decode cX4_sink 4 = .ok (.invokevirtual 178, 3) := by decide +kernel
theorem dX4_sink_7 : decode cX4_sink 7 = .ok (.aload_n 0, 1) := by decide +kernel
theorem dX4_sink_8 : decode cX4_sink 8 = .ok (.getfield 104, 3) := by decide +kernel
theorem dX4_sink_11 : decode cX4_sink 11 = .ok (.ifCond .ne 28, 3) := by decide +kernel
theorem dX4_sink_14 : decode cX4_sink 14 = .ok (.aload_n 0, 1) := by decide +kernel
theorem dX4_sink_15 : decode cX4_sink 15 = .ok (.getfield 7, 3) := by decide +kernel
theorem dX4_sink_18 : decode cX4_sink 18 = .ok (.iload_n 3, 1) := by decide +kernel
theorem dX4_sink_19 : decode cX4_sink 19 = .ok (.iaload, 1) := by decide +kernel
theorem dX4_sink_20 : decode cX4_sink 20 = .ok (.iconst 1, 1) := by decide +kernel
theorem dX4_sink_21 : decode cX4_sink 21 = .ok (.if_icmp .eq 13, 3) := by decide +kernel
theorem dX4_sink_24 : decode cX4_sink 24 = .ok (.aload_n 0, 1) := by decide +kernel
theorem dX4_sink_25 : decode cX4_sink 25 = .ok (.getfield 50, 3) := by decide +kernel
theorem dX4_sink_28 : decode cX4_sink 28 = .ok (.iload_n 1, 1) := by decide +kernel
theorem dX4_sink_29 : decode cX4_sink 29 = .ok (.iaload, 1) := by decide +kernel
theorem dX4_sink_30 : decode cX4_sink 30 = .ok (.iconst 2, 1) := by decide +kernel
theorem dX4_sink_31 : decode cX4_sink 31 = .ok (.if_icmp .ne 8, 3) := by decide +kernel
theorem dX4_sink_34 : decode cX4_sink 34 = .ok (.aload_n 0, 1) := by decide +kernel
theorem dX4_sink_35 : decode cX4_sink 35 = .ok (.iconst 2, 1) := by decide +kernel
theorem dX4_sink_36 : decode cX4_sink 36 = .ok (.putfield 104, 3) := by decide +kernel
theorem dX4_sink_39 : decode cX4_sink 39 = .ok (.aload_n 0, 1) := by decide +kernel
theorem dX4_sink_40 : decode cX4_sink 40 = .ok (.getfield 104, 3) := by decide +kernel
theorem dX4_sink_43 : decode cX4_sink 43 = .ok (.ifCond .le 5, 3) := by decide +kernel
theorem dX4_sink_46 : decode cX4_sink 46 = .ok (.iconst 0, 1) := by decide +kernel
theorem dX4_sink_47 : decode cX4_sink 47 = .ok (.ireturn, 1) := by decide +kernel
theorem dX4_sink_48 : decode cX4_sink 48 = .ok (.aload_n 0, 1) := by decide +kernel
theorem dX4_sink_49 : decode cX4_sink 49 = .ok (.getfield 47, 3) := by decide +kernel
theorem dX4_sink_52 : decode cX4_sink 52 = .ok (.iload_n 1, 1) := by decide +kernel
theorem dX4_sink_53 : decode cX4_sink 53 = .ok (.aload_n 0, 1) := by decide +kernel
theorem dX4_sink_54 : decode cX4_sink 54 = .ok (.getfield 118, 3) := by decide +kernel
theorem dX4_sink_57 : decode cX4_sink 57 = .ok (.iastore, 1) := by decide +kernel
theorem dX4_sink_58 : decode cX4_sink 58 = .ok (.aload_n 0, 1) := by decide +kernel
theorem dX4_sink_59 : decode cX4_sink 59 = .ok (.getfield 50, 3) := by decide +kernel
theorem dX4_sink_62 : decode cX4_sink 62 = .ok (.iload_n 1, 1) := by decide +kernel
theorem dX4_sink_63 : decode cX4_sink 63 = .ok (.dup2, 1) := by decide +kernel
theorem dX4_sink_64 : decode cX4_sink 64 = .ok (.iaload, 1) := by decide +kernel
theorem dX4_sink_65 : decode cX4_sink 65 = .ok (.iconst 1, 1) := by decide +kernel
theorem dX4_sink_66 : decode cX4_sink 66 = .ok (.iadd, 1) := by decide +kernel
theorem dX4_sink_67 : decode cX4_sink 67 = .ok (.iastore, 1) := by decide +kernel
theorem dX4_sink_68 : decode cX4_sink 68 = .ok (.aload_n 0, 1) := by decide +kernel
theorem dX4_sink_69 : decode cX4_sink 69 = .ok (.iload_n 3, 1) := by decide +kernel
theorem dX4_sink_70 : decode cX4_sink 70 = .ok (.iconst (-1), 1) := by decide +kernel
theorem dX4_sink_71 : decode cX4_sink 71 = .ok (.iload_n 1, 1) := by decide +kernel
theorem dX4_sink_72 : decode cX4_sink 72 = .ok (.invokevirtual 185, 3) := by decide +kernel
theorem dX4_sink_75 : decode cX4_sink 75 = .ok (.ireturn, 1) := by decide +kernel
theorem dX4_prop_0 : decode cX4_prop 0 = .ok (.aload_n 0, 1) := by decide +kernel
theorem dX4_prop_1 : decode cX4_prop 1 = .ok (.iload_n 1, 1) := by decide +kernel
theorem dX4_prop_2 : decode cX4_prop 2 = .ok (.iload_n 2, 1) := by decide +kernel
theorem dX4_prop_3 : decode cX4_prop 3 = .ok (.iload_n 3, 1) := by decide +kernel
theorem dX4_prop_4 : decode cX4_prop 4 = .ok (.invokevirtual 178, 3) := by decide +kernel
theorem dX4_prop_7 : decode cX4_prop 7 = .ok (.aload_n 0, 1) := by decide +kernel
theorem dX4_prop_8 : decode cX4_prop 8 = .ok (.getfield 104, 3) := by decide +kernel
theorem dX4_prop_11 : decode cX4_prop 11 = .ok (.ifCond .ne 27, 3) := by decide +kernel
theorem dX4_prop_14 : decode cX4_prop 14 = .ok (.aload_n 0, 1) := by decide +kernel
theorem dX4_prop_15 : decode cX4_prop 15 = .ok (.getfield 7, 3) := by decide +kernel
theorem dX4_prop_18 : decode cX4_prop 18 = .ok (.iload_n 3, 1) := by decide +kernel
theorem dX4_prop_19 : decode cX4_prop 19 = .ok (.iaload, 1) := by decide +kernel
theorem dX4_prop_20 : decode cX4_prop 20 = .ok (.iconst 1, 1) := by decide +kernel
theorem dX4_prop_21 : decode cX4_prop 21 = .ok (.if_icmp .ne 12, 3) := by decide +kernel
theorem dX4_prop_24 : decode cX4_prop 24 = .ok (.aload_n 0, 1) := by decide +kernel
theorem dX4_prop_25 : decode cX4_prop 25 = .ok (.getfield 23, 3) := by decide +kernel
theorem dX4_prop_28 : decode cX4_prop 28 = .ok (.iload_n 3, 1) := by decide +kernel
theorem dX4_prop_29 : decode cX4_prop 29 = .ok (.baload, 1) := by decide +kernel
theorem dX4_prop_30 : decode cX4_prop 30 = .ok (.ifCond .eq 8, 3) := by decide +kernel
theorem dX4_prop_33 : decode cX4_prop 33 = .ok (.aload_n 0, 1) := by decide +kernel
theorem dX4_prop_34 : decode cX4_prop 34 = .ok (.iconst 2, 1) := by decide +kernel
theorem dX4_prop_35 : decode cX4_prop 35 = .ok (.putfield 104, 3) := by decide +kernel
theorem dX4_prop_38 : decode cX4_prop 38 = .ok (.aload_n 0, 1) := by decide +kernel
theorem dX4_prop_39 : decode cX4_prop 39 = .ok (.getfield 104, 3) := by decide +kernel
theorem dX4_prop_42 : decode cX4_prop 42 = .ok (.ifCond .ne 10, 3) := by decide +kernel
theorem dX4_prop_45 : decode cX4_prop 45 = .ok (.aload_n 0, 1) := by decide +kernel
theorem dX4_prop_46 : decode cX4_prop 46 = .ok (.getfield 23, 3) := by decide +kernel
theorem dX4_prop_49 : decode cX4_prop 49 = .ok (.iload_n 3, 1) := by decide +kernel
theorem dX4_prop_50 : decode cX4_prop 50 = .ok (.iconst 1, 1) := by decide +kernel
theorem dX4_prop_51 : decode cX4_prop 51 = .ok (.bastore, 1) := by decide +kernel
theorem dX4_prop_52 : decode cX4_prop 52 = .ok (.return_, 1) := by decide +kernel
theorem dX4_trapsOf_0 : decode cX4_trapsOf 0 = .ok (.iconst 0, 1) := by decide +kernel
theorem dX4_trapsOf_1 : decode cX4_trapsOf 1 = .ok (.istore_n 2, 1) := by decide +kernel
theorem dX4_trapsOf_2 : decode cX4_trapsOf 2 = .ok (.iconst 0, 1) := by decide +kernel
theorem dX4_trapsOf_3 : decode cX4_trapsOf 3 = .ok (.istore_n 3, 1) := by decide +kernel
theorem dX4_trapsOf_4 : decode cX4_trapsOf 4 = .ok (.iload_n 3, 1) := by decide +kernel
theorem dX4_trapsOf_5 : decode cX4_trapsOf 5 = .ok (.bipush 100, 2) := by decide +kernel
theorem dX4_trapsOf_7 : decode cX4_trapsOf 7 = .ok (.if_icmp .ge 27, 3) := by decide +kernel
theorem dX4_trapsOf_10 : decode cX4_trapsOf 10 = .ok (.iload_n 2, 1) := by decide +kernel
theorem dX4_trapsOf_11 : decode cX4_trapsOf 11 = .ok (.aload_n 0, 1) := by decide +kernel
theorem dX4_trapsOf_12 : decode cX4_trapsOf 12 = .ok (.getfield 26, 3) := by decide +kernel
theorem dX4_trapsOf_15 : decode cX4_trapsOf 15 = .ok (.iload_n 3, 1) := by decide +kernel
theorem dX4_trapsOf_16 : decode cX4_trapsOf 16 = .ok (.iaload, 1) := by decide +kernel
theorem dX4_trapsOf_17 : decode cX4_trapsOf 17 = .ok (.iload_n 1, 1) := by decide +kernel
theorem dX4_trapsOf_18 : decode cX4_trapsOf 18 = .ok (.if_icmp .ne 7, 3) := by decide +kernel
theorem dX4_trapsOf_21 : decode cX4_trapsOf 21 = .ok (.iconst 1, 1) := by decide +kernel
theorem dX4_trapsOf_22 : decode cX4_trapsOf 22 = .ok (.goto 4, 3) := by decide +kernel
theorem dX4_trapsOf_25 : decode cX4_trapsOf 25 = .ok (.iconst 0, 1) := by decide +kernel
theorem dX4_trapsOf_26 : decode cX4_trapsOf 26 = .ok (.iadd, 1) := by decide +kernel
theorem dX4_trapsOf_27 : decode cX4_trapsOf 27 = .ok (.istore_n 2, 1) := by decide +kernel
theorem dX4_trapsOf_28 : decode cX4_trapsOf 28 = .ok (.iinc 3 1, 3) := by decide +kernel
theorem dX4_trapsOf_31 : decode cX4_trapsOf 31 = .ok (.goto (-27), 3) := by decide +kernel
theorem dX4_trapsOf_34 : decode cX4_trapsOf 34 = .ok (.iload_n 2, 1) := by decide +kernel
theorem dX4_trapsOf_35 : decode cX4_trapsOf 35 = .ok (.ireturn, 1) := by decide +kernel
theorem dX4_trap_0 : decode cX4_trap 0 = .ok (.aload_n 0, 1) := by decide +kernel
theorem dX4_trap_1 : decode cX4_trap 1 = .ok (.iload_n 1, 1) := by decide +kernel
theorem dX4_trap_2 : decode cX4_trap 2 = .ok (.iload_n 2, 1) := by decide +kernel
theorem dX4_trap_3 : decode cX4_trap 3 = .ok (.iload_n 3, 1) := by decide +kernel
theorem dX4_trap_4 : decode cX4_trap 4 = .ok (.invokevirtual 178, 3) := by decide +kernel
theorem dX4_trap_7 : decode cX4_trap 7 = .ok (.aload_n 0, 1) := by decide +kernel
theorem dX4_trap_8 : decode cX4_trap 8 = .ok (.getfield 104, 3) := by decide +kernel
theorem dX4_trap_11 : decode cX4_trap 11 = .ok (.ifCond .ne 37, 3) := by decide +kernel
theorem dX4_trap_14 : decode cX4_trap 14 = .ok (.aload_n 0, 1) := by decide +kernel
theorem dX4_trap_15 : decode cX4_trap 15 = .ok (.getfield 7, 3) := by decide +kernel
theorem dX4_trap_18 : decode cX4_trap 18 = .ok (.iload_n 3, 1) := by decide +kernel
theorem dX4_trap_19 : decode cX4_trap 19 = .ok (.iaload, 1) := by decide +kernel
theorem dX4_trap_20 : decode cX4_trap 20 = .ok (.iconst 1, 1) := by decide +kernel
theorem dX4_trap_21 : decode cX4_trap 21 = .ok (.if_icmp .eq 22, 3) := by decide +kernel
theorem dX4_trap_24 : decode cX4_trap 24 = .ok (.aload_n 0, 1) := by decide +kernel
theorem dX4_trap_25 : decode cX4_trap 25 = .ok (.getfield 26, 3) := by decide +kernel
theorem dX4_trap_28 : decode cX4_trap 28 = .ok (.iload_n 3, 1) := by decide +kernel
theorem dX4_trap_29 : decode cX4_trap 29 = .ok (.iaload, 1) := by decide +kernel
theorem dX4_trap_30 : decode cX4_trap 30 = .ok (.iconst (-1), 1) := by decide +kernel
theorem dX4_trap_31 : decode cX4_trap 31 = .ok (.if_icmp .ne 12, 3) := by decide +kernel
theorem dX4_trap_34 : decode cX4_trap 34 = .ok (.aload_n 0, 1) := by decide +kernel
theorem dX4_trap_35 : decode cX4_trap 35 = .ok (.iload_n 1, 1) := by decide +kernel
theorem dX4_trap_36 : decode cX4_trap 36 = .ok (.invokevirtual 189, 3) := by decide +kernel
theorem dX4_trap_39 : decode cX4_trap 39 = .ok (.iconst 3, 1) := by decide +kernel
theorem dX4_trap_40 : decode cX4_trap 40 = .ok (.if_icmp .ne 8, 3) := by decide +kernel
theorem dX4_trap_43 : decode cX4_trap 43 = .ok (.aload_n 0, 1) := by decide +kernel
theorem dX4_trap_44 : decode cX4_trap 44 = .ok (.iconst 2, 1) := by decide +kernel
theorem dX4_trap_45 : decode cX4_trap 45 = .ok (.putfield 104, 3) := by decide +kernel
theorem dX4_trap_48 : decode cX4_trap 48 = .ok (.aload_n 0, 1) := by decide +kernel
theorem dX4_trap_49 : decode cX4_trap 49 = .ok (.getfield 104, 3) := by decide +kernel
theorem dX4_trap_52 : decode cX4_trap 52 = .ok (.ifCond .le 5, 3) := by decide +kernel
theorem dX4_trap_55 : decode cX4_trap 55 = .ok (.iconst 0, 1) := by decide +kernel
theorem dX4_trap_56 : decode cX4_trap 56 = .ok (.ireturn, 1) := by decide +kernel
theorem dX4_trap_57 : decode cX4_trap 57 = .ok (.aload_n 0, 1) := by decide +kernel
theorem dX4_trap_58 : decode cX4_trap 58 = .ok (.getfield 26, 3) := by decide +kernel
theorem dX4_trap_61 : decode cX4_trap 61 = .ok (.iload_n 3, 1) := by decide +kernel
theorem dX4_trap_62 : decode cX4_trap 62 = .ok (.iload_n 1, 1) := by decide +kernel
theorem dX4_trap_63 : decode cX4_trap 63 = .ok (.iastore, 1) := by decide +kernel
theorem dX4_trap_64 : decode cX4_trap 64 = .ok (.aload_n 0, 1) := by decide +kernel
theorem dX4_trap_65 : decode cX4_trap 65 = .ok (.iload_n 1, 1) := by decide +kernel
theorem dX4_trap_66 : decode cX4_trap 66 = .ok (.invokevirtual 189, 3) := by decide +kernel
theorem dX4_trap_69 : decode cX4_trap 69 = .ok (.ireturn, 1) := by decide +kernel
theorem dX4_isNight_0 : decode cX4_isNight 0 = .ok (.aload_n 0, 1) := by decide +kernel
theorem dX4_isNight_1 : decode cX4_isNight 1 = .ok (.getfield 118, 3) := by decide +kernel
theorem dX4_isNight_4 : decode cX4_isNight 4 = .ok (.bipush 24, 2) := by decide +kernel
theorem dX4_isNight_6 : decode cX4_isNight 6 = .ok (.irem, 1) := by decide +kernel
theorem dX4_isNight_7 : decode cX4_isNight 7 = .ok (.istore_n 1, 1) := by decide +kernel
theorem dX4_isNight_8 : decode cX4_isNight 8 = .ok (.iload_n 1, 1) := by decide +kernel
theorem dX4_isNight_9 : decode cX4_isNight 9 = .ok (.bipush 21, 2) := by decide +kernel
theorem dX4_isNight_11 : decode cX4_isNight 11 = .ok (.if_icmp .ge 8, 3) := by decide +kernel
theorem dX4_isNight_14 : decode cX4_isNight 14 = .ok (.iload_n 1, 1) := by decide +kernel
theorem dX4_isNight_15 : decode cX4_isNight 15 = .ok (.iconst 4, 1) := by decide +kernel
theorem dX4_isNight_16 : decode cX4_isNight 16 = .ok (.if_icmp .gt 7, 3) := by decide +kernel
theorem dX4_isNight_19 : decode cX4_isNight 19 = .ok (.iconst 1, 1) := by decide +kernel
theorem dX4_isNight_20 : decode cX4_isNight 20 = .ok (.goto 4, 3) := by decide +kernel
theorem dX4_isNight_23 : decode cX4_isNight 23 = .ok (.iconst 0, 1) := by decide +kernel
theorem dX4_isNight_24 : decode cX4_isNight 24 = .ok (.ireturn, 1) := by decide +kernel
theorem dX4_canRat_0 : decode cX4_canRat 0 = .ok (.aload_n 0, 1) := by decide +kernel
theorem dX4_canRat_1 : decode cX4_canRat 1 = .ok (.iload_n 2, 1) := by decide +kernel
theorem dX4_canRat_2 : decode cX4_canRat 2 = .ok (.invokevirtual 175, 3) := by decide +kernel
theorem dX4_canRat_5 : decode cX4_canRat 5 = .ok (.istore_n 3, 1) := by decide +kernel
theorem dX4_canRat_6 : decode cX4_canRat 6 = .ok (.aload_n 0, 1) := by decide +kernel
theorem dX4_canRat_7 : decode cX4_canRat 7 = .ok (.invokevirtual 192, 3) := by decide +kernel
theorem dX4_canRat_10 : decode cX4_canRat 10 = .ok (.ifCond .eq 29, 3) := by decide +kernel
theorem dX4_canRat_13 : decode cX4_canRat 13 = .ok (.aload_n 0, 1) := by decide +kernel
theorem dX4_canRat_14 : decode cX4_canRat 14 = .ok (.iload_n 1, 1) := by decide +kernel
theorem dX4_canRat_15 : decode cX4_canRat 15 = .ok (.invokevirtual 131, 3) := by decide +kernel
theorem dX4_canRat_18 : decode cX4_canRat 18 = .ok (.ifCond .ne 21, 3) := by decide +kernel
theorem dX4_canRat_21 : decode cX4_canRat 21 = .ok (.iload_n 3, 1) := by decide +kernel
theorem dX4_canRat_22 : decode cX4_canRat 22 = .ok (.iconst (-1), 1) := by decide +kernel
theorem dX4_canRat_23 : decode cX4_canRat 23 = .ok (.if_icmp .eq 16, 3) := by decide +kernel
theorem dX4_canRat_26 : decode cX4_canRat 26 = .ok (.aload_n 0, 1) := by decide +kernel
theorem dX4_canRat_27 : decode cX4_canRat 27 = .ok (.iload_n 3, 1) := by decide +kernel
theorem dX4_canRat_28 : decode cX4_canRat 28 = .ok (.iload_n 1, 1) := by decide +kernel
theorem dX4_canRat_29 : decode cX4_canRat 29 = .ok (.invokevirtual 145, 3) := by decide +kernel
theorem dX4_canRat_32 : decode cX4_canRat 32 = .ok (.ifCond .ne 7, 3) := by decide +kernel
theorem dX4_canRat_35 : decode cX4_canRat 35 = .ok (.iconst 1, 1) := by decide +kernel
theorem dX4_canRat_36 : decode cX4_canRat 36 = .ok (.goto 4, 3) := by decide +kernel
theorem dX4_canRat_39 : decode cX4_canRat 39 = .ok (.iconst 0, 1) := by decide +kernel
theorem dX4_canRat_40 : decode cX4_canRat 40 = .ok (.istore 4, 2) := by decide +kernel
theorem dX4_canRat_42 : decode cX4_canRat 42 = .ok (.iload 4, 2) := by decide +kernel
theorem dX4_canRat_44 : decode cX4_canRat 44 = .ok (.ifCond .eq 25, 3) := by decide +kernel
theorem dX4_canRat_47 : decode cX4_canRat 47 = .ok (.aload_n 0, 1) := by decide +kernel
theorem dX4_canRat_48 : decode cX4_canRat 48 = .ok (.getfield 7, 3) := by decide +kernel
theorem dX4_canRat_51 : decode cX4_canRat 51 = .ok (.iload_n 2, 1) := by decide +kernel
theorem dX4_canRat_52 : decode cX4_canRat 52 = .ok (.iaload, 1) := by decide +kernel
theorem dX4_canRat_53 : decode cX4_canRat 53 = .ok (.iconst 1, 1) := by decide +kernel
theorem dX4_canRat_54 : decode cX4_canRat 54 = .ok (.if_icmp .eq 15, 3) := by decide +kernel
theorem dX4_canRat_57 : decode cX4_canRat 57 = .ok (.aload_n 0, 1) := by decide +kernel
theorem dX4_canRat_58 : decode cX4_canRat 58 = .ok (.iload_n 2, 1) := by decide +kernel
theorem dX4_canRat_59 : decode cX4_canRat 59 = .ok (.invokevirtual 182, 3) := by decide +kernel
theorem dX4_canRat_62 : decode cX4_canRat 62 = .ok (.ifCond .eq 7, 3) := by decide +kernel
theorem dX4_canRat_65 : decode cX4_canRat 65 = .ok (.iconst 1, 1) := by decide +kernel
theorem dX4_canRat_66 : decode cX4_canRat 66 = .ok (.goto 4, 3) := by decide +kernel
theorem dX4_canRat_69 : decode cX4_canRat 69 = .ok (.iconst 0, 1) := by decide +kernel
theorem dX4_canRat_70 : decode cX4_canRat 70 = .ok (.ireturn, 1) := by decide +kernel
theorem dX4_rat_0 : decode cX4_rat 0 = .ok (.aload_n 0, 1) := by decide +kernel
theorem dX4_rat_1 : decode cX4_rat 1 = .ok (.iload_n 1, 1) := by decide +kernel
theorem dX4_rat_2 : decode cX4_rat 2 = .ok (.invokestatic 128, 3) := by decide +kernel
theorem dX4_rat_5 : decode cX4_rat 5 = .ok (.ifCond .eq 14, 3) := by decide +kernel
theorem dX4_rat_8 : decode cX4_rat 8 = .ok (.iload_n 2, 1) := by decide +kernel
theorem dX4_rat_9 : decode cX4_rat 9 = .ok (.invokestatic 121, 3) := by decide +kernel
theorem dX4_rat_12 : decode cX4_rat 12 = .ok (.ifCond .eq 7, 3) := by decide +kernel
theorem dX4_rat_15 : decode cX4_rat 15 = .ok (.iconst 0, 1) := by decide +kernel
theorem dX4_rat_16 : decode cX4_rat 16 = .ok (.goto 4, 3) := by decide +kernel
theorem dX4_rat_19 : decode cX4_rat 19 = .ok (.iconst 1, 1) := by decide +kernel
theorem dX4_rat_20 : decode cX4_rat 20 = .ok (.putfield 104, 3) := by decide +kernel
theorem dX4_rat_23 : decode cX4_rat 23 = .ok (.aload_n 0, 1) := by decide +kernel
theorem dX4_rat_24 : decode cX4_rat 24 = .ok (.getfield 104, 3) := by decide +kernel
theorem dX4_rat_27 : decode cX4_rat 27 = .ok (.ifCond .ne 17, 3) := by decide +kernel
theorem dX4_rat_30 : decode cX4_rat 30 = .ok (.aload_n 0, 1) := by decide +kernel
theorem dX4_rat_31 : decode cX4_rat 31 = .ok (.iload_n 1, 1) := by decide +kernel
theorem dX4_rat_32 : decode cX4_rat 32 = .ok (.iload_n 2, 1) := by decide +kernel
theorem dX4_rat_33 : decode cX4_rat 33 = .ok (.invokevirtual 196, 3) := by decide +kernel
theorem dX4_rat_36 : decode cX4_rat 36 = .ok (.ifCond .ne 8, 3) := by decide +kernel
theorem dX4_rat_39 : decode cX4_rat 39 = .ok (.aload_n 0, 1) := by decide +kernel
theorem dX4_rat_40 : decode cX4_rat 40 = .ok (.iconst 2, 1) := by decide +kernel
theorem dX4_rat_41 : decode cX4_rat 41 = .ok (.putfield 104, 3) := by decide +kernel
theorem dX4_rat_44 : decode cX4_rat 44 = .ok (.aload_n 0, 1) := by decide +kernel
theorem dX4_rat_45 : decode cX4_rat 45 = .ok (.getfield 104, 3) := by decide +kernel
theorem dX4_rat_48 : decode cX4_rat 48 = .ok (.ifCond .le 5, 3) := by decide +kernel
theorem dX4_rat_51 : decode cX4_rat 51 = .ok (.iconst 0, 1) := by decide +kernel
theorem dX4_rat_52 : decode cX4_rat 52 = .ok (.ireturn, 1) := by decide +kernel
theorem dX4_rat_53 : decode cX4_rat 53 = .ok (.aload_n 0, 1) := by decide +kernel
theorem dX4_rat_54 : decode cX4_rat 54 = .ok (.getfield 26, 3) := by decide +kernel
theorem dX4_rat_57 : decode cX4_rat 57 = .ok (.iload_n 2, 1) := by decide +kernel
theorem dX4_rat_58 : decode cX4_rat 58 = .ok (.iaload, 1) := by decide +kernel
theorem dX4_rat_59 : decode cX4_rat 59 = .ok (.iconst (-1), 1) := by decide +kernel
theorem dX4_rat_60 : decode cX4_rat 60 = .ok (.if_icmp .eq 36, 3) := by decide +kernel
theorem dX4_rat_63 : decode cX4_rat 63 = .ok (.aload_n 0, 1) := by decide +kernel
theorem dX4_rat_64 : decode cX4_rat 64 = .ok (.getfield 26, 3) := by decide +kernel
theorem dX4_rat_67 : decode cX4_rat 67 = .ok (.iload_n 2, 1) := by decide +kernel
theorem dX4_rat_68 : decode cX4_rat 68 = .ok (.iconst (-1), 1) := by decide +kernel
theorem dX4_rat_69 : decode cX4_rat 69 = .ok (.iastore, 1) := by decide +kernel
theorem dX4_rat_70 : decode cX4_rat 70 = .ok (.aload_n 0, 1) := by decide +kernel
theorem dX4_rat_71 : decode cX4_rat 71 = .ok (.getfield 59, 3) := by decide +kernel
theorem dX4_rat_74 : decode cX4_rat 74 = .ok (.iload_n 1, 1) := by decide +kernel
theorem dX4_rat_75 : decode cX4_rat 75 = .ok (.aload_n 0, 1) := by decide +kernel
theorem dX4_rat_76 : decode cX4_rat 76 = .ok (.getfield 118, 3) := by decide +kernel
theorem dX4_rat_79 : decode cX4_rat 79 = .ok (.sipush 168, 3) := by decide +kernel
theorem dX4_rat_82 : decode cX4_rat 82 = .ok (.iadd, 1) := by decide +kernel
theorem dX4_rat_83 : decode cX4_rat 83 = .ok (.iastore, 1) := by decide +kernel
theorem dX4_rat_84 : decode cX4_rat 84 = .ok (.aload_n 0, 1) := by decide +kernel
theorem dX4_rat_85 : decode cX4_rat 85 = .ok (.getfield 65, 3) := by decide +kernel
theorem dX4_rat_88 : decode cX4_rat 88 = .ok (.iload_n 1, 1) := by decide +kernel
theorem dX4_rat_89 : decode cX4_rat 89 = .ok (.dup2, 1) := by decide +kernel
theorem dX4_rat_90 : decode cX4_rat 90 = .ok (.iaload, 1) := by decide +kernel
theorem dX4_rat_91 : decode cX4_rat 91 = .ok (.iconst 1, 1) := by decide +kernel
theorem dX4_rat_92 : decode cX4_rat 92 = .ok (.iadd, 1) := by decide +kernel
theorem dX4_rat_93 : decode cX4_rat 93 = .ok (.iastore, 1) := by decide +kernel
theorem dX4_rat_94 : decode cX4_rat 94 = .ok (.iconst (-1), 1) := by decide +kernel
theorem dX4_rat_95 : decode cX4_rat 95 = .ok (.ireturn, 1) := by decide +kernel
theorem dX4_rat_96 : decode cX4_rat 96 = .ok (.aload_n 0, 1) := by decide +kernel
theorem dX4_rat_97 : decode cX4_rat 97 = .ok (.iload_n 2, 1) := by decide +kernel
theorem dX4_rat_98 : decode cX4_rat 98 = .ok (.iload_n 1, 1) := by decide +kernel
theorem dX4_rat_99 : decode cX4_rat 99 = .ok (.iconst (-1), 1) := by decide +kernel
theorem dX4_rat_100 : decode cX4_rat 100 = .ok (.invokevirtual 185, 3) := by decide +kernel
theorem dX4_rat_103 : decode cX4_rat 103 = .ok (.ireturn, 1) := by decide +kernel
theorem dX4_isIn_0 : decode cX4_isIn 0 = .ok (.aload_n 0, 1) := by decide +kernel
theorem dX4_isIn_1 : decode cX4_isIn 1 = .ok (.getfield 83, 3) := by decide +kernel
theorem dX4_isIn_4 : decode cX4_isIn 4 = .ok (.iload_n 1, 1) := by decide +kernel
theorem dX4_isIn_5 : decode cX4_isIn 5 = .ok (.iaload, 1) := by decide +kernel
theorem dX4_isIn_6 : decode cX4_isIn 6 = .ok (.iload_n 2, 1) := by decide +kernel
theorem dX4_isIn_7 : decode cX4_isIn 7 = .ok (.if_icmp .ne 17, 3) := by decide +kernel
theorem dX4_isIn_10 : decode cX4_isIn 10 = .ok (.aload_n 0, 1) := by decide +kernel
theorem dX4_isIn_11 : decode cX4_isIn 11 = .ok (.getfield 80, 3) := by decide +kernel
theorem dX4_isIn_14 : decode cX4_isIn 14 = .ok (.iload_n 1, 1) := by decide +kernel
theorem dX4_isIn_15 : decode cX4_isIn 15 = .ok (.iaload, 1) := by decide +kernel
theorem dX4_isIn_16 : decode cX4_isIn 16 = .ok (.iconst (-1), 1) := by decide +kernel
theorem dX4_isIn_17 : decode cX4_isIn 17 = .ok (.if_icmp .ne 7, 3) := by decide +kernel
theorem dX4_isIn_20 : decode cX4_isIn 20 = .ok (.iconst 1, 1) := by decide +kernel
theorem dX4_isIn_21 : decode cX4_isIn 21 = .ok (.goto 4, 3) := by decide +kernel
theorem dX4_isIn_24 : decode cX4_isIn 24 = .ok (.iconst 0, 1) := by decide +kernel
theorem dX4_isIn_25 : decode cX4_isIn 25 = .ok (.ireturn, 1) := by decide +kernel
theorem dX4_parcel_0 : decode cX4_parcel 0 = .ok (.iconst 0, 1) := by decide +kernel
theorem dX4_parcel_1 : decode cX4_parcel 1 = .ok (.istore_n 2, 1) := by decide +kernel
theorem dX4_parcel_2 : decode cX4_parcel 2 = .ok (.iconst 0, 1) := by decide +kernel
theorem dX4_parcel_3 : decode cX4_parcel 3 = .ok (.istore_n 3, 1) := by decide +kernel
theorem dX4_parcel_4 : decode cX4_parcel 4 = .ok (.iload_n 3, 1) := by decide +kernel
theorem dX4_parcel_5 : decode cX4_parcel 5 = .ok (.aload_n 0, 1) := by decide +kernel
theorem dX4_parcel_6 : decode cX4_parcel 6 = .ok (.getfield 115, 3) := by decide +kernel
theorem dX4_parcel_9 : decode cX4_parcel 9 = .ok (.if_icmp .ge 26, 3) := by decide +kernel
theorem dX4_parcel_12 : decode cX4_parcel 12 = .ok (.iload_n 2, 1) := by decide +kernel
theorem dX4_parcel_13 : decode cX4_parcel 13 = .ok (.aload_n 0, 1) := by decide +kernel
theorem dX4_parcel_14 : decode cX4_parcel 14 = .ok (.iload_n 3, 1) := by decide +kernel
theorem dX4_parcel_15 : decode cX4_parcel 15 = .ok (.iload_n 1, 1) := by decide +kernel
theorem dX4_parcel_16 : decode cX4_parcel 16 = .ok (.invokevirtual 199, 3) := by decide +kernel
theorem dX4_parcel_19 : decode cX4_parcel 19 = .ok (.ifCond .eq 7, 3) := by decide +kernel
theorem dX4_parcel_22 : decode cX4_parcel 22 = .ok (.iconst 1, 1) := by decide +kernel
theorem dX4_parcel_23 : decode cX4_parcel 23 = .ok (.goto 4, 3) := by decide +kernel
theorem dX4_parcel_26 : decode cX4_parcel 26 = .ok (.iconst 0, 1) := by decide +kernel
theorem dX4_parcel_27 : decode cX4_parcel 27 = .ok (.iadd, 1) := by decide +kernel
theorem dX4_parcel_28 : decode cX4_parcel 28 = .ok (.istore_n 2, 1) := by decide +kernel
theorem dX4_parcel_29 : decode cX4_parcel 29 = .ok (.iinc 3 1, 3) := by decide +kernel
theorem dX4_parcel_32 : decode cX4_parcel 32 = .ok (.goto (-28), 3) := by decide +kernel
theorem dX4_parcel_35 : decode cX4_parcel 35 = .ok (.iload_n 2, 1) := by decide +kernel
theorem dX4_parcel_36 : decode cX4_parcel 36 = .ok (.ireturn, 1) := by decide +kernel
theorem dX4_greatest_0 : decode cX4_greatest 0 = .ok (.iconst (-1), 1) := by decide +kernel
theorem dX4_greatest_1 : decode cX4_greatest 1 = .ok (.istore_n 2, 1) := by decide +kernel
theorem dX4_greatest_2 : decode cX4_greatest 2 = .ok (.iconst 0, 1) := by decide +kernel
theorem dX4_greatest_3 : decode cX4_greatest 3 = .ok (.istore_n 3, 1) := by decide +kernel
theorem dX4_greatest_4 : decode cX4_greatest 4 = .ok (.iload_n 3, 1) := by decide +kernel
theorem dX4_greatest_5 : decode cX4_greatest 5 = .ok (.aload_n 0, 1) := by decide +kernel
theorem dX4_greatest_6 : decode cX4_greatest 6 = .ok (.getfield 115, 3) := by decide +kernel
theorem dX4_greatest_9 : decode cX4_greatest 9 = .ok (.if_icmp .ge 44, 3) := by decide +kernel
theorem dX4_greatest_12 : decode cX4_greatest 12 = .ok (.aload_n 0, 1) := by decide +kernel
theorem dX4_greatest_13 : decode cX4_greatest 13 = .ok (.iload_n 3, 1) := by decide +kernel
theorem dX4_greatest_14 : decode cX4_greatest 14 = .ok (.iload_n 1, 1) := by decide +kernel
theorem dX4_greatest_15 : decode cX4_greatest 15 = .ok (.invokevirtual 199, 3) := by decide +kernel
theorem dX4_greatest_18 : decode cX4_greatest 18 = .ok (.ifCond .eq 27, 3) := by decide +kernel
theorem dX4_greatest_21 : decode cX4_greatest 21 = .ok (.iload_n 2, 1) := by decide +kernel
theorem dX4_greatest_22 : decode cX4_greatest 22 = .ok (.iconst (-1), 1) := by decide +kernel
theorem dX4_greatest_23 : decode cX4_greatest 23 = .ok (.if_icmp .eq 18, 3) := by decide +kernel
theorem dX4_greatest_26 : decode cX4_greatest 26 = .ok (.aload_n 0, 1) := by decide +kernel
theorem dX4_greatest_27 : decode cX4_greatest 27 = .ok (.getfield 71, 3) := by decide +kernel
theorem dX4_greatest_30 : decode cX4_greatest 30 = .ok (.iload_n 3, 1) := by decide +kernel
theorem dX4_greatest_31 : decode cX4_greatest 31 = .ok (.iaload, 1) := by decide +kernel
theorem dX4_greatest_32 : decode cX4_greatest 32 = .ok (.aload_n 0, 1) := by decide +kernel
theorem dX4_greatest_33 : decode cX4_greatest 33 = .ok (.getfield 71, 3) := by decide +kernel
theorem dX4_greatest_36 : decode cX4_greatest 36 = .ok (.iload_n 2, 1) := by decide +kernel
theorem dX4_greatest_37 : decode cX4_greatest 37 = .ok (.iaload, 1) := by decide +kernel
theorem dX4_greatest_38 : decode cX4_greatest 38 = .ok (.if_icmp .le 7, 3) := by decide +kernel
theorem dX4_greatest_41 : decode cX4_greatest 41 = .ok (.iload_n 3, 1) := by decide +kernel
theorem dX4_greatest_42 : decode cX4_greatest 42 = .ok (.goto 4, 3) := by decide +kernel
theorem dX4_greatest_45 : decode cX4_greatest 45 = .ok (.iload_n 2, 1) := by decide +kernel
theorem dX4_greatest_46 : decode cX4_greatest 46 = .ok (.istore_n 2, 1) := by decide +kernel
theorem dX4_greatest_47 : decode cX4_greatest 47 = .ok (.iinc 3 1, 3) := by decide +kernel
theorem dX4_greatest_50 : decode cX4_greatest 50 = .ok (.goto (-46), 3) := by decide +kernel
theorem dX4_greatest_53 : decode cX4_greatest 53 = .ok (.iload_n 2, 1) := by decide +kernel
theorem dX4_greatest_54 : decode cX4_greatest 54 = .ok (.ireturn, 1) := by decide +kernel
theorem dX4_next_0 : decode cX4_next 0 = .ok (.iconst (-1), 1) := by decide +kernel
theorem dX4_next_1 : decode cX4_next 1 = .ok (.istore_n 3, 1) := by decide +kernel
theorem dX4_next_2 : decode cX4_next 2 = .ok (.iconst 0, 1) := by decide +kernel
theorem dX4_next_3 : decode cX4_next 3 = .ok (.istore 4, 2) := by decide +kernel
theorem dX4_next_5 : decode cX4_next 5 = .ok (.iconst 0, 1) := by decide +kernel
theorem dX4_next_6 : decode cX4_next 6 = .ok (.istore 5, 2) := by decide +kernel
theorem dX4_next_8 : decode cX4_next 8 = .ok (.iload 5, 2) := by decide +kernel
theorem dX4_next_10 : decode cX4_next 10 = .ok (.bipush 8, 2) := by decide +kernel
theorem dX4_next_12 : decode cX4_next 12 = .ok (.if_icmp .ge 60, 3) := by decide +kernel
theorem dX4_next_15 : decode cX4_next 15 = .ok (.aload_n 0, 1) := by decide +kernel
theorem dX4_next_16 : decode cX4_next 16 = .ok (.iload_n 1, 1) := by decide +kernel
theorem dX4_next_17 : decode cX4_next 17 = .ok (.iload 5, 2) := by decide +kernel
theorem dX4_next_19 : decode cX4_next 19 = .ok (.invokevirtual 145, 3) := by decide +kernel
theorem dX4_next_22 : decode cX4_next 22 = .ok (.iload_n 2, 1) := by decide +kernel
theorem dX4_next_23 : decode cX4_next 23 = .ok (.imul, 1) := by decide +kernel
theorem dX4_next_24 : decode cX4_next 24 = .ok (.bipush 12, 2) := by decide +kernel
theorem dX4_next_26 : decode cX4_next 26 = .ok (.aload_n 0, 1) := by decide +kernel
theorem dX4_next_27 : decode cX4_next 27 = .ok (.getfield 68, 3) := by decide +kernel
theorem dX4_next_30 : decode cX4_next 30 = .ok (.iload 5, 2) := by decide +kernel
theorem dX4_next_32 : decode cX4_next 32 = .ok (.iaload, 1) := by decide +kernel
theorem dX4_next_33 : decode cX4_next 33 = .ok (.imul, 1) := by decide +kernel
theorem dX4_next_34 : decode cX4_next 34 = .ok (.isub, 1) := by decide +kernel
theorem dX4_next_35 : decode cX4_next 35 = .ok (.istore 6, 2) := by decide +kernel
theorem dX4_next_37 : decode cX4_next 37 = .ok (.aload_n 0, 1) := by decide +kernel
theorem dX4_next_38 : decode cX4_next 38 = .ok (.iload_n 1, 1) := by decide +kernel
theorem dX4_next_39 : decode cX4_next 39 = .ok (.iload 5, 2) := by decide +kernel
theorem dX4_next_41 : decode cX4_next 41 = .ok (.invokevirtual 145, 3) := by decide +kernel
theorem dX4_next_44 : decode cX4_next 44 = .ok (.ifCond .le 22, 3) := by decide +kernel
theorem dX4_next_47 : decode cX4_next 47 = .ok (.iload_n 3, 1) := by decide +kernel
theorem dX4_next_48 : decode cX4_next 48 = .ok (.iconst (-1), 1) := by decide +kernel
theorem dX4_next_49 : decode cX4_next 49 = .ok (.if_icmp .eq 10, 3) := by decide +kernel
theorem dX4_next_52 : decode cX4_next 52 = .ok (.iload 6, 2) := by decide +kernel
theorem dX4_next_54 : decode cX4_next 54 = .ok (.iload 4, 2) := by decide +kernel
theorem dX4_next_56 : decode cX4_next 56 = .ok (.if_icmp .le 10, 3) := by decide +kernel
theorem dX4_next_59 : decode cX4_next 59 = .ok (.iload 5, 2) := by decide +kernel
theorem dX4_next_61 : decode cX4_next 61 = .ok (.istore_n 3, 1) := by decide +kernel
theorem dX4_next_62 : decode cX4_next 62 = .ok (.iload 6, 2) := by decide +kernel
theorem dX4_next_64 : decode cX4_next 64 = .ok (.istore 4, 2) := by decide +kernel
theorem dX4_next_66 : decode cX4_next 66 = .ok (.iinc 5 1, 3) := by decide +kernel
theorem dX4_next_69 : decode cX4_next 69 = .ok (.goto (-61), 3) := by decide +kernel
theorem dX4_next_72 : decode cX4_next 72 = .ok (.iload_n 3, 1) := by decide +kernel
theorem dX4_next_73 : decode cX4_next 73 = .ok (.ireturn, 1) := by decide +kernel
theorem dX4_divide_0 : decode cX4_divide 0 = .ok (.aload_n 0, 1) := by decide +kernel
theorem dX4_divide_1 : decode cX4_divide 1 = .ok (.aload_n 0, 1) := by decide +kernel
theorem dX4_divide_2 : decode cX4_divide 2 = .ok (.iload_n 1, 1) := by decide +kernel
theorem dX4_divide_3 : decode cX4_divide 3 = .ok (.invokevirtual 142, 3) := by decide +kernel
theorem dX4_divide_6 : decode cX4_divide 6 = .ok (.ifCond .ne 7, 3) := by decide +kernel
theorem dX4_divide_9 : decode cX4_divide 9 = .ok (.iconst 1, 1) := by decide +kernel
theorem dX4_divide_10 : decode cX4_divide 10 = .ok (.goto 16, 3) := by decide +kernel
theorem dX4_divide_13 : decode cX4_divide 13 = .ok (.aload_n 0, 1) := by decide +kernel
theorem dX4_divide_14 : decode cX4_divide 14 = .ok (.iload_n 1, 1) := by decide +kernel
theorem dX4_divide_15 : decode cX4_divide 15 = .ok (.invokevirtual 202, 3) := by decide +kernel
theorem dX4_divide_18 : decode cX4_divide 18 = .ok (.ifCond .ne 7, 3) := by decide +kernel
theorem dX4_divide_21 : decode cX4_divide 21 = .ok (.iconst 2, 1) := by decide +kernel
theorem dX4_divide_22 : decode cX4_divide 22 = .ok (.goto 4, 3) := by decide +kernel
theorem dX4_divide_25 : decode cX4_divide 25 = .ok (.iconst 0, 1) := by decide +kernel
theorem dX4_divide_26 : decode cX4_divide 26 = .ok (.putfield 104, 3) := by decide +kernel
theorem dX4_divide_29 : decode cX4_divide 29 = .ok (.aload_n 0, 1) := by decide +kernel
theorem dX4_divide_30 : decode cX4_divide 30 = .ok (.getfield 104, 3) := by decide +kernel
theorem dX4_divide_33 : decode cX4_divide 33 = .ok (.ifCond .le 5, 3) := by decide +kernel
theorem dX4_divide_36 : decode cX4_divide 36 = .ok (.iconst 0, 1) := by decide +kernel
theorem dX4_divide_37 : decode cX4_divide 37 = .ok (.ireturn, 1) := by decide +kernel
theorem dX4_divide_38 : decode cX4_divide 38 = .ok (.aload_n 0, 1) := by decide +kernel
theorem dX4_divide_39 : decode cX4_divide 39 = .ok (.iload_n 1, 1) := by decide +kernel
theorem dX4_divide_40 : decode cX4_divide 40 = .ok (.invokevirtual 202, 3) := by decide +kernel
theorem dX4_divide_43 : decode cX4_divide 43 = .ok (.istore_n 2, 1) := by decide +kernel
theorem dX4_divide_44 : decode cX4_divide 44 = .ok (.iconst 0, 1) := by decide +kernel
theorem dX4_divide_45 : decode cX4_divide 45 = .ok (.istore_n 3, 1) := by decide +kernel
theorem dX4_divide_46 : decode cX4_divide 46 = .ok (.iconst 0, 1) := by decide +kernel
theorem dX4_divide_47 : decode cX4_divide 47 = .ok (.istore 4, 2) := by decide +kernel
theorem dX4_divide_49 : decode cX4_divide 49 = .ok (.iload 4, 2) := by decide +kernel
theorem dX4_divide_51 : decode cX4_divide 51 = .ok (.aload_n 0, 1) := by decide +kernel
theorem dX4_divide_52 : decode cX4_divide 52 = .ok (.getfield 115, 3) := by decide +kernel
theorem dX4_divide_55 : decode cX4_divide 55 = .ok (.if_icmp .ge 33, 3) := by decide +kernel
theorem dX4_divide_58 : decode cX4_divide 58 = .ok (.iload_n 3, 1) := by decide +kernel
theorem dX4_divide_59 : decode cX4_divide 59 = .ok (.aload_n 0, 1) := by decide +kernel
theorem dX4_divide_60 : decode cX4_divide 60 = .ok (.iload 4, 2) := by decide +kernel
theorem dX4_divide_62 : decode cX4_divide 62 = .ok (.iload_n 1, 1) := by decide +kernel
theorem dX4_divide_63 : decode cX4_divide 63 = .ok (.invokevirtual 199, 3) := by decide +kernel
theorem dX4_divide_66 : decode cX4_divide 66 = .ok (.ifCond .eq 13, 3) := by decide +kernel
theorem dX4_divide_69 : decode cX4_divide 69 = .ok (.aload_n 0, 1) := by decide +kernel
theorem dX4_divide_70 : decode cX4_divide 70 = .ok (.getfield 71, 3) := by decide +kernel
theorem dX4_divide_73 : decode cX4_divide 73 = .ok (.iload 4, 2) := by decide +kernel
theorem dX4_divide_75 : decode cX4_divide 75 = .ok (.iaload, 1) := by decide +kernel
theorem dX4_divide_76 : decode cX4_divide 76 = .ok (.goto 4, 3) := by decide +kernel
theorem dX4_divide_79 : decode cX4_divide 79 = .ok (.iconst 0, 1) := by decide +kernel
theorem dX4_divide_80 : decode cX4_divide 80 = .ok (.iadd, 1) := by decide +kernel
theorem dX4_divide_81 : decode cX4_divide 81 = .ok (.istore_n 3, 1) := by decide +kernel
theorem dX4_divide_82 : decode cX4_divide 82 = .ok (.iinc 4 1, 3) := by decide +kernel
theorem dX4_divide_85 : decode cX4_divide 85 = .ok (.goto (-36), 3) := by decide +kernel
theorem dX4_divide_88 : decode cX4_divide 88 = .ok (.iconst 0, 1) := by decide +kernel
theorem dX4_divide_89 : decode cX4_divide 89 = .ok (.istore 4, 2) := by decide +kernel
theorem dX4_divide_91 : decode cX4_divide 91 = .ok (.iload 4, 2) := by decide +kernel
theorem dX4_divide_93 : decode cX4_divide 93 = .ok (.bipush 8, 2) := by decide +kernel
theorem dX4_divide_95 : decode cX4_divide 95 = .ok (.if_icmp .ge 17, 3) := by decide +kernel
theorem dX4_divide_98 : decode cX4_divide 98 = .ok (.aload_n 0, 1) := by decide +kernel
theorem dX4_divide_99 : decode cX4_divide 99 = .ok (.getfield 68, 3) := by decide +kernel
theorem dX4_divide_102 : decode cX4_divide 102 = .ok (.iload 4, 2) := by decide +kernel
theorem dX4_divide_104 : decode cX4_divide 104 = .ok (.iconst 0, 1) := by decide +kernel
theorem dX4_divide_105 : decode cX4_divide 105 = .ok (.iastore, 1) := by decide +kernel
theorem dX4_divide_106 : decode cX4_divide 106 = .ok (.iinc 4 1, 3) := by decide +kernel
theorem dX4_divide_109 : decode cX4_divide 109 = .ok (.goto (-18), 3) := by decide +kernel
theorem dX4_divide_112 : decode cX4_divide 112 = .ok (.iconst 0, 1) := by decide +kernel
theorem dX4_divide_113 : decode cX4_divide 113 = .ok (.istore 4, 2) := by decide +kernel
theorem dX4_divide_115 : decode cX4_divide 115 = .ok (.iload 4, 2) := by decide +kernel
theorem dX4_divide_117 : decode cX4_divide 117 = .ok (.iload_n 2, 1) := by decide +kernel
theorem dX4_divide_118 : decode cX4_divide 118 = .ok (.if_icmp .ge 50, 3) := by decide +kernel
theorem dX4_divide_121 : decode cX4_divide 121 = .ok (.aload_n 0, 1) := by decide +kernel
theorem dX4_divide_122 : decode cX4_divide 122 = .ok (.iload_n 1, 1) := by decide +kernel
theorem dX4_divide_123 : decode cX4_divide 123 = .ok (.invokevirtual 205, 3) := by decide +kernel
theorem dX4_divide_126 : decode cX4_divide 126 = .ok (.istore 5, 2) := by decide +kernel
theorem dX4_divide_128 : decode cX4_divide 128 = .ok (.aload_n 0, 1) := by decide +kernel
theorem dX4_divide_129 : decode cX4_divide 129 = .ok (.iload_n 1, 1) := by decide +kernel
theorem dX4_divide_130 : decode cX4_divide 130 = .ok (.iload_n 3, 1) := by decide +kernel
theorem dX4_divide_131 : decode cX4_divide 131 = .ok (.invokevirtual 208, 3) := by decide +kernel
theorem dX4_divide_134 : decode cX4_divide 134 = .ok (.istore 6, 2) := by decide +kernel
theorem dX4_divide_136 : decode cX4_divide 136 = .ok (.aload_n 0, 1) := by decide +kernel
theorem dX4_divide_137 : decode cX4_divide 137 = .ok (.getfield 80, 3) := by decide +kernel
theorem dX4_divide_140 : decode cX4_divide 140 = .ok (.iload 5, 2) := by decide +kernel
theorem dX4_divide_142 : decode cX4_divide 142 = .ok (.iload 6, 2) := by decide +kernel
theorem dX4_divide_144 : decode cX4_divide 144 = .ok (.iastore, 1) := by decide +kernel
theorem dX4_divide_145 : decode cX4_divide 145 = .ok (.aload_n 0, 1) := by decide +kernel
theorem dX4_divide_146 : decode cX4_divide 146 = .ok (.getfield 68, 3) := by decide +kernel
theorem dX4_divide_149 : decode cX4_divide 149 = .ok (.iload 6, 2) := by decide +kernel
theorem dX4_divide_151 : decode cX4_divide 151 = .ok (.dup2, 1) := by decide +kernel
theorem dX4_divide_152 : decode cX4_divide 152 = .ok (.iaload, 1) := by decide +kernel
theorem dX4_divide_153 : decode cX4_divide 153 = .ok (.aload_n 0, 1) := by decide +kernel
theorem dX4_divide_154 : decode cX4_divide 154 = .ok (.getfield 71, 3) := by decide +kernel
theorem dX4_divide_157 : decode cX4_divide 157 = .ok (.iload 5, 2) := by decide +kernel
theorem dX4_divide_159 : decode cX4_divide 159 = .ok (.iaload, 1) := by decide +kernel
theorem dX4_divide_160 : decode cX4_divide 160 = .ok (.iadd, 1) := by decide +kernel
theorem dX4_divide_161 : decode cX4_divide 161 = .ok (.iastore, 1) := by decide +kernel
theorem dX4_divide_162 : decode cX4_divide 162 = .ok (.iinc 4 1, 3) := by decide +kernel
theorem dX4_divide_165 : decode cX4_divide 165 = .ok (.goto (-50), 3) := by decide +kernel
theorem dX4_divide_168 : decode cX4_divide 168 = .ok (.iload_n 2, 1) := by decide +kernel
theorem dX4_divide_169 : decode cX4_divide 169 = .ok (.ireturn, 1) := by decide +kernel
theorem dX4_isInParcel_0 : decode cX4_isInParcel 0 = .ok (.aload_n 0, 1) := by decide +kernel
theorem dX4_isInParcel_1 : decode cX4_isInParcel 1 = .ok (.getfield 80, 3) := by decide +kernel
theorem dX4_isInParcel_4 : decode cX4_isInParcel 4 = .ok (.iload_n 1, 1) := by decide +kernel
theorem dX4_isInParcel_5 : decode cX4_isInParcel 5 = .ok (.iaload, 1) := by decide +kernel
theorem dX4_isInParcel_6 : decode cX4_isInParcel 6 = .ok (.iconst (-1), 1) := by decide +kernel
theorem dX4_isInParcel_7 : decode cX4_isInParcel 7 = .ok (.if_icmp .ne 7, 3) := by decide +kernel
theorem dX4_isInParcel_10 : decode cX4_isInParcel 10 = .ok (.iconst 1, 1) := by decide +kernel
theorem dX4_isInParcel_11 : decode cX4_isInParcel 11 = .ok (.goto 4, 3) := by decide +kernel
theorem dX4_isInParcel_14 : decode cX4_isInParcel 14 = .ok (.iconst 0, 1) := by decide +kernel
theorem dX4_isInParcel_15 : decode cX4_isInParcel 15 = .ok (.ireturn, 1) := by decide +kernel
theorem dX4_looks_0 : decode cX4_looks 0 = .ok (.aload_n 0, 1) := by decide +kernel
theorem dX4_looks_1 : decode cX4_looks 1 = .ok (.getfield 77, 3) := by decide +kernel
theorem dX4_looks_4 : decode cX4_looks 4 = .ok (.iload_n 1, 1) := by decide +kernel
theorem dX4_looks_5 : decode cX4_looks 5 = .ok (.iaload, 1) := by decide +kernel
theorem dX4_looks_6 : decode cX4_looks 6 = .ok (.aload_n 0, 1) := by decide +kernel
theorem dX4_looks_7 : decode cX4_looks 7 = .ok (.getfield 74, 3) := by decide +kernel
theorem dX4_looks_10 : decode cX4_looks 10 = .ok (.iload_n 1, 1) := by decide +kernel
theorem dX4_looks_11 : decode cX4_looks 11 = .ok (.iaload, 1) := by decide +kernel
theorem dX4_looks_12 : decode cX4_looks 12 = .ok (.if_icmp .ge 7, 3) := by decide +kernel
theorem dX4_looks_15 : decode cX4_looks 15 = .ok (.iconst 0, 1) := by decide +kernel
theorem dX4_looks_16 : decode cX4_looks 16 = .ok (.goto 25, 3) := by decide +kernel
theorem dX4_looks_19 : decode cX4_looks 19 = .ok (.aload_n 0, 1) := by decide +kernel
theorem dX4_looks_20 : decode cX4_looks 20 = .ok (.getfield 77, 3) := by decide +kernel
theorem dX4_looks_23 : decode cX4_looks 23 = .ok (.iload_n 1, 1) := by decide +kernel
theorem dX4_looks_24 : decode cX4_looks 24 = .ok (.iaload, 1) := by decide +kernel
theorem dX4_looks_25 : decode cX4_looks 25 = .ok (.aload_n 0, 1) := by decide +kernel
theorem dX4_looks_26 : decode cX4_looks 26 = .ok (.getfield 74, 3) := by decide +kernel
theorem dX4_looks_29 : decode cX4_looks 29 = .ok (.iload_n 1, 1) := by decide +kernel
theorem dX4_looks_30 : decode cX4_looks 30 = .ok (.iaload, 1) := by decide +kernel
theorem dX4_looks_31 : decode cX4_looks 31 = .ok (.iconst 2, 1) := by decide +kernel
theorem dX4_looks_32 : decode cX4_looks 32 = .ok (.iadd, 1) := by decide +kernel
theorem dX4_looks_33 : decode cX4_looks 33 = .ok (.if_icmp .gt 7, 3) := by decide +kernel
theorem dX4_looks_36 : decode cX4_looks 36 = .ok (.iconst 1, 1) := by decide +kernel
theorem dX4_looks_37 : decode cX4_looks 37 = .ok (.goto 4, 3) := by decide +kernel
theorem dX4_looks_40 : decode cX4_looks 40 = .ok (.iconst 2, 1) := by decide +kernel
theorem dX4_looks_41 : decode cX4_looks 41 = .ok (.ireturn, 1) := by decide +kernel
theorem dX4_rub_0 : decode cX4_rub 0 = .ok (.aload_n 0, 1) := by decide +kernel
theorem dX4_rub_1 : decode cX4_rub 1 = .ok (.aload_n 0, 1) := by decide +kernel
theorem dX4_rub_2 : decode cX4_rub 2 = .ok (.iload_n 1, 1) := by decide +kernel
theorem dX4_rub_3 : decode cX4_rub 3 = .ok (.invokevirtual 211, 3) := by decide +kernel
theorem dX4_rub_6 : decode cX4_rub 6 = .ok (.ifCond .ne 7, 3) := by decide +kernel
theorem dX4_rub_9 : decode cX4_rub 9 = .ok (.iconst 1, 1) := by decide +kernel
theorem dX4_rub_10 : decode cX4_rub 10 = .ok (.goto 35, 3) := by decide +kernel
theorem dX4_rub_13 : decode cX4_rub 13 = .ok (.aload_n 0, 1) := by decide +kernel
theorem dX4_rub_14 : decode cX4_rub 14 = .ok (.iload_n 1, 1) := by decide +kernel
theorem dX4_rub_15 : decode cX4_rub 15 = .ok (.invokevirtual 214, 3) := by decide +kernel
theorem dX4_rub_18 : decode cX4_rub 18 = .ok (.ifCond .ne 22, 3) := by decide +kernel
theorem dX4_rub_21 : decode cX4_rub 21 = .ok (.aload_n 0, 1) := by decide +kernel
theorem dX4_rub_22 : decode cX4_rub 22 = .ok (.getfield 89, 3) := by decide +kernel
theorem dX4_rub_25 : decode cX4_rub 25 = .ok (.iload_n 1, 1) := by decide +kernel
theorem dX4_rub_26 : decode cX4_rub 26 = .ok (.iaload, 1) := by decide +kernel
theorem dX4_rub_27 : decode cX4_rub 27 = .ok (.iconst (-1), 1) := by decide +kernel
theorem dX4_rub_28 : decode cX4_rub 28 = .ok (.if_icmp .ne 12, 3) := by decide +kernel
theorem dX4_rub_31 : decode cX4_rub 31 = .ok (.aload_n 0, 1) := by decide +kernel
theorem dX4_rub_32 : decode cX4_rub 32 = .ok (.iload_n 1, 1) := by decide +kernel
theorem dX4_rub_33 : decode cX4_rub 33 = .ok (.invokevirtual 217, 3) := by decide +kernel
theorem dX4_rub_36 : decode cX4_rub 36 = .ok (.iconst 2, 1) := by decide +kernel
theorem dX4_rub_37 : decode cX4_rub 37 = .ok (.if_icmp .ne 7, 3) := by decide +kernel
theorem dX4_rub_40 : decode cX4_rub 40 = .ok (.iconst 2, 1) := by decide +kernel
theorem dX4_rub_41 : decode cX4_rub 41 = .ok (.goto 4, 3) := by decide +kernel
theorem dX4_rub_44 : decode cX4_rub 44 = .ok (.iconst 0, 1) := by decide +kernel
theorem dX4_rub_45 : decode cX4_rub 45 = .ok (.putfield 104, 3) := by decide +kernel
theorem dX4_rub_48 : decode cX4_rub 48 = .ok (.aload_n 0, 1) := by decide +kernel
theorem dX4_rub_49 : decode cX4_rub 49 = .ok (.getfield 104, 3) := by decide +kernel
theorem dX4_rub_52 : decode cX4_rub 52 = .ok (.ifCond .le 5, 3) := by decide +kernel
theorem dX4_rub_55 : decode cX4_rub 55 = .ok (.iconst 0, 1) := by decide +kernel
theorem dX4_rub_56 : decode cX4_rub 56 = .ok (.ireturn, 1) := by decide +kernel
theorem dX4_rub_57 : decode cX4_rub 57 = .ok (.aload_n 0, 1) := by decide +kernel
theorem dX4_rub_58 : decode cX4_rub 58 = .ok (.getfield 71, 3) := by decide +kernel
theorem dX4_rub_61 : decode cX4_rub 61 = .ok (.iload_n 1, 1) := by decide +kernel
theorem dX4_rub_62 : decode cX4_rub 62 = .ok (.iaload, 1) := by decide +kernel
theorem dX4_rub_63 : decode cX4_rub 63 = .ok (.bipush 10, 2) := by decide +kernel
theorem dX4_rub_65 : decode cX4_rub 65 = .ok (.idiv, 1) := by decide +kernel
theorem dX4_rub_66 : decode cX4_rub 66 = .ok (.istore_n 2, 1) := by decide +kernel
theorem dX4_rub_67 : decode cX4_rub 67 = .ok (.aload_n 0, 1) := by decide +kernel
theorem dX4_rub_68 : decode cX4_rub 68 = .ok (.getfield 71, 3) := by decide +kernel
theorem dX4_rub_71 : decode cX4_rub 71 = .ok (.iload_n 1, 1) := by decide +kernel
theorem dX4_rub_72 : decode cX4_rub 72 = .ok (.dup2, 1) := by decide +kernel
theorem dX4_rub_73 : decode cX4_rub 73 = .ok (.iaload, 1) := by decide +kernel
theorem dX4_rub_74 : decode cX4_rub 74 = .ok (.iload_n 2, 1) := by decide +kernel
theorem dX4_rub_75 : decode cX4_rub 75 = .ok (.isub, 1) := by decide +kernel
theorem dX4_rub_76 : decode cX4_rub 76 = .ok (.iastore, 1) := by decide +kernel
theorem dX4_rub_77 : decode cX4_rub 77 = .ok (.aload_n 0, 1) := by decide +kernel
theorem dX4_rub_78 : decode cX4_rub 78 = .ok (.dup, 1) := by decide +kernel
theorem dX4_rub_79 : decode cX4_rub 79 = .ok (.getfield 220, 3) := by decide +kernel
theorem dX4_rub_82 : decode cX4_rub 82 = .ok (.iload_n 2, 1) := by decide +kernel
theorem dX4_rub_83 : decode cX4_rub 83 = .ok (.iadd, 1) := by decide +kernel
theorem dX4_rub_84 : decode cX4_rub 84 = .ok (.putfield 220, 3) := by decide +kernel
theorem dX4_rub_87 : decode cX4_rub 87 = .ok (.aload_n 0, 1) := by decide +kernel
theorem dX4_rub_88 : decode cX4_rub 88 = .ok (.getfield 77, 3) := by decide +kernel
theorem dX4_rub_91 : decode cX4_rub 91 = .ok (.iload_n 1, 1) := by decide +kernel
theorem dX4_rub_92 : decode cX4_rub 92 = .ok (.dup2, 1) := by decide +kernel
theorem dX4_rub_93 : decode cX4_rub 93 = .ok (.iaload, 1) := by decide +kernel
theorem dX4_rub_94 : decode cX4_rub 94 = .ok (.iconst 1, 1) := by decide +kernel
theorem dX4_rub_95 : decode cX4_rub 95 = .ok (.iadd, 1) := by decide +kernel
theorem dX4_rub_96 : decode cX4_rub 96 = .ok (.iastore, 1) := by decide +kernel
theorem dX4_rub_97 : decode cX4_rub 97 = .ok (.aload_n 0, 1) := by decide +kernel
theorem dX4_rub_98 : decode cX4_rub 98 = .ok (.getfield 71, 3) := by decide +kernel
theorem dX4_rub_101 : decode cX4_rub 101 = .ok (.iload_n 1, 1) := by decide +kernel
theorem dX4_rub_102 : decode cX4_rub 102 = .ok (.iaload, 1) := by decide +kernel
theorem dX4_rub_103 : decode cX4_rub 103 = .ok (.ireturn, 1) := by decide +kernel
theorem dX4_isBuyer_0 : decode cX4_isBuyer 0 = .ok (.iload_n 0, 1) := by decide +kernel
theorem dX4_isBuyer_1 : decode cX4_isBuyer 1 = .ok (.iconst 0, 1) := by decide +kernel
theorem dX4_isBuyer_2 : decode cX4_isBuyer 2 = .ok (.iconst 4, 1) := by decide +kernel
theorem dX4_isBuyer_3 : decode cX4_isBuyer 3 = .ok (.invokestatic 108, 3) := by decide +kernel
theorem dX4_isBuyer_6 : decode cX4_isBuyer 6 = .ok (.ireturn, 1) := by decide +kernel
theorem dX4_bid_0 : decode cX4_bid 0 = .ok (.aload_n 0, 1) := by decide +kernel
theorem dX4_bid_1 : decode cX4_bid 1 = .ok (.iload_n 1, 1) := by decide +kernel
theorem dX4_bid_2 : decode cX4_bid 2 = .ok (.invokestatic 223, 3) := by decide +kernel
theorem dX4_bid_5 : decode cX4_bid 5 = .ok (.ifCond .eq 11, 3) := by decide +kernel
theorem dX4_bid_8 : decode cX4_bid 8 = .ok (.aload_n 0, 1) := by decide +kernel
theorem dX4_bid_9 : decode cX4_bid 9 = .ok (.iload_n 2, 1) := by decide +kernel
theorem dX4_bid_10 : decode cX4_bid 10 = .ok (.invokevirtual 211, 3) := by decide +kernel
theorem dX4_bid_13 : decode cX4_bid 13 = .ok (.ifCond .ne 7, 3) := by decide +kernel
theorem dX4_bid_16 : decode cX4_bid 16 = .ok (.iconst 1, 1) := by decide +kernel
theorem dX4_bid_17 : decode cX4_bid 17 = .ok (.goto 18, 3) := by decide +kernel
theorem dX4_bid_20 : decode cX4_bid 20 = .ok (.iload_n 3, 1) := by decide +kernel
theorem dX4_bid_21 : decode cX4_bid 21 = .ok (.iconst 1, 1) := by decide +kernel
theorem dX4_bid_22 : decode cX4_bid 22 = .ok (.ldc 226, 2) := by decide +kernel
theorem dX4_bid_24 : decode cX4_bid 24 = .ok (.invokestatic 108, 3) := by decide +kernel
theorem dX4_bid_27 : decode cX4_bid 27 = .ok (.ifCond .ne 7, 3) := by decide +kernel
theorem dX4_bid_30 : decode cX4_bid 30 = .ok (.iconst 2, 1) := by decide +kernel
theorem dX4_bid_31 : decode cX4_bid 31 = .ok (.goto 4, 3) := by decide +kernel
theorem dX4_bid_34 : decode cX4_bid 34 = .ok (.iconst 0, 1) := by decide +kernel
theorem dX4_bid_35 : decode cX4_bid 35 = .ok (.putfield 104, 3) := by decide +kernel
theorem dX4_bid_38 : decode cX4_bid 38 = .ok (.aload_n 0, 1) := by decide +kernel
theorem dX4_bid_39 : decode cX4_bid 39 = .ok (.getfield 104, 3) := by decide +kernel
theorem dX4_bid_42 : decode cX4_bid 42 = .ok (.ifCond .ne 39, 3) := by decide +kernel
theorem dX4_bid_45 : decode cX4_bid 45 = .ok (.aload_n 0, 1) := by decide +kernel
theorem dX4_bid_46 : decode cX4_bid 46 = .ok (.iload_n 2, 1) := by decide +kernel
theorem dX4_bid_47 : decode cX4_bid 47 = .ok (.invokevirtual 214, 3) := by decide +kernel
theorem dX4_bid_50 : decode cX4_bid 50 = .ok (.ifCond .ne 26, 3) := by decide +kernel
theorem dX4_bid_53 : decode cX4_bid 53 = .ok (.aload_n 0, 1) := by decide +kernel
theorem dX4_bid_54 : decode cX4_bid 54 = .ok (.getfield 89, 3) := by decide +kernel
theorem dX4_bid_57 : decode cX4_bid 57 = .ok (.iload_n 2, 1) := by decide +kernel
theorem dX4_bid_58 : decode cX4_bid 58 = .ok (.iaload, 1) := by decide +kernel
theorem dX4_bid_59 : decode cX4_bid 59 = .ok (.iconst (-1), 1) := by decide +kernel
theorem dX4_bid_60 : decode cX4_bid 60 = .ok (.if_icmp .ne 16, 3) := by decide +kernel
theorem dX4_bid_63 : decode cX4_bid 63 = .ok (.aload_n 0, 1) := by decide +kernel
theorem dX4_bid_64 : decode cX4_bid 64 = .ok (.getfield 95, 3) := by decide +kernel
theorem dX4_bid_67 : decode cX4_bid 67 = .ok (.iconst 5, 1) := by decide +kernel
theorem dX4_bid_68 : decode cX4_bid 68 = .ok (.iload_n 2, 1) := by decide +kernel
theorem dX4_bid_69 : decode cX4_bid 69 = .ok (.imul, 1) := by decide +kernel
theorem dX4_bid_70 : decode cX4_bid 70 = .ok (.iload_n 1, 1) := by decide +kernel
theorem dX4_bid_71 : decode cX4_bid 71 = .ok (.iadd, 1) := by decide +kernel
theorem dX4_bid_72 : decode cX4_bid 72 = .ok (.iaload, 1) := by decide +kernel
theorem dX4_bid_73 : decode cX4_bid 73 = .ok (.ifCond .le 8, 3) := by decide +kernel
theorem dX4_bid_76 : decode cX4_bid 76 = .ok (.aload_n 0, 1) := by decide +kernel
theorem dX4_bid_77 : decode cX4_bid 77 = .ok (.iconst 3, 1) := by decide +kernel
theorem dX4_bid_78 : decode cX4_bid 78 = .ok (.putfield 104, 3) := by decide +kernel
theorem dX4_bid_81 : decode cX4_bid 81 = .ok (.aload_n 0, 1) := by decide +kernel
theorem dX4_bid_82 : decode cX4_bid 82 = .ok (.getfield 104, 3) := by decide +kernel
theorem dX4_bid_85 : decode cX4_bid 85 = .ok (.ifCond .le 5, 3) := by decide +kernel
theorem dX4_bid_88 : decode cX4_bid 88 = .ok (.iconst 0, 1) := by decide +kernel
theorem dX4_bid_89 : decode cX4_bid 89 = .ok (.ireturn, 1) := by decide +kernel
theorem dX4_bid_90 : decode cX4_bid 90 = .ok (.aload_n 0, 1) := by decide +kernel
theorem dX4_bid_91 : decode cX4_bid 91 = .ok (.getfield 95, 3) := by decide +kernel
theorem dX4_bid_94 : decode cX4_bid 94 = .ok (.iconst 5, 1) := by decide +kernel
theorem dX4_bid_95 : decode cX4_bid 95 = .ok (.iload_n 2, 1) := by decide +kernel
theorem dX4_bid_96 : decode cX4_bid 96 = .ok (.imul, 1) := by decide +kernel
theorem dX4_bid_97 : decode cX4_bid 97 = .ok (.iload_n 1, 1) := by decide +kernel
theorem dX4_bid_98 : decode cX4_bid 98 = .ok (.iadd, 1) := by decide +kernel
theorem dX4_bid_99 : decode cX4_bid 99 = .ok (.iload_n 3, 1) := by decide +kernel
theorem dX4_bid_100 : decode cX4_bid 100 = .ok (.iastore, 1) := by decide +kernel
theorem dX4_bid_101 : decode cX4_bid 101 = .ok (.aload_n 0, 1) := by decide +kernel
theorem dX4_bid_102 : decode cX4_bid 102 = .ok (.getfield 98, 3) := by decide +kernel
theorem dX4_bid_105 : decode cX4_bid 105 = .ok (.iconst 5, 1) := by decide +kernel
theorem dX4_bid_106 : decode cX4_bid 106 = .ok (.iload_n 2, 1) := by decide +kernel
theorem dX4_bid_107 : decode cX4_bid 107 = .ok (.imul, 1) := by decide +kernel
theorem dX4_bid_108 : decode cX4_bid 108 = .ok (.iload_n 1, 1) := by decide +kernel
theorem dX4_bid_109 : decode cX4_bid 109 = .ok (.iadd, 1) := by decide +kernel
theorem dX4_bid_110 : decode cX4_bid 110 = .ok (.aload_n 0, 1) := by decide +kernel
theorem dX4_bid_111 : decode cX4_bid 111 = .ok (.getfield 92, 3) := by decide +kernel
theorem dX4_bid_114 : decode cX4_bid 114 = .ok (.iload_n 2, 1) := by decide +kernel
theorem dX4_bid_115 : decode cX4_bid 115 = .ok (.iaload, 1) := by decide +kernel
theorem dX4_bid_116 : decode cX4_bid 116 = .ok (.iastore, 1) := by decide +kernel
theorem dX4_bid_117 : decode cX4_bid 117 = .ok (.aload_n 0, 1) := by decide +kernel
theorem dX4_bid_118 : decode cX4_bid 118 = .ok (.getfield 92, 3) := by decide +kernel
theorem dX4_bid_121 : decode cX4_bid 121 = .ok (.iload_n 2, 1) := by decide +kernel
theorem dX4_bid_122 : decode cX4_bid 122 = .ok (.dup2, 1) := by decide +kernel
theorem dX4_bid_123 : decode cX4_bid 123 = .ok (.iaload, 1) := by decide +kernel
theorem dX4_bid_124 : decode cX4_bid 124 = .ok (.iconst 1, 1) := by decide +kernel
theorem dX4_bid_125 : decode cX4_bid 125 = .ok (.iadd, 1) := by decide +kernel
theorem dX4_bid_126 : decode cX4_bid 126 = .ok (.iastore, 1) := by decide +kernel
theorem dX4_bid_127 : decode cX4_bid 127 = .ok (.aload_n 0, 1) := by decide +kernel
theorem dX4_bid_128 : decode cX4_bid 128 = .ok (.getfield 92, 3) := by decide +kernel
theorem dX4_bid_131 : decode cX4_bid 131 = .ok (.iload_n 2, 1) := by decide +kernel
theorem dX4_bid_132 : decode cX4_bid 132 = .ok (.iaload, 1) := by decide +kernel
theorem dX4_bid_133 : decode cX4_bid 133 = .ok (.ireturn, 1) := by decide +kernel
theorem dX4_highest_0 : decode cX4_highest 0 = .ok (.iconst (-1), 1) := by decide +kernel
theorem dX4_highest_1 : decode cX4_highest 1 = .ok (.istore_n 2, 1) := by decide +kernel
theorem dX4_highest_2 : decode cX4_highest 2 = .ok (.iconst 0, 1) := by decide +kernel
theorem dX4_highest_3 : decode cX4_highest 3 = .ok (.istore_n 3, 1) := by decide +kernel
theorem dX4_highest_4 : decode cX4_highest 4 = .ok (.iload_n 3, 1) := by decide +kernel
theorem dX4_highest_5 : decode cX4_highest 5 = .ok (.aload_n 0, 1) := by decide +kernel
theorem dX4_highest_6 : decode cX4_highest 6 = .ok (.getfield 92, 3) := by decide +kernel
theorem dX4_highest_9 : decode cX4_highest 9 = .ok (.iload_n 1, 1) := by decide +kernel
theorem dX4_highest_10 : decode cX4_highest 10 = .ok (.iaload, 1) := by decide +kernel
theorem dX4_highest_11 : decode cX4_highest 11 = .ok (.if_icmp .ge 108, 3) := by decide +kernel
theorem dX4_highest_14 : decode cX4_highest 14 = .ok (.iconst 0, 1) := by decide +kernel
theorem dX4_highest_15 : decode cX4_highest 15 = .ok (.istore 4, 2) := by decide +kernel
theorem dX4_highest_17 : decode cX4_highest 17 = .ok (.iload 4, 2) := by decide +kernel
theorem dX4_highest_19 : decode cX4_highest 19 = .ok (.iconst 5, 1) := by decide +kernel
theorem dX4_highest_20 : decode cX4_highest 20 = .ok (.if_icmp .ge 93, 3) := by decide +kernel
theorem dX4_highest_23 : decode cX4_highest 23 = .ok (.aload_n 0, 1) := by decide +kernel
theorem dX4_highest_24 : decode cX4_highest 24 = .ok (.getfield 95, 3) := by decide +kernel
theorem dX4_highest_27 : decode cX4_highest 27 = .ok (.iconst 5, 1) := by decide +kernel
theorem dX4_highest_28 : decode cX4_highest 28 = .ok (.iload_n 1, 1) := by decide +kernel
theorem dX4_highest_29 : decode cX4_highest 29 = .ok (.imul, 1) := by decide +kernel
theorem dX4_highest_30 : decode cX4_highest 30 = .ok (.iload 4, 2) := by decide +kernel
theorem dX4_highest_32 : decode cX4_highest 32 = .ok (.iadd, 1) := by decide +kernel
theorem dX4_highest_33 : decode cX4_highest 33 = .ok (.iaload, 1) := by decide +kernel
theorem dX4_highest_34 : decode cX4_highest 34 = .ok (.istore 5, 2) := by decide +kernel
theorem dX4_highest_36 : decode cX4_highest 36 = .ok (.iload 5, 2) := by decide +kernel
theorem dX4_highest_38 : decode cX4_highest 38 = .ok (.ifCond .le 34, 3) := by decide +kernel
theorem dX4_highest_41 : decode cX4_highest 41 = .ok (.aload_n 0, 1) := by decide +kernel
theorem dX4_highest_42 : decode cX4_highest 42 = .ok (.getfield 98, 3) := by decide +kernel
theorem dX4_highest_45 : decode cX4_highest 45 = .ok (.iconst 5, 1) := by decide +kernel
theorem dX4_highest_46 : decode cX4_highest 46 = .ok (.iload_n 1, 1) := by decide +kernel
theorem dX4_highest_47 : decode cX4_highest 47 = .ok (.imul, 1) := by decide +kernel
theorem dX4_highest_48 : decode cX4_highest 48 = .ok (.iload 4, 2) := by decide +kernel
theorem dX4_highest_50 : decode cX4_highest 50 = .ok (.iadd, 1) := by decide +kernel
theorem dX4_highest_51 : decode cX4_highest 51 = .ok (.iaload, 1) := by decide +kernel
theorem dX4_highest_52 : decode cX4_highest 52 = .ok (.iload_n 3, 1) := by decide +kernel
theorem dX4_highest_53 : decode cX4_highest 53 = .ok (.if_icmp .ne 19, 3) := by decide +kernel
theorem dX4_highest_56 : decode cX4_highest 56 = .ok (.iload 5, 2) := by decide +kernel
theorem dX4_highest_58 : decode cX4_highest 58 = .ok (.aload_n 0, 1) := by decide +kernel
theorem dX4_highest_59 : decode cX4_highest 59 = .ok (.getfield 101, 3) := by decide +kernel
theorem dX4_highest_62 : decode cX4_highest 62 = .ok (.iload 4, 2) := by decide +kernel
theorem dX4_highest_64 : decode cX4_highest 64 = .ok (.iaload, 1) := by decide +kernel
theorem dX4_highest_65 : decode cX4_highest 65 = .ok (.if_icmp .gt 7, 3) := by decide +kernel
theorem dX4_highest_68 : decode cX4_highest 68 = .ok (.iconst 1, 1) := by decide +kernel
theorem dX4_highest_69 : decode cX4_highest 69 = .ok (.goto 4, 3) := by decide +kernel
theorem dX4_highest_72 : decode cX4_highest 72 = .ok (.iconst 0, 1) := by decide +kernel
theorem dX4_highest_73 : decode cX4_highest 73 = .ok (.istore 6, 2) := by decide +kernel
theorem dX4_highest_75 : decode cX4_highest 75 = .ok (.iload 6, 2) := by decide +kernel
theorem dX4_highest_77 : decode cX4_highest 77 = .ok (.ifCond .eq 28, 3) := by decide +kernel
theorem dX4_highest_80 : decode cX4_highest 80 = .ok (.iload_n 2, 1) := by decide +kernel
theorem dX4_highest_81 : decode cX4_highest 81 = .ok (.iconst (-1), 1) := by decide +kernel
theorem dX4_highest_82 : decode cX4_highest 82 = .ok (.if_icmp .eq 18, 3) := by decide +kernel
theorem dX4_highest_85 : decode cX4_highest 85 = .ok (.iload 5, 2) := by decide +kernel
theorem dX4_highest_87 : decode cX4_highest 87 = .ok (.aload_n 0, 1) := by decide +kernel
theorem dX4_highest_88 : decode cX4_highest 88 = .ok (.getfield 95, 3) := by decide +kernel
theorem dX4_highest_91 : decode cX4_highest 91 = .ok (.iconst 5, 1) := by decide +kernel
theorem dX4_highest_92 : decode cX4_highest 92 = .ok (.iload_n 1, 1) := by decide +kernel
theorem dX4_highest_93 : decode cX4_highest 93 = .ok (.imul, 1) := by decide +kernel
theorem dX4_highest_94 : decode cX4_highest 94 = .ok (.iload_n 2, 1) := by decide +kernel
theorem dX4_highest_95 : decode cX4_highest 95 = .ok (.iadd, 1) := by decide +kernel
theorem dX4_highest_96 : decode cX4_highest 96 = .ok (.iaload, 1) := by decide +kernel
theorem dX4_highest_97 : decode cX4_highest 97 = .ok (.if_icmp .le 8, 3) := by decide +kernel
theorem dX4_highest_100 : decode cX4_highest 100 = .ok (.iload 4, 2) := by decide +kernel
theorem dX4_highest_102 : decode cX4_highest 102 = .ok (.goto 4, 3) := by decide +kernel
theorem dX4_highest_105 : decode cX4_highest 105 = .ok (.iload_n 2, 1) := by decide +kernel
theorem dX4_highest_106 : decode cX4_highest 106 = .ok (.istore_n 2, 1) := by decide +kernel
theorem dX4_highest_107 : decode cX4_highest 107 = .ok (.iinc 4 1, 3) := by decide +kernel
theorem dX4_highest_110 : decode cX4_highest 110 = .ok (.goto (-93), 3) := by decide +kernel
theorem dX4_highest_113 : decode cX4_highest 113 = .ok (.iinc 3 1, 3) := by decide +kernel
theorem dX4_highest_116 : decode cX4_highest 116 = .ok (.goto (-112), 3) := by decide +kernel
theorem dX4_highest_119 : decode cX4_highest 119 = .ok (.iload_n 2, 1) := by decide +kernel
theorem dX4_highest_120 : decode cX4_highest 120 = .ok (.ireturn, 1) := by decide +kernel
theorem dX4_sell_0 : decode cX4_sell 0 = .ok (.aload_n 0, 1) := by decide +kernel
theorem dX4_sell_1 : decode cX4_sell 1 = .ok (.aload_n 0, 1) := by decide +kernel
theorem dX4_sell_2 : decode cX4_sell 2 = .ok (.iload_n 1, 1) := by decide +kernel
theorem dX4_sell_3 : decode cX4_sell 3 = .ok (.invokevirtual 211, 3) := by decide +kernel
theorem dX4_sell_6 : decode cX4_sell 6 = .ok (.ifCond .ne 7, 3) := by decide +kernel
theorem dX4_sell_9 : decode cX4_sell 9 = .ok (.iconst 1, 1) := by decide +kernel
theorem dX4_sell_10 : decode cX4_sell 10 = .ok (.goto 35, 3) := by decide +kernel
theorem dX4_sell_13 : decode cX4_sell 13 = .ok (.aload_n 0, 1) := by decide +kernel
theorem dX4_sell_14 : decode cX4_sell 14 = .ok (.iload_n 1, 1) := by decide +kernel
theorem dX4_sell_15 : decode cX4_sell 15 = .ok (.invokevirtual 214, 3) := by decide +kernel
theorem dX4_sell_18 : decode cX4_sell 18 = .ok (.ifCond .ne 22, 3) := by decide +kernel
theorem dX4_sell_21 : decode cX4_sell 21 = .ok (.aload_n 0, 1) := by decide +kernel
theorem dX4_sell_22 : decode cX4_sell 22 = .ok (.getfield 89, 3) := by decide +kernel
theorem dX4_sell_25 : decode cX4_sell 25 = .ok (.iload_n 1, 1) := by decide +kernel
theorem dX4_sell_26 : decode cX4_sell 26 = .ok (.iaload, 1) := by decide +kernel
theorem dX4_sell_27 : decode cX4_sell 27 = .ok (.iconst (-1), 1) := by decide +kernel
theorem dX4_sell_28 : decode cX4_sell 28 = .ok (.if_icmp .ne 12, 3) := by decide +kernel
theorem dX4_sell_31 : decode cX4_sell 31 = .ok (.aload_n 0, 1) := by decide +kernel
theorem dX4_sell_32 : decode cX4_sell 32 = .ok (.iload_n 1, 1) := by decide +kernel
theorem dX4_sell_33 : decode cX4_sell 33 = .ok (.invokevirtual 227, 3) := by decide +kernel
theorem dX4_sell_36 : decode cX4_sell 36 = .ok (.iconst (-1), 1) := by decide +kernel
theorem dX4_sell_37 : decode cX4_sell 37 = .ok (.if_icmp .ne 7, 3) := by decide +kernel
theorem dX4_sell_40 : decode cX4_sell 40 = .ok (.iconst 2, 1) := by decide +kernel
theorem dX4_sell_41 : decode cX4_sell 41 = .ok (.goto 4, 3) := by decide +kernel
theorem dX4_sell_44 : decode cX4_sell 44 = .ok (.iconst 0, 1) := by decide +kernel
theorem dX4_sell_45 : decode cX4_sell 45 = .ok (.putfield 104, 3) := by decide +kernel
theorem dX4_sell_48 : decode cX4_sell 48 = .ok (.aload_n 0, 1) := by decide +kernel
theorem dX4_sell_49 : decode cX4_sell 49 = .ok (.getfield 104, 3) := by decide +kernel
theorem dX4_sell_52 : decode cX4_sell 52 = .ok (.ifCond .le 5, 3) := by decide +kernel
theorem dX4_sell_55 : decode cX4_sell 55 = .ok (.iconst 0, 1) := by decide +kernel
theorem dX4_sell_56 : decode cX4_sell 56 = .ok (.ireturn, 1) := by decide +kernel
theorem dX4_sell_57 : decode cX4_sell 57 = .ok (.aload_n 0, 1) := by decide +kernel
theorem dX4_sell_58 : decode cX4_sell 58 = .ok (.iload_n 1, 1) := by decide +kernel
theorem dX4_sell_59 : decode cX4_sell 59 = .ok (.invokevirtual 227, 3) := by decide +kernel
theorem dX4_sell_62 : decode cX4_sell 62 = .ok (.istore_n 2, 1) := by decide +kernel
theorem dX4_sell_63 : decode cX4_sell 63 = .ok (.aload_n 0, 1) := by decide +kernel
theorem dX4_sell_64 : decode cX4_sell 64 = .ok (.getfield 95, 3) := by decide +kernel
theorem dX4_sell_67 : decode cX4_sell 67 = .ok (.iconst 5, 1) := by decide +kernel
theorem dX4_sell_68 : decode cX4_sell 68 = .ok (.iload_n 1, 1) := by decide +kernel
theorem dX4_sell_69 : decode cX4_sell 69 = .ok (.imul, 1) := by decide +kernel
theorem dX4_sell_70 : decode cX4_sell 70 = .ok (.iload_n 2, 1) := by decide +kernel
theorem dX4_sell_71 : decode cX4_sell 71 = .ok (.iadd, 1) := by decide +kernel
theorem dX4_sell_72 : decode cX4_sell 72 = .ok (.iaload, 1) := by decide +kernel
theorem dX4_sell_73 : decode cX4_sell 73 = .ok (.istore_n 3, 1) := by decide +kernel
theorem dX4_sell_74 : decode cX4_sell 74 = .ok (.aload_n 0, 1) := by decide +kernel
theorem dX4_sell_75 : decode cX4_sell 75 = .ok (.getfield 101, 3) := by decide +kernel
theorem dX4_sell_78 : decode cX4_sell 78 = .ok (.iload_n 2, 1) := by decide +kernel
theorem dX4_sell_79 : decode cX4_sell 79 = .ok (.dup2, 1) := by decide +kernel
theorem dX4_sell_80 : decode cX4_sell 80 = .ok (.iaload, 1) := by decide +kernel
theorem dX4_sell_81 : decode cX4_sell 81 = .ok (.iload_n 3, 1) := by decide +kernel
theorem dX4_sell_82 : decode cX4_sell 82 = .ok (.isub, 1) := by decide +kernel
theorem dX4_sell_83 : decode cX4_sell 83 = .ok (.iastore, 1) := by decide +kernel
theorem dX4_sell_84 : decode cX4_sell 84 = .ok (.aload_n 0, 1) := by decide +kernel
theorem dX4_sell_85 : decode cX4_sell 85 = .ok (.getfield 62, 3) := by decide +kernel
theorem dX4_sell_88 : decode cX4_sell 88 = .ok (.aload_n 0, 1) := by decide +kernel
theorem dX4_sell_89 : decode cX4_sell 89 = .ok (.getfield 80, 3) := by decide +kernel
theorem dX4_sell_92 : decode cX4_sell 92 = .ok (.iload_n 1, 1) := by decide +kernel
theorem dX4_sell_93 : decode cX4_sell 93 = .ok (.iaload, 1) := by decide +kernel
theorem dX4_sell_94 : decode cX4_sell 94 = .ok (.dup2, 1) := by decide +kernel
theorem dX4_sell_95 : decode cX4_sell 95 = .ok (.iaload, 1) := by decide +kernel
theorem dX4_sell_96 : decode cX4_sell 96 = .ok (.iload_n 3, 1) := by decide +kernel
theorem dX4_sell_97 : decode cX4_sell 97 = .ok (.iadd, 1) := by decide +kernel
theorem dX4_sell_98 : decode cX4_sell 98 = .ok (.iastore, 1) := by decide +kernel
theorem dX4_sell_99 : decode cX4_sell 99 = .ok (.aload_n 0, 1) := by decide +kernel
theorem dX4_sell_100 : decode cX4_sell 100 = .ok (.getfield 89, 3) := by decide +kernel
theorem dX4_sell_103 : decode cX4_sell 103 = .ok (.iload_n 1, 1) := by decide +kernel
theorem dX4_sell_104 : decode cX4_sell 104 = .ok (.iload_n 2, 1) := by decide +kernel
theorem dX4_sell_105 : decode cX4_sell 105 = .ok (.iastore, 1) := by decide +kernel
theorem dX4_sell_106 : decode cX4_sell 106 = .ok (.iload_n 2, 1) := by decide +kernel
theorem dX4_sell_107 : decode cX4_sell 107 = .ok (.ireturn, 1) := by decide +kernel
theorem dX4_hour_0 : decode cX4_hour 0 = .ok (.aload_n 0, 1) := by decide +kernel
theorem dX4_hour_1 : decode cX4_hour 1 = .ok (.iconst 0, 1) := by decide +kernel
theorem dX4_hour_2 : decode cX4_hour 2 = .ok (.putfield 104, 3) := by decide +kernel
theorem dX4_hour_5 : decode cX4_hour 5 = .ok (.aload_n 0, 1) := by decide +kernel
theorem dX4_hour_6 : decode cX4_hour 6 = .ok (.getfield 118, 3) := by decide +kernel
theorem dX4_hour_9 : decode cX4_hour 9 = .ok (.ireturn, 1) := by decide +kernel
theorem dX4_bore_0 : decode cX4_bore 0 = .ok (.aload_n 0, 1) := by decide +kernel
theorem dX4_bore_1 : decode cX4_bore 1 = .ok (.iload_n 1, 1) := by decide +kernel
theorem dX4_bore_2 : decode cX4_bore 2 = .ok (.invokestatic 121, 3) := by decide +kernel
theorem dX4_bore_5 : decode cX4_bore 5 = .ok (.ifCond .eq 7, 3) := by decide +kernel
theorem dX4_bore_8 : decode cX4_bore 8 = .ok (.iconst 0, 1) := by decide +kernel
theorem dX4_bore_9 : decode cX4_bore 9 = .ok (.goto 4, 3) := by decide +kernel
theorem dX4_bore_12 : decode cX4_bore 12 = .ok (.iconst 1, 1) := by decide +kernel
theorem dX4_bore_13 : decode cX4_bore 13 = .ok (.putfield 104, 3) := by decide +kernel
theorem dX4_bore_16 : decode cX4_bore 16 = .ok (.aload_n 0, 1) := by decide +kernel
theorem dX4_bore_17 : decode cX4_bore 17 = .ok (.getfield 104, 3) := by decide +kernel
theorem dX4_bore_20 : decode cX4_bore 20 = .ok (.ifCond .le 5, 3) := by decide +kernel
theorem dX4_bore_23 : decode cX4_bore 23 = .ok (.iconst 0, 1) := by decide +kernel
theorem dX4_bore_24 : decode cX4_bore 24 = .ok (.ireturn, 1) := by decide +kernel
theorem dX4_bore_25 : decode cX4_bore 25 = .ok (.aload_n 0, 1) := by decide +kernel
theorem dX4_bore_26 : decode cX4_bore 26 = .ok (.getfield 13, 3) := by decide +kernel
theorem dX4_bore_29 : decode cX4_bore 29 = .ok (.iload_n 1, 1) := by decide +kernel
theorem dX4_bore_30 : decode cX4_bore 30 = .ok (.iaload, 1) := by decide +kernel
theorem dX4_bore_31 : decode cX4_bore 31 = .ok (.ifCond .le 7, 3) := by decide +kernel
theorem dX4_bore_34 : decode cX4_bore 34 = .ok (.iconst 1, 1) := by decide +kernel
theorem dX4_bore_35 : decode cX4_bore 35 = .ok (.goto 4, 3) := by decide +kernel
theorem dX4_bore_38 : decode cX4_bore 38 = .ok (.iconst 0, 1) := by decide +kernel
theorem dX4_bore_39 : decode cX4_bore 39 = .ok (.istore_n 2, 1) := by decide +kernel
theorem dX4_bore_40 : decode cX4_bore 40 = .ok (.iconst 0, 1) := by decide +kernel
theorem dX4_bore_41 : decode cX4_bore 41 = .ok (.istore_n 3, 1) := by decide +kernel
theorem dX4_bore_42 : decode cX4_bore 42 = .ok (.iload_n 3, 1) := by decide +kernel
theorem dX4_bore_43 : decode cX4_bore 43 = .ok (.iconst 4, 1) := by decide +kernel
theorem dX4_bore_44 : decode cX4_bore 44 = .ok (.if_icmp .ge 40, 3) := by decide +kernel
theorem dX4_bore_47 : decode cX4_bore 47 = .ok (.iload_n 1, 1) := by decide +kernel
theorem dX4_bore_48 : decode cX4_bore 48 = .ok (.iload_n 3, 1) := by decide +kernel
theorem dX4_bore_49 : decode cX4_bore 49 = .ok (.invokestatic 158, 3) := by decide +kernel
theorem dX4_bore_52 : decode cX4_bore 52 = .ok (.istore 4, 2) := by decide +kernel
theorem dX4_bore_54 : decode cX4_bore 54 = .ok (.iload_n 2, 1) := by decide +kernel
theorem dX4_bore_55 : decode cX4_bore 55 = .ok (.iload 4, 2) := by decide +kernel
theorem dX4_bore_57 : decode cX4_bore 57 = .ok (.iconst (-1), 1) := by decide +kernel
theorem dX4_bore_58 : decode cX4_bore 58 = .ok (.if_icmp .eq 17, 3) := by decide +kernel
theorem dX4_bore_61 : decode cX4_bore 61 = .ok (.aload_n 0, 1) := by decide +kernel
theorem dX4_bore_62 : decode cX4_bore 62 = .ok (.getfield 13, 3) := by decide +kernel
theorem dX4_bore_65 : decode cX4_bore 65 = .ok (.iload 4, 2) := by decide +kernel
theorem dX4_bore_67 : decode cX4_bore 67 = .ok (.iaload, 1) := by decide +kernel
theorem dX4_bore_68 : decode cX4_bore 68 = .ok (.ifCond .le 7, 3) := by decide +kernel
theorem dX4_bore_71 : decode cX4_bore 71 = .ok (.iconst 1, 1) := by decide +kernel
theorem dX4_bore_72 : decode cX4_bore 72 = .ok (.goto 4, 3) := by decide +kernel
theorem dX4_bore_75 : decode cX4_bore 75 = .ok (.iconst 0, 1) := by decide +kernel
theorem dX4_bore_76 : decode cX4_bore 76 = .ok (.iadd, 1) := by decide +kernel
theorem dX4_bore_77 : decode cX4_bore 77 = .ok (.istore_n 2, 1) := by decide +kernel
theorem dX4_bore_78 : decode cX4_bore 78 = .ok (.iinc 3 1, 3) := by decide +kernel
theorem dX4_bore_81 : decode cX4_bore 81 = .ok (.goto (-39), 3) := by decide +kernel
theorem dX4_bore_84 : decode cX4_bore 84 = .ok (.iload_n 2, 1) := by decide +kernel
theorem dX4_bore_85 : decode cX4_bore 85 = .ok (.ireturn, 1) := by decide +kernel
theorem dX4_ofCell_0 : decode cX4_ofCell 0 = .ok (.aload_n 0, 1) := by decide +kernel
theorem dX4_ofCell_1 : decode cX4_ofCell 1 = .ok (.iload_n 1, 1) := by decide +kernel
theorem dX4_ofCell_2 : decode cX4_ofCell 2 = .ok (.invokestatic 121, 3) := by decide +kernel
theorem dX4_ofCell_5 : decode cX4_ofCell 5 = .ok (.ifCond .ne 7, 3) := by decide +kernel
theorem dX4_ofCell_8 : decode cX4_ofCell 8 = .ok (.iconst 1, 1) := by decide +kernel
theorem dX4_ofCell_9 : decode cX4_ofCell 9 = .ok (.goto 17, 3) := by decide +kernel
theorem dX4_ofCell_12 : decode cX4_ofCell 12 = .ok (.iload_n 2, 1) := by decide +kernel
theorem dX4_ofCell_13 : decode cX4_ofCell 13 = .ok (.iconst 0, 1) := by decide +kernel
theorem dX4_ofCell_14 : decode cX4_ofCell 14 = .ok (.iconst 3, 1) := by decide +kernel
theorem dX4_ofCell_15 : decode cX4_ofCell 15 = .ok (.invokestatic 108, 3) := by decide +kernel
theorem dX4_ofCell_18 : decode cX4_ofCell 18 = .ok (.ifCond .eq 7, 3) := by decide +kernel
theorem dX4_ofCell_21 : decode cX4_ofCell 21 = .ok (.iconst 0, 1) := by decide +kernel
theorem dX4_ofCell_22 : decode cX4_ofCell 22 = .ok (.goto 4, 3) := by decide +kernel
theorem dX4_ofCell_25 : decode cX4_ofCell 25 = .ok (.iconst 2, 1) := by decide +kernel
theorem dX4_ofCell_26 : decode cX4_ofCell 26 = .ok (.putfield 104, 3) := by decide +kernel
theorem dX4_ofCell_29 : decode cX4_ofCell 29 = .ok (.aload_n 0, 1) := by decide +kernel
theorem dX4_ofCell_30 : decode cX4_ofCell 30 = .ok (.getfield 104, 3) := by decide +kernel
theorem dX4_ofCell_33 : decode cX4_ofCell 33 = .ok (.ifCond .le 5, 3) := by decide +kernel
theorem dX4_ofCell_36 : decode cX4_ofCell 36 = .ok (.iconst 0, 1) := by decide +kernel
theorem dX4_ofCell_37 : decode cX4_ofCell 37 = .ok (.ireturn, 1) := by decide +kernel
theorem dX4_ofCell_38 : decode cX4_ofCell 38 = .ok (.iload_n 2, 1) := by decide +kernel
theorem dX4_ofCell_39 : decode cX4_ofCell 39 = .ok (.tableswitch 63 0 2 #[25, 32, 47], 25) := by decide +kernel
theorem dX4_ofCell_64 : decode cX4_ofCell 64 = .ok (.aload_n 0, 1) := by decide +kernel
theorem dX4_ofCell_65 : decode cX4_ofCell 65 = .ok (.getfield 7, 3) := by decide +kernel
theorem dX4_ofCell_68 : decode cX4_ofCell 68 = .ok (.iload_n 1, 1) := by decide +kernel
theorem dX4_ofCell_69 : decode cX4_ofCell 69 = .ok (.iaload, 1) := by decide +kernel
theorem dX4_ofCell_70 : decode cX4_ofCell 70 = .ok (.ireturn, 1) := by decide +kernel
theorem dX4_ofCell_71 : decode cX4_ofCell 71 = .ok (.aload_n 0, 1) := by decide +kernel
theorem dX4_ofCell_72 : decode cX4_ofCell 72 = .ok (.getfield 23, 3) := by decide +kernel
theorem dX4_ofCell_75 : decode cX4_ofCell 75 = .ok (.iload_n 1, 1) := by decide +kernel
theorem dX4_ofCell_76 : decode cX4_ofCell 76 = .ok (.baload, 1) := by decide +kernel
theorem dX4_ofCell_77 : decode cX4_ofCell 77 = .ok (.ifCond .eq 7, 3) := by decide +kernel
theorem dX4_ofCell_80 : decode cX4_ofCell 80 = .ok (.iconst 1, 1) := by decide +kernel
theorem dX4_ofCell_81 : decode cX4_ofCell 81 = .ok (.goto 4, 3) := by decide +kernel
theorem dX4_ofCell_84 : decode cX4_ofCell 84 = .ok (.iconst 0, 1) := by decide +kernel
theorem dX4_ofCell_85 : decode cX4_ofCell 85 = .ok (.ireturn, 1) := by decide +kernel
theorem dX4_ofCell_86 : decode cX4_ofCell 86 = .ok (.aload_n 0, 1) := by decide +kernel
theorem dX4_ofCell_87 : decode cX4_ofCell 87 = .ok (.getfield 26, 3) := by decide +kernel
theorem dX4_ofCell_90 : decode cX4_ofCell 90 = .ok (.iload_n 1, 1) := by decide +kernel
theorem dX4_ofCell_91 : decode cX4_ofCell 91 = .ok (.iaload, 1) := by decide +kernel
theorem dX4_ofCell_92 : decode cX4_ofCell 92 = .ok (.iconst (-1), 1) := by decide +kernel
theorem dX4_ofCell_93 : decode cX4_ofCell 93 = .ok (.if_icmp .ne 7, 3) := by decide +kernel
theorem dX4_ofCell_96 : decode cX4_ofCell 96 = .ok (.iconst 0, 1) := by decide +kernel
theorem dX4_ofCell_97 : decode cX4_ofCell 97 = .ok (.goto 4, 3) := by decide +kernel
theorem dX4_ofCell_100 : decode cX4_ofCell 100 = .ok (.iconst 1, 1) := by decide +kernel
theorem dX4_ofCell_101 : decode cX4_ofCell 101 = .ok (.ireturn, 1) := by decide +kernel
theorem dX4_ofCell_102 : decode cX4_ofCell 102 = .ok (.aload_n 0, 1) := by decide +kernel
theorem dX4_ofCell_103 : decode cX4_ofCell 103 = .ok (.iload_n 1, 1) := by decide +kernel
theorem dX4_ofCell_104 : decode cX4_ofCell 104 = .ok (.invokevirtual 175, 3) := by decide +kernel
theorem dX4_ofCell_107 : decode cX4_ofCell 107 = .ok (.ireturn, 1) := by decide +kernel
theorem dX4_held_0 : decode cX4_held 0 = .ok (.iconst 0, 1) := by decide +kernel
theorem dX4_held_1 : decode cX4_held 1 = .ok (.istore_n 2, 1) := by decide +kernel
theorem dX4_held_2 : decode cX4_held 2 = .ok (.iconst 0, 1) := by decide +kernel
theorem dX4_held_3 : decode cX4_held 3 = .ok (.istore_n 3, 1) := by decide +kernel
theorem dX4_held_4 : decode cX4_held 4 = .ok (.iload_n 3, 1) := by decide +kernel
theorem dX4_held_5 : decode cX4_held 5 = .ok (.bipush 100, 2) := by decide +kernel
theorem dX4_held_7 : decode cX4_held 7 = .ok (.if_icmp .ge 26, 3) := by decide +kernel
theorem dX4_held_10 : decode cX4_held 10 = .ok (.iload_n 2, 1) := by decide +kernel
theorem dX4_held_11 : decode cX4_held 11 = .ok (.aload_n 0, 1) := by decide +kernel
theorem dX4_held_12 : decode cX4_held 12 = .ok (.iload_n 3, 1) := by decide +kernel
theorem dX4_held_13 : decode cX4_held 13 = .ok (.invokevirtual 175, 3) := by decide +kernel
theorem dX4_held_16 : decode cX4_held 16 = .ok (.iload_n 1, 1) := by decide +kernel
theorem dX4_held_17 : decode cX4_held 17 = .ok (.if_icmp .ne 7, 3) := by decide +kernel
theorem dX4_held_20 : decode cX4_held 20 = .ok (.iconst 1, 1) := by decide +kernel
theorem dX4_held_21 : decode cX4_held 21 = .ok (.goto 4, 3) := by decide +kernel
theorem dX4_held_24 : decode cX4_held 24 = .ok (.iconst 0, 1) := by decide +kernel
theorem dX4_held_25 : decode cX4_held 25 = .ok (.iadd, 1) := by decide +kernel
theorem dX4_held_26 : decode cX4_held 26 = .ok (.istore_n 2, 1) := by decide +kernel
theorem dX4_held_27 : decode cX4_held 27 = .ok (.iinc 3 1, 3) := by decide +kernel
theorem dX4_held_30 : decode cX4_held 30 = .ok (.goto (-26), 3) := by decide +kernel
theorem dX4_held_33 : decode cX4_held 33 = .ok (.iload_n 2, 1) := by decide +kernel
theorem dX4_held_34 : decode cX4_held 34 = .ok (.ireturn, 1) := by decide +kernel
theorem dX4_ofClaim_0 : decode cX4_ofClaim 0 = .ok (.aload_n 0, 1) := by decide +kernel
theorem dX4_ofClaim_1 : decode cX4_ofClaim 1 = .ok (.aload_n 0, 1) := by decide +kernel
theorem dX4_ofClaim_2 : decode cX4_ofClaim 2 = .ok (.iload_n 1, 1) := by decide +kernel
theorem dX4_ofClaim_3 : decode cX4_ofClaim 3 = .ok (.invokevirtual 142, 3) := by decide +kernel
theorem dX4_ofClaim_6 : decode cX4_ofClaim 6 = .ok (.ifCond .ne 7, 3) := by decide +kernel
theorem dX4_ofClaim_9 : decode cX4_ofClaim 9 = .ok (.iconst 1, 1) := by decide +kernel
theorem dX4_ofClaim_10 : decode cX4_ofClaim 10 = .ok (.goto 18, 3) := by decide +kernel
theorem dX4_ofClaim_13 : decode cX4_ofClaim 13 = .ok (.iload_n 2, 1) := by decide +kernel
theorem dX4_ofClaim_14 : decode cX4_ofClaim 14 = .ok (.iconst 0, 1) := by decide +kernel
theorem dX4_ofClaim_15 : decode cX4_ofClaim 15 = .ok (.bipush 6, 2) := by decide +kernel
theorem dX4_ofClaim_17 : decode cX4_ofClaim 17 = .ok (.invokestatic 108, 3) := by decide +kernel
theorem dX4_ofClaim_20 : decode cX4_ofClaim 20 = .ok (.ifCond .eq 7, 3) := by decide +kernel
theorem dX4_ofClaim_23 : decode cX4_ofClaim 23 = .ok (.iconst 0, 1) := by decide +kernel
theorem dX4_ofClaim_24 : decode cX4_ofClaim 24 = .ok (.goto 4, 3) := by decide +kernel
theorem dX4_ofClaim_27 : decode cX4_ofClaim 27 = .ok (.iconst 2, 1) := by decide +kernel
theorem dX4_ofClaim_28 : decode cX4_ofClaim 28 = .ok (.putfield 104, 3) := by decide +kernel
theorem dX4_ofClaim_31 : decode cX4_ofClaim 31 = .ok (.aload_n 0, 1) := by decide +kernel
theorem dX4_ofClaim_32 : decode cX4_ofClaim 32 = .ok (.getfield 104, 3) := by decide +kernel
theorem dX4_ofClaim_35 : decode cX4_ofClaim 35 = .ok (.ifCond .le 5, 3) := by decide +kernel
theorem dX4_ofClaim_38 : decode cX4_ofClaim 38 = .ok (.iconst 0, 1) := by decide +kernel
theorem dX4_ofClaim_39 : decode cX4_ofClaim 39 = .ok (.ireturn, 1) := by decide +kernel
theorem dX4_ofClaim_40 : decode cX4_ofClaim 40 = .ok (.iload_n 2, 1) := by decide +kernel
theorem dX4_ofClaim_41 : decode cX4_ofClaim 41 = .ok (.tableswitch 85 0 5 #[39, 46, 52, 66, 72, 79], 39) := by decide +kernel
theorem dX4_ofClaim_80 : decode cX4_ofClaim 80 = .ok (.aload_n 0, 1) := by decide +kernel
theorem dX4_ofClaim_81 : decode cX4_ofClaim 81 = .ok (.getfield 32, 3) := by decide +kernel
theorem dX4_ofClaim_84 : decode cX4_ofClaim 84 = .ok (.iload_n 1, 1) := by decide +kernel
theorem dX4_ofClaim_85 : decode cX4_ofClaim 85 = .ok (.iaload, 1) := by decide +kernel
theorem dX4_ofClaim_86 : decode cX4_ofClaim 86 = .ok (.ireturn, 1) := by decide +kernel
theorem dX4_ofClaim_87 : decode cX4_ofClaim 87 = .ok (.aload_n 0, 1) := by decide +kernel
theorem dX4_ofClaim_88 : decode cX4_ofClaim 88 = .ok (.iload_n 1, 1) := by decide +kernel
theorem dX4_ofClaim_89 : decode cX4_ofClaim 89 = .ok (.invokevirtual 148, 3) := by decide +kernel
theorem dX4_ofClaim_92 : decode cX4_ofClaim 92 = .ok (.ireturn, 1) := by decide +kernel
theorem dX4_ofClaim_93 : decode cX4_ofClaim 93 = .ok (.aload_n 0, 1) := by decide +kernel
theorem dX4_ofClaim_94 : decode cX4_ofClaim 94 = .ok (.iload_n 1, 1) := by decide +kernel
theorem dX4_ofClaim_95 : decode cX4_ofClaim 95 = .ok (.invokevirtual 151, 3) := by decide +kernel
theorem dX4_ofClaim_98 : decode cX4_ofClaim 98 = .ok (.ifCond .eq 7, 3) := by decide +kernel
theorem dX4_ofClaim_101 : decode cX4_ofClaim 101 = .ok (.iconst 1, 1) := by decide +kernel
theorem dX4_ofClaim_102 : decode cX4_ofClaim 102 = .ok (.goto 4, 3) := by decide +kernel
theorem dX4_ofClaim_105 : decode cX4_ofClaim 105 = .ok (.iconst 0, 1) := by decide +kernel
theorem dX4_ofClaim_106 : decode cX4_ofClaim 106 = .ok (.ireturn, 1) := by decide +kernel
theorem dX4_ofClaim_107 : decode cX4_ofClaim 107 = .ok (.aload_n 0, 1) := by decide +kernel
theorem dX4_ofClaim_108 : decode cX4_ofClaim 108 = .ok (.iload_n 1, 1) := by decide +kernel
theorem dX4_ofClaim_109 : decode cX4_ofClaim 109 = .ok (.invokevirtual 230, 3) := by decide +kernel
theorem dX4_ofClaim_112 : decode cX4_ofClaim 112 = .ok (.ireturn, 1) := by decide +kernel
theorem dX4_ofClaim_113 : decode cX4_ofClaim 113 = .ok (.aload_n 0, 1) := by decide +kernel
theorem dX4_ofClaim_114 : decode cX4_ofClaim 114 = .ok (.getfield 50, 3) := by decide +kernel
theorem dX4_ofClaim_117 : decode cX4_ofClaim 117 = .ok (.iload_n 1, 1) := by decide +kernel
theorem dX4_ofClaim_118 : decode cX4_ofClaim 118 = .ok (.iaload, 1) := by decide +kernel
theorem dX4_ofClaim_119 : decode cX4_ofClaim 119 = .ok (.ireturn, 1) := by decide +kernel
theorem dX4_ofClaim_120 : decode cX4_ofClaim 120 = .ok (.aload_n 0, 1) := by decide +kernel
theorem dX4_ofClaim_121 : decode cX4_ofClaim 121 = .ok (.iload_n 1, 1) := by decide +kernel
theorem dX4_ofClaim_122 : decode cX4_ofClaim 122 = .ok (.invokevirtual 202, 3) := by decide +kernel
theorem dX4_ofClaim_125 : decode cX4_ofClaim 125 = .ok (.ireturn, 1) := by decide +kernel
theorem dX4_ofClaim_126 : decode cX4_ofClaim 126 = .ok (.aload_n 0, 1) := by decide +kernel
theorem dX4_ofClaim_127 : decode cX4_ofClaim 127 = .ok (.iload_n 1, 1) := by decide +kernel
theorem dX4_ofClaim_128 : decode cX4_ofClaim 128 = .ok (.invokevirtual 151, 3) := by decide +kernel
theorem dX4_ofClaim_131 : decode cX4_ofClaim 131 = .ok (.ifCond .eq 20, 3) := by decide +kernel
theorem dX4_ofClaim_134 : decode cX4_ofClaim 134 = .ok (.bipush 72, 2) := by decide +kernel
theorem dX4_ofClaim_136 : decode cX4_ofClaim 136 = .ok (.aload_n 0, 1) := by decide +kernel
theorem dX4_ofClaim_137 : decode cX4_ofClaim 137 = .ok (.getfield 118, 3) := by decide +kernel
theorem dX4_ofClaim_140 : decode cX4_ofClaim 140 = .ok (.aload_n 0, 1) := by decide +kernel
theorem dX4_ofClaim_141 : decode cX4_ofClaim 141 = .ok (.getfield 47, 3) := by decide +kernel
theorem dX4_ofClaim_144 : decode cX4_ofClaim 144 = .ok (.iload_n 1, 1) := by decide +kernel
theorem dX4_ofClaim_145 : decode cX4_ofClaim 145 = .ok (.iaload, 1) := by decide +kernel
theorem dX4_ofClaim_146 : decode cX4_ofClaim 146 = .ok (.isub, 1) := by decide +kernel
theorem dX4_ofClaim_147 : decode cX4_ofClaim 147 = .ok (.isub, 1) := by decide +kernel
theorem dX4_ofClaim_148 : decode cX4_ofClaim 148 = .ok (.goto 4, 3) := by decide +kernel
theorem dX4_ofClaim_151 : decode cX4_ofClaim 151 = .ok (.iconst 0, 1) := by decide +kernel
theorem dX4_ofClaim_152 : decode cX4_ofClaim 152 = .ok (.ireturn, 1) := by decide +kernel
theorem dX4_share_0 : decode cX4_share 0 = .ok (.aload_n 0, 1) := by decide +kernel
theorem dX4_share_1 : decode cX4_share 1 = .ok (.aload_n 0, 1) := by decide +kernel
theorem dX4_share_2 : decode cX4_share 2 = .ok (.iload_n 1, 1) := by decide +kernel
theorem dX4_share_3 : decode cX4_share 3 = .ok (.invokevirtual 142, 3) := by decide +kernel
theorem dX4_share_6 : decode cX4_share 6 = .ok (.ifCond .eq 14, 3) := by decide +kernel
theorem dX4_share_9 : decode cX4_share 9 = .ok (.iload_n 2, 1) := by decide +kernel
theorem dX4_share_10 : decode cX4_share 10 = .ok (.invokestatic 128, 3) := by decide +kernel
theorem dX4_share_13 : decode cX4_share 13 = .ok (.ifCond .eq 7, 3) := by decide +kernel
theorem dX4_share_16 : decode cX4_share 16 = .ok (.iconst 0, 1) := by decide +kernel
theorem dX4_share_17 : decode cX4_share 17 = .ok (.goto 4, 3) := by decide +kernel
theorem dX4_share_20 : decode cX4_share 20 = .ok (.iconst 1, 1) := by decide +kernel
theorem dX4_share_21 : decode cX4_share 21 = .ok (.putfield 104, 3) := by decide +kernel
theorem dX4_share_24 : decode cX4_share 24 = .ok (.aload_n 0, 1) := by decide +kernel
theorem dX4_share_25 : decode cX4_share 25 = .ok (.getfield 104, 3) := by decide +kernel
theorem dX4_share_28 : decode cX4_share 28 = .ok (.ifCond .le 7, 3) := by decide +kernel
theorem dX4_share_31 : decode cX4_share 31 = .ok (.iconst 0, 1) := by decide +kernel
theorem dX4_share_32 : decode cX4_share 32 = .ok (.goto 9, 3) := by decide +kernel
theorem dX4_share_35 : decode cX4_share 35 = .ok (.aload_n 0, 1) := by decide +kernel
theorem dX4_share_36 : decode cX4_share 36 = .ok (.iload_n 1, 1) := by decide +kernel
theorem dX4_share_37 : decode cX4_share 37 = .ok (.iload_n 2, 1) := by decide +kernel
theorem dX4_share_38 : decode cX4_share 38 = .ok (.invokevirtual 145, 3) := by decide +kernel
theorem dX4_share_41 : decode cX4_share 41 = .ok (.ireturn, 1) := by decide +kernel
theorem dX4_meet_0 : decode cX4_meet 0 = .ok (.iconst 0, 1) := by decide +kernel
theorem dX4_meet_1 : decode cX4_meet 1 = .ok (.istore_n 3, 1) := by decide +kernel
theorem dX4_meet_2 : decode cX4_meet 2 = .ok (.iconst 0, 1) := by decide +kernel
theorem dX4_meet_3 : decode cX4_meet 3 = .ok (.istore 4, 2) := by decide +kernel
theorem dX4_meet_5 : decode cX4_meet 5 = .ok (.iload 4, 2) := by decide +kernel
theorem dX4_meet_7 : decode cX4_meet 7 = .ok (.bipush 100, 2) := by decide +kernel
theorem dX4_meet_9 : decode cX4_meet 9 = .ok (.if_icmp .ge 39, 3) := by decide +kernel
theorem dX4_meet_12 : decode cX4_meet 12 = .ok (.iload_n 3, 1) := by decide +kernel
theorem dX4_meet_13 : decode cX4_meet 13 = .ok (.ifCond .ne 23, 3) := by decide +kernel
theorem dX4_meet_16 : decode cX4_meet 16 = .ok (.aload_n 0, 1) := by decide +kernel
theorem dX4_meet_17 : decode cX4_meet 17 = .ok (.iload_n 1, 1) := by decide +kernel
theorem dX4_meet_18 : decode cX4_meet 18 = .ok (.iload 4, 2) := by decide +kernel
theorem dX4_meet_20 : decode cX4_meet 20 = .ok (.invokevirtual 154, 3) := by decide +kernel
theorem dX4_meet_23 : decode cX4_meet 23 = .ok (.ifCond .eq 17, 3) := by decide +kernel
theorem dX4_meet_26 : decode cX4_meet 26 = .ok (.aload_n 0, 1) := by decide +kernel
theorem dX4_meet_27 : decode cX4_meet 27 = .ok (.iload_n 2, 1) := by decide +kernel
theorem dX4_meet_28 : decode cX4_meet 28 = .ok (.iload 4, 2) := by decide +kernel
theorem dX4_meet_30 : decode cX4_meet 30 = .ok (.invokevirtual 154, 3) := by decide +kernel
theorem dX4_meet_33 : decode cX4_meet 33 = .ok (.ifCond .eq 7, 3) := by decide +kernel
theorem dX4_meet_36 : decode cX4_meet 36 = .ok (.iconst 1, 1) := by decide +kernel
theorem dX4_meet_37 : decode cX4_meet 37 = .ok (.goto 4, 3) := by decide +kernel
theorem dX4_meet_40 : decode cX4_meet 40 = .ok (.iconst 0, 1) := by decide +kernel
theorem dX4_meet_41 : decode cX4_meet 41 = .ok (.istore_n 3, 1) := by decide +kernel
theorem dX4_meet_42 : decode cX4_meet 42 = .ok (.iinc 4 1, 3) := by decide +kernel
theorem dX4_meet_45 : decode cX4_meet 45 = .ok (.goto (-40), 3) := by decide +kernel
theorem dX4_meet_48 : decode cX4_meet 48 = .ok (.iload_n 3, 1) := by decide +kernel
theorem dX4_meet_49 : decode cX4_meet 49 = .ok (.ireturn, 1) := by decide +kernel
theorem dX4_verdict_0 : decode cX4_verdict 0 = .ok (.aload_n 0, 1) := by decide +kernel
theorem dX4_verdict_1 : decode cX4_verdict 1 = .ok (.aload_n 0, 1) := by decide +kernel
theorem dX4_verdict_2 : decode cX4_verdict 2 = .ok (.iload_n 1, 1) := by decide +kernel
theorem dX4_verdict_3 : decode cX4_verdict 3 = .ok (.invokevirtual 142, 3) := by decide +kernel
theorem dX4_verdict_6 : decode cX4_verdict 6 = .ok (.ifCond .eq 11, 3) := by decide +kernel
theorem dX4_verdict_9 : decode cX4_verdict 9 = .ok (.aload_n 0, 1) := by decide +kernel
theorem dX4_verdict_10 : decode cX4_verdict 10 = .ok (.iload_n 2, 1) := by decide +kernel
theorem dX4_verdict_11 : decode cX4_verdict 11 = .ok (.invokevirtual 142, 3) := by decide +kernel
theorem dX4_verdict_14 : decode cX4_verdict 14 = .ok (.ifCond .ne 7, 3) := by decide +kernel
theorem dX4_verdict_17 : decode cX4_verdict 17 = .ok (.iconst 1, 1) := by decide +kernel
theorem dX4_verdict_18 : decode cX4_verdict 18 = .ok (.goto 13, 3) := by decide +kernel
theorem dX4_verdict_21 : decode cX4_verdict 21 = .ok (.iload_n 1, 1) := by decide +kernel
theorem dX4_verdict_22 : decode cX4_verdict 22 = .ok (.iload_n 2, 1) := by decide +kernel
theorem dX4_verdict_23 : decode cX4_verdict 23 = .ok (.if_icmp .ne 7, 3) := by decide +kernel
theorem dX4_verdict_26 : decode cX4_verdict 26 = .ok (.iconst 2, 1) := by decide +kernel
theorem dX4_verdict_27 : decode cX4_verdict 27 = .ok (.goto 4, 3) := by decide +kernel
theorem dX4_verdict_30 : decode cX4_verdict 30 = .ok (.iconst 0, 1) := by decide +kernel
theorem dX4_verdict_31 : decode cX4_verdict 31 = .ok (.putfield 104, 3) := by decide +kernel
theorem dX4_verdict_34 : decode cX4_verdict 34 = .ok (.aload_n 0, 1) := by decide +kernel
theorem dX4_verdict_35 : decode cX4_verdict 35 = .ok (.getfield 104, 3) := by decide +kernel
theorem dX4_verdict_38 : decode cX4_verdict 38 = .ok (.ifCond .le 5, 3) := by decide +kernel
theorem dX4_verdict_41 : decode cX4_verdict 41 = .ok (.iconst 0, 1) := by decide +kernel
theorem dX4_verdict_42 : decode cX4_verdict 42 = .ok (.ireturn, 1) := by decide +kernel
theorem dX4_verdict_43 : decode cX4_verdict 43 = .ok (.aload_n 0, 1) := by decide +kernel
theorem dX4_verdict_44 : decode cX4_verdict 44 = .ok (.iload_n 1, 1) := by decide +kernel
theorem dX4_verdict_45 : decode cX4_verdict 45 = .ok (.invokevirtual 151, 3) := by decide +kernel
theorem dX4_verdict_48 : decode cX4_verdict 48 = .ok (.ifCond .eq 20, 3) := by decide +kernel
theorem dX4_verdict_51 : decode cX4_verdict 51 = .ok (.aload_n 0, 1) := by decide +kernel
theorem dX4_verdict_52 : decode cX4_verdict 52 = .ok (.iload_n 2, 1) := by decide +kernel
theorem dX4_verdict_53 : decode cX4_verdict 53 = .ok (.invokevirtual 151, 3) := by decide +kernel
theorem dX4_verdict_56 : decode cX4_verdict 56 = .ok (.ifCond .eq 12, 3) := by decide +kernel
theorem dX4_verdict_59 : decode cX4_verdict 59 = .ok (.aload_n 0, 1) := by decide +kernel
theorem dX4_verdict_60 : decode cX4_verdict 60 = .ok (.iload_n 1, 1) := by decide +kernel
theorem dX4_verdict_61 : decode cX4_verdict 61 = .ok (.iload_n 2, 1) := by decide +kernel
theorem dX4_verdict_62 : decode cX4_verdict 62 = .ok (.invokevirtual 233, 3) := by decide +kernel
theorem dX4_verdict_65 : decode cX4_verdict 65 = .ok (.ifCond .ne 5, 3) := by decide +kernel
theorem dX4_verdict_68 : decode cX4_verdict 68 = .ok (.iconst (-1), 1) := by decide +kernel
theorem dX4_verdict_69 : decode cX4_verdict 69 = .ok (.ireturn, 1) := by decide +kernel
theorem dX4_verdict_70 : decode cX4_verdict 70 = .ok (.iload_n 1, 1) := by decide +kernel
theorem dX4_verdict_71 : decode cX4_verdict 71 = .ok (.iload_n 2, 1) := by decide +kernel
theorem dX4_verdict_72 : decode cX4_verdict 72 = .ok (.if_icmp .ge 7, 3) := by decide +kernel
theorem dX4_verdict_75 : decode cX4_verdict 75 = .ok (.iload_n 1, 1) := by decide +kernel
theorem dX4_verdict_76 : decode cX4_verdict 76 = .ok (.goto 4, 3) := by decide +kernel
theorem dX4_verdict_79 : decode cX4_verdict 79 = .ok (.iload_n 2, 1) := by decide +kernel
theorem dX4_verdict_80 : decode cX4_verdict 80 = .ok (.istore_n 3, 1) := by decide +kernel
theorem dX4_verdict_81 : decode cX4_verdict 81 = .ok (.iload_n 1, 1) := by decide +kernel
theorem dX4_verdict_82 : decode cX4_verdict 82 = .ok (.iload_n 2, 1) := by decide +kernel
theorem dX4_verdict_83 : decode cX4_verdict 83 = .ok (.if_icmp .ge 7, 3) := by decide +kernel
theorem dX4_verdict_86 : decode cX4_verdict 86 = .ok (.iload_n 2, 1) := by decide +kernel
theorem dX4_verdict_87 : decode cX4_verdict 87 = .ok (.goto 4, 3) := by decide +kernel
theorem dX4_verdict_90 : decode cX4_verdict 90 = .ok (.iload_n 1, 1) := by decide +kernel
theorem dX4_verdict_91 : decode cX4_verdict 91 = .ok (.istore 4, 2) := by decide +kernel
theorem dX4_verdict_93 : decode cX4_verdict 93 = .ok (.aload_n 0, 1) := by decide +kernel
theorem dX4_verdict_94 : decode cX4_verdict 94 = .ok (.iload 4, 2) := by decide +kernel
theorem dX4_verdict_96 : decode cX4_verdict 96 = .ok (.invokevirtual 148, 3) := by decide +kernel
theorem dX4_verdict_99 : decode cX4_verdict 99 = .ok (.aload_n 0, 1) := by decide +kernel
theorem dX4_verdict_100 : decode cX4_verdict 100 = .ok (.iload_n 3, 1) := by decide +kernel
theorem dX4_verdict_101 : decode cX4_verdict 101 = .ok (.invokevirtual 148, 3) := by decide +kernel
theorem dX4_verdict_104 : decode cX4_verdict 104 = .ok (.if_icmp .ge 8, 3) := by decide +kernel
theorem dX4_verdict_107 : decode cX4_verdict 107 = .ok (.iload 4, 2) := by decide +kernel
theorem dX4_verdict_109 : decode cX4_verdict 109 = .ok (.goto 4, 3) := by decide +kernel
theorem dX4_verdict_112 : decode cX4_verdict 112 = .ok (.iload_n 3, 1) := by decide +kernel
theorem dX4_verdict_113 : decode cX4_verdict 113 = .ok (.ireturn, 1) := by decide +kernel
theorem dX4_stonesOf_0 : decode cX4_stonesOf 0 = .ok (.iconst 0, 1) := by decide +kernel
theorem dX4_stonesOf_1 : decode cX4_stonesOf 1 = .ok (.istore_n 2, 1) := by decide +kernel
theorem dX4_stonesOf_2 : decode cX4_stonesOf 2 = .ok (.iconst 0, 1) := by decide +kernel
theorem dX4_stonesOf_3 : decode cX4_stonesOf 3 = .ok (.istore_n 3, 1) := by decide +kernel
theorem dX4_stonesOf_4 : decode cX4_stonesOf 4 = .ok (.iload_n 3, 1) := by decide +kernel
theorem dX4_stonesOf_5 : decode cX4_stonesOf 5 = .ok (.aload_n 0, 1) := by decide +kernel
theorem dX4_stonesOf_6 : decode cX4_stonesOf 6 = .ok (.getfield 115, 3) := by decide +kernel
theorem dX4_stonesOf_9 : decode cX4_stonesOf 9 = .ok (.if_icmp .ge 37, 3) := by decide +kernel
theorem dX4_stonesOf_12 : decode cX4_stonesOf 12 = .ok (.iload_n 2, 1) := by decide +kernel
theorem dX4_stonesOf_13 : decode cX4_stonesOf 13 = .ok (.aload_n 0, 1) := by decide +kernel
theorem dX4_stonesOf_14 : decode cX4_stonesOf 14 = .ok (.getfield 80, 3) := by decide +kernel
theorem dX4_stonesOf_17 : decode cX4_stonesOf 17 = .ok (.iload_n 3, 1) := by decide +kernel
theorem dX4_stonesOf_18 : decode cX4_stonesOf 18 = .ok (.iaload, 1) := by decide +kernel
theorem dX4_stonesOf_19 : decode cX4_stonesOf 19 = .ok (.iload_n 1, 1) := by decide +kernel
theorem dX4_stonesOf_20 : decode cX4_stonesOf 20 = .ok (.if_icmp .ne 17, 3) := by decide +kernel
theorem dX4_stonesOf_23 : decode cX4_stonesOf 23 = .ok (.aload_n 0, 1) := by decide +kernel
theorem dX4_stonesOf_24 : decode cX4_stonesOf 24 = .ok (.getfield 89, 3) := by decide +kernel
theorem dX4_stonesOf_27 : decode cX4_stonesOf 27 = .ok (.iload_n 3, 1) := by decide +kernel
theorem dX4_stonesOf_28 : decode cX4_stonesOf 28 = .ok (.iaload, 1) := by decide +kernel
theorem dX4_stonesOf_29 : decode cX4_stonesOf 29 = .ok (.iconst (-1), 1) := by decide +kernel
theorem dX4_stonesOf_30 : decode cX4_stonesOf 30 = .ok (.if_icmp .ne 7, 3) := by decide +kernel
theorem dX4_stonesOf_33 : decode cX4_stonesOf 33 = .ok (.iconst 1, 1) := by decide +kernel
theorem dX4_stonesOf_34 : decode cX4_stonesOf 34 = .ok (.goto 4, 3) := by decide +kernel
theorem dX4_stonesOf_37 : decode cX4_stonesOf 37 = .ok (.iconst 0, 1) := by decide +kernel
theorem dX4_stonesOf_38 : decode cX4_stonesOf 38 = .ok (.iadd, 1) := by decide +kernel
theorem dX4_stonesOf_39 : decode cX4_stonesOf 39 = .ok (.istore_n 2, 1) := by decide +kernel
theorem dX4_stonesOf_40 : decode cX4_stonesOf 40 = .ok (.iinc 3 1, 3) := by decide +kernel
theorem dX4_stonesOf_43 : decode cX4_stonesOf 43 = .ok (.goto (-39), 3) := by decide +kernel
theorem dX4_stonesOf_46 : decode cX4_stonesOf 46 = .ok (.iload_n 2, 1) := by decide +kernel
theorem dX4_stonesOf_47 : decode cX4_stonesOf 47 = .ok (.ireturn, 1) := by decide +kernel
theorem dX4_ofPerson_0 : decode cX4_ofPerson 0 = .ok (.aload_n 0, 1) := by decide +kernel
theorem dX4_ofPerson_1 : decode cX4_ofPerson 1 = .ok (.iload_n 1, 1) := by decide +kernel
theorem dX4_ofPerson_2 : decode cX4_ofPerson 2 = .ok (.invokestatic 128, 3) := by decide +kernel
theorem dX4_ofPerson_5 : decode cX4_ofPerson 5 = .ok (.ifCond .ne 7, 3) := by decide +kernel
theorem dX4_ofPerson_8 : decode cX4_ofPerson 8 = .ok (.iconst 1, 1) := by decide +kernel
theorem dX4_ofPerson_9 : decode cX4_ofPerson 9 = .ok (.goto 17, 3) := by decide +kernel
theorem dX4_ofPerson_12 : decode cX4_ofPerson 12 = .ok (.iload_n 2, 1) := by decide +kernel
theorem dX4_ofPerson_13 : decode cX4_ofPerson 13 = .ok (.iconst 0, 1) := by decide +kernel
theorem dX4_ofPerson_14 : decode cX4_ofPerson 14 = .ok (.iconst 3, 1) := by decide +kernel
theorem dX4_ofPerson_15 : decode cX4_ofPerson 15 = .ok (.invokestatic 108, 3) := by decide +kernel
theorem dX4_ofPerson_18 : decode cX4_ofPerson 18 = .ok (.ifCond .eq 7, 3) := by decide +kernel
theorem dX4_ofPerson_21 : decode cX4_ofPerson 21 = .ok (.iconst 0, 1) := by decide +kernel
theorem dX4_ofPerson_22 : decode cX4_ofPerson 22 = .ok (.goto 4, 3) := by decide +kernel
theorem dX4_ofPerson_25 : decode cX4_ofPerson 25 = .ok (.iconst 2, 1) := by decide +kernel
theorem dX4_ofPerson_26 : decode cX4_ofPerson 26 = .ok (.putfield 104, 3) := by decide +kernel
theorem dX4_ofPerson_29 : decode cX4_ofPerson 29 = .ok (.aload_n 0, 1) := by decide +kernel
theorem dX4_ofPerson_30 : decode cX4_ofPerson 30 = .ok (.getfield 104, 3) := by decide +kernel
theorem dX4_ofPerson_33 : decode cX4_ofPerson 33 = .ok (.ifCond .le 5, 3) := by decide +kernel
theorem dX4_ofPerson_36 : decode cX4_ofPerson 36 = .ok (.iconst 0, 1) := by decide +kernel
theorem dX4_ofPerson_37 : decode cX4_ofPerson 37 = .ok (.ireturn, 1) := by decide +kernel
theorem dX4_ofPerson_38 : decode cX4_ofPerson 38 = .ok (.iload_n 2, 1) := by decide +kernel
theorem dX4_ofPerson_39 : decode cX4_ofPerson 39 = .ok (.tableswitch 62 0 2 #[25, 32, 56], 25) := by decide +kernel
theorem dX4_ofPerson_64 : decode cX4_ofPerson 64 = .ok (.aload_n 0, 1) := by decide +kernel
theorem dX4_ofPerson_65 : decode cX4_ofPerson 65 = .ok (.getfield 62, 3) := by decide +kernel
theorem dX4_ofPerson_68 : decode cX4_ofPerson 68 = .ok (.iload_n 1, 1) := by decide +kernel
theorem dX4_ofPerson_69 : decode cX4_ofPerson 69 = .ok (.iaload, 1) := by decide +kernel
theorem dX4_ofPerson_70 : decode cX4_ofPerson 70 = .ok (.ireturn, 1) := by decide +kernel
theorem dX4_ofPerson_71 : decode cX4_ofPerson 71 = .ok (.aload_n 0, 1) := by decide +kernel
theorem dX4_ofPerson_72 : decode cX4_ofPerson 72 = .ok (.iload_n 1, 1) := by decide +kernel
theorem dX4_ofPerson_73 : decode cX4_ofPerson 73 = .ok (.invokevirtual 131, 3) := by decide +kernel
theorem dX4_ofPerson_76 : decode cX4_ofPerson 76 = .ok (.ifCond .eq 17, 3) := by decide +kernel
theorem dX4_ofPerson_79 : decode cX4_ofPerson 79 = .ok (.aload_n 0, 1) := by decide +kernel
theorem dX4_ofPerson_80 : decode cX4_ofPerson 80 = .ok (.getfield 59, 3) := by decide +kernel
theorem dX4_ofPerson_83 : decode cX4_ofPerson 83 = .ok (.iload_n 1, 1) := by decide +kernel
theorem dX4_ofPerson_84 : decode cX4_ofPerson 84 = .ok (.iaload, 1) := by decide +kernel
theorem dX4_ofPerson_85 : decode cX4_ofPerson 85 = .ok (.aload_n 0, 1) := by decide +kernel
theorem dX4_ofPerson_86 : decode cX4_ofPerson 86 = .ok (.getfield 118, 3) := by decide +kernel
theorem dX4_ofPerson_89 : decode cX4_ofPerson 89 = .ok (.isub, 1) := by decide +kernel
theorem dX4_ofPerson_90 : decode cX4_ofPerson 90 = .ok (.goto 4, 3) := by decide +kernel
theorem dX4_ofPerson_93 : decode cX4_ofPerson 93 = .ok (.iconst 0, 1) := by decide +kernel
theorem dX4_ofPerson_94 : decode cX4_ofPerson 94 = .ok (.ireturn, 1) := by decide +kernel
theorem dX4_ofPerson_95 : decode cX4_ofPerson 95 = .ok (.aload_n 0, 1) := by decide +kernel
theorem dX4_ofPerson_96 : decode cX4_ofPerson 96 = .ok (.iload_n 1, 1) := by decide +kernel
theorem dX4_ofPerson_97 : decode cX4_ofPerson 97 = .ok (.invokevirtual 236, 3) := by decide +kernel
theorem dX4_ofPerson_100 : decode cX4_ofPerson 100 = .ok (.ireturn, 1) := by decide +kernel
theorem dX4_ofPerson_101 : decode cX4_ofPerson 101 = .ok (.aload_n 0, 1) := by decide +kernel
theorem dX4_ofPerson_102 : decode cX4_ofPerson 102 = .ok (.getfield 65, 3) := by decide +kernel
theorem dX4_ofPerson_105 : decode cX4_ofPerson 105 = .ok (.iload_n 1, 1) := by decide +kernel
theorem dX4_ofPerson_106 : decode cX4_ofPerson 106 = .ok (.iaload, 1) := by decide +kernel
theorem dX4_ofPerson_107 : decode cX4_ofPerson 107 = .ok (.ireturn, 1) := by decide +kernel
theorem dX4_value_0 : decode cX4_value 0 = .ok (.aload_n 0, 1) := by decide +kernel
theorem dX4_value_1 : decode cX4_value 1 = .ok (.iload_n 1, 1) := by decide +kernel
theorem dX4_value_2 : decode cX4_value 2 = .ok (.invokevirtual 217, 3) := by decide +kernel
theorem dX4_value_5 : decode cX4_value 5 = .ok (.ifCond .ne 14, 3) := by decide +kernel
theorem dX4_value_8 : decode cX4_value 8 = .ok (.iconst 2, 1) := by decide +kernel
theorem dX4_value_9 : decode cX4_value 9 = .ok (.aload_n 0, 1) := by decide +kernel
theorem dX4_value_10 : decode cX4_value 10 = .ok (.getfield 71, 3) := by decide +kernel
theorem dX4_value_13 : decode cX4_value 13 = .ok (.iload_n 1, 1) := by decide +kernel
theorem dX4_value_14 : decode cX4_value 14 = .ok (.iaload, 1) := by decide +kernel
theorem dX4_value_15 : decode cX4_value 15 = .ok (.imul, 1) := by decide +kernel
theorem dX4_value_16 : decode cX4_value 16 = .ok (.goto 25, 3) := by decide +kernel
theorem dX4_value_19 : decode cX4_value 19 = .ok (.aload_n 0, 1) := by decide +kernel
theorem dX4_value_20 : decode cX4_value 20 = .ok (.iload_n 1, 1) := by decide +kernel
theorem dX4_value_21 : decode cX4_value 21 = .ok (.invokevirtual 217, 3) := by decide +kernel
theorem dX4_value_24 : decode cX4_value 24 = .ok (.iconst 1, 1) := by decide +kernel
theorem dX4_value_25 : decode cX4_value 25 = .ok (.if_icmp .ne 15, 3) := by decide +kernel
theorem dX4_value_28 : decode cX4_value 28 = .ok (.bipush 10, 2) := by decide +kernel
theorem dX4_value_30 : decode cX4_value 30 = .ok (.aload_n 0, 1) := by decide +kernel
theorem dX4_value_31 : decode cX4_value 31 = .ok (.getfield 71, 3) := by decide +kernel
theorem dX4_value_34 : decode cX4_value 34 = .ok (.iload_n 1, 1) := by decide +kernel
theorem dX4_value_35 : decode cX4_value 35 = .ok (.iaload, 1) := by decide +kernel
theorem dX4_value_36 : decode cX4_value 36 = .ok (.imul, 1) := by decide +kernel
theorem dX4_value_37 : decode cX4_value 37 = .ok (.goto 4, 3) := by decide +kernel
theorem dX4_value_40 : decode cX4_value 40 = .ok (.iconst 0, 1) := by decide +kernel
theorem dX4_value_41 : decode cX4_value 41 = .ok (.ireturn, 1) := by decide +kernel
theorem dX4_ofStone_0 : decode cX4_ofStone 0 = .ok (.aload_n 0, 1) := by decide +kernel
theorem dX4_ofStone_1 : decode cX4_ofStone 1 = .ok (.aload_n 0, 1) := by decide +kernel
theorem dX4_ofStone_2 : decode cX4_ofStone 2 = .ok (.iload_n 1, 1) := by decide +kernel
theorem dX4_ofStone_3 : decode cX4_ofStone 3 = .ok (.invokevirtual 211, 3) := by decide +kernel
theorem dX4_ofStone_6 : decode cX4_ofStone 6 = .ok (.ifCond .ne 7, 3) := by decide +kernel
theorem dX4_ofStone_9 : decode cX4_ofStone 9 = .ok (.iconst 1, 1) := by decide +kernel
theorem dX4_ofStone_10 : decode cX4_ofStone 10 = .ok (.goto 18, 3) := by decide +kernel
theorem dX4_ofStone_13 : decode cX4_ofStone 13 = .ok (.iload_n 2, 1) := by decide +kernel
theorem dX4_ofStone_14 : decode cX4_ofStone 14 = .ok (.iconst 0, 1) := by decide +kernel
theorem dX4_ofStone_15 : decode cX4_ofStone 15 = .ok (.bipush 7, 2) := by decide +kernel
theorem dX4_ofStone_17 : decode cX4_ofStone 17 = .ok (.invokestatic 108, 3) := by decide +kernel
theorem dX4_ofStone_20 : decode cX4_ofStone 20 = .ok (.ifCond .eq 7, 3) := by decide +kernel
theorem dX4_ofStone_23 : decode cX4_ofStone 23 = .ok (.iconst 0, 1) := by decide +kernel
theorem dX4_ofStone_24 : decode cX4_ofStone 24 = .ok (.goto 4, 3) := by decide +kernel
theorem dX4_ofStone_27 : decode cX4_ofStone 27 = .ok (.iconst 2, 1) := by decide +kernel
theorem dX4_ofStone_28 : decode cX4_ofStone 28 = .ok (.putfield 104, 3) := by decide +kernel
theorem dX4_ofStone_31 : decode cX4_ofStone 31 = .ok (.aload_n 0, 1) := by decide +kernel
theorem dX4_ofStone_32 : decode cX4_ofStone 32 = .ok (.getfield 104, 3) := by decide +kernel
theorem dX4_ofStone_35 : decode cX4_ofStone 35 = .ok (.ifCond .le 5, 3) := by decide +kernel
theorem dX4_ofStone_38 : decode cX4_ofStone 38 = .ok (.iconst 0, 1) := by decide +kernel
theorem dX4_ofStone_39 : decode cX4_ofStone 39 = .ok (.ireturn, 1) := by decide +kernel
theorem dX4_ofStone_40 : decode cX4_ofStone 40 = .ok (.iload_n 2, 1) := by decide +kernel
theorem dX4_ofStone_41 : decode cX4_ofStone 41 = .ok (.tableswitch 90 0 6 #[43, 50, 56, 63, 70, 76, 83], 43) := by decide +kernel
theorem dX4_ofStone_84 : decode cX4_ofStone 84 = .ok (.aload_n 0, 1) := by decide +kernel
theorem dX4_ofStone_85 : decode cX4_ofStone 85 = .ok (.getfield 71, 3) := by decide +kernel
theorem dX4_ofStone_88 : decode cX4_ofStone 88 = .ok (.iload_n 1, 1) := by decide +kernel
theorem dX4_ofStone_89 : decode cX4_ofStone 89 = .ok (.iaload, 1) := by decide +kernel
theorem dX4_ofStone_90 : decode cX4_ofStone 90 = .ok (.ireturn, 1) := by decide +kernel
theorem dX4_ofStone_91 : decode cX4_ofStone 91 = .ok (.aload_n 0, 1) := by decide +kernel
theorem dX4_ofStone_92 : decode cX4_ofStone 92 = .ok (.iload_n 1, 1) := by decide +kernel
theorem dX4_ofStone_93 : decode cX4_ofStone 93 = .ok (.invokevirtual 217, 3) := by decide +kernel
theorem dX4_ofStone_96 : decode cX4_ofStone 96 = .ok (.ireturn, 1) := by decide +kernel
theorem dX4_ofStone_97 : decode cX4_ofStone 97 = .ok (.aload_n 0, 1) := by decide +kernel
theorem dX4_ofStone_98 : decode cX4_ofStone 98 = .ok (.getfield 80, 3) := by decide +kernel
theorem dX4_ofStone_101 : decode cX4_ofStone 101 = .ok (.iload_n 1, 1) := by decide +kernel
theorem dX4_ofStone_102 : decode cX4_ofStone 102 = .ok (.iaload, 1) := by decide +kernel
theorem dX4_ofStone_103 : decode cX4_ofStone 103 = .ok (.ireturn, 1) := by decide +kernel
theorem dX4_ofStone_104 : decode cX4_ofStone 104 = .ok (.aload_n 0, 1) := by decide +kernel
theorem dX4_ofStone_105 : decode cX4_ofStone 105 = .ok (.getfield 83, 3) := by decide +kernel
theorem dX4_ofStone_108 : decode cX4_ofStone 108 = .ok (.iload_n 1, 1) := by decide +kernel
theorem dX4_ofStone_109 : decode cX4_ofStone 109 = .ok (.iaload, 1) := by decide +kernel
theorem dX4_ofStone_110 : decode cX4_ofStone 110 = .ok (.ireturn, 1) := by decide +kernel
theorem dX4_ofStone_111 : decode cX4_ofStone 111 = .ok (.aload_n 0, 1) := by decide +kernel
theorem dX4_ofStone_112 : decode cX4_ofStone 112 = .ok (.iload_n 1, 1) := by decide +kernel
theorem dX4_ofStone_113 : decode cX4_ofStone 113 = .ok (.invokevirtual 239, 3) := by decide +kernel
theorem dX4_ofStone_116 : decode cX4_ofStone 116 = .ok (.ireturn, 1) := by decide +kernel
theorem dX4_ofStone_117 : decode cX4_ofStone 117 = .ok (.aload_n 0, 1) := by decide +kernel
theorem dX4_ofStone_118 : decode cX4_ofStone 118 = .ok (.getfield 89, 3) := by decide +kernel
theorem dX4_ofStone_121 : decode cX4_ofStone 121 = .ok (.iload_n 1, 1) := by decide +kernel
theorem dX4_ofStone_122 : decode cX4_ofStone 122 = .ok (.iaload, 1) := by decide +kernel
theorem dX4_ofStone_123 : decode cX4_ofStone 123 = .ok (.ireturn, 1) := by decide +kernel
theorem dX4_ofStone_124 : decode cX4_ofStone 124 = .ok (.aload_n 0, 1) := by decide +kernel
theorem dX4_ofStone_125 : decode cX4_ofStone 125 = .ok (.getfield 77, 3) := by decide +kernel
theorem dX4_ofStone_128 : decode cX4_ofStone 128 = .ok (.iload_n 1, 1) := by decide +kernel
theorem dX4_ofStone_129 : decode cX4_ofStone 129 = .ok (.iaload, 1) := by decide +kernel
theorem dX4_ofStone_130 : decode cX4_ofStone 130 = .ok (.ireturn, 1) := by decide +kernel
theorem dX4_ofStone_131 : decode cX4_ofStone 131 = .ok (.aload_n 0, 1) := by decide +kernel
theorem dX4_ofStone_132 : decode cX4_ofStone 132 = .ok (.getfield 86, 3) := by decide +kernel
theorem dX4_ofStone_135 : decode cX4_ofStone 135 = .ok (.iload_n 1, 1) := by decide +kernel
theorem dX4_ofStone_136 : decode cX4_ofStone 136 = .ok (.iaload, 1) := by decide +kernel
theorem dX4_ofStone_137 : decode cX4_ofStone 137 = .ok (.ireturn, 1) := by decide +kernel
theorem dX4_purse_0 : decode cX4_purse 0 = .ok (.aload_n 0, 1) := by decide +kernel
theorem dX4_purse_1 : decode cX4_purse 1 = .ok (.iload_n 1, 1) := by decide +kernel
theorem dX4_purse_2 : decode cX4_purse 2 = .ok (.invokestatic 223, 3) := by decide +kernel
theorem dX4_purse_5 : decode cX4_purse 5 = .ok (.ifCond .eq 7, 3) := by decide +kernel
theorem dX4_purse_8 : decode cX4_purse 8 = .ok (.iconst 0, 1) := by decide +kernel
theorem dX4_purse_9 : decode cX4_purse 9 = .ok (.goto 4, 3) := by decide +kernel
theorem dX4_purse_12 : decode cX4_purse 12 = .ok (.iconst 1, 1) := by decide +kernel
theorem dX4_purse_13 : decode cX4_purse 13 = .ok (.putfield 104, 3) := by decide +kernel
theorem dX4_purse_16 : decode cX4_purse 16 = .ok (.aload_n 0, 1) := by decide +kernel
theorem dX4_purse_17 : decode cX4_purse 17 = .ok (.getfield 104, 3) := by decide +kernel
theorem dX4_purse_20 : decode cX4_purse 20 = .ok (.ifCond .le 7, 3) := by decide +kernel
theorem dX4_purse_23 : decode cX4_purse 23 = .ok (.iconst 0, 1) := by decide +kernel
theorem dX4_purse_24 : decode cX4_purse 24 = .ok (.goto 9, 3) := by decide +kernel
theorem dX4_purse_27 : decode cX4_purse 27 = .ok (.aload_n 0, 1) := by decide +kernel
theorem dX4_purse_28 : decode cX4_purse 28 = .ok (.getfield 101, 3) := by decide +kernel
theorem dX4_purse_31 : decode cX4_purse 31 = .ok (.iload_n 1, 1) := by decide +kernel
theorem dX4_purse_32 : decode cX4_purse 32 = .ok (.iaload, 1) := by decide +kernel
theorem dX4_purse_33 : decode cX4_purse 33 = .ok (.ireturn, 1) := by decide +kernel
theorem dX4_weighed_0 : decode cX4_weighed 0 = .ok (.iconst 0, 1) := by decide +kernel
theorem dX4_weighed_1 : decode cX4_weighed 1 = .ok (.istore_n 2, 1) := by decide +kernel
theorem dX4_weighed_2 : decode cX4_weighed 2 = .ok (.iconst 0, 1) := by decide +kernel
theorem dX4_weighed_3 : decode cX4_weighed 3 = .ok (.istore_n 3, 1) := by decide +kernel
theorem dX4_weighed_4 : decode cX4_weighed 4 = .ok (.iload_n 3, 1) := by decide +kernel
theorem dX4_weighed_5 : decode cX4_weighed 5 = .ok (.aload_n 0, 1) := by decide +kernel
theorem dX4_weighed_6 : decode cX4_weighed 6 = .ok (.getfield 115, 3) := by decide +kernel
theorem dX4_weighed_9 : decode cX4_weighed 9 = .ok (.if_icmp .ge 57, 3) := by decide +kernel
theorem dX4_weighed_12 : decode cX4_weighed 12 = .ok (.aload_n 0, 1) := by decide +kernel
theorem dX4_weighed_13 : decode cX4_weighed 13 = .ok (.iload_n 3, 1) := by decide +kernel
theorem dX4_weighed_14 : decode cX4_weighed 14 = .ok (.invokevirtual 214, 3) := by decide +kernel
theorem dX4_weighed_17 : decode cX4_weighed 17 = .ok (.ifCond .eq 7, 3) := by decide +kernel
theorem dX4_weighed_20 : decode cX4_weighed 20 = .ok (.iconst 2, 1) := by decide +kernel
theorem dX4_weighed_21 : decode cX4_weighed 21 = .ok (.goto 18, 3) := by decide +kernel
theorem dX4_weighed_24 : decode cX4_weighed 24 = .ok (.aload_n 0, 1) := by decide +kernel
theorem dX4_weighed_25 : decode cX4_weighed 25 = .ok (.getfield 89, 3) := by decide +kernel
theorem dX4_weighed_28 : decode cX4_weighed 28 = .ok (.iload_n 3, 1) := by decide +kernel
theorem dX4_weighed_29 : decode cX4_weighed 29 = .ok (.iaload, 1) := by decide +kernel
theorem dX4_weighed_30 : decode cX4_weighed 30 = .ok (.iconst (-1), 1) := by decide +kernel
theorem dX4_weighed_31 : decode cX4_weighed 31 = .ok (.if_icmp .ne 7, 3) := by decide +kernel
theorem dX4_weighed_34 : decode cX4_weighed 34 = .ok (.iconst 3, 1) := by decide +kernel
theorem dX4_weighed_35 : decode cX4_weighed 35 = .ok (.goto 4, 3) := by decide +kernel
theorem dX4_weighed_38 : decode cX4_weighed 38 = .ok (.iconst 4, 1) := by decide +kernel
theorem dX4_weighed_39 : decode cX4_weighed 39 = .ok (.istore 4, 2) := by decide +kernel
theorem dX4_weighed_41 : decode cX4_weighed 41 = .ok (.iload_n 2, 1) := by decide +kernel
theorem dX4_weighed_42 : decode cX4_weighed 42 = .ok (.iload 4, 2) := by decide +kernel
theorem dX4_weighed_44 : decode cX4_weighed 44 = .ok (.iload_n 1, 1) := by decide +kernel
theorem dX4_weighed_45 : decode cX4_weighed 45 = .ok (.if_icmp .ne 12, 3) := by decide +kernel
theorem dX4_weighed_48 : decode cX4_weighed 48 = .ok (.aload_n 0, 1) := by decide +kernel
theorem dX4_weighed_49 : decode cX4_weighed 49 = .ok (.getfield 71, 3) := by decide +kernel
theorem dX4_weighed_52 : decode cX4_weighed 52 = .ok (.iload_n 3, 1) := by decide +kernel
theorem dX4_weighed_53 : decode cX4_weighed 53 = .ok (.iaload, 1) := by decide +kernel
theorem dX4_weighed_54 : decode cX4_weighed 54 = .ok (.goto 4, 3) := by decide +kernel
theorem dX4_weighed_57 : decode cX4_weighed 57 = .ok (.iconst 0, 1) := by decide +kernel
theorem dX4_weighed_58 : decode cX4_weighed 58 = .ok (.iadd, 1) := by decide +kernel
theorem dX4_weighed_59 : decode cX4_weighed 59 = .ok (.istore_n 2, 1) := by decide +kernel
theorem dX4_weighed_60 : decode cX4_weighed 60 = .ok (.iinc 3 1, 3) := by decide +kernel
theorem dX4_weighed_63 : decode cX4_weighed 63 = .ok (.goto (-59), 3) := by decide +kernel
theorem dX4_weighed_66 : decode cX4_weighed 66 = .ok (.iload_n 2, 1) := by decide +kernel
theorem dX4_weighed_67 : decode cX4_weighed 67 = .ok (.ireturn, 1) := by decide +kernel
theorem dX4_carats_0 : decode cX4_carats 0 = .ok (.aload_n 0, 1) := by decide +kernel
theorem dX4_carats_1 : decode cX4_carats 1 = .ok (.iload_n 1, 1) := by decide +kernel
theorem dX4_carats_2 : decode cX4_carats 2 = .ok (.iconst 0, 1) := by decide +kernel
theorem dX4_carats_3 : decode cX4_carats 3 = .ok (.iconst 5, 1) := by decide +kernel
theorem dX4_carats_4 : decode cX4_carats 4 = .ok (.invokestatic 108, 3) := by decide +kernel
theorem dX4_carats_7 : decode cX4_carats 7 = .ok (.ifCond .eq 7, 3) := by decide +kernel
theorem dX4_carats_10 : decode cX4_carats 10 = .ok (.iconst 0, 1) := by decide +kernel
theorem dX4_carats_11 : decode cX4_carats 11 = .ok (.goto 4, 3) := by decide +kernel
theorem dX4_carats_14 : decode cX4_carats 14 = .ok (.iconst 1, 1) := by decide +kernel
theorem dX4_carats_15 : decode cX4_carats 15 = .ok (.putfield 104, 3) := by decide +kernel
theorem dX4_carats_18 : decode cX4_carats 18 = .ok (.aload_n 0, 1) := by decide +kernel
theorem dX4_carats_19 : decode cX4_carats 19 = .ok (.getfield 104, 3) := by decide +kernel
theorem dX4_carats_22 : decode cX4_carats 22 = .ok (.ifCond .le 5, 3) := by decide +kernel
theorem dX4_carats_25 : decode cX4_carats 25 = .ok (.iconst 0, 1) := by decide +kernel
theorem dX4_carats_26 : decode cX4_carats 26 = .ok (.ireturn, 1) := by decide +kernel
theorem dX4_carats_27 : decode cX4_carats 27 = .ok (.iload_n 1, 1) := by decide +kernel
theorem dX4_carats_28 : decode cX4_carats 28 = .ok (.ifCond .ne 8, 3) := by decide +kernel
theorem dX4_carats_31 : decode cX4_carats 31 = .ok (.aload_n 0, 1) := by decide +kernel
theorem dX4_carats_32 : decode cX4_carats 32 = .ok (.getfield 125, 3) := by decide +kernel
theorem dX4_carats_35 : decode cX4_carats 35 = .ok (.ireturn, 1) := by decide +kernel
theorem dX4_carats_36 : decode cX4_carats 36 = .ok (.iload_n 1, 1) := by decide +kernel
theorem dX4_carats_37 : decode cX4_carats 37 = .ok (.iconst 5, 1) := by decide +kernel
theorem dX4_carats_38 : decode cX4_carats 38 = .ok (.if_icmp .ne 8, 3) := by decide +kernel
theorem dX4_carats_41 : decode cX4_carats 41 = .ok (.aload_n 0, 1) := by decide +kernel
theorem dX4_carats_42 : decode cX4_carats 42 = .ok (.getfield 220, 3) := by decide +kernel
theorem dX4_carats_45 : decode cX4_carats 45 = .ok (.ireturn, 1) := by decide +kernel
theorem dX4_carats_46 : decode cX4_carats 46 = .ok (.iconst 0, 1) := by decide +kernel
theorem dX4_carats_47 : decode cX4_carats 47 = .ok (.istore_n 2, 1) := by decide +kernel
theorem dX4_carats_48 : decode cX4_carats 48 = .ok (.iconst 0, 1) := by decide +kernel
theorem dX4_carats_49 : decode cX4_carats 49 = .ok (.istore_n 3, 1) := by decide +kernel
theorem dX4_carats_50 : decode cX4_carats 50 = .ok (.iload_n 3, 1) := by decide +kernel
theorem dX4_carats_51 : decode cX4_carats 51 = .ok (.bipush 100, 2) := by decide +kernel
theorem dX4_carats_53 : decode cX4_carats 53 = .ok (.if_icmp .ge 18, 3) := by decide +kernel
theorem dX4_carats_56 : decode cX4_carats 56 = .ok (.iload_n 2, 1) := by decide +kernel
theorem dX4_carats_57 : decode cX4_carats 57 = .ok (.aload_n 0, 1) := by decide +kernel
theorem dX4_carats_58 : decode cX4_carats 58 = .ok (.getfield 13, 3) := by decide +kernel
theorem dX4_carats_61 : decode cX4_carats 61 = .ok (.iload_n 3, 1) := by decide +kernel
theorem dX4_carats_62 : decode cX4_carats 62 = .ok (.iaload, 1) := by decide +kernel
theorem dX4_carats_63 : decode cX4_carats 63 = .ok (.iadd, 1) := by decide +kernel
theorem dX4_carats_64 : decode cX4_carats 64 = .ok (.istore_n 2, 1) := by decide +kernel
theorem dX4_carats_65 : decode cX4_carats 65 = .ok (.iinc 3 1, 3) := by decide +kernel
theorem dX4_carats_68 : decode cX4_carats 68 = .ok (.goto (-18), 3) := by decide +kernel
theorem dX4_carats_71 : decode cX4_carats 71 = .ok (.iload_n 1, 1) := by decide +kernel
theorem dX4_carats_72 : decode cX4_carats 72 = .ok (.iconst 1, 1) := by decide +kernel
theorem dX4_carats_73 : decode cX4_carats 73 = .ok (.if_icmp .ne 7, 3) := by decide +kernel
theorem dX4_carats_76 : decode cX4_carats 76 = .ok (.iload_n 2, 1) := by decide +kernel
theorem dX4_carats_77 : decode cX4_carats 77 = .ok (.goto 8, 3) := by decide +kernel
theorem dX4_carats_80 : decode cX4_carats 80 = .ok (.aload_n 0, 1) := by decide +kernel
theorem dX4_carats_81 : decode cX4_carats 81 = .ok (.iload_n 1, 1) := by decide +kernel
theorem dX4_carats_82 : decode cX4_carats 82 = .ok (.invokevirtual 242, 3) := by decide +kernel
theorem dX4_carats_85 : decode cX4_carats 85 = .ok (.ireturn, 1) := by decide +kernel
theorem dX4_canPlan_0 : decode cX4_canPlan 0 = .ok (.aload_n 0, 1) := by decide +kernel
theorem dX4_canPlan_1 : decode cX4_canPlan 1 = .ok (.getfield 7, 3) := by decide +kernel
theorem dX4_canPlan_4 : decode cX4_canPlan 4 = .ok (.iload_n 2, 1) := by decide +kernel
theorem dX4_canPlan_5 : decode cX4_canPlan 5 = .ok (.iaload, 1) := by decide +kernel
theorem dX4_canPlan_6 : decode cX4_canPlan 6 = .ok (.iconst 1, 1) := by decide +kernel
theorem dX4_canPlan_7 : decode cX4_canPlan 7 = .ok (.if_icmp .eq 20, 3) := by decide +kernel
theorem dX4_canPlan_10 : decode cX4_canPlan 10 = .ok (.aload_n 0, 1) := by decide +kernel
theorem dX4_canPlan_11 : decode cX4_canPlan 11 = .ok (.iload_n 2, 1) := by decide +kernel
theorem dX4_canPlan_12 : decode cX4_canPlan 12 = .ok (.invokevirtual 182, 3) := by decide +kernel
theorem dX4_canPlan_15 : decode cX4_canPlan 15 = .ok (.ifCond .eq 12, 3) := by decide +kernel
theorem dX4_canPlan_18 : decode cX4_canPlan 18 = .ok (.aload_n 0, 1) := by decide +kernel
theorem dX4_canPlan_19 : decode cX4_canPlan 19 = .ok (.iload_n 2, 1) := by decide +kernel
theorem dX4_canPlan_20 : decode cX4_canPlan 20 = .ok (.invokevirtual 175, 3) := by decide +kernel
theorem dX4_canPlan_23 : decode cX4_canPlan 23 = .ok (.iload_n 1, 1) := by decide +kernel
theorem dX4_canPlan_24 : decode cX4_canPlan 24 = .ok (.if_icmp .eq 5, 3) := by decide +kernel
theorem dX4_canPlan_27 : decode cX4_canPlan 27 = .ok (.iconst 0, 1) := by decide +kernel
theorem dX4_canPlan_28 : decode cX4_canPlan 28 = .ok (.ireturn, 1) := by decide +kernel
theorem dX4_canPlan_29 : decode cX4_canPlan 29 = .ok (.aload_n 0, 1) := by decide +kernel
theorem dX4_canPlan_30 : decode cX4_canPlan 30 = .ok (.getfield 7, 3) := by decide +kernel
theorem dX4_canPlan_33 : decode cX4_canPlan 33 = .ok (.iload_n 2, 1) := by decide +kernel
theorem dX4_canPlan_34 : decode cX4_canPlan 34 = .ok (.iaload, 1) := by decide +kernel
theorem dX4_canPlan_35 : decode cX4_canPlan 35 = .ok (.istore_n 3, 1) := by decide +kernel
theorem dX4_canPlan_36 : decode cX4_canPlan 36 = .ok (.aload_n 0, 1) := by decide +kernel
theorem dX4_canPlan_37 : decode cX4_canPlan 37 = .ok (.getfield 7, 3) := by decide +kernel
theorem dX4_canPlan_40 : decode cX4_canPlan 40 = .ok (.iload_n 2, 1) := by decide +kernel
theorem dX4_canPlan_41 : decode cX4_canPlan 41 = .ok (.iconst 1, 1) := by decide +kernel
theorem dX4_canPlan_42 : decode cX4_canPlan 42 = .ok (.iastore, 1) := by decide +kernel
theorem dX4_canPlan_43 : decode cX4_canPlan 43 = .ok (.aload_n 0, 1) := by decide +kernel
theorem dX4_canPlan_44 : decode cX4_canPlan 44 = .ok (.iload_n 2, 1) := by decide +kernel
theorem dX4_canPlan_45 : decode cX4_canPlan 45 = .ok (.invokevirtual 245, 3) := by decide +kernel
theorem dX4_canPlan_48 : decode cX4_canPlan 48 = .ok (.istore 4, 2) := by decide +kernel
theorem dX4_canPlan_50 : decode cX4_canPlan 50 = .ok (.aload_n 0, 1) := by decide +kernel
theorem dX4_canPlan_51 : decode cX4_canPlan 51 = .ok (.getfield 7, 3) := by decide +kernel
theorem dX4_canPlan_54 : decode cX4_canPlan 54 = .ok (.iload_n 2, 1) := by decide +kernel
theorem dX4_canPlan_55 : decode cX4_canPlan 55 = .ok (.iload_n 3, 1) := by decide +kernel
theorem dX4_canPlan_56 : decode cX4_canPlan 56 = .ok (.iastore, 1) := by decide +kernel
theorem dX4_canPlan_57 : decode cX4_canPlan 57 = .ok (.iload 4, 2) := by decide +kernel
theorem dX4_canPlan_59 : decode cX4_canPlan 59 = .ok (.ifCond .ne 7, 3) := by decide +kernel
theorem dX4_canPlan_62 : decode cX4_canPlan 62 = .ok (.iconst 1, 1) := by decide +kernel
theorem dX4_canPlan_63 : decode cX4_canPlan 63 = .ok (.goto 4, 3) := by decide +kernel
theorem dX4_canPlan_66 : decode cX4_canPlan 66 = .ok (.iconst 0, 1) := by decide +kernel
theorem dX4_canPlan_67 : decode cX4_canPlan 67 = .ok (.ireturn, 1) := by decide +kernel
theorem dX4_digsOne_0 : decode cX4_digsOne 0 = .ok (.iconst 0, 1) := by decide +kernel
theorem dX4_digsOne_1 : decode cX4_digsOne 1 = .ok (.istore_n 2, 1) := by decide +kernel
theorem dX4_digsOne_2 : decode cX4_digsOne 2 = .ok (.iconst 0, 1) := by decide +kernel
theorem dX4_digsOne_3 : decode cX4_digsOne 3 = .ok (.istore_n 3, 1) := by decide +kernel
theorem dX4_digsOne_4 : decode cX4_digsOne 4 = .ok (.iload_n 3, 1) := by decide +kernel
theorem dX4_digsOne_5 : decode cX4_digsOne 5 = .ok (.bipush 100, 2) := by decide +kernel
theorem dX4_digsOne_7 : decode cX4_digsOne 7 = .ok (.if_icmp .ge 35, 3) := by decide +kernel
theorem dX4_digsOne_10 : decode cX4_digsOne 10 = .ok (.aload_n 0, 1) := by decide +kernel
theorem dX4_digsOne_11 : decode cX4_digsOne 11 = .ok (.getfield 13, 3) := by decide +kernel
theorem dX4_digsOne_14 : decode cX4_digsOne 14 = .ok (.iload_n 3, 1) := by decide +kernel
theorem dX4_digsOne_15 : decode cX4_digsOne 15 = .ok (.iaload, 1) := by decide +kernel
theorem dX4_digsOne_16 : decode cX4_digsOne 16 = .ok (.iload_n 2, 1) := by decide +kernel
theorem dX4_digsOne_17 : decode cX4_digsOne 17 = .ok (.if_icmp .le 19, 3) := by decide +kernel
theorem dX4_digsOne_20 : decode cX4_digsOne 20 = .ok (.aload_n 0, 1) := by decide +kernel
theorem dX4_digsOne_21 : decode cX4_digsOne 21 = .ok (.iload_n 1, 1) := by decide +kernel
theorem dX4_digsOne_22 : decode cX4_digsOne 22 = .ok (.iload_n 3, 1) := by decide +kernel
theorem dX4_digsOne_23 : decode cX4_digsOne 23 = .ok (.invokevirtual 248, 3) := by decide +kernel
theorem dX4_digsOne_26 : decode cX4_digsOne 26 = .ok (.ifCond .eq 10, 3) := by decide +kernel
theorem dX4_digsOne_29 : decode cX4_digsOne 29 = .ok (.aload_n 0, 1) := by decide +kernel
theorem dX4_digsOne_30 : decode cX4_digsOne 30 = .ok (.getfield 13, 3) := by decide +kernel
theorem dX4_digsOne_33 : decode cX4_digsOne 33 = .ok (.iload_n 3, 1) := by decide +kernel
theorem dX4_digsOne_34 : decode cX4_digsOne 34 = .ok (.iaload, 1) := by decide +kernel
theorem dX4_digsOne_35 : decode cX4_digsOne 35 = .ok (.istore_n 2, 1) := by decide +kernel
theorem dX4_digsOne_36 : decode cX4_digsOne 36 = .ok (.iinc 3 1, 3) := by decide +kernel
theorem dX4_digsOne_39 : decode cX4_digsOne 39 = .ok (.goto (-35), 3) := by decide +kernel
theorem dX4_digsOne_42 : decode cX4_digsOne 42 = .ok (.iload_n 2, 1) := by decide +kernel
theorem dX4_digsOne_43 : decode cX4_digsOne 43 = .ok (.ireturn, 1) := by decide +kernel
theorem dX4_digsTwo_0 : decode cX4_digsTwo 0 = .ok (.iconst 0, 1) := by decide +kernel
theorem dX4_digsTwo_1 : decode cX4_digsTwo 1 = .ok (.istore_n 2, 1) := by decide +kernel
theorem dX4_digsTwo_2 : decode cX4_digsTwo 2 = .ok (.iconst 0, 1) := by decide +kernel
theorem dX4_digsTwo_3 : decode cX4_digsTwo 3 = .ok (.istore_n 3, 1) := by decide +kernel
theorem dX4_digsTwo_4 : decode cX4_digsTwo 4 = .ok (.iload_n 3, 1) := by decide +kernel
theorem dX4_digsTwo_5 : decode cX4_digsTwo 5 = .ok (.bipush 100, 2) := by decide +kernel
theorem dX4_digsTwo_7 : decode cX4_digsTwo 7 = .ok (.if_icmp .ge 68, 3) := by decide +kernel
theorem dX4_digsTwo_10 : decode cX4_digsTwo 10 = .ok (.aload_n 0, 1) := by decide +kernel
theorem dX4_digsTwo_11 : decode cX4_digsTwo 11 = .ok (.iload_n 1, 1) := by decide +kernel
theorem dX4_digsTwo_12 : decode cX4_digsTwo 12 = .ok (.iload_n 3, 1) := by decide +kernel
theorem dX4_digsTwo_13 : decode cX4_digsTwo 13 = .ok (.invokevirtual 248, 3) := by decide +kernel
theorem dX4_digsTwo_16 : decode cX4_digsTwo 16 = .ok (.ifCond .eq 53, 3) := by decide +kernel
theorem dX4_digsTwo_19 : decode cX4_digsTwo 19 = .ok (.aload_n 0, 1) := by decide +kernel
theorem dX4_digsTwo_20 : decode cX4_digsTwo 20 = .ok (.getfield 7, 3) := by decide +kernel
theorem dX4_digsTwo_23 : decode cX4_digsTwo 23 = .ok (.iload_n 3, 1) := by decide +kernel
theorem dX4_digsTwo_24 : decode cX4_digsTwo 24 = .ok (.iaload, 1) := by decide +kernel
theorem dX4_digsTwo_25 : decode cX4_digsTwo 25 = .ok (.istore 4, 2) := by decide +kernel
theorem dX4_digsTwo_27 : decode cX4_digsTwo 27 = .ok (.aload_n 0, 1) := by decide +kernel
theorem dX4_digsTwo_28 : decode cX4_digsTwo 28 = .ok (.getfield 7, 3) := by decide +kernel
theorem dX4_digsTwo_31 : decode cX4_digsTwo 31 = .ok (.iload_n 3, 1) := by decide +kernel
theorem dX4_digsTwo_32 : decode cX4_digsTwo 32 = .ok (.iconst 1, 1) := by decide +kernel
theorem dX4_digsTwo_33 : decode cX4_digsTwo 33 = .ok (.iastore, 1) := by decide +kernel
theorem dX4_digsTwo_34 : decode cX4_digsTwo 34 = .ok (.aload_n 0, 1) := by decide +kernel
theorem dX4_digsTwo_35 : decode cX4_digsTwo 35 = .ok (.getfield 13, 3) := by decide +kernel
theorem dX4_digsTwo_38 : decode cX4_digsTwo 38 = .ok (.iload_n 3, 1) := by decide +kernel
theorem dX4_digsTwo_39 : decode cX4_digsTwo 39 = .ok (.iaload, 1) := by decide +kernel
theorem dX4_digsTwo_40 : decode cX4_digsTwo 40 = .ok (.aload_n 0, 1) := by decide +kernel
theorem dX4_digsTwo_41 : decode cX4_digsTwo 41 = .ok (.iload_n 1, 1) := by decide +kernel
theorem dX4_digsTwo_42 : decode cX4_digsTwo 42 = .ok (.invokevirtual 251, 3) := by decide +kernel
theorem dX4_digsTwo_45 : decode cX4_digsTwo 45 = .ok (.iadd, 1) := by decide +kernel
theorem dX4_digsTwo_46 : decode cX4_digsTwo 46 = .ok (.istore 5, 2) := by decide +kernel
theorem dX4_digsTwo_48 : decode cX4_digsTwo 48 = .ok (.aload_n 0, 1) := by decide +kernel
theorem dX4_digsTwo_49 : decode cX4_digsTwo 49 = .ok (.getfield 7, 3) := by decide +kernel
theorem dX4_digsTwo_52 : decode cX4_digsTwo 52 = .ok (.iload_n 3, 1) := by decide +kernel
theorem dX4_digsTwo_53 : decode cX4_digsTwo 53 = .ok (.iload 4, 2) := by decide +kernel
theorem dX4_digsTwo_55 : decode cX4_digsTwo 55 = .ok (.iastore, 1) := by decide +kernel
theorem dX4_digsTwo_56 : decode cX4_digsTwo 56 = .ok (.iload 5, 2) := by decide +kernel
theorem dX4_digsTwo_58 : decode cX4_digsTwo 58 = .ok (.iload_n 2, 1) := by decide +kernel
theorem dX4_digsTwo_59 : decode cX4_digsTwo 59 = .ok (.if_icmp .le 8, 3) := by decide +kernel
theorem dX4_digsTwo_62 : decode cX4_digsTwo 62 = .ok (.iload 5, 2) := by decide +kernel
theorem dX4_digsTwo_64 : decode cX4_digsTwo 64 = .ok (.goto 4, 3) := by decide +kernel
theorem dX4_digsTwo_67 : decode cX4_digsTwo 67 = .ok (.iload_n 2, 1) := by decide +kernel
theorem dX4_digsTwo_68 : decode cX4_digsTwo 68 = .ok (.istore_n 2, 1) := by decide +kernel
theorem dX4_digsTwo_69 : decode cX4_digsTwo 69 = .ok (.iinc 3 1, 3) := by decide +kernel
theorem dX4_digsTwo_72 : decode cX4_digsTwo 72 = .ok (.goto (-68), 3) := by decide +kernel
theorem dX4_digsTwo_75 : decode cX4_digsTwo 75 = .ok (.iload_n 2, 1) := by decide +kernel
theorem dX4_digsTwo_76 : decode cX4_digsTwo 76 = .ok (.ireturn, 1) := by decide +kernel
theorem dX4_digsThree_0 : decode cX4_digsThree 0 = .ok (.iconst 0, 1) := by decide +kernel
theorem dX4_digsThree_1 : decode cX4_digsThree 1 = .ok (.istore_n 2, 1) := by decide +kernel
theorem dX4_digsThree_2 : decode cX4_digsThree 2 = .ok (.iconst 0, 1) := by decide +kernel
theorem dX4_digsThree_3 : decode cX4_digsThree 3 = .ok (.istore_n 3, 1) := by decide +kernel
theorem dX4_digsThree_4 : decode cX4_digsThree 4 = .ok (.iload_n 3, 1) := by decide +kernel
theorem dX4_digsThree_5 : decode cX4_digsThree 5 = .ok (.bipush 100, 2) := by decide +kernel
theorem dX4_digsThree_7 : decode cX4_digsThree 7 = .ok (.if_icmp .ge 68, 3) := by decide +kernel
theorem dX4_digsThree_10 : decode cX4_digsThree 10 = .ok (.aload_n 0, 1) := by decide +kernel
theorem dX4_digsThree_11 : decode cX4_digsThree 11 = .ok (.iload_n 1, 1) := by decide +kernel
theorem dX4_digsThree_12 : decode cX4_digsThree 12 = .ok (.iload_n 3, 1) := by decide +kernel
theorem dX4_digsThree_13 : decode cX4_digsThree 13 = .ok (.invokevirtual 248, 3) := by decide +kernel
theorem dX4_digsThree_16 : decode cX4_digsThree 16 = .ok (.ifCond .eq 53, 3) := by decide +kernel
theorem dX4_digsThree_19 : decode cX4_digsThree 19 = .ok (.aload_n 0, 1) := by decide +kernel
theorem dX4_digsThree_20 : decode cX4_digsThree 20 = .ok (.getfield 7, 3) := by decide +kernel
theorem dX4_digsThree_23 : decode cX4_digsThree 23 = .ok (.iload_n 3, 1) := by decide +kernel
theorem dX4_digsThree_24 : decode cX4_digsThree 24 = .ok (.iaload, 1) := by decide +kernel
theorem dX4_digsThree_25 : decode cX4_digsThree 25 = .ok (.istore 4, 2) := by decide +kernel
theorem dX4_digsThree_27 : decode cX4_digsThree 27 = .ok (.aload_n 0, 1) := by decide +kernel
theorem dX4_digsThree_28 : decode cX4_digsThree 28 = .ok (.getfield 7, 3) := by decide +kernel
theorem dX4_digsThree_31 : decode cX4_digsThree 31 = .ok (.iload_n 3, 1) := by decide +kernel
theorem dX4_digsThree_32 : decode cX4_digsThree 32 = .ok (.iconst 1, 1) := by decide +kernel
theorem dX4_digsThree_33 : decode cX4_digsThree 33 = .ok (.iastore, 1) := by decide +kernel
theorem dX4_digsThree_34 : decode cX4_digsThree 34 = .ok (.aload_n 0, 1) := by decide +kernel
theorem dX4_digsThree_35 : decode cX4_digsThree 35 = .ok (.getfield 13, 3) := by decide +kernel
theorem dX4_digsThree_38 : decode cX4_digsThree 38 = .ok (.iload_n 3, 1) := by decide +kernel
theorem dX4_digsThree_39 : decode cX4_digsThree 39 = .ok (.iaload, 1) := by decide +kernel
theorem dX4_digsThree_40 : decode cX4_digsThree 40 = .ok (.aload_n 0, 1) := by decide +kernel
theorem dX4_digsThree_41 : decode cX4_digsThree 41 = .ok (.iload_n 1, 1) := by decide +kernel
theorem dX4_digsThree_42 : decode cX4_digsThree 42 = .ok (.invokevirtual 254, 3) := by decide +kernel
theorem dX4_digsThree_45 : decode cX4_digsThree 45 = .ok (.iadd, 1) := by decide +kernel
theorem dX4_digsThree_46 : decode cX4_digsThree 46 = .ok (.istore 5, 2) := by decide +kernel
theorem dX4_digsThree_48 : decode cX4_digsThree 48 = .ok (.aload_n 0, 1) := by decide +kernel
theorem dX4_digsThree_49 : decode cX4_digsThree 49 = .ok (.getfield 7, 3) := by decide +kernel
theorem dX4_digsThree_52 : decode cX4_digsThree 52 = .ok (.iload_n 3, 1) := by decide +kernel
theorem dX4_digsThree_53 : decode cX4_digsThree 53 = .ok (.iload 4, 2) := by decide +kernel
theorem dX4_digsThree_55 : decode cX4_digsThree 55 = .ok (.iastore, 1) := by decide +kernel
theorem dX4_digsThree_56 : decode cX4_digsThree 56 = .ok (.iload 5, 2) := by decide +kernel
theorem dX4_digsThree_58 : decode cX4_digsThree 58 = .ok (.iload_n 2, 1) := by decide +kernel
theorem dX4_digsThree_59 : decode cX4_digsThree 59 = .ok (.if_icmp .le 8, 3) := by decide +kernel
theorem dX4_digsThree_62 : decode cX4_digsThree 62 = .ok (.iload 5, 2) := by decide +kernel
theorem dX4_digsThree_64 : decode cX4_digsThree 64 = .ok (.goto 4, 3) := by decide +kernel
theorem dX4_digsThree_67 : decode cX4_digsThree 67 = .ok (.iload_n 2, 1) := by decide +kernel
theorem dX4_digsThree_68 : decode cX4_digsThree 68 = .ok (.istore_n 2, 1) := by decide +kernel
theorem dX4_digsThree_69 : decode cX4_digsThree 69 = .ok (.iinc 3 1, 3) := by decide +kernel
theorem dX4_digsThree_72 : decode cX4_digsThree 72 = .ok (.goto (-68), 3) := by decide +kernel
theorem dX4_digsThree_75 : decode cX4_digsThree 75 = .ok (.iload_n 2, 1) := by decide +kernel
theorem dX4_digsThree_76 : decode cX4_digsThree 76 = .ok (.ireturn, 1) := by decide +kernel
theorem dX4_plan_0 : decode cX4_plan 0 = .ok (.aload_n 0, 1) := by decide +kernel
theorem dX4_plan_1 : decode cX4_plan 1 = .ok (.aload_n 0, 1) := by decide +kernel
theorem dX4_plan_2 : decode cX4_plan 2 = .ok (.iload_n 1, 1) := by decide +kernel
theorem dX4_plan_3 : decode cX4_plan 3 = .ok (.invokevirtual 142, 3) := by decide +kernel
theorem dX4_plan_6 : decode cX4_plan 6 = .ok (.ifCond .ne 7, 3) := by decide +kernel
theorem dX4_plan_9 : decode cX4_plan 9 = .ok (.iconst 1, 1) := by decide +kernel
theorem dX4_plan_10 : decode cX4_plan 10 = .ok (.goto 17, 3) := by decide +kernel
theorem dX4_plan_13 : decode cX4_plan 13 = .ok (.iload_n 2, 1) := by decide +kernel
theorem dX4_plan_14 : decode cX4_plan 14 = .ok (.iconst 0, 1) := by decide +kernel
theorem dX4_plan_15 : decode cX4_plan 15 = .ok (.iconst 3, 1) := by decide +kernel
theorem dX4_plan_16 : decode cX4_plan 16 = .ok (.invokestatic 108, 3) := by decide +kernel
theorem dX4_plan_19 : decode cX4_plan 19 = .ok (.ifCond .eq 7, 3) := by decide +kernel
theorem dX4_plan_22 : decode cX4_plan 22 = .ok (.iconst 0, 1) := by decide +kernel
theorem dX4_plan_23 : decode cX4_plan 23 = .ok (.goto 4, 3) := by decide +kernel
theorem dX4_plan_26 : decode cX4_plan 26 = .ok (.iconst 2, 1) := by decide +kernel
theorem dX4_plan_27 : decode cX4_plan 27 = .ok (.putfield 104, 3) := by decide +kernel
theorem dX4_plan_30 : decode cX4_plan 30 = .ok (.aload_n 0, 1) := by decide +kernel
theorem dX4_plan_31 : decode cX4_plan 31 = .ok (.getfield 104, 3) := by decide +kernel
theorem dX4_plan_34 : decode cX4_plan 34 = .ok (.ifCond .le 5, 3) := by decide +kernel
theorem dX4_plan_37 : decode cX4_plan 37 = .ok (.iconst 0, 1) := by decide +kernel
theorem dX4_plan_38 : decode cX4_plan 38 = .ok (.ireturn, 1) := by decide +kernel
theorem dX4_plan_39 : decode cX4_plan 39 = .ok (.iload_n 2, 1) := by decide +kernel
theorem dX4_plan_40 : decode cX4_plan 40 = .ok (.ifCond .ne 7, 3) := by decide +kernel
theorem dX4_plan_43 : decode cX4_plan 43 = .ok (.iconst 0, 1) := by decide +kernel
theorem dX4_plan_44 : decode cX4_plan 44 = .ok (.goto 34, 3) := by decide +kernel
theorem dX4_plan_47 : decode cX4_plan 47 = .ok (.iload_n 2, 1) := by decide +kernel
theorem dX4_plan_48 : decode cX4_plan 48 = .ok (.iconst 1, 1) := by decide +kernel
theorem dX4_plan_49 : decode cX4_plan 49 = .ok (.if_icmp .ne 11, 3) := by decide +kernel
theorem dX4_plan_52 : decode cX4_plan 52 = .ok (.aload_n 0, 1) := by decide +kernel
theorem dX4_plan_53 : decode cX4_plan 53 = .ok (.iload_n 1, 1) := by decide +kernel
theorem dX4_plan_54 : decode cX4_plan 54 = .ok (.invokevirtual 251, 3) := by decide +kernel
theorem dX4_plan_57 : decode cX4_plan 57 = .ok (.goto 21, 3) := by decide +kernel
theorem dX4_plan_60 : decode cX4_plan 60 = .ok (.iload_n 2, 1) := by decide +kernel
theorem dX4_plan_61 : decode cX4_plan 61 = .ok (.iconst 2, 1) := by decide +kernel
theorem dX4_plan_62 : decode cX4_plan 62 = .ok (.if_icmp .ne 11, 3) := by decide +kernel
theorem dX4_plan_65 : decode cX4_plan 65 = .ok (.aload_n 0, 1) := by decide +kernel
theorem dX4_plan_66 : decode cX4_plan 66 = .ok (.iload_n 1, 1) := by decide +kernel
theorem dX4_plan_67 : decode cX4_plan 67 = .ok (.invokevirtual 254, 3) := by decide +kernel
theorem dX4_plan_70 : decode cX4_plan 70 = .ok (.goto 8, 3) := by decide +kernel
theorem dX4_plan_73 : decode cX4_plan 73 = .ok (.aload_n 0, 1) := by decide +kernel
theorem dX4_plan_74 : decode cX4_plan 74 = .ok (.iload_n 1, 1) := by decide +kernel
theorem dX4_plan_75 : decode cX4_plan 75 = .ok (.invokevirtual 257, 3) := by decide +kernel
theorem dX4_plan_78 : decode cX4_plan 78 = .ok (.ireturn, 1) := by decide +kernel
theorem dX4_planAnew_0 : decode cX4_planAnew 0 = .ok (.aload_n 0, 1) := by decide +kernel
theorem dX4_planAnew_1 : decode cX4_planAnew 1 = .ok (.iload_n 1, 1) := by decide +kernel
theorem dX4_planAnew_2 : decode cX4_planAnew 2 = .ok (.iload_n 2, 1) := by decide +kernel
theorem dX4_planAnew_3 : decode cX4_planAnew 3 = .ok (.invokevirtual 260, 3) := by decide +kernel
theorem dX4_planAnew_6 : decode cX4_planAnew 6 = .ok (.ireturn, 1) := by decide +kernel
theorem dJ9_max_7cf53_0 : decode cJ9_max_7cf53 0 = .ok (.iload_n 0, 1) := by decide +kernel
theorem dJ9_max_7cf53_1 : decode cJ9_max_7cf53 1 = .ok (.iload_n 1, 1) := by decide +kernel
theorem dJ9_max_7cf53_2 : decode cJ9_max_7cf53 2 = .ok (.if_icmp .lt 7, 3) := by decide +kernel
theorem dJ9_max_7cf53_5 : decode cJ9_max_7cf53 5 = .ok (.iload_n 0, 1) := by decide +kernel
theorem dJ9_max_7cf53_6 : decode cJ9_max_7cf53 6 = .ok (.goto 4, 3) := by decide +kernel
theorem dJ9_max_7cf53_9 : decode cJ9_max_7cf53 9 = .ok (.iload_n 1, 1) := by decide +kernel
theorem dJ9_max_7cf53_10 : decode cJ9_max_7cf53 10 = .ok (.ireturn, 1) := by decide +kernel
theorem dJ9_min_7cf53_0 : decode cJ9_min_7cf53 0 = .ok (.iload_n 0, 1) := by decide +kernel
theorem dJ9_min_7cf53_1 : decode cJ9_min_7cf53 1 = .ok (.iload_n 1, 1) := by decide +kernel
theorem dJ9_min_7cf53_2 : decode cJ9_min_7cf53 2 = .ok (.if_icmp .gt 7, 3) := by decide +kernel
theorem dJ9_min_7cf53_5 : decode cJ9_min_7cf53 5 = .ok (.iload_n 0, 1) := by decide +kernel
theorem dJ9_min_7cf53_6 : decode cJ9_min_7cf53 6 = .ok (.goto 4, 3) := by decide +kernel
theorem dJ9_min_7cf53_9 : decode cJ9_min_7cf53 9 = .ok (.iload_n 1, 1) := by decide +kernel
theorem dJ9_min_7cf53_10 : decode cJ9_min_7cf53 10 = .ok (.ireturn, 1) := by decide +kernel
theorem dJxa1e45_init_da8c8_0 : decode cJxa1e45_init_da8c8 0 = .ok (.aload_n 0, 1) := by decide +kernel
theorem dJxa1e45_init_da8c8_1 : decode cJxa1e45_init_da8c8 1 = .ok (.invokespecial 1, 3) := by decide +kernel
theorem dJxa1e45_init_da8c8_4 : decode cJxa1e45_init_da8c8 4 = .ok (.return_, 1) := by decide +kernel
theorem dJxc12de_init_da8c8_0 : decode cJxc12de_init_da8c8 0 = .ok (.aload_n 0, 1) := by decide +kernel
theorem dJxc12de_init_da8c8_1 : decode cJxc12de_init_da8c8 1 = .ok (.invokespecial 1, 3) := by decide +kernel
theorem dJxc12de_init_da8c8_4 : decode cJxc12de_init_da8c8 4 = .ok (.aload_n 0, 1) := by decide +kernel
theorem dJxc12de_init_da8c8_5 : decode cJxc12de_init_da8c8 5 = .ok (.iconst 0, 1) := by decide +kernel
theorem dJxc12de_init_da8c8_6 : decode cJxc12de_init_da8c8 6 = .ok (.putfield 7, 3) := by decide +kernel
theorem dJxc12de_init_da8c8_9 : decode cJxc12de_init_da8c8 9 = .ok (.return_, 1) := by decide +kernel
theorem dJx4a65c_init_da8c8_0 : decode cJx4a65c_init_da8c8 0 = .ok (.aload_n 0, 1) := by decide +kernel
theorem dJx4a65c_init_da8c8_1 : decode cJx4a65c_init_da8c8 1 = .ok (.invokespecial 1, 3) := by decide +kernel
theorem dJx4a65c_init_da8c8_4 : decode cJx4a65c_init_da8c8 4 = .ok (.aload_n 0, 1) := by decide +kernel
theorem dJx4a65c_init_da8c8_5 : decode cJx4a65c_init_da8c8 5 = .ok (.getstatic 39, 3) := by decide +kernel
theorem dJx4a65c_init_da8c8_8 : decode cJx4a65c_init_da8c8 8 = .ok (.putfield 9, 3) := by decide +kernel
theorem dJx4a65c_init_da8c8_11 : decode cJx4a65c_init_da8c8 11 = .ok (.return_, 1) := by decide +kernel
theorem dJx4a65c_grow_92f84_0 : decode cJx4a65c_grow_92f84 0 = .ok (.aload_n 0, 1) := by decide +kernel
theorem dJx4a65c_grow_92f84_1 : decode cJx4a65c_grow_92f84 1 = .ok (.getfield 9, 3) := by decide +kernel
theorem dJx4a65c_grow_92f84_4 : decode cJx4a65c_grow_92f84 4 = .ok (.arraylength, 1) := by decide +kernel
theorem dJx4a65c_grow_92f84_5 : decode cJx4a65c_grow_92f84 5 = .ok (.istore_n 2, 1) := by decide +kernel
theorem dJx4a65c_grow_92f84_6 : decode cJx4a65c_grow_92f84 6 = .ok (.iload_n 2, 1) := by decide +kernel
theorem dJx4a65c_grow_92f84_7 : decode cJx4a65c_grow_92f84 7 = .ok (.ifCond .gt 13, 3) := by decide +kernel
theorem dJx4a65c_grow_92f84_10 : decode cJx4a65c_grow_92f84 10 = .ok (.aload_n 0, 1) := by decide +kernel
theorem dJx4a65c_grow_92f84_11 : decode cJx4a65c_grow_92f84 11 = .ok (.getfield 9, 3) := by decide +kernel
theorem dJx4a65c_grow_92f84_14 : decode cJx4a65c_grow_92f84 14 = .ok (.getstatic 39, 3) := by decide +kernel
theorem dJx4a65c_grow_92f84_17 : decode cJx4a65c_grow_92f84 17 = .ok (.if_acmp .eq 28, 3) := by decide +kernel
theorem dJx4a65c_grow_92f84_20 : decode cJx4a65c_grow_92f84 20 = .ok (.iload_n 2, 1) := by decide +kernel
theorem dJx4a65c_grow_92f84_21 : decode cJx4a65c_grow_92f84 21 = .ok (.iload_n 1, 1) := by decide +kernel
theorem dJx4a65c_grow_92f84_22 : decode cJx4a65c_grow_92f84 22 = .ok (.iload_n 2, 1) := by decide +kernel
theorem dJx4a65c_grow_92f84_23 : decode cJx4a65c_grow_92f84 23 = .ok (.isub, 1) := by decide +kernel
theorem dJx4a65c_grow_92f84_24 : decode cJx4a65c_grow_92f84 24 = .ok (.iload_n 2, 1) := by decide +kernel
theorem dJx4a65c_grow_92f84_25 : decode cJx4a65c_grow_92f84 25 = .ok (.iconst 1, 1) := by decide +kernel
theorem dJx4a65c_grow_92f84_26 : decode cJx4a65c_grow_92f84 26 = .ok (.ishr, 1) := by decide +kernel
theorem dJx4a65c_grow_92f84_27 : decode cJx4a65c_grow_92f84 27 = .ok (.invokestatic 73, 3) := by decide +kernel
theorem dJx4a65c_grow_92f84_30 : decode cJx4a65c_grow_92f84 30 = .ok (.istore_n 3, 1) := by decide +kernel
theorem dJx4a65c_grow_92f84_31 : decode cJx4a65c_grow_92f84 31 = .ok (.aload_n 0, 1) := by decide +kernel
theorem dJx4a65c_grow_92f84_32 : decode cJx4a65c_grow_92f84 32 = .ok (.aload_n 0, 1) := by decide +kernel
theorem dJx4a65c_grow_92f84_33 : decode cJx4a65c_grow_92f84 33 = .ok (.getfield 9, 3) := by decide +kernel
theorem dJx4a65c_grow_92f84_36 : decode cJx4a65c_grow_92f84 36 = .ok (.iload_n 3, 1) := by decide +kernel
theorem dJx4a65c_grow_92f84_37 : decode cJx4a65c_grow_92f84 37 = .ok (.invokestatic 66, 3) := by decide +kernel
theorem dJx4a65c_grow_92f84_40 : decode cJx4a65c_grow_92f84 40 = .ok (.dup_x1, 1) := by decide +kernel
theorem dJx4a65c_grow_92f84_41 : decode cJx4a65c_grow_92f84 41 = .ok (.putfield 9, 3) := by decide +kernel
theorem dJx4a65c_grow_92f84_44 : decode cJx4a65c_grow_92f84 44 = .ok (.areturn, 1) := by decide +kernel
theorem dJx4a65c_grow_92f84_45 : decode cJx4a65c_grow_92f84 45 = .ok (.aload_n 0, 1) := by decide +kernel
theorem dJx4a65c_grow_92f84_46 : decode cJx4a65c_grow_92f84 46 = .ok (.bipush 10, 2) := by decide +kernel
theorem dJx4a65c_grow_92f84_48 : decode cJx4a65c_grow_92f84 48 = .ok (.iload_n 1, 1) := by decide +kernel
theorem dJx4a65c_grow_92f84_49 : decode cJx4a65c_grow_92f84 49 = .ok (.invokestatic 79, 3) := by decide +kernel
theorem dJx4a65c_grow_92f84_52 : decode cJx4a65c_grow_92f84 52 = .ok (.anewarray 7, 3) := by decide +kernel
theorem dJx4a65c_grow_92f84_55 : decode cJx4a65c_grow_92f84 55 = .ok (.dup_x1, 1) := by decide +kernel
theorem dJx4a65c_grow_92f84_56 : decode cJx4a65c_grow_92f84 56 = .ok (.putfield 9, 3) := by decide +kernel
theorem dJx4a65c_grow_92f84_59 : decode cJx4a65c_grow_92f84 59 = .ok (.areturn, 1) := by decide +kernel
theorem dJx4a65c_grow_d5877_0 : decode cJx4a65c_grow_d5877 0 = .ok (.aload_n 0, 1) := by decide +kernel
theorem dJx4a65c_grow_d5877_1 : decode cJx4a65c_grow_d5877 1 = .ok (.aload_n 0, 1) := by decide +kernel
theorem dJx4a65c_grow_d5877_2 : decode cJx4a65c_grow_d5877 2 = .ok (.getfield 48, 3) := by decide +kernel
theorem dJx4a65c_grow_d5877_5 : decode cJx4a65c_grow_d5877 5 = .ok (.iconst 1, 1) := by decide +kernel
theorem dJx4a65c_grow_d5877_6 : decode cJx4a65c_grow_d5877 6 = .ok (.iadd, 1) := by decide +kernel
theorem dJx4a65c_grow_d5877_7 : decode cJx4a65c_grow_d5877 7 = .ok (.invokevirtual 69, 3) := by decide +kernel
theorem dJx4a65c_grow_d5877_10 : decode cJx4a65c_grow_d5877 10 = .ok (.areturn, 1) := by decide +kernel
theorem dJx4a65c_size_8abf5_0 : decode cJx4a65c_size_8abf5 0 = .ok (.aload_n 0, 1) := by decide +kernel
theorem dJx4a65c_size_8abf5_1 : decode cJx4a65c_size_8abf5 1 = .ok (.getfield 48, 3) := by decide +kernel
theorem dJx4a65c_size_8abf5_4 : decode cJx4a65c_size_8abf5 4 = .ok (.ireturn, 1) := by decide +kernel
theorem dJx4a65c_elementData_915e3_0 : decode cJx4a65c_elementData_915e3 0 = .ok (.aload_n 0, 1) := by decide +kernel
theorem dJx4a65c_elementData_915e3_1 : decode cJx4a65c_elementData_915e3 1 = .ok (.getfield 9, 3) := by decide +kernel
theorem dJx4a65c_elementData_915e3_4 : decode cJx4a65c_elementData_915e3 4 = .ok (.iload_n 1, 1) := by decide +kernel
theorem dJx4a65c_elementData_915e3_5 : decode cJx4a65c_elementData_915e3 5 = .ok (.aaload, 1) := by decide +kernel
theorem dJx4a65c_elementData_915e3_6 : decode cJx4a65c_elementData_915e3 6 = .ok (.areturn, 1) := by decide +kernel
theorem dJx4a65c_get_915e3_0 : decode cJx4a65c_get_915e3 0 = .ok (.iload_n 1, 1) := by decide +kernel
theorem dJx4a65c_get_915e3_1 : decode cJx4a65c_get_915e3 1 = .ok (.aload_n 0, 1) := by decide +kernel
theorem dJx4a65c_get_915e3_2 : decode cJx4a65c_get_915e3 2 = .ok (.getfield 48, 3) := by decide +kernel
theorem dJx4a65c_get_915e3_5 : decode cJx4a65c_get_915e3 5 = .ok (.invokestatic 118, 3) := by decide +kernel
theorem dJx4a65c_get_915e3_8 : decode cJx4a65c_get_915e3 8 = .ok (.pop, 1) := by decide +kernel
theorem dJx4a65c_get_915e3_9 : decode cJx4a65c_get_915e3 9 = .ok (.aload_n 0, 1) := by decide +kernel
theorem dJx4a65c_get_915e3_10 : decode cJx4a65c_get_915e3 10 = .ok (.iload_n 1, 1) := by decide +kernel
theorem dJx4a65c_get_915e3_11 : decode cJx4a65c_get_915e3 11 = .ok (.invokevirtual 123, 3) := by decide +kernel
theorem dJx4a65c_get_915e3_14 : decode cJx4a65c_get_915e3 14 = .ok (.areturn, 1) := by decide +kernel
theorem dJx4a65c_add_72be8_0 : decode cJx4a65c_add_72be8 0 = .ok (.iload_n 3, 1) := by decide +kernel
theorem dJx4a65c_add_72be8_1 : decode cJx4a65c_add_72be8 1 = .ok (.aload_n 2, 1) := by decide +kernel
theorem dJx4a65c_add_72be8_2 : decode cJx4a65c_add_72be8 2 = .ok (.arraylength, 1) := by decide +kernel
theorem dJx4a65c_add_72be8_3 : decode cJx4a65c_add_72be8 3 = .ok (.if_icmp .ne 8, 3) := by decide +kernel
theorem dJx4a65c_add_72be8_6 : decode cJx4a65c_add_72be8 6 = .ok (.aload_n 0, 1) := by decide +kernel
theorem dJx4a65c_add_72be8_7 : decode cJx4a65c_add_72be8 7 = .ok (.invokevirtual 129, 3) := by decide +kernel
theorem dJx4a65c_add_72be8_10 : decode cJx4a65c_add_72be8 10 = .ok (.astore_n 2, 1) := by decide +kernel
theorem dJx4a65c_add_72be8_11 : decode cJx4a65c_add_72be8 11 = .ok (.aload_n 2, 1) := by decide +kernel
theorem dJx4a65c_add_72be8_12 : decode cJx4a65c_add_72be8 12 = .ok (.iload_n 3, 1) := by decide +kernel
theorem dJx4a65c_add_72be8_13 : decode cJx4a65c_add_72be8 13 = .ok (.aload_n 1, 1) := by decide +kernel
theorem dJx4a65c_add_72be8_14 : decode cJx4a65c_add_72be8 14 = .ok (.aastore, 1) := by decide +kernel
theorem dJx4a65c_add_72be8_15 : decode cJx4a65c_add_72be8 15 = .ok (.aload_n 0, 1) := by decide +kernel
theorem dJx4a65c_add_72be8_16 : decode cJx4a65c_add_72be8 16 = .ok (.iload_n 3, 1) := by decide +kernel
theorem dJx4a65c_add_72be8_17 : decode cJx4a65c_add_72be8 17 = .ok (.iconst 1, 1) := by decide +kernel
theorem dJx4a65c_add_72be8_18 : decode cJx4a65c_add_72be8 18 = .ok (.iadd, 1) := by decide +kernel
theorem dJx4a65c_add_72be8_19 : decode cJx4a65c_add_72be8 19 = .ok (.putfield 48, 3) := by decide +kernel
theorem dJx4a65c_add_72be8_22 : decode cJx4a65c_add_72be8 22 = .ok (.return_, 1) := by decide +kernel
theorem dJx4a65c_add_9ea2d_0 : decode cJx4a65c_add_9ea2d 0 = .ok (.aload_n 0, 1) := by decide +kernel
theorem dJx4a65c_add_9ea2d_1 : decode cJx4a65c_add_9ea2d 1 = .ok (.dup, 1) := by decide +kernel
theorem dJx4a65c_add_9ea2d_2 : decode cJx4a65c_add_9ea2d 2 = .ok (.getfield 63, 3) := by decide +kernel
theorem dJx4a65c_add_9ea2d_5 : decode cJx4a65c_add_9ea2d 5 = .ok (.iconst 1, 1) := by decide +kernel
theorem dJx4a65c_add_9ea2d_6 : decode cJx4a65c_add_9ea2d 6 = .ok (.iadd, 1) := by decide +kernel
theorem dJx4a65c_add_9ea2d_7 : decode cJx4a65c_add_9ea2d 7 = .ok (.putfield 63, 3) := by decide +kernel
theorem dJx4a65c_add_9ea2d_10 : decode cJx4a65c_add_9ea2d 10 = .ok (.aload_n 0, 1) := by decide +kernel
theorem dJx4a65c_add_9ea2d_11 : decode cJx4a65c_add_9ea2d 11 = .ok (.aload_n 1, 1) := by decide +kernel
theorem dJx4a65c_add_9ea2d_12 : decode cJx4a65c_add_9ea2d 12 = .ok (.aload_n 0, 1) := by decide +kernel
theorem dJx4a65c_add_9ea2d_13 : decode cJx4a65c_add_9ea2d 13 = .ok (.getfield 9, 3) := by decide +kernel
theorem dJx4a65c_add_9ea2d_16 : decode cJx4a65c_add_9ea2d 16 = .ok (.aload_n 0, 1) := by decide +kernel
theorem dJx4a65c_add_9ea2d_17 : decode cJx4a65c_add_9ea2d 17 = .ok (.getfield 48, 3) := by decide +kernel
theorem dJx4a65c_add_9ea2d_20 : decode cJx4a65c_add_9ea2d 20 = .ok (.invokevirtual 131, 3) := by decide +kernel
theorem dJx4a65c_add_9ea2d_23 : decode cJx4a65c_add_9ea2d 23 = .ok (.iconst 1, 1) := by decide +kernel
theorem dJx4a65c_add_9ea2d_24 : decode cJx4a65c_add_9ea2d 24 = .ok (.ireturn, 1) := by decide +kernel
theorem dJ7_fill_53178_0 : decode cJ7_fill_53178 0 = .ok (.iconst 0, 1) := by decide +kernel
theorem dJ7_fill_53178_1 : decode cJ7_fill_53178 1 = .ok (.istore_n 2, 1) := by decide +kernel
theorem dJ7_fill_53178_2 : decode cJ7_fill_53178 2 = .ok (.aload_n 0, 1) := by decide +kernel
theorem dJ7_fill_53178_3 : decode cJ7_fill_53178 3 = .ok (.arraylength, 1) := by decide +kernel
theorem dJ7_fill_53178_4 : decode cJ7_fill_53178 4 = .ok (.istore_n 3, 1) := by decide +kernel
theorem dJ7_fill_53178_5 : decode cJ7_fill_53178 5 = .ok (.iload_n 2, 1) := by decide +kernel
theorem dJ7_fill_53178_6 : decode cJ7_fill_53178 6 = .ok (.iload_n 3, 1) := by decide +kernel
theorem dJ7_fill_53178_7 : decode cJ7_fill_53178 7 = .ok (.if_icmp .ge 13, 3) := by decide +kernel
theorem dJ7_fill_53178_10 : decode cJ7_fill_53178 10 = .ok (.aload_n 0, 1) := by decide +kernel
theorem dJ7_fill_53178_11 : decode cJ7_fill_53178 11 = .ok (.iload_n 2, 1) := by decide +kernel
theorem dJ7_fill_53178_12 : decode cJ7_fill_53178 12 = .ok (.iload_n 1, 1) := by decide +kernel
theorem dJ7_fill_53178_13 : decode cJ7_fill_53178 13 = .ok (.iastore, 1) := by decide +kernel
theorem dJ7_fill_53178_14 : decode cJ7_fill_53178 14 = .ok (.iinc 2 1, 3) := by decide +kernel
theorem dJ7_fill_53178_17 : decode cJ7_fill_53178 17 = .ok (.goto (-12), 3) := by decide +kernel
theorem dJ7_fill_53178_20 : decode cJ7_fill_53178 20 = .ok (.return_, 1) := by decide +kernel
theorem dJ7_copyOf_1904c_0 : decode cJ7_copyOf_1904c 0 = .ok (.aload_n 0, 1) := by decide +kernel
theorem dJ7_copyOf_1904c_1 : decode cJ7_copyOf_1904c 1 = .ok (.iload_n 1, 1) := by decide +kernel
theorem dJ7_copyOf_1904c_2 : decode cJ7_copyOf_1904c 2 = .ok (.aload_n 0, 1) := by decide +kernel
theorem dJ7_copyOf_1904c_3 : decode cJ7_copyOf_1904c 3 = .ok (.invokevirtual 86, 3) := by decide +kernel
theorem dJ7_copyOf_1904c_6 : decode cJ7_copyOf_1904c 6 = .ok (.invokestatic 300, 3) := by decide +kernel
theorem dJ7_copyOf_1904c_9 : decode cJ7_copyOf_1904c 9 = .ok (.areturn, 1) := by decide +kernel
theorem dJ7_copyOf_6403c_0 : decode cJ7_copyOf_6403c 0 = .ok (.aload_n 2, 1) := by decide +kernel
theorem dJ7_copyOf_6403c_1 : decode cJ7_copyOf_6403c 1 = .ok (.ldc 110, 2) := by decide +kernel
theorem dJ7_copyOf_6403c_3 : decode cJ7_copyOf_6403c 3 = .ok (.if_acmp .ne 10, 3) := by decide +kernel
theorem dJ7_copyOf_6403c_6 : decode cJ7_copyOf_6403c 6 = .ok (.iload_n 1, 1) := by decide +kernel
theorem dJ7_copyOf_6403c_7 : decode cJ7_copyOf_6403c 7 = .ok (.anewarray 2, 3) := by decide +kernel
theorem dJ7_copyOf_6403c_10 : decode cJ7_copyOf_6403c 10 = .ok (.goto 14, 3) := by decide +kernel
theorem dJ7_copyOf_6403c_13 : decode cJ7_copyOf_6403c 13 = .ok (.aload_n 2, 1) := by decide +kernel
theorem dJ7_copyOf_6403c_14 : decode cJ7_copyOf_6403c 14 = .ok (.invokevirtual 90, 3) := by decide +kernel
theorem dJ7_copyOf_6403c_17 : decode cJ7_copyOf_6403c 17 = .ok (.iload_n 1, 1) := by decide +kernel
theorem dJ7_copyOf_6403c_18 : decode cJ7_copyOf_6403c 18 = .ok (.invokestatic 95, 3) := by decide +kernel
theorem dJ7_copyOf_6403c_21 : decode cJ7_copyOf_6403c 21 = .ok (.checkcast 110, 3) := by decide +kernel
theorem dJ7_copyOf_6403c_24 : decode cJ7_copyOf_6403c 24 = .ok (.astore_n 3, 1) := by decide +kernel
theorem dJ7_copyOf_6403c_25 : decode cJ7_copyOf_6403c 25 = .ok (.aload_n 0, 1) := by decide +kernel
theorem dJ7_copyOf_6403c_26 : decode cJ7_copyOf_6403c 26 = .ok (.iconst 0, 1) := by decide +kernel
theorem dJ7_copyOf_6403c_27 : decode cJ7_copyOf_6403c 27 = .ok (.aload_n 3, 1) := by decide +kernel
theorem dJ7_copyOf_6403c_28 : decode cJ7_copyOf_6403c 28 = .ok (.iconst 0, 1) := by decide +kernel
theorem dJ7_copyOf_6403c_29 : decode cJ7_copyOf_6403c 29 = .ok (.aload_n 0, 1) := by decide +kernel
theorem dJ7_copyOf_6403c_30 : decode cJ7_copyOf_6403c 30 = .ok (.arraylength, 1) := by decide +kernel
theorem dJ7_copyOf_6403c_31 : decode cJ7_copyOf_6403c 31 = .ok (.iload_n 1, 1) := by decide +kernel
theorem dJ7_copyOf_6403c_32 : decode cJ7_copyOf_6403c 32 = .ok (.invokestatic 304, 3) := by decide +kernel
theorem dJ7_copyOf_6403c_35 : decode cJ7_copyOf_6403c 35 = .ok (.invokestatic 150, 3) := by decide +kernel
theorem dJ7_copyOf_6403c_38 : decode cJ7_copyOf_6403c 38 = .ok (.aload_n 3, 1) := by decide +kernel
theorem dJ7_copyOf_6403c_39 : decode cJ7_copyOf_6403c 39 = .ok (.areturn, 1) := by decide +kernel
theorem dJ15_checkIndex_7cf53_0 : decode cJ15_checkIndex_7cf53 0 = .ok (.iload_n 0, 1) := by decide +kernel
theorem dJ15_checkIndex_7cf53_1 : decode cJ15_checkIndex_7cf53 1 = .ok (.iload_n 1, 1) := by decide +kernel
theorem dJ15_checkIndex_7cf53_2 : decode cJ15_checkIndex_7cf53 2 = .ok (.aconst_null, 1) := by decide +kernel
theorem dJ15_checkIndex_7cf53_3 : decode cJ15_checkIndex_7cf53 3 = .ok (.invokestatic 105, 3) := by decide +kernel
theorem dJ15_checkIndex_7cf53_6 : decode cJ15_checkIndex_7cf53 6 = .ok (.ireturn, 1) := by decide +kernel
theorem dJ8_newLength_cabcc_0 : decode cJ8_newLength_cabcc 0 = .ok (.iload_n 0, 1) := by decide +kernel
theorem dJ8_newLength_cabcc_1 : decode cJ8_newLength_cabcc 1 = .ok (.iload_n 1, 1) := by decide +kernel
theorem dJ8_newLength_cabcc_2 : decode cJ8_newLength_cabcc 2 = .ok (.iload_n 2, 1) := by decide +kernel
theorem dJ8_newLength_cabcc_3 : decode cJ8_newLength_cabcc 3 = .ok (.invokestatic 194, 3) := by decide +kernel
theorem dJ8_newLength_cabcc_6 : decode cJ8_newLength_cabcc 6 = .ok (.iadd, 1) := by decide +kernel
theorem dJ8_newLength_cabcc_7 : decode cJ8_newLength_cabcc 7 = .ok (.istore_n 3, 1) := by decide +kernel
theorem dJ8_newLength_cabcc_8 : decode cJ8_newLength_cabcc 8 = .ok (.iconst 0, 1) := by decide +kernel
theorem dJ8_newLength_cabcc_9 : decode cJ8_newLength_cabcc 9 = .ok (.iload_n 3, 1) := by decide +kernel
theorem dJ8_newLength_cabcc_10 : decode cJ8_newLength_cabcc 10 = .ok (.if_icmp .ge 11, 3) := by decide +kernel
theorem dJ8_newLength_cabcc_13 : decode cJ8_newLength_cabcc 13 = .ok (.iload_n 3, 1) := by decide +kernel
theorem dJ8_newLength_cabcc_14 : decode cJ8_newLength_cabcc 14 = .ok (.ldc 200, 2) := by decide +kernel
theorem dJ8_newLength_cabcc_16 : decode cJ8_newLength_cabcc 16 = .ok (.if_icmp .gt 5, 3) := by decide +kernel
theorem dJ8_newLength_cabcc_19 : decode cJ8_newLength_cabcc 19 = .ok (.iload_n 3, 1) := by decide +kernel
theorem dJ8_newLength_cabcc_20 : decode cJ8_newLength_cabcc 20 = .ok (.ireturn, 1) := by decide +kernel
theorem dJ8_newLength_cabcc_21 : decode cJ8_newLength_cabcc 21 = .ok (.iload_n 0, 1) := by decide +kernel
theorem dJ8_newLength_cabcc_22 : decode cJ8_newLength_cabcc 22 = .ok (.iload_n 1, 1) := by decide +kernel
theorem dJ8_newLength_cabcc_23 : decode cJ8_newLength_cabcc 23 = .ok (.invokestatic 201, 3) := by decide +kernel
theorem dJ8_newLength_cabcc_26 : decode cJ8_newLength_cabcc 26 = .ok (.ireturn, 1) := by decide +kernel
theorem dJ8_hugeLength_7cf53_0 : decode cJ8_hugeLength_7cf53 0 = .ok (.iload_n 0, 1) := by decide +kernel
theorem dJ8_hugeLength_7cf53_1 : decode cJ8_hugeLength_7cf53 1 = .ok (.iload_n 1, 1) := by decide +kernel
theorem dJ8_hugeLength_7cf53_2 : decode cJ8_hugeLength_7cf53 2 = .ok (.iadd, 1) := by decide +kernel
theorem dJ8_hugeLength_7cf53_3 : decode cJ8_hugeLength_7cf53 3 = .ok (.istore_n 2, 1) := by decide +kernel
theorem dJ8_hugeLength_7cf53_4 : decode cJ8_hugeLength_7cf53 4 = .ok (.iload_n 2, 1) := by decide +kernel
theorem dJ8_hugeLength_7cf53_5 : decode cJ8_hugeLength_7cf53 5 = .ok (.ifCond .ge 44, 3) := by decide +kernel
theorem dJ8_hugeLength_7cf53_8 : decode cJ8_hugeLength_7cf53 8 = .ok (.new 204, 3) := by decide +kernel
theorem dJ8_hugeLength_7cf53_11 : decode cJ8_hugeLength_7cf53 11 = .ok (.dup, 1) := by decide +kernel
theorem dJ8_hugeLength_7cf53_12 : decode cJ8_hugeLength_7cf53 12 = .ok (.new 89, 3) := by decide +kernel
theorem dJ8_hugeLength_7cf53_15 : decode cJ8_hugeLength_7cf53 15 = .ok (.dup, 1) := by decide +kernel
theorem dJ8_hugeLength_7cf53_16 : decode cJ8_hugeLength_7cf53 16 = .ok (.invokespecial 91, 3) := by decide +kernel
theorem dJ8_hugeLength_7cf53_19 : decode cJ8_hugeLength_7cf53 19 = .ok (.ldc 206, 2) := by decide +kernel
theorem dJ8_hugeLength_7cf53_21 : decode cJ8_hugeLength_7cf53 21 = .ok (.invokevirtual 94, 3) := by decide +kernel
theorem dJ8_hugeLength_7cf53_24 : decode cJ8_hugeLength_7cf53 24 = .ok (.iload_n 0, 1) := by decide +kernel
theorem dJ8_hugeLength_7cf53_25 : decode cJ8_hugeLength_7cf53 25 = .ok (.invokevirtual 98, 3) := by decide +kernel
theorem dJ8_hugeLength_7cf53_28 : decode cJ8_hugeLength_7cf53 28 = .ok (.ldc 208, 2) := by decide +kernel
theorem dJ8_hugeLength_7cf53_30 : decode cJ8_hugeLength_7cf53 30 = .ok (.invokevirtual 94, 3) := by decide +kernel
theorem dJ8_hugeLength_7cf53_33 : decode cJ8_hugeLength_7cf53 33 = .ok (.iload_n 1, 1) := by decide +kernel
theorem dJ8_hugeLength_7cf53_34 : decode cJ8_hugeLength_7cf53 34 = .ok (.invokevirtual 98, 3) := by decide +kernel
theorem dJ8_hugeLength_7cf53_37 : decode cJ8_hugeLength_7cf53 37 = .ok (.ldc 210, 2) := by decide +kernel
theorem dJ8_hugeLength_7cf53_39 : decode cJ8_hugeLength_7cf53 39 = .ok (.invokevirtual 94, 3) := by decide +kernel
theorem dJ8_hugeLength_7cf53_42 : decode cJ8_hugeLength_7cf53 42 = .ok (.invokevirtual 101, 3) := by decide +kernel
theorem dJ8_hugeLength_7cf53_45 : decode cJ8_hugeLength_7cf53 45 = .ok (.invokespecial 212, 3) := by decide +kernel
theorem dJ8_hugeLength_7cf53_48 : decode cJ8_hugeLength_7cf53 48 = .ok (.athrow, 1) := by decide +kernel
theorem dJ8_hugeLength_7cf53_49 : decode cJ8_hugeLength_7cf53 49 = .ok (.iload_n 2, 1) := by decide +kernel
theorem dJ8_hugeLength_7cf53_50 : decode cJ8_hugeLength_7cf53 50 = .ok (.ldc 200, 2) := by decide +kernel
theorem dJ8_hugeLength_7cf53_52 : decode cJ8_hugeLength_7cf53 52 = .ok (.if_icmp .gt 6, 3) := by decide +kernel
theorem dJ8_hugeLength_7cf53_55 : decode cJ8_hugeLength_7cf53 55 = .ok (.ldc 200, 2) := by decide +kernel
theorem dJ8_hugeLength_7cf53_57 : decode cJ8_hugeLength_7cf53 57 = .ok (.ireturn, 1) := by decide +kernel
theorem dJ8_hugeLength_7cf53_58 : decode cJ8_hugeLength_7cf53 58 = .ok (.iload_n 2, 1) := by decide +kernel
theorem dJ8_hugeLength_7cf53_59 : decode cJ8_hugeLength_7cf53 59 = .ok (.ireturn, 1) := by decide +kernel
theorem dJ3_checkIndex_8e157_0 : decode cJ3_checkIndex_8e157 0 = .ok (.iload_n 0, 1) := by decide +kernel
theorem dJ3_checkIndex_8e157_1 : decode cJ3_checkIndex_8e157 1 = .ok (.ifCond .lt 8, 3) := by decide +kernel
theorem dJ3_checkIndex_8e157_4 : decode cJ3_checkIndex_8e157 4 = .ok (.iload_n 0, 1) := by decide +kernel
theorem dJ3_checkIndex_8e157_5 : decode cJ3_checkIndex_8e157 5 = .ok (.iload_n 1, 1) := by decide +kernel
theorem dJ3_checkIndex_8e157_6 : decode cJ3_checkIndex_8e157 6 = .ok (.if_icmp .lt 10, 3) := by decide +kernel
theorem dJ3_checkIndex_8e157_9 : decode cJ3_checkIndex_8e157 9 = .ok (.aload_n 2, 1) := by decide +kernel
theorem dJ3_checkIndex_8e157_10 : decode cJ3_checkIndex_8e157 10 = .ok (.iload_n 0, 1) := by decide +kernel
theorem dJ3_checkIndex_8e157_11 : decode cJ3_checkIndex_8e157 11 = .ok (.iload_n 1, 1) := by decide +kernel
theorem dJ3_checkIndex_8e157_12 : decode cJ3_checkIndex_8e157 12 = .ok (.invokestatic 95, 3) := by decide +kernel
theorem dJ3_checkIndex_8e157_15 : decode cJ3_checkIndex_8e157 15 = .ok (.athrow, 1) := by decide +kernel
theorem dJ3_checkIndex_8e157_16 : decode cJ3_checkIndex_8e157 16 = .ok (.iload_n 0, 1) := by decide +kernel
theorem dJ3_checkIndex_8e157_17 : decode cJ3_checkIndex_8e157 17 = .ok (.ireturn, 1) := by decide +kernel
theorem dL_seam_0 : decode cL_seam 0 = .ok (.aload_n 0, 1) := by decide +kernel
theorem dL_seam_1 : decode cL_seam 1 = .ok (.iload_n 1, 1) := by decide +kernel
theorem dL_seam_2 : decode cL_seam 2 = .ok (.iload_n 2, 1) := by decide +kernel
theorem dL_seam_3 : decode cL_seam 3 = .ok (.iload_n 3, 1) := by decide +kernel
theorem dL_seam_4 : decode cL_seam 4 = .ok (.invokevirtual 7, 3) := by decide +kernel
theorem dL_seam_7 : decode cL_seam 7 = .ok (.goto 15, 3) := by decide +kernel
theorem dL_seam_10 : decode cL_seam 10 = .ok (.astore 4, 2) := by decide +kernel
theorem dL_seam_12 : decode cL_seam 12 = .ok (.iconst 1, 1) := by decide +kernel
theorem dL_seam_13 : decode cL_seam 13 = .ok (.ireturn, 1) := by decide +kernel
theorem dL_seam_14 : decode cL_seam 14 = .ok (.astore 4, 2) := by decide +kernel
theorem dL_seam_16 : decode cL_seam 16 = .ok (.iconst 2, 1) := by decide +kernel
theorem dL_seam_17 : decode cL_seam 17 = .ok (.ireturn, 1) := by decide +kernel
theorem dL_seam_18 : decode cL_seam 18 = .ok (.astore 4, 2) := by decide +kernel
theorem dL_seam_20 : decode cL_seam 20 = .ok (.iconst 3, 1) := by decide +kernel
theorem dL_seam_21 : decode cL_seam 21 = .ok (.ireturn, 1) := by decide +kernel
theorem dL_seam_22 : decode cL_seam 22 = .ok (.iconst 0, 1) := by decide +kernel
theorem dL_seam_23 : decode cL_seam 23 = .ok (.ireturn, 1) := by decide +kernel
theorem dL_pass_0 : decode cL_pass 0 = .ok (.aload_n 2, 1) := by decide +kernel
theorem dL_pass_1 : decode cL_pass 1 = .ok (.iconst 0, 1) := by decide +kernel
theorem dL_pass_2 : decode cL_pass 2 = .ok (.aload_n 0, 1) := by decide +kernel
theorem dL_pass_3 : decode cL_pass 3 = .ok (.iload_n 1, 1) := by decide +kernel
theorem dL_pass_4 : decode cL_pass 4 = .ok (.invokevirtual 19, 3) := by decide +kernel
theorem dL_pass_7 : decode cL_pass 7 = .ok (.i2l, 1) := by decide +kernel
theorem dL_pass_8 : decode cL_pass 8 = .ok (.lastore, 1) := by decide +kernel
theorem dL_pass_9 : decode cL_pass 9 = .ok (.goto 9, 3) := by decide +kernel
theorem dL_pass_12 : decode cL_pass 12 = .ok (.astore_n 3, 1) := by decide +kernel
theorem dL_pass_13 : decode cL_pass 13 = .ok (.iconst 1, 1) := by decide +kernel
theorem dL_pass_14 : decode cL_pass 14 = .ok (.ireturn, 1) := by decide +kernel
theorem dL_pass_15 : decode cL_pass 15 = .ok (.astore_n 3, 1) := by decide +kernel
theorem dL_pass_16 : decode cL_pass 16 = .ok (.iconst 2, 1) := by decide +kernel
theorem dL_pass_17 : decode cL_pass 17 = .ok (.ireturn, 1) := by decide +kernel
theorem dL_pass_18 : decode cL_pass 18 = .ok (.iconst 0, 1) := by decide +kernel
theorem dL_pass_19 : decode cL_pass 19 = .ok (.ireturn, 1) := by decide +kernel
theorem dL_peg_0 : decode cL_peg 0 = .ok (.aload 5, 2) := by decide +kernel
theorem dL_peg_2 : decode cL_peg 2 = .ok (.iconst 0, 1) := by decide +kernel
theorem dL_peg_3 : decode cL_peg 3 = .ok (.aload_n 0, 1) := by decide +kernel
theorem dL_peg_4 : decode cL_peg 4 = .ok (.iload_n 1, 1) := by decide +kernel
theorem dL_peg_5 : decode cL_peg 5 = .ok (.iload_n 2, 1) := by decide +kernel
theorem dL_peg_6 : decode cL_peg 6 = .ok (.iload_n 3, 1) := by decide +kernel
theorem dL_peg_7 : decode cL_peg 7 = .ok (.iload 4, 2) := by decide +kernel
theorem dL_peg_9 : decode cL_peg 9 = .ok (.invokevirtual 23, 3) := by decide +kernel
theorem dL_peg_12 : decode cL_peg 12 = .ok (.i2l, 1) := by decide +kernel
theorem dL_peg_13 : decode cL_peg 13 = .ok (.lastore, 1) := by decide +kernel
theorem dL_peg_14 : decode cL_peg 14 = .ok (.goto 15, 3) := by decide +kernel
theorem dL_peg_17 : decode cL_peg 17 = .ok (.astore 6, 2) := by decide +kernel
theorem dL_peg_19 : decode cL_peg 19 = .ok (.iconst 1, 1) := by decide +kernel
theorem dL_peg_20 : decode cL_peg 20 = .ok (.ireturn, 1) := by decide +kernel
theorem dL_peg_21 : decode cL_peg 21 = .ok (.astore 6, 2) := by decide +kernel
theorem dL_peg_23 : decode cL_peg 23 = .ok (.iconst 2, 1) := by decide +kernel
theorem dL_peg_24 : decode cL_peg 24 = .ok (.ireturn, 1) := by decide +kernel
theorem dL_peg_25 : decode cL_peg 25 = .ok (.astore 6, 2) := by decide +kernel
theorem dL_peg_27 : decode cL_peg 27 = .ok (.iconst 3, 1) := by decide +kernel
theorem dL_peg_28 : decode cL_peg 28 = .ok (.ireturn, 1) := by decide +kernel
theorem dL_peg_29 : decode cL_peg 29 = .ok (.iconst 0, 1) := by decide +kernel
theorem dL_peg_30 : decode cL_peg 30 = .ok (.ireturn, 1) := by decide +kernel
theorem dL_witness_0 : decode cL_witness 0 = .ok (.aload 4, 2) := by decide +kernel
theorem dL_witness_2 : decode cL_witness 2 = .ok (.iconst 0, 1) := by decide +kernel
theorem dL_witness_3 : decode cL_witness 3 = .ok (.aload_n 0, 1) := by decide +kernel
theorem dL_witness_4 : decode cL_witness 4 = .ok (.iload_n 1, 1) := by decide +kernel
theorem dL_witness_5 : decode cL_witness 5 = .ok (.iload_n 2, 1) := by decide +kernel
theorem dL_witness_6 : decode cL_witness 6 = .ok (.iload_n 3, 1) := by decide +kernel
theorem dL_witness_7 : decode cL_witness 7 = .ok (.invokevirtual 27, 3) := by decide +kernel
theorem dL_witness_10 : decode cL_witness 10 = .ok (.i2l, 1) := by decide +kernel
theorem dL_witness_11 : decode cL_witness 11 = .ok (.lastore, 1) := by decide +kernel
theorem dL_witness_12 : decode cL_witness 12 = .ok (.goto 15, 3) := by decide +kernel
theorem dL_witness_15 : decode cL_witness 15 = .ok (.astore 5, 2) := by decide +kernel
theorem dL_witness_17 : decode cL_witness 17 = .ok (.iconst 1, 1) := by decide +kernel
theorem dL_witness_18 : decode cL_witness 18 = .ok (.ireturn, 1) := by decide +kernel
theorem dL_witness_19 : decode cL_witness 19 = .ok (.astore 5, 2) := by decide +kernel
theorem dL_witness_21 : decode cL_witness 21 = .ok (.iconst 2, 1) := by decide +kernel
theorem dL_witness_22 : decode cL_witness 22 = .ok (.ireturn, 1) := by decide +kernel
theorem dL_witness_23 : decode cL_witness 23 = .ok (.astore 5, 2) := by decide +kernel
theorem dL_witness_25 : decode cL_witness 25 = .ok (.iconst 3, 1) := by decide +kernel
theorem dL_witness_26 : decode cL_witness 26 = .ok (.ireturn, 1) := by decide +kernel
theorem dL_witness_27 : decode cL_witness 27 = .ok (.iconst 0, 1) := by decide +kernel
theorem dL_witness_28 : decode cL_witness 28 = .ok (.ireturn, 1) := by decide +kernel
theorem dL_partner_0 : decode cL_partner 0 = .ok (.aload 4, 2) := by decide +kernel
theorem dL_partner_2 : decode cL_partner 2 = .ok (.iconst 0, 1) := by decide +kernel
theorem dL_partner_3 : decode cL_partner 3 = .ok (.aload_n 0, 1) := by decide +kernel
theorem dL_partner_4 : decode cL_partner 4 = .ok (.iload_n 1, 1) := by decide +kernel
theorem dL_partner_5 : decode cL_partner 5 = .ok (.iload_n 2, 1) := by decide +kernel
theorem dL_partner_6 : decode cL_partner 6 = .ok (.iload_n 3, 1) := by decide +kernel
theorem dL_partner_7 : decode cL_partner 7 = .ok (.invokevirtual 31, 3) := by decide +kernel
theorem dL_partner_10 : decode cL_partner 10 = .ok (.i2l, 1) := by decide +kernel
theorem dL_partner_11 : decode cL_partner 11 = .ok (.lastore, 1) := by decide +kernel
theorem dL_partner_12 : decode cL_partner 12 = .ok (.goto 15, 3) := by decide +kernel
theorem dL_partner_15 : decode cL_partner 15 = .ok (.astore 5, 2) := by decide +kernel
theorem dL_partner_17 : decode cL_partner 17 = .ok (.iconst 1, 1) := by decide +kernel
theorem dL_partner_18 : decode cL_partner 18 = .ok (.ireturn, 1) := by decide +kernel
theorem dL_partner_19 : decode cL_partner 19 = .ok (.astore 5, 2) := by decide +kernel
theorem dL_partner_21 : decode cL_partner 21 = .ok (.iconst 2, 1) := by decide +kernel
theorem dL_partner_22 : decode cL_partner 22 = .ok (.ireturn, 1) := by decide +kernel
theorem dL_partner_23 : decode cL_partner 23 = .ok (.astore 5, 2) := by decide +kernel
theorem dL_partner_25 : decode cL_partner 25 = .ok (.iconst 3, 1) := by decide +kernel
theorem dL_partner_26 : decode cL_partner 26 = .ok (.ireturn, 1) := by decide +kernel
theorem dL_partner_27 : decode cL_partner 27 = .ok (.iconst 0, 1) := by decide +kernel
theorem dL_partner_28 : decode cL_partner 28 = .ok (.ireturn, 1) := by decide +kernel
theorem dL_dig_0 : decode cL_dig 0 = .ok (.aload 4, 2) := by decide +kernel
theorem dL_dig_2 : decode cL_dig 2 = .ok (.iconst 0, 1) := by decide +kernel
theorem dL_dig_3 : decode cL_dig 3 = .ok (.aload_n 0, 1) := by decide +kernel
theorem dL_dig_4 : decode cL_dig 4 = .ok (.iload_n 1, 1) := by decide +kernel
theorem dL_dig_5 : decode cL_dig 5 = .ok (.iload_n 2, 1) := by decide +kernel
theorem dL_dig_6 : decode cL_dig 6 = .ok (.iload_n 3, 1) := by decide +kernel
theorem dL_dig_7 : decode cL_dig 7 = .ok (.invokevirtual 34, 3) := by decide +kernel
theorem dL_dig_10 : decode cL_dig 10 = .ok (.i2l, 1) := by decide +kernel
theorem dL_dig_11 : decode cL_dig 11 = .ok (.lastore, 1) := by decide +kernel
theorem dL_dig_12 : decode cL_dig 12 = .ok (.goto 11, 3) := by decide +kernel
theorem dL_dig_15 : decode cL_dig 15 = .ok (.astore 5, 2) := by decide +kernel
theorem dL_dig_17 : decode cL_dig 17 = .ok (.iconst 1, 1) := by decide +kernel
theorem dL_dig_18 : decode cL_dig 18 = .ok (.ireturn, 1) := by decide +kernel
theorem dL_dig_19 : decode cL_dig 19 = .ok (.astore 5, 2) := by decide +kernel
theorem dL_dig_21 : decode cL_dig 21 = .ok (.iconst 2, 1) := by decide +kernel
theorem dL_dig_22 : decode cL_dig 22 = .ok (.ireturn, 1) := by decide +kernel
theorem dL_dig_23 : decode cL_dig 23 = .ok (.iconst 0, 1) := by decide +kernel
theorem dL_dig_24 : decode cL_dig 24 = .ok (.ireturn, 1) := by decide +kernel
theorem dL_sink_0 : decode cL_sink 0 = .ok (.aload 4, 2) := by decide +kernel
theorem dL_sink_2 : decode cL_sink 2 = .ok (.iconst 0, 1) := by decide +kernel
theorem dL_sink_3 : decode cL_sink 3 = .ok (.aload_n 0, 1) := by decide +kernel
theorem dL_sink_4 : decode cL_sink 4 = .ok (.iload_n 1, 1) := by decide +kernel
theorem dL_sink_5 : decode cL_sink 5 = .ok (.iload_n 2, 1) := by decide +kernel
theorem dL_sink_6 : decode cL_sink 6 = .ok (.iload_n 3, 1) := by decide +kernel
theorem dL_sink_7 : decode cL_sink 7 = .ok (.invokevirtual 37, 3) := by decide +kernel
theorem dL_sink_10 : decode cL_sink 10 = .ok (.i2l, 1) := by decide +kernel
theorem dL_sink_11 : decode cL_sink 11 = .ok (.lastore, 1) := by decide +kernel
theorem dL_sink_12 : decode cL_sink 12 = .ok (.goto 11, 3) := by decide +kernel
theorem dL_sink_15 : decode cL_sink 15 = .ok (.astore 5, 2) := by decide +kernel
theorem dL_sink_17 : decode cL_sink 17 = .ok (.iconst 1, 1) := by decide +kernel
theorem dL_sink_18 : decode cL_sink 18 = .ok (.ireturn, 1) := by decide +kernel
theorem dL_sink_19 : decode cL_sink 19 = .ok (.astore 5, 2) := by decide +kernel
theorem dL_sink_21 : decode cL_sink 21 = .ok (.iconst 2, 1) := by decide +kernel
theorem dL_sink_22 : decode cL_sink 22 = .ok (.ireturn, 1) := by decide +kernel
theorem dL_sink_23 : decode cL_sink 23 = .ok (.iconst 0, 1) := by decide +kernel
theorem dL_sink_24 : decode cL_sink 24 = .ok (.ireturn, 1) := by decide +kernel
theorem dL_prop_0 : decode cL_prop 0 = .ok (.aload_n 0, 1) := by decide +kernel
theorem dL_prop_1 : decode cL_prop 1 = .ok (.iload_n 1, 1) := by decide +kernel
theorem dL_prop_2 : decode cL_prop 2 = .ok (.iload_n 2, 1) := by decide +kernel
theorem dL_prop_3 : decode cL_prop 3 = .ok (.iload_n 3, 1) := by decide +kernel
theorem dL_prop_4 : decode cL_prop 4 = .ok (.invokevirtual 40, 3) := by decide +kernel
theorem dL_prop_7 : decode cL_prop 7 = .ok (.goto 11, 3) := by decide +kernel
theorem dL_prop_10 : decode cL_prop 10 = .ok (.astore 4, 2) := by decide +kernel
theorem dL_prop_12 : decode cL_prop 12 = .ok (.iconst 1, 1) := by decide +kernel
theorem dL_prop_13 : decode cL_prop 13 = .ok (.ireturn, 1) := by decide +kernel
theorem dL_prop_14 : decode cL_prop 14 = .ok (.astore 4, 2) := by decide +kernel
theorem dL_prop_16 : decode cL_prop 16 = .ok (.iconst 2, 1) := by decide +kernel
theorem dL_prop_17 : decode cL_prop 17 = .ok (.ireturn, 1) := by decide +kernel
theorem dL_prop_18 : decode cL_prop 18 = .ok (.iconst 0, 1) := by decide +kernel
theorem dL_prop_19 : decode cL_prop 19 = .ok (.ireturn, 1) := by decide +kernel
theorem dL_trap_0 : decode cL_trap 0 = .ok (.aload 4, 2) := by decide +kernel
theorem dL_trap_2 : decode cL_trap 2 = .ok (.iconst 0, 1) := by decide +kernel
theorem dL_trap_3 : decode cL_trap 3 = .ok (.aload_n 0, 1) := by decide +kernel
theorem dL_trap_4 : decode cL_trap 4 = .ok (.iload_n 1, 1) := by decide +kernel
theorem dL_trap_5 : decode cL_trap 5 = .ok (.iload_n 2, 1) := by decide +kernel
theorem dL_trap_6 : decode cL_trap 6 = .ok (.iload_n 3, 1) := by decide +kernel
theorem dL_trap_7 : decode cL_trap 7 = .ok (.invokevirtual 43, 3) := by decide +kernel
theorem dL_trap_10 : decode cL_trap 10 = .ok (.i2l, 1) := by decide +kernel
theorem dL_trap_11 : decode cL_trap 11 = .ok (.lastore, 1) := by decide +kernel
theorem dL_trap_12 : decode cL_trap 12 = .ok (.goto 11, 3) := by decide +kernel
theorem dL_trap_15 : decode cL_trap 15 = .ok (.astore 5, 2) := by decide +kernel
theorem dL_trap_17 : decode cL_trap 17 = .ok (.iconst 1, 1) := by decide +kernel
theorem dL_trap_18 : decode cL_trap 18 = .ok (.ireturn, 1) := by decide +kernel
theorem dL_trap_19 : decode cL_trap 19 = .ok (.astore 5, 2) := by decide +kernel
theorem dL_trap_21 : decode cL_trap 21 = .ok (.iconst 2, 1) := by decide +kernel
theorem dL_trap_22 : decode cL_trap 22 = .ok (.ireturn, 1) := by decide +kernel
theorem dL_trap_23 : decode cL_trap 23 = .ok (.iconst 0, 1) := by decide +kernel
theorem dL_trap_24 : decode cL_trap 24 = .ok (.ireturn, 1) := by decide +kernel
theorem dL_rat_0 : decode cL_rat 0 = .ok (.aload_n 3, 1) := by decide +kernel
theorem dL_rat_1 : decode cL_rat 1 = .ok (.iconst 0, 1) := by decide +kernel
theorem dL_rat_2 : decode cL_rat 2 = .ok (.aload_n 0, 1) := by decide +kernel
theorem dL_rat_3 : decode cL_rat 3 = .ok (.iload_n 1, 1) := by decide +kernel
theorem dL_rat_4 : decode cL_rat 4 = .ok (.iload_n 2, 1) := by decide +kernel
theorem dL_rat_5 : decode cL_rat 5 = .ok (.invokevirtual 46, 3) := by decide +kernel
theorem dL_rat_8 : decode cL_rat 8 = .ok (.i2l, 1) := by decide +kernel
theorem dL_rat_9 : decode cL_rat 9 = .ok (.lastore, 1) := by decide +kernel
theorem dL_rat_10 : decode cL_rat 10 = .ok (.goto 11, 3) := by decide +kernel
theorem dL_rat_13 : decode cL_rat 13 = .ok (.astore 4, 2) := by decide +kernel
theorem dL_rat_15 : decode cL_rat 15 = .ok (.iconst 1, 1) := by decide +kernel
theorem dL_rat_16 : decode cL_rat 16 = .ok (.ireturn, 1) := by decide +kernel
theorem dL_rat_17 : decode cL_rat 17 = .ok (.astore 4, 2) := by decide +kernel
theorem dL_rat_19 : decode cL_rat 19 = .ok (.iconst 2, 1) := by decide +kernel
theorem dL_rat_20 : decode cL_rat 20 = .ok (.ireturn, 1) := by decide +kernel
theorem dL_rat_21 : decode cL_rat 21 = .ok (.iconst 0, 1) := by decide +kernel
theorem dL_rat_22 : decode cL_rat 22 = .ok (.ireturn, 1) := by decide +kernel
theorem dL_divide_0 : decode cL_divide 0 = .ok (.aload_n 2, 1) := by decide +kernel
theorem dL_divide_1 : decode cL_divide 1 = .ok (.iconst 0, 1) := by decide +kernel
theorem dL_divide_2 : decode cL_divide 2 = .ok (.aload_n 0, 1) := by decide +kernel
theorem dL_divide_3 : decode cL_divide 3 = .ok (.iload_n 1, 1) := by decide +kernel
theorem dL_divide_4 : decode cL_divide 4 = .ok (.invokevirtual 50, 3) := by decide +kernel
theorem dL_divide_7 : decode cL_divide 7 = .ok (.i2l, 1) := by decide +kernel
theorem dL_divide_8 : decode cL_divide 8 = .ok (.lastore, 1) := by decide +kernel
theorem dL_divide_9 : decode cL_divide 9 = .ok (.goto 9, 3) := by decide +kernel
theorem dL_divide_12 : decode cL_divide 12 = .ok (.astore_n 3, 1) := by decide +kernel
theorem dL_divide_13 : decode cL_divide 13 = .ok (.iconst 1, 1) := by decide +kernel
theorem dL_divide_14 : decode cL_divide 14 = .ok (.ireturn, 1) := by decide +kernel
theorem dL_divide_15 : decode cL_divide 15 = .ok (.astore_n 3, 1) := by decide +kernel
theorem dL_divide_16 : decode cL_divide 16 = .ok (.iconst 2, 1) := by decide +kernel
theorem dL_divide_17 : decode cL_divide 17 = .ok (.ireturn, 1) := by decide +kernel
theorem dL_divide_18 : decode cL_divide 18 = .ok (.iconst 0, 1) := by decide +kernel
theorem dL_divide_19 : decode cL_divide 19 = .ok (.ireturn, 1) := by decide +kernel
theorem dL_rub_0 : decode cL_rub 0 = .ok (.aload_n 2, 1) := by decide +kernel
theorem dL_rub_1 : decode cL_rub 1 = .ok (.iconst 0, 1) := by decide +kernel
theorem dL_rub_2 : decode cL_rub 2 = .ok (.aload_n 0, 1) := by decide +kernel
theorem dL_rub_3 : decode cL_rub 3 = .ok (.iload_n 1, 1) := by decide +kernel
theorem dL_rub_4 : decode cL_rub 4 = .ok (.invokevirtual 53, 3) := by decide +kernel
theorem dL_rub_7 : decode cL_rub 7 = .ok (.i2l, 1) := by decide +kernel
theorem dL_rub_8 : decode cL_rub 8 = .ok (.lastore, 1) := by decide +kernel
theorem dL_rub_9 : decode cL_rub 9 = .ok (.goto 9, 3) := by decide +kernel
theorem dL_rub_12 : decode cL_rub 12 = .ok (.astore_n 3, 1) := by decide +kernel
theorem dL_rub_13 : decode cL_rub 13 = .ok (.iconst 1, 1) := by decide +kernel
theorem dL_rub_14 : decode cL_rub 14 = .ok (.ireturn, 1) := by decide +kernel
theorem dL_rub_15 : decode cL_rub 15 = .ok (.astore_n 3, 1) := by decide +kernel
theorem dL_rub_16 : decode cL_rub 16 = .ok (.iconst 2, 1) := by decide +kernel
theorem dL_rub_17 : decode cL_rub 17 = .ok (.ireturn, 1) := by decide +kernel
theorem dL_rub_18 : decode cL_rub 18 = .ok (.iconst 0, 1) := by decide +kernel
theorem dL_rub_19 : decode cL_rub 19 = .ok (.ireturn, 1) := by decide +kernel
theorem dL_bid_0 : decode cL_bid 0 = .ok (.aload 4, 2) := by decide +kernel
theorem dL_bid_2 : decode cL_bid 2 = .ok (.iconst 0, 1) := by decide +kernel
theorem dL_bid_3 : decode cL_bid 3 = .ok (.aload_n 0, 1) := by decide +kernel
theorem dL_bid_4 : decode cL_bid 4 = .ok (.iload_n 1, 1) := by decide +kernel
theorem dL_bid_5 : decode cL_bid 5 = .ok (.iload_n 2, 1) := by decide +kernel
theorem dL_bid_6 : decode cL_bid 6 = .ok (.iload_n 3, 1) := by decide +kernel
theorem dL_bid_7 : decode cL_bid 7 = .ok (.invokevirtual 56, 3) := by decide +kernel
theorem dL_bid_10 : decode cL_bid 10 = .ok (.i2l, 1) := by decide +kernel
theorem dL_bid_11 : decode cL_bid 11 = .ok (.lastore, 1) := by decide +kernel
theorem dL_bid_12 : decode cL_bid 12 = .ok (.goto 15, 3) := by decide +kernel
theorem dL_bid_15 : decode cL_bid 15 = .ok (.astore 5, 2) := by decide +kernel
theorem dL_bid_17 : decode cL_bid 17 = .ok (.iconst 1, 1) := by decide +kernel
theorem dL_bid_18 : decode cL_bid 18 = .ok (.ireturn, 1) := by decide +kernel
theorem dL_bid_19 : decode cL_bid 19 = .ok (.astore 5, 2) := by decide +kernel
theorem dL_bid_21 : decode cL_bid 21 = .ok (.iconst 2, 1) := by decide +kernel
theorem dL_bid_22 : decode cL_bid 22 = .ok (.ireturn, 1) := by decide +kernel
theorem dL_bid_23 : decode cL_bid 23 = .ok (.astore 5, 2) := by decide +kernel
theorem dL_bid_25 : decode cL_bid 25 = .ok (.iconst 3, 1) := by decide +kernel
theorem dL_bid_26 : decode cL_bid 26 = .ok (.ireturn, 1) := by decide +kernel
theorem dL_bid_27 : decode cL_bid 27 = .ok (.iconst 0, 1) := by decide +kernel
theorem dL_bid_28 : decode cL_bid 28 = .ok (.ireturn, 1) := by decide +kernel
theorem dL_sell_0 : decode cL_sell 0 = .ok (.aload_n 2, 1) := by decide +kernel
theorem dL_sell_1 : decode cL_sell 1 = .ok (.iconst 0, 1) := by decide +kernel
theorem dL_sell_2 : decode cL_sell 2 = .ok (.aload_n 0, 1) := by decide +kernel
theorem dL_sell_3 : decode cL_sell 3 = .ok (.iload_n 1, 1) := by decide +kernel
theorem dL_sell_4 : decode cL_sell 4 = .ok (.invokevirtual 59, 3) := by decide +kernel
theorem dL_sell_7 : decode cL_sell 7 = .ok (.i2l, 1) := by decide +kernel
theorem dL_sell_8 : decode cL_sell 8 = .ok (.lastore, 1) := by decide +kernel
theorem dL_sell_9 : decode cL_sell 9 = .ok (.goto 9, 3) := by decide +kernel
theorem dL_sell_12 : decode cL_sell 12 = .ok (.astore_n 3, 1) := by decide +kernel
theorem dL_sell_13 : decode cL_sell 13 = .ok (.iconst 1, 1) := by decide +kernel
theorem dL_sell_14 : decode cL_sell 14 = .ok (.ireturn, 1) := by decide +kernel
theorem dL_sell_15 : decode cL_sell 15 = .ok (.astore_n 3, 1) := by decide +kernel
theorem dL_sell_16 : decode cL_sell 16 = .ok (.iconst 2, 1) := by decide +kernel
theorem dL_sell_17 : decode cL_sell 17 = .ok (.ireturn, 1) := by decide +kernel
theorem dL_sell_18 : decode cL_sell 18 = .ok (.iconst 0, 1) := by decide +kernel
theorem dL_sell_19 : decode cL_sell 19 = .ok (.ireturn, 1) := by decide +kernel
theorem dL_bore_0 : decode cL_bore 0 = .ok (.aload_n 2, 1) := by decide +kernel
theorem dL_bore_1 : decode cL_bore 1 = .ok (.iconst 0, 1) := by decide +kernel
theorem dL_bore_2 : decode cL_bore 2 = .ok (.aload_n 0, 1) := by decide +kernel
theorem dL_bore_3 : decode cL_bore 3 = .ok (.iload_n 1, 1) := by decide +kernel
theorem dL_bore_4 : decode cL_bore 4 = .ok (.invokevirtual 62, 3) := by decide +kernel
theorem dL_bore_7 : decode cL_bore 7 = .ok (.i2l, 1) := by decide +kernel
theorem dL_bore_8 : decode cL_bore 8 = .ok (.lastore, 1) := by decide +kernel
theorem dL_bore_9 : decode cL_bore 9 = .ok (.goto 6, 3) := by decide +kernel
theorem dL_bore_12 : decode cL_bore 12 = .ok (.astore_n 3, 1) := by decide +kernel
theorem dL_bore_13 : decode cL_bore 13 = .ok (.iconst 1, 1) := by decide +kernel
theorem dL_bore_14 : decode cL_bore 14 = .ok (.ireturn, 1) := by decide +kernel
theorem dL_bore_15 : decode cL_bore 15 = .ok (.iconst 0, 1) := by decide +kernel
theorem dL_bore_16 : decode cL_bore 16 = .ok (.ireturn, 1) := by decide +kernel
theorem dL_ofCell_0 : decode cL_ofCell 0 = .ok (.aload_n 3, 1) := by decide +kernel
theorem dL_ofCell_1 : decode cL_ofCell 1 = .ok (.iconst 0, 1) := by decide +kernel
theorem dL_ofCell_2 : decode cL_ofCell 2 = .ok (.aload_n 0, 1) := by decide +kernel
theorem dL_ofCell_3 : decode cL_ofCell 3 = .ok (.iload_n 1, 1) := by decide +kernel
theorem dL_ofCell_4 : decode cL_ofCell 4 = .ok (.iload_n 2, 1) := by decide +kernel
theorem dL_ofCell_5 : decode cL_ofCell 5 = .ok (.invokevirtual 65, 3) := by decide +kernel
theorem dL_ofCell_8 : decode cL_ofCell 8 = .ok (.i2l, 1) := by decide +kernel
theorem dL_ofCell_9 : decode cL_ofCell 9 = .ok (.lastore, 1) := by decide +kernel
theorem dL_ofCell_10 : decode cL_ofCell 10 = .ok (.goto 11, 3) := by decide +kernel
theorem dL_ofCell_13 : decode cL_ofCell 13 = .ok (.astore 4, 2) := by decide +kernel
theorem dL_ofCell_15 : decode cL_ofCell 15 = .ok (.iconst 1, 1) := by decide +kernel
theorem dL_ofCell_16 : decode cL_ofCell 16 = .ok (.ireturn, 1) := by decide +kernel
theorem dL_ofCell_17 : decode cL_ofCell 17 = .ok (.astore 4, 2) := by decide +kernel
theorem dL_ofCell_19 : decode cL_ofCell 19 = .ok (.iconst 2, 1) := by decide +kernel
theorem dL_ofCell_20 : decode cL_ofCell 20 = .ok (.ireturn, 1) := by decide +kernel
theorem dL_ofCell_21 : decode cL_ofCell 21 = .ok (.iconst 0, 1) := by decide +kernel
theorem dL_ofCell_22 : decode cL_ofCell 22 = .ok (.ireturn, 1) := by decide +kernel
theorem dL_ofClaim_0 : decode cL_ofClaim 0 = .ok (.aload_n 3, 1) := by decide +kernel
theorem dL_ofClaim_1 : decode cL_ofClaim 1 = .ok (.iconst 0, 1) := by decide +kernel
theorem dL_ofClaim_2 : decode cL_ofClaim 2 = .ok (.aload_n 0, 1) := by decide +kernel
theorem dL_ofClaim_3 : decode cL_ofClaim 3 = .ok (.iload_n 1, 1) := by decide +kernel
theorem dL_ofClaim_4 : decode cL_ofClaim 4 = .ok (.iload_n 2, 1) := by decide +kernel
theorem dL_ofClaim_5 : decode cL_ofClaim 5 = .ok (.invokevirtual 68, 3) := by decide +kernel
theorem dL_ofClaim_8 : decode cL_ofClaim 8 = .ok (.i2l, 1) := by decide +kernel
theorem dL_ofClaim_9 : decode cL_ofClaim 9 = .ok (.lastore, 1) := by decide +kernel
theorem dL_ofClaim_10 : decode cL_ofClaim 10 = .ok (.goto 11, 3) := by decide +kernel
theorem dL_ofClaim_13 : decode cL_ofClaim 13 = .ok (.astore 4, 2) := by decide +kernel
theorem dL_ofClaim_15 : decode cL_ofClaim 15 = .ok (.iconst 1, 1) := by decide +kernel
theorem dL_ofClaim_16 : decode cL_ofClaim 16 = .ok (.ireturn, 1) := by decide +kernel
theorem dL_ofClaim_17 : decode cL_ofClaim 17 = .ok (.astore 4, 2) := by decide +kernel
theorem dL_ofClaim_19 : decode cL_ofClaim 19 = .ok (.iconst 2, 1) := by decide +kernel
theorem dL_ofClaim_20 : decode cL_ofClaim 20 = .ok (.ireturn, 1) := by decide +kernel
theorem dL_ofClaim_21 : decode cL_ofClaim 21 = .ok (.iconst 0, 1) := by decide +kernel
theorem dL_ofClaim_22 : decode cL_ofClaim 22 = .ok (.ireturn, 1) := by decide +kernel
theorem dL_share_0 : decode cL_share 0 = .ok (.aload_n 3, 1) := by decide +kernel
theorem dL_share_1 : decode cL_share 1 = .ok (.iconst 0, 1) := by decide +kernel
theorem dL_share_2 : decode cL_share 2 = .ok (.aload_n 0, 1) := by decide +kernel
theorem dL_share_3 : decode cL_share 3 = .ok (.iload_n 1, 1) := by decide +kernel
theorem dL_share_4 : decode cL_share 4 = .ok (.iload_n 2, 1) := by decide +kernel
theorem dL_share_5 : decode cL_share 5 = .ok (.invokevirtual 71, 3) := by decide +kernel
theorem dL_share_8 : decode cL_share 8 = .ok (.i2l, 1) := by decide +kernel
theorem dL_share_9 : decode cL_share 9 = .ok (.lastore, 1) := by decide +kernel
theorem dL_share_10 : decode cL_share 10 = .ok (.goto 7, 3) := by decide +kernel
theorem dL_share_13 : decode cL_share 13 = .ok (.astore 4, 2) := by decide +kernel
theorem dL_share_15 : decode cL_share 15 = .ok (.iconst 1, 1) := by decide +kernel
theorem dL_share_16 : decode cL_share 16 = .ok (.ireturn, 1) := by decide +kernel
theorem dL_share_17 : decode cL_share 17 = .ok (.iconst 0, 1) := by decide +kernel
theorem dL_share_18 : decode cL_share 18 = .ok (.ireturn, 1) := by decide +kernel
theorem dL_verdict_0 : decode cL_verdict 0 = .ok (.aload_n 3, 1) := by decide +kernel
theorem dL_verdict_1 : decode cL_verdict 1 = .ok (.iconst 0, 1) := by decide +kernel
theorem dL_verdict_2 : decode cL_verdict 2 = .ok (.aload_n 0, 1) := by decide +kernel
theorem dL_verdict_3 : decode cL_verdict 3 = .ok (.iload_n 1, 1) := by decide +kernel
theorem dL_verdict_4 : decode cL_verdict 4 = .ok (.iload_n 2, 1) := by decide +kernel
theorem dL_verdict_5 : decode cL_verdict 5 = .ok (.invokevirtual 74, 3) := by decide +kernel
theorem dL_verdict_8 : decode cL_verdict 8 = .ok (.i2l, 1) := by decide +kernel
theorem dL_verdict_9 : decode cL_verdict 9 = .ok (.lastore, 1) := by decide +kernel
theorem dL_verdict_10 : decode cL_verdict 10 = .ok (.goto 11, 3) := by decide +kernel
theorem dL_verdict_13 : decode cL_verdict 13 = .ok (.astore 4, 2) := by decide +kernel
theorem dL_verdict_15 : decode cL_verdict 15 = .ok (.iconst 1, 1) := by decide +kernel
theorem dL_verdict_16 : decode cL_verdict 16 = .ok (.ireturn, 1) := by decide +kernel
theorem dL_verdict_17 : decode cL_verdict 17 = .ok (.astore 4, 2) := by decide +kernel
theorem dL_verdict_19 : decode cL_verdict 19 = .ok (.iconst 2, 1) := by decide +kernel
theorem dL_verdict_20 : decode cL_verdict 20 = .ok (.ireturn, 1) := by decide +kernel
theorem dL_verdict_21 : decode cL_verdict 21 = .ok (.iconst 0, 1) := by decide +kernel
theorem dL_verdict_22 : decode cL_verdict 22 = .ok (.ireturn, 1) := by decide +kernel
theorem dL_ofPerson_0 : decode cL_ofPerson 0 = .ok (.aload_n 3, 1) := by decide +kernel
theorem dL_ofPerson_1 : decode cL_ofPerson 1 = .ok (.iconst 0, 1) := by decide +kernel
theorem dL_ofPerson_2 : decode cL_ofPerson 2 = .ok (.aload_n 0, 1) := by decide +kernel
theorem dL_ofPerson_3 : decode cL_ofPerson 3 = .ok (.iload_n 1, 1) := by decide +kernel
theorem dL_ofPerson_4 : decode cL_ofPerson 4 = .ok (.iload_n 2, 1) := by decide +kernel
theorem dL_ofPerson_5 : decode cL_ofPerson 5 = .ok (.invokevirtual 77, 3) := by decide +kernel
theorem dL_ofPerson_8 : decode cL_ofPerson 8 = .ok (.i2l, 1) := by decide +kernel
theorem dL_ofPerson_9 : decode cL_ofPerson 9 = .ok (.lastore, 1) := by decide +kernel
theorem dL_ofPerson_10 : decode cL_ofPerson 10 = .ok (.goto 11, 3) := by decide +kernel
theorem dL_ofPerson_13 : decode cL_ofPerson 13 = .ok (.astore 4, 2) := by decide +kernel
theorem dL_ofPerson_15 : decode cL_ofPerson 15 = .ok (.iconst 1, 1) := by decide +kernel
theorem dL_ofPerson_16 : decode cL_ofPerson 16 = .ok (.ireturn, 1) := by decide +kernel
theorem dL_ofPerson_17 : decode cL_ofPerson 17 = .ok (.astore 4, 2) := by decide +kernel
theorem dL_ofPerson_19 : decode cL_ofPerson 19 = .ok (.iconst 2, 1) := by decide +kernel
theorem dL_ofPerson_20 : decode cL_ofPerson 20 = .ok (.ireturn, 1) := by decide +kernel
theorem dL_ofPerson_21 : decode cL_ofPerson 21 = .ok (.iconst 0, 1) := by decide +kernel
theorem dL_ofPerson_22 : decode cL_ofPerson 22 = .ok (.ireturn, 1) := by decide +kernel
theorem dL_ofStone_0 : decode cL_ofStone 0 = .ok (.aload_n 3, 1) := by decide +kernel
theorem dL_ofStone_1 : decode cL_ofStone 1 = .ok (.iconst 0, 1) := by decide +kernel
theorem dL_ofStone_2 : decode cL_ofStone 2 = .ok (.aload_n 0, 1) := by decide +kernel
theorem dL_ofStone_3 : decode cL_ofStone 3 = .ok (.iload_n 1, 1) := by decide +kernel
theorem dL_ofStone_4 : decode cL_ofStone 4 = .ok (.iload_n 2, 1) := by decide +kernel
theorem dL_ofStone_5 : decode cL_ofStone 5 = .ok (.invokevirtual 80, 3) := by decide +kernel
theorem dL_ofStone_8 : decode cL_ofStone 8 = .ok (.i2l, 1) := by decide +kernel
theorem dL_ofStone_9 : decode cL_ofStone 9 = .ok (.lastore, 1) := by decide +kernel
theorem dL_ofStone_10 : decode cL_ofStone 10 = .ok (.goto 11, 3) := by decide +kernel
theorem dL_ofStone_13 : decode cL_ofStone 13 = .ok (.astore 4, 2) := by decide +kernel
theorem dL_ofStone_15 : decode cL_ofStone 15 = .ok (.iconst 1, 1) := by decide +kernel
theorem dL_ofStone_16 : decode cL_ofStone 16 = .ok (.ireturn, 1) := by decide +kernel
theorem dL_ofStone_17 : decode cL_ofStone 17 = .ok (.astore 4, 2) := by decide +kernel
theorem dL_ofStone_19 : decode cL_ofStone 19 = .ok (.iconst 2, 1) := by decide +kernel
theorem dL_ofStone_20 : decode cL_ofStone 20 = .ok (.ireturn, 1) := by decide +kernel
theorem dL_ofStone_21 : decode cL_ofStone 21 = .ok (.iconst 0, 1) := by decide +kernel
theorem dL_ofStone_22 : decode cL_ofStone 22 = .ok (.ireturn, 1) := by decide +kernel
theorem dL_purse_0 : decode cL_purse 0 = .ok (.aload_n 2, 1) := by decide +kernel
theorem dL_purse_1 : decode cL_purse 1 = .ok (.iconst 0, 1) := by decide +kernel
theorem dL_purse_2 : decode cL_purse 2 = .ok (.aload_n 0, 1) := by decide +kernel
theorem dL_purse_3 : decode cL_purse 3 = .ok (.iload_n 1, 1) := by decide +kernel
theorem dL_purse_4 : decode cL_purse 4 = .ok (.invokevirtual 83, 3) := by decide +kernel
theorem dL_purse_7 : decode cL_purse 7 = .ok (.i2l, 1) := by decide +kernel
theorem dL_purse_8 : decode cL_purse 8 = .ok (.lastore, 1) := by decide +kernel
theorem dL_purse_9 : decode cL_purse 9 = .ok (.goto 6, 3) := by decide +kernel
theorem dL_purse_12 : decode cL_purse 12 = .ok (.astore_n 3, 1) := by decide +kernel
theorem dL_purse_13 : decode cL_purse 13 = .ok (.iconst 1, 1) := by decide +kernel
theorem dL_purse_14 : decode cL_purse 14 = .ok (.ireturn, 1) := by decide +kernel
theorem dL_purse_15 : decode cL_purse 15 = .ok (.iconst 0, 1) := by decide +kernel
theorem dL_purse_16 : decode cL_purse 16 = .ok (.ireturn, 1) := by decide +kernel
theorem dL_carats_0 : decode cL_carats 0 = .ok (.aload_n 2, 1) := by decide +kernel
theorem dL_carats_1 : decode cL_carats 1 = .ok (.iconst 0, 1) := by decide +kernel
theorem dL_carats_2 : decode cL_carats 2 = .ok (.aload_n 0, 1) := by decide +kernel
theorem dL_carats_3 : decode cL_carats 3 = .ok (.iload_n 1, 1) := by decide +kernel
theorem dL_carats_4 : decode cL_carats 4 = .ok (.invokevirtual 86, 3) := by decide +kernel
theorem dL_carats_7 : decode cL_carats 7 = .ok (.i2l, 1) := by decide +kernel
theorem dL_carats_8 : decode cL_carats 8 = .ok (.lastore, 1) := by decide +kernel
theorem dL_carats_9 : decode cL_carats 9 = .ok (.goto 6, 3) := by decide +kernel
theorem dL_carats_12 : decode cL_carats 12 = .ok (.astore_n 3, 1) := by decide +kernel
theorem dL_carats_13 : decode cL_carats 13 = .ok (.iconst 1, 1) := by decide +kernel
theorem dL_carats_14 : decode cL_carats 14 = .ok (.ireturn, 1) := by decide +kernel
theorem dL_carats_15 : decode cL_carats 15 = .ok (.iconst 0, 1) := by decide +kernel
theorem dL_carats_16 : decode cL_carats 16 = .ok (.ireturn, 1) := by decide +kernel
theorem dL_plan_0 : decode cL_plan 0 = .ok (.aload_n 3, 1) := by decide +kernel
theorem dL_plan_1 : decode cL_plan 1 = .ok (.iconst 0, 1) := by decide +kernel
theorem dL_plan_2 : decode cL_plan 2 = .ok (.aload_n 0, 1) := by decide +kernel
theorem dL_plan_3 : decode cL_plan 3 = .ok (.iload_n 1, 1) := by decide +kernel
theorem dL_plan_4 : decode cL_plan 4 = .ok (.iload_n 2, 1) := by decide +kernel
theorem dL_plan_5 : decode cL_plan 5 = .ok (.invokevirtual 89, 3) := by decide +kernel
theorem dL_plan_8 : decode cL_plan 8 = .ok (.i2l, 1) := by decide +kernel
theorem dL_plan_9 : decode cL_plan 9 = .ok (.lastore, 1) := by decide +kernel
theorem dL_plan_10 : decode cL_plan 10 = .ok (.goto 11, 3) := by decide +kernel
theorem dL_plan_13 : decode cL_plan 13 = .ok (.astore 4, 2) := by decide +kernel
theorem dL_plan_15 : decode cL_plan 15 = .ok (.iconst 1, 1) := by decide +kernel
theorem dL_plan_16 : decode cL_plan 16 = .ok (.ireturn, 1) := by decide +kernel
theorem dL_plan_17 : decode cL_plan 17 = .ok (.astore 4, 2) := by decide +kernel
theorem dL_plan_19 : decode cL_plan 19 = .ok (.iconst 2, 1) := by decide +kernel
theorem dL_plan_20 : decode cL_plan 20 = .ok (.ireturn, 1) := by decide +kernel
theorem dL_plan_21 : decode cL_plan 21 = .ok (.iconst 0, 1) := by decide +kernel
theorem dL_plan_22 : decode cL_plan 22 = .ok (.ireturn, 1) := by decide +kernel
theorem dL_planAnew_0 : decode cL_planAnew 0 = .ok (.aload_n 3, 1) := by decide +kernel
theorem dL_planAnew_1 : decode cL_planAnew 1 = .ok (.iconst 0, 1) := by decide +kernel
theorem dL_planAnew_2 : decode cL_planAnew 2 = .ok (.aload_n 0, 1) := by decide +kernel
theorem dL_planAnew_3 : decode cL_planAnew 3 = .ok (.iload_n 1, 1) := by decide +kernel
theorem dL_planAnew_4 : decode cL_planAnew 4 = .ok (.iload_n 2, 1) := by decide +kernel
theorem dL_planAnew_5 : decode cL_planAnew 5 = .ok (.invokevirtual 92, 3) := by decide +kernel
theorem dL_planAnew_8 : decode cL_planAnew 8 = .ok (.i2l, 1) := by decide +kernel
theorem dL_planAnew_9 : decode cL_planAnew 9 = .ok (.lastore, 1) := by decide +kernel
theorem dL_planAnew_10 : decode cL_planAnew 10 = .ok (.goto 11, 3) := by decide +kernel
theorem dL_planAnew_13 : decode cL_planAnew 13 = .ok (.astore 4, 2) := by decide +kernel
theorem dL_planAnew_15 : decode cL_planAnew 15 = .ok (.iconst 1, 1) := by decide +kernel
theorem dL_planAnew_16 : decode cL_planAnew 16 = .ok (.ireturn, 1) := by decide +kernel
theorem dL_planAnew_17 : decode cL_planAnew 17 = .ok (.astore 4, 2) := by decide +kernel
theorem dL_planAnew_19 : decode cL_planAnew 19 = .ok (.iconst 2, 1) := by decide +kernel
theorem dL_planAnew_20 : decode cL_planAnew 20 = .ok (.ireturn, 1) := by decide +kernel
theorem dL_planAnew_21 : decode cL_planAnew 21 = .ok (.iconst 0, 1) := by decide +kernel
theorem dL_planAnew_22 : decode cL_planAnew 22 = .ok (.ireturn, 1) := by decide +kernel
theorem dL_law_0 : decode cL_law 0 = .ok (.new 8, 3) := by decide +kernel
theorem dL_law_3 : decode cL_law 3 = .ok (.dup, 1) := by decide +kernel
theorem dL_law_4 : decode cL_law 4 = .ok (.invokespecial 95, 3) := by decide +kernel
theorem dL_law_7 : decode cL_law 7 = .ok (.astore_n 1, 1) := by decide +kernel
theorem dL_law_8 : decode cL_law 8 = .ok (.new 96, 3) := by decide +kernel
theorem dL_law_11 : decode cL_law 11 = .ok (.dup, 1) := by decide +kernel
theorem dL_law_12 : decode cL_law 12 = .ok (.invokespecial 98, 3) := by decide +kernel
theorem dL_law_15 : decode cL_law 15 = .ok (.astore_n 2, 1) := by decide +kernel
theorem dL_law_16 : decode cL_law 16 = .ok (.iconst 1, 1) := by decide +kernel
theorem dL_law_17 : decode cL_law 17 = .ok (.newarray .long, 2) := by decide +kernel
theorem dL_law_19 : decode cL_law 19 = .ok (.astore_n 3, 1) := by decide +kernel
theorem dL_law_20 : decode cL_law 20 = .ok (.iconst 0, 1) := by decide +kernel
theorem dL_law_21 : decode cL_law 21 = .ok (.istore 4, 2) := by decide +kernel
theorem dL_law_23 : decode cL_law 23 = .ok (.iload 4, 2) := by decide +kernel
theorem dL_law_25 : decode cL_law 25 = .ok (.aload_n 0, 1) := by decide +kernel
theorem dL_law_26 : decode cL_law 26 = .ok (.arraylength, 1) := by decide +kernel
theorem dL_law_27 : decode cL_law 27 = .ok (.iconst 5, 1) := by decide +kernel
theorem dL_law_28 : decode cL_law 28 = .ok (.isub, 1) := by decide +kernel
theorem dL_law_29 : decode cL_law 29 = .ok (.if_icmp .gt 1842, 3) := by decide +kernel
theorem dL_law_32 : decode cL_law 32 = .ok (.aload_n 0, 1) := by decide +kernel
theorem dL_law_33 : decode cL_law 33 = .ok (.iload 4, 2) := by decide +kernel
theorem dL_law_35 : decode cL_law 35 = .ok (.iaload, 1) := by decide +kernel
theorem dL_law_36 : decode cL_law 36 = .ok (.bipush 31, 2) := by decide +kernel
theorem dL_law_38 : decode cL_law 38 = .ok (.iand, 1) := by decide +kernel
theorem dL_law_39 : decode cL_law 39 = .ok (.tableswitch 1826 0 25 #[117, 177, 233, 325, 405, 485, 565, 645, 705, 785, 853, 909, 965, 1045, 1101, 1114, 1170, 1238, 1306, 1374, 1442, 1510, 1578, 1634, 1690, 1758], 117) := by decide +kernel
theorem dL_law_156 : decode cL_law 156 = .ok (.aload_n 1, 1) := by decide +kernel
theorem dL_law_157 : decode cL_law 157 = .ok (.aload_n 0, 1) := by decide +kernel
theorem dL_law_158 : decode cL_law 158 = .ok (.iload 4, 2) := by decide +kernel
theorem dL_law_160 : decode cL_law 160 = .ok (.iconst 1, 1) := by decide +kernel
theorem dL_law_161 : decode cL_law 161 = .ok (.iadd, 1) := by decide +kernel
theorem dL_law_162 : decode cL_law 162 = .ok (.iaload, 1) := by decide +kernel
theorem dL_law_163 : decode cL_law 163 = .ok (.aload_n 0, 1) := by decide +kernel
theorem dL_law_164 : decode cL_law 164 = .ok (.iload 4, 2) := by decide +kernel
theorem dL_law_166 : decode cL_law 166 = .ok (.iconst 2, 1) := by decide +kernel
theorem dL_law_167 : decode cL_law 167 = .ok (.iadd, 1) := by decide +kernel
theorem dL_law_168 : decode cL_law 168 = .ok (.iaload, 1) := by decide +kernel
theorem dL_law_169 : decode cL_law 169 = .ok (.aload_n 0, 1) := by decide +kernel
theorem dL_law_170 : decode cL_law 170 = .ok (.iload 4, 2) := by decide +kernel
theorem dL_law_172 : decode cL_law 172 = .ok (.iconst 3, 1) := by decide +kernel
theorem dL_law_173 : decode cL_law 173 = .ok (.iadd, 1) := by decide +kernel
theorem dL_law_174 : decode cL_law 174 = .ok (.iaload, 1) := by decide +kernel
theorem dL_law_175 : decode cL_law 175 = .ok (.invokestatic 99, 3) := by decide +kernel
theorem dL_law_178 : decode cL_law 178 = .ok (.istore 5, 2) := by decide +kernel
theorem dL_law_180 : decode cL_law 180 = .ok (.aload_n 2, 1) := by decide +kernel
theorem dL_law_181 : decode cL_law 181 = .ok (.aload_n 0, 1) := by decide +kernel
theorem dL_law_182 : decode cL_law 182 = .ok (.iload 4, 2) := by decide +kernel
theorem dL_law_184 : decode cL_law 184 = .ok (.iconst 1, 1) := by decide +kernel
theorem dL_law_185 : decode cL_law 185 = .ok (.iadd, 1) := by decide +kernel
theorem dL_law_186 : decode cL_law 186 = .ok (.iaload, 1) := by decide +kernel
theorem dL_law_187 : decode cL_law 187 = .ok (.aload_n 0, 1) := by decide +kernel
theorem dL_law_188 : decode cL_law 188 = .ok (.iload 4, 2) := by decide +kernel
theorem dL_law_190 : decode cL_law 190 = .ok (.iconst 2, 1) := by decide +kernel
theorem dL_law_191 : decode cL_law 191 = .ok (.iadd, 1) := by decide +kernel
theorem dL_law_192 : decode cL_law 192 = .ok (.iaload, 1) := by decide +kernel
theorem dL_law_193 : decode cL_law 193 = .ok (.aload_n 0, 1) := by decide +kernel
theorem dL_law_194 : decode cL_law 194 = .ok (.iload 4, 2) := by decide +kernel
theorem dL_law_196 : decode cL_law 196 = .ok (.iconst 3, 1) := by decide +kernel
theorem dL_law_197 : decode cL_law 197 = .ok (.iadd, 1) := by decide +kernel
theorem dL_law_198 : decode cL_law 198 = .ok (.iaload, 1) := by decide +kernel
theorem dL_law_199 : decode cL_law 199 = .ok (.invokevirtual 104, 3) := by decide +kernel
theorem dL_law_202 : decode cL_law 202 = .ok (.aload_n 2, 1) := by decide +kernel
theorem dL_law_203 : decode cL_law 203 = .ok (.invokevirtual 105, 3) := by decide +kernel
theorem dL_law_206 : decode cL_law 206 = .ok (.iload 5, 2) := by decide +kernel
theorem dL_law_208 : decode cL_law 208 = .ok (.if_icmp .eq 5, 3) := by decide +kernel
theorem dL_law_211 : decode cL_law 211 = .ok (.iconst 0, 1) := by decide +kernel
theorem dL_law_212 : decode cL_law 212 = .ok (.ireturn, 1) := by decide +kernel
theorem dL_law_213 : decode cL_law 213 = .ok (.goto 1652, 3) := by decide +kernel
theorem dL_law_216 : decode cL_law 216 = .ok (.aload_n 1, 1) := by decide +kernel
theorem dL_law_217 : decode cL_law 217 = .ok (.aload_n 0, 1) := by decide +kernel
theorem dL_law_218 : decode cL_law 218 = .ok (.iload 4, 2) := by decide +kernel
theorem dL_law_220 : decode cL_law 220 = .ok (.iconst 1, 1) := by decide +kernel
theorem dL_law_221 : decode cL_law 221 = .ok (.iadd, 1) := by decide +kernel
theorem dL_law_222 : decode cL_law 222 = .ok (.iaload, 1) := by decide +kernel
theorem dL_law_223 : decode cL_law 223 = .ok (.aload_n 3, 1) := by decide +kernel
theorem dL_law_224 : decode cL_law 224 = .ok (.invokestatic 109, 3) := by decide +kernel
theorem dL_law_227 : decode cL_law 227 = .ok (.istore 5, 2) := by decide +kernel
theorem dL_law_229 : decode cL_law 229 = .ok (.aload_n 2, 1) := by decide +kernel
theorem dL_law_230 : decode cL_law 230 = .ok (.aload_n 0, 1) := by decide +kernel
theorem dL_law_231 : decode cL_law 231 = .ok (.iload 4, 2) := by decide +kernel
theorem dL_law_233 : decode cL_law 233 = .ok (.iconst 1, 1) := by decide +kernel
theorem dL_law_234 : decode cL_law 234 = .ok (.iadd, 1) := by decide +kernel
theorem dL_law_235 : decode cL_law 235 = .ok (.iaload, 1) := by decide +kernel
theorem dL_law_236 : decode cL_law 236 = .ok (.invokevirtual 112, 3) := by decide +kernel
theorem dL_law_239 : decode cL_law 239 = .ok (.istore 6, 2) := by decide +kernel
theorem dL_law_241 : decode cL_law 241 = .ok (.aload_n 2, 1) := by decide +kernel
theorem dL_law_242 : decode cL_law 242 = .ok (.invokevirtual 105, 3) := by decide +kernel
theorem dL_law_245 : decode cL_law 245 = .ok (.iload 5, 2) := by decide +kernel
theorem dL_law_247 : decode cL_law 247 = .ok (.if_icmp .eq 5, 3) := by decide +kernel
theorem dL_law_250 : decode cL_law 250 = .ok (.iconst 0, 1) := by decide +kernel
theorem dL_law_251 : decode cL_law 251 = .ok (.ireturn, 1) := by decide +kernel
theorem dL_law_252 : decode cL_law 252 = .ok (.iload 5, 2) := by decide +kernel
theorem dL_law_254 : decode cL_law 254 = .ok (.ifCond .ne 15, 3) := by decide +kernel
theorem dL_law_257 : decode cL_law 257 = .ok (.aload_n 3, 1) := by decide +kernel
theorem dL_law_258 : decode cL_law 258 = .ok (.iconst 0, 1) := by decide +kernel
theorem dL_law_259 : decode cL_law 259 = .ok (.laload, 1) := by decide +kernel
theorem dL_law_260 : decode cL_law 260 = .ok (.iload 6, 2) := by decide +kernel
theorem dL_law_262 : decode cL_law 262 = .ok (.i2l, 1) := by decide +kernel
theorem dL_law_263 : decode cL_law 263 = .ok (.lcmp, 1) := by decide +kernel
theorem dL_law_264 : decode cL_law 264 = .ok (.ifCond .eq 5, 3) := by decide +kernel
theorem dL_law_267 : decode cL_law 267 = .ok (.iconst 0, 1) := by decide +kernel
theorem dL_law_268 : decode cL_law 268 = .ok (.ireturn, 1) := by decide +kernel
theorem dL_law_269 : decode cL_law 269 = .ok (.goto 1596, 3) := by decide +kernel
theorem dL_law_272 : decode cL_law 272 = .ok (.aload_n 1, 1) := by decide +kernel
theorem dL_law_273 : decode cL_law 273 = .ok (.aload_n 0, 1) := by decide +kernel
theorem dL_law_274 : decode cL_law 274 = .ok (.iload 4, 2) := by decide +kernel
theorem dL_law_276 : decode cL_law 276 = .ok (.iconst 1, 1) := by decide +kernel
theorem dL_law_277 : decode cL_law 277 = .ok (.iadd, 1) := by decide +kernel
theorem dL_law_278 : decode cL_law 278 = .ok (.iaload, 1) := by decide +kernel
theorem dL_law_279 : decode cL_law 279 = .ok (.aload_n 0, 1) := by decide +kernel
theorem dL_law_280 : decode cL_law 280 = .ok (.iload 4, 2) := by decide +kernel
theorem dL_law_282 : decode cL_law 282 = .ok (.iconst 2, 1) := by decide +kernel
theorem dL_law_283 : decode cL_law 283 = .ok (.iadd, 1) := by decide +kernel
theorem dL_law_284 : decode cL_law 284 = .ok (.iaload, 1) := by decide +kernel
theorem dL_law_285 : decode cL_law 285 = .ok (.aload_n 0, 1) := by decide +kernel
theorem dL_law_286 : decode cL_law 286 = .ok (.iload 4, 2) := by decide +kernel
theorem dL_law_288 : decode cL_law 288 = .ok (.iconst 3, 1) := by decide +kernel
theorem dL_law_289 : decode cL_law 289 = .ok (.iadd, 1) := by decide +kernel
theorem dL_law_290 : decode cL_law 290 = .ok (.iaload, 1) := by decide +kernel
theorem dL_law_291 : decode cL_law 291 = .ok (.aload_n 0, 1) := by decide +kernel
theorem dL_law_292 : decode cL_law 292 = .ok (.iload 4, 2) := by decide +kernel
theorem dL_law_294 : decode cL_law 294 = .ok (.iconst 4, 1) := by decide +kernel
theorem dL_law_295 : decode cL_law 295 = .ok (.iadd, 1) := by decide +kernel
theorem dL_law_296 : decode cL_law 296 = .ok (.iaload, 1) := by decide +kernel
theorem dL_law_297 : decode cL_law 297 = .ok (.aload_n 3, 1) := by decide +kernel
theorem dL_law_298 : decode cL_law 298 = .ok (.invokestatic 113, 3) := by decide +kernel
theorem dL_law_301 : decode cL_law 301 = .ok (.istore 5, 2) := by decide +kernel
theorem dL_law_303 : decode cL_law 303 = .ok (.aload_n 2, 1) := by decide +kernel
theorem dL_law_304 : decode cL_law 304 = .ok (.aload_n 0, 1) := by decide +kernel
theorem dL_law_305 : decode cL_law 305 = .ok (.iload 4, 2) := by decide +kernel
theorem dL_law_307 : decode cL_law 307 = .ok (.iconst 1, 1) := by decide +kernel
theorem dL_law_308 : decode cL_law 308 = .ok (.iadd, 1) := by decide +kernel
theorem dL_law_309 : decode cL_law 309 = .ok (.iaload, 1) := by decide +kernel
theorem dL_law_310 : decode cL_law 310 = .ok (.aload_n 0, 1) := by decide +kernel
theorem dL_law_311 : decode cL_law 311 = .ok (.iload 4, 2) := by decide +kernel
theorem dL_law_313 : decode cL_law 313 = .ok (.iconst 2, 1) := by decide +kernel
theorem dL_law_314 : decode cL_law 314 = .ok (.iadd, 1) := by decide +kernel
theorem dL_law_315 : decode cL_law 315 = .ok (.iaload, 1) := by decide +kernel
theorem dL_law_316 : decode cL_law 316 = .ok (.aload_n 0, 1) := by decide +kernel
theorem dL_law_317 : decode cL_law 317 = .ok (.iload 4, 2) := by decide +kernel
theorem dL_law_319 : decode cL_law 319 = .ok (.iconst 3, 1) := by decide +kernel
theorem dL_law_320 : decode cL_law 320 = .ok (.iadd, 1) := by decide +kernel
theorem dL_law_321 : decode cL_law 321 = .ok (.iaload, 1) := by decide +kernel
theorem dL_law_322 : decode cL_law 322 = .ok (.aload_n 0, 1) := by decide +kernel
theorem dL_law_323 : decode cL_law 323 = .ok (.iload 4, 2) := by decide +kernel
theorem dL_law_325 : decode cL_law 325 = .ok (.iconst 4, 1) := by decide +kernel
theorem dL_law_326 : decode cL_law 326 = .ok (.iadd, 1) := by decide +kernel
theorem dL_law_327 : decode cL_law 327 = .ok (.iaload, 1) := by decide +kernel
theorem dL_law_328 : decode cL_law 328 = .ok (.invokevirtual 116, 3) := by decide +kernel
theorem dL_law_331 : decode cL_law 331 = .ok (.istore 6, 2) := by decide +kernel
theorem dL_law_333 : decode cL_law 333 = .ok (.aload_n 2, 1) := by decide +kernel
theorem dL_law_334 : decode cL_law 334 = .ok (.invokevirtual 105, 3) := by decide +kernel
theorem dL_law_337 : decode cL_law 337 = .ok (.iload 5, 2) := by decide +kernel
theorem dL_law_339 : decode cL_law 339 = .ok (.if_icmp .eq 5, 3) := by decide +kernel
theorem dL_law_342 : decode cL_law 342 = .ok (.iconst 0, 1) := by decide +kernel
theorem dL_law_343 : decode cL_law 343 = .ok (.ireturn, 1) := by decide +kernel
theorem dL_law_344 : decode cL_law 344 = .ok (.iload 5, 2) := by decide +kernel
theorem dL_law_346 : decode cL_law 346 = .ok (.ifCond .ne 15, 3) := by decide +kernel
theorem dL_law_349 : decode cL_law 349 = .ok (.aload_n 3, 1) := by decide +kernel
theorem dL_law_350 : decode cL_law 350 = .ok (.iconst 0, 1) := by decide +kernel
theorem dL_law_351 : decode cL_law 351 = .ok (.laload, 1) := by decide +kernel
theorem dL_law_352 : decode cL_law 352 = .ok (.iload 6, 2) := by decide +kernel
theorem dL_law_354 : decode cL_law 354 = .ok (.i2l, 1) := by decide +kernel
theorem dL_law_355 : decode cL_law 355 = .ok (.lcmp, 1) := by decide +kernel
theorem dL_law_356 : decode cL_law 356 = .ok (.ifCond .eq 5, 3) := by decide +kernel
theorem dL_law_359 : decode cL_law 359 = .ok (.iconst 0, 1) := by decide +kernel
theorem dL_law_360 : decode cL_law 360 = .ok (.ireturn, 1) := by decide +kernel
theorem dL_law_361 : decode cL_law 361 = .ok (.goto 1504, 3) := by decide +kernel
theorem dL_law_364 : decode cL_law 364 = .ok (.aload_n 1, 1) := by decide +kernel
theorem dL_law_365 : decode cL_law 365 = .ok (.aload_n 0, 1) := by decide +kernel
theorem dL_law_366 : decode cL_law 366 = .ok (.iload 4, 2) := by decide +kernel
theorem dL_law_368 : decode cL_law 368 = .ok (.iconst 1, 1) := by decide +kernel
theorem dL_law_369 : decode cL_law 369 = .ok (.iadd, 1) := by decide +kernel
theorem dL_law_370 : decode cL_law 370 = .ok (.iaload, 1) := by decide +kernel
theorem dL_law_371 : decode cL_law 371 = .ok (.aload_n 0, 1) := by decide +kernel
theorem dL_law_372 : decode cL_law 372 = .ok (.iload 4, 2) := by decide +kernel
theorem dL_law_374 : decode cL_law 374 = .ok (.iconst 2, 1) := by decide +kernel
theorem dL_law_375 : decode cL_law 375 = .ok (.iadd, 1) := by decide +kernel
theorem dL_law_376 : decode cL_law 376 = .ok (.iaload, 1) := by decide +kernel
theorem dL_law_377 : decode cL_law 377 = .ok (.aload_n 0, 1) := by decide +kernel
theorem dL_law_378 : decode cL_law 378 = .ok (.iload 4, 2) := by decide +kernel
theorem dL_law_380 : decode cL_law 380 = .ok (.iconst 3, 1) := by decide +kernel
theorem dL_law_381 : decode cL_law 381 = .ok (.iadd, 1) := by decide +kernel
theorem dL_law_382 : decode cL_law 382 = .ok (.iaload, 1) := by decide +kernel
theorem dL_law_383 : decode cL_law 383 = .ok (.aload_n 3, 1) := by decide +kernel
theorem dL_law_384 : decode cL_law 384 = .ok (.invokestatic 117, 3) := by decide +kernel
theorem dL_law_387 : decode cL_law 387 = .ok (.istore 5, 2) := by decide +kernel
theorem dL_law_389 : decode cL_law 389 = .ok (.aload_n 2, 1) := by decide +kernel
theorem dL_law_390 : decode cL_law 390 = .ok (.aload_n 0, 1) := by decide +kernel
theorem dL_law_391 : decode cL_law 391 = .ok (.iload 4, 2) := by decide +kernel
theorem dL_law_393 : decode cL_law 393 = .ok (.iconst 1, 1) := by decide +kernel
theorem dL_law_394 : decode cL_law 394 = .ok (.iadd, 1) := by decide +kernel
theorem dL_law_395 : decode cL_law 395 = .ok (.iaload, 1) := by decide +kernel
theorem dL_law_396 : decode cL_law 396 = .ok (.aload_n 0, 1) := by decide +kernel
theorem dL_law_397 : decode cL_law 397 = .ok (.iload 4, 2) := by decide +kernel
theorem dL_law_399 : decode cL_law 399 = .ok (.iconst 2, 1) := by decide +kernel
theorem dL_law_400 : decode cL_law 400 = .ok (.iadd, 1) := by decide +kernel
theorem dL_law_401 : decode cL_law 401 = .ok (.iaload, 1) := by decide +kernel
theorem dL_law_402 : decode cL_law 402 = .ok (.aload_n 0, 1) := by decide +kernel
theorem dL_law_403 : decode cL_law 403 = .ok (.iload 4, 2) := by decide +kernel
theorem dL_law_405 : decode cL_law 405 = .ok (.iconst 3, 1) := by decide +kernel
theorem dL_law_406 : decode cL_law 406 = .ok (.iadd, 1) := by decide +kernel
theorem dL_law_407 : decode cL_law 407 = .ok (.iaload, 1) := by decide +kernel
theorem dL_law_408 : decode cL_law 408 = .ok (.invokevirtual 120, 3) := by decide +kernel
theorem dL_law_411 : decode cL_law 411 = .ok (.istore 6, 2) := by decide +kernel
theorem dL_law_413 : decode cL_law 413 = .ok (.aload_n 2, 1) := by decide +kernel
theorem dL_law_414 : decode cL_law 414 = .ok (.invokevirtual 105, 3) := by decide +kernel
theorem dL_law_417 : decode cL_law 417 = .ok (.iload 5, 2) := by decide +kernel
theorem dL_law_419 : decode cL_law 419 = .ok (.if_icmp .eq 5, 3) := by decide +kernel
theorem dL_law_422 : decode cL_law 422 = .ok (.iconst 0, 1) := by decide +kernel
theorem dL_law_423 : decode cL_law 423 = .ok (.ireturn, 1) := by decide +kernel
theorem dL_law_424 : decode cL_law 424 = .ok (.iload 5, 2) := by decide +kernel
theorem dL_law_426 : decode cL_law 426 = .ok (.ifCond .ne 15, 3) := by decide +kernel
theorem dL_law_429 : decode cL_law 429 = .ok (.aload_n 3, 1) := by decide +kernel
theorem dL_law_430 : decode cL_law 430 = .ok (.iconst 0, 1) := by decide +kernel
theorem dL_law_431 : decode cL_law 431 = .ok (.laload, 1) := by decide +kernel
theorem dL_law_432 : decode cL_law 432 = .ok (.iload 6, 2) := by decide +kernel
theorem dL_law_434 : decode cL_law 434 = .ok (.i2l, 1) := by decide +kernel
theorem dL_law_435 : decode cL_law 435 = .ok (.lcmp, 1) := by decide +kernel
theorem dL_law_436 : decode cL_law 436 = .ok (.ifCond .eq 5, 3) := by decide +kernel
theorem dL_law_439 : decode cL_law 439 = .ok (.iconst 0, 1) := by decide +kernel
theorem dL_law_440 : decode cL_law 440 = .ok (.ireturn, 1) := by decide +kernel
theorem dL_law_441 : decode cL_law 441 = .ok (.goto 1424, 3) := by decide +kernel
theorem dL_law_444 : decode cL_law 444 = .ok (.aload_n 1, 1) := by decide +kernel
theorem dL_law_445 : decode cL_law 445 = .ok (.aload_n 0, 1) := by decide +kernel
theorem dL_law_446 : decode cL_law 446 = .ok (.iload 4, 2) := by decide +kernel
theorem dL_law_448 : decode cL_law 448 = .ok (.iconst 1, 1) := by decide +kernel
theorem dL_law_449 : decode cL_law 449 = .ok (.iadd, 1) := by decide +kernel
theorem dL_law_450 : decode cL_law 450 = .ok (.iaload, 1) := by decide +kernel
theorem dL_law_451 : decode cL_law 451 = .ok (.aload_n 0, 1) := by decide +kernel
theorem dL_law_452 : decode cL_law 452 = .ok (.iload 4, 2) := by decide +kernel
theorem dL_law_454 : decode cL_law 454 = .ok (.iconst 2, 1) := by decide +kernel
theorem dL_law_455 : decode cL_law 455 = .ok (.iadd, 1) := by decide +kernel
theorem dL_law_456 : decode cL_law 456 = .ok (.iaload, 1) := by decide +kernel
theorem dL_law_457 : decode cL_law 457 = .ok (.aload_n 0, 1) := by decide +kernel
theorem dL_law_458 : decode cL_law 458 = .ok (.iload 4, 2) := by decide +kernel
theorem dL_law_460 : decode cL_law 460 = .ok (.iconst 3, 1) := by decide +kernel
theorem dL_law_461 : decode cL_law 461 = .ok (.iadd, 1) := by decide +kernel
theorem dL_law_462 : decode cL_law 462 = .ok (.iaload, 1) := by decide +kernel
theorem dL_law_463 : decode cL_law 463 = .ok (.aload_n 3, 1) := by decide +kernel
theorem dL_law_464 : decode cL_law 464 = .ok (.invokestatic 121, 3) := by decide +kernel
theorem dL_law_467 : decode cL_law 467 = .ok (.istore 5, 2) := by decide +kernel
theorem dL_law_469 : decode cL_law 469 = .ok (.aload_n 2, 1) := by decide +kernel
theorem dL_law_470 : decode cL_law 470 = .ok (.aload_n 0, 1) := by decide +kernel
theorem dL_law_471 : decode cL_law 471 = .ok (.iload 4, 2) := by decide +kernel
theorem dL_law_473 : decode cL_law 473 = .ok (.iconst 1, 1) := by decide +kernel
theorem dL_law_474 : decode cL_law 474 = .ok (.iadd, 1) := by decide +kernel
theorem dL_law_475 : decode cL_law 475 = .ok (.iaload, 1) := by decide +kernel
theorem dL_law_476 : decode cL_law 476 = .ok (.aload_n 0, 1) := by decide +kernel
theorem dL_law_477 : decode cL_law 477 = .ok (.iload 4, 2) := by decide +kernel
theorem dL_law_479 : decode cL_law 479 = .ok (.iconst 2, 1) := by decide +kernel
theorem dL_law_480 : decode cL_law 480 = .ok (.iadd, 1) := by decide +kernel
theorem dL_law_481 : decode cL_law 481 = .ok (.iaload, 1) := by decide +kernel
theorem dL_law_482 : decode cL_law 482 = .ok (.aload_n 0, 1) := by decide +kernel
theorem dL_law_483 : decode cL_law 483 = .ok (.iload 4, 2) := by decide +kernel
theorem dL_law_485 : decode cL_law 485 = .ok (.iconst 3, 1) := by decide +kernel
theorem dL_law_486 : decode cL_law 486 = .ok (.iadd, 1) := by decide +kernel
theorem dL_law_487 : decode cL_law 487 = .ok (.iaload, 1) := by decide +kernel
theorem dL_law_488 : decode cL_law 488 = .ok (.invokevirtual 123, 3) := by decide +kernel
theorem dL_law_491 : decode cL_law 491 = .ok (.istore 6, 2) := by decide +kernel
theorem dL_law_493 : decode cL_law 493 = .ok (.aload_n 2, 1) := by decide +kernel
theorem dL_law_494 : decode cL_law 494 = .ok (.invokevirtual 105, 3) := by decide +kernel
theorem dL_law_497 : decode cL_law 497 = .ok (.iload 5, 2) := by decide +kernel
theorem dL_law_499 : decode cL_law 499 = .ok (.if_icmp .eq 5, 3) := by decide +kernel
theorem dL_law_502 : decode cL_law 502 = .ok (.iconst 0, 1) := by decide +kernel
theorem dL_law_503 : decode cL_law 503 = .ok (.ireturn, 1) := by decide +kernel
theorem dL_law_504 : decode cL_law 504 = .ok (.iload 5, 2) := by decide +kernel
theorem dL_law_506 : decode cL_law 506 = .ok (.ifCond .ne 15, 3) := by decide +kernel
theorem dL_law_509 : decode cL_law 509 = .ok (.aload_n 3, 1) := by decide +kernel
theorem dL_law_510 : decode cL_law 510 = .ok (.iconst 0, 1) := by decide +kernel
theorem dL_law_511 : decode cL_law 511 = .ok (.laload, 1) := by decide +kernel
theorem dL_law_512 : decode cL_law 512 = .ok (.iload 6, 2) := by decide +kernel
theorem dL_law_514 : decode cL_law 514 = .ok (.i2l, 1) := by decide +kernel
theorem dL_law_515 : decode cL_law 515 = .ok (.lcmp, 1) := by decide +kernel
theorem dL_law_516 : decode cL_law 516 = .ok (.ifCond .eq 5, 3) := by decide +kernel
theorem dL_law_519 : decode cL_law 519 = .ok (.iconst 0, 1) := by decide +kernel
theorem dL_law_520 : decode cL_law 520 = .ok (.ireturn, 1) := by decide +kernel
theorem dL_law_521 : decode cL_law 521 = .ok (.goto 1344, 3) := by decide +kernel
theorem dL_law_524 : decode cL_law 524 = .ok (.aload_n 1, 1) := by decide +kernel
theorem dL_law_525 : decode cL_law 525 = .ok (.aload_n 0, 1) := by decide +kernel
theorem dL_law_526 : decode cL_law 526 = .ok (.iload 4, 2) := by decide +kernel
theorem dL_law_528 : decode cL_law 528 = .ok (.iconst 1, 1) := by decide +kernel
theorem dL_law_529 : decode cL_law 529 = .ok (.iadd, 1) := by decide +kernel
theorem dL_law_530 : decode cL_law 530 = .ok (.iaload, 1) := by decide +kernel
theorem dL_law_531 : decode cL_law 531 = .ok (.aload_n 0, 1) := by decide +kernel
theorem dL_law_532 : decode cL_law 532 = .ok (.iload 4, 2) := by decide +kernel
theorem dL_law_534 : decode cL_law 534 = .ok (.iconst 2, 1) := by decide +kernel
theorem dL_law_535 : decode cL_law 535 = .ok (.iadd, 1) := by decide +kernel
theorem dL_law_536 : decode cL_law 536 = .ok (.iaload, 1) := by decide +kernel
theorem dL_law_537 : decode cL_law 537 = .ok (.aload_n 0, 1) := by decide +kernel
theorem dL_law_538 : decode cL_law 538 = .ok (.iload 4, 2) := by decide +kernel
theorem dL_law_540 : decode cL_law 540 = .ok (.iconst 3, 1) := by decide +kernel
theorem dL_law_541 : decode cL_law 541 = .ok (.iadd, 1) := by decide +kernel
theorem dL_law_542 : decode cL_law 542 = .ok (.iaload, 1) := by decide +kernel
theorem dL_law_543 : decode cL_law 543 = .ok (.aload_n 3, 1) := by decide +kernel
theorem dL_law_544 : decode cL_law 544 = .ok (.invokestatic 124, 3) := by decide +kernel
theorem dL_law_547 : decode cL_law 547 = .ok (.istore 5, 2) := by decide +kernel
theorem dL_law_549 : decode cL_law 549 = .ok (.aload_n 2, 1) := by decide +kernel
theorem dL_law_550 : decode cL_law 550 = .ok (.aload_n 0, 1) := by decide +kernel
theorem dL_law_551 : decode cL_law 551 = .ok (.iload 4, 2) := by decide +kernel
theorem dL_law_553 : decode cL_law 553 = .ok (.iconst 1, 1) := by decide +kernel
theorem dL_law_554 : decode cL_law 554 = .ok (.iadd, 1) := by decide +kernel
theorem dL_law_555 : decode cL_law 555 = .ok (.iaload, 1) := by decide +kernel
theorem dL_law_556 : decode cL_law 556 = .ok (.aload_n 0, 1) := by decide +kernel
theorem dL_law_557 : decode cL_law 557 = .ok (.iload 4, 2) := by decide +kernel
theorem dL_law_559 : decode cL_law 559 = .ok (.iconst 2, 1) := by decide +kernel
theorem dL_law_560 : decode cL_law 560 = .ok (.iadd, 1) := by decide +kernel
theorem dL_law_561 : decode cL_law 561 = .ok (.iaload, 1) := by decide +kernel
theorem dL_law_562 : decode cL_law 562 = .ok (.aload_n 0, 1) := by decide +kernel
theorem dL_law_563 : decode cL_law 563 = .ok (.iload 4, 2) := by decide +kernel
theorem dL_law_565 : decode cL_law 565 = .ok (.iconst 3, 1) := by decide +kernel
theorem dL_law_566 : decode cL_law 566 = .ok (.iadd, 1) := by decide +kernel
theorem dL_law_567 : decode cL_law 567 = .ok (.iaload, 1) := by decide +kernel
theorem dL_law_568 : decode cL_law 568 = .ok (.invokevirtual 126, 3) := by decide +kernel
theorem dL_law_571 : decode cL_law 571 = .ok (.istore 6, 2) := by decide +kernel
theorem dL_law_573 : decode cL_law 573 = .ok (.aload_n 2, 1) := by decide +kernel
theorem dL_law_574 : decode cL_law 574 = .ok (.invokevirtual 105, 3) := by decide +kernel
theorem dL_law_577 : decode cL_law 577 = .ok (.iload 5, 2) := by decide +kernel
theorem dL_law_579 : decode cL_law 579 = .ok (.if_icmp .eq 5, 3) := by decide +kernel
theorem dL_law_582 : decode cL_law 582 = .ok (.iconst 0, 1) := by decide +kernel
theorem dL_law_583 : decode cL_law 583 = .ok (.ireturn, 1) := by decide +kernel
theorem dL_law_584 : decode cL_law 584 = .ok (.iload 5, 2) := by decide +kernel
theorem dL_law_586 : decode cL_law 586 = .ok (.ifCond .ne 15, 3) := by decide +kernel
theorem dL_law_589 : decode cL_law 589 = .ok (.aload_n 3, 1) := by decide +kernel
theorem dL_law_590 : decode cL_law 590 = .ok (.iconst 0, 1) := by decide +kernel
theorem dL_law_591 : decode cL_law 591 = .ok (.laload, 1) := by decide +kernel
theorem dL_law_592 : decode cL_law 592 = .ok (.iload 6, 2) := by decide +kernel
theorem dL_law_594 : decode cL_law 594 = .ok (.i2l, 1) := by decide +kernel
theorem dL_law_595 : decode cL_law 595 = .ok (.lcmp, 1) := by decide +kernel
theorem dL_law_596 : decode cL_law 596 = .ok (.ifCond .eq 5, 3) := by decide +kernel
theorem dL_law_599 : decode cL_law 599 = .ok (.iconst 0, 1) := by decide +kernel
theorem dL_law_600 : decode cL_law 600 = .ok (.ireturn, 1) := by decide +kernel
theorem dL_law_601 : decode cL_law 601 = .ok (.goto 1264, 3) := by decide +kernel
theorem dL_law_604 : decode cL_law 604 = .ok (.aload_n 1, 1) := by decide +kernel
theorem dL_law_605 : decode cL_law 605 = .ok (.aload_n 0, 1) := by decide +kernel
theorem dL_law_606 : decode cL_law 606 = .ok (.iload 4, 2) := by decide +kernel
theorem dL_law_608 : decode cL_law 608 = .ok (.iconst 1, 1) := by decide +kernel
theorem dL_law_609 : decode cL_law 609 = .ok (.iadd, 1) := by decide +kernel
theorem dL_law_610 : decode cL_law 610 = .ok (.iaload, 1) := by decide +kernel
theorem dL_law_611 : decode cL_law 611 = .ok (.aload_n 0, 1) := by decide +kernel
theorem dL_law_612 : decode cL_law 612 = .ok (.iload 4, 2) := by decide +kernel
theorem dL_law_614 : decode cL_law 614 = .ok (.iconst 2, 1) := by decide +kernel
theorem dL_law_615 : decode cL_law 615 = .ok (.iadd, 1) := by decide +kernel
theorem dL_law_616 : decode cL_law 616 = .ok (.iaload, 1) := by decide +kernel
theorem dL_law_617 : decode cL_law 617 = .ok (.aload_n 0, 1) := by decide +kernel
theorem dL_law_618 : decode cL_law 618 = .ok (.iload 4, 2) := by decide +kernel
theorem dL_law_620 : decode cL_law 620 = .ok (.iconst 3, 1) := by decide +kernel
theorem dL_law_621 : decode cL_law 621 = .ok (.iadd, 1) := by decide +kernel
theorem dL_law_622 : decode cL_law 622 = .ok (.iaload, 1) := by decide +kernel
theorem dL_law_623 : decode cL_law 623 = .ok (.aload_n 3, 1) := by decide +kernel
theorem dL_law_624 : decode cL_law 624 = .ok (.invokestatic 127, 3) := by decide +kernel
theorem dL_law_627 : decode cL_law 627 = .ok (.istore 5, 2) := by decide +kernel
theorem dL_law_629 : decode cL_law 629 = .ok (.aload_n 2, 1) := by decide +kernel
theorem dL_law_630 : decode cL_law 630 = .ok (.aload_n 0, 1) := by decide +kernel
theorem dL_law_631 : decode cL_law 631 = .ok (.iload 4, 2) := by decide +kernel
theorem dL_law_633 : decode cL_law 633 = .ok (.iconst 1, 1) := by decide +kernel
theorem dL_law_634 : decode cL_law 634 = .ok (.iadd, 1) := by decide +kernel
theorem dL_law_635 : decode cL_law 635 = .ok (.iaload, 1) := by decide +kernel
theorem dL_law_636 : decode cL_law 636 = .ok (.aload_n 0, 1) := by decide +kernel
theorem dL_law_637 : decode cL_law 637 = .ok (.iload 4, 2) := by decide +kernel
theorem dL_law_639 : decode cL_law 639 = .ok (.iconst 2, 1) := by decide +kernel
theorem dL_law_640 : decode cL_law 640 = .ok (.iadd, 1) := by decide +kernel
theorem dL_law_641 : decode cL_law 641 = .ok (.iaload, 1) := by decide +kernel
theorem dL_law_642 : decode cL_law 642 = .ok (.aload_n 0, 1) := by decide +kernel
theorem dL_law_643 : decode cL_law 643 = .ok (.iload 4, 2) := by decide +kernel
theorem dL_law_645 : decode cL_law 645 = .ok (.iconst 3, 1) := by decide +kernel
theorem dL_law_646 : decode cL_law 646 = .ok (.iadd, 1) := by decide +kernel
theorem dL_law_647 : decode cL_law 647 = .ok (.iaload, 1) := by decide +kernel
theorem dL_law_648 : decode cL_law 648 = .ok (.invokevirtual 129, 3) := by decide +kernel
theorem dL_law_651 : decode cL_law 651 = .ok (.istore 6, 2) := by decide +kernel
theorem dL_law_653 : decode cL_law 653 = .ok (.aload_n 2, 1) := by decide +kernel
theorem dL_law_654 : decode cL_law 654 = .ok (.invokevirtual 105, 3) := by decide +kernel
theorem dL_law_657 : decode cL_law 657 = .ok (.iload 5, 2) := by decide +kernel
theorem dL_law_659 : decode cL_law 659 = .ok (.if_icmp .eq 5, 3) := by decide +kernel
theorem dL_law_662 : decode cL_law 662 = .ok (.iconst 0, 1) := by decide +kernel
theorem dL_law_663 : decode cL_law 663 = .ok (.ireturn, 1) := by decide +kernel
theorem dL_law_664 : decode cL_law 664 = .ok (.iload 5, 2) := by decide +kernel
theorem dL_law_666 : decode cL_law 666 = .ok (.ifCond .ne 15, 3) := by decide +kernel
theorem dL_law_669 : decode cL_law 669 = .ok (.aload_n 3, 1) := by decide +kernel
theorem dL_law_670 : decode cL_law 670 = .ok (.iconst 0, 1) := by decide +kernel
theorem dL_law_671 : decode cL_law 671 = .ok (.laload, 1) := by decide +kernel
theorem dL_law_672 : decode cL_law 672 = .ok (.iload 6, 2) := by decide +kernel
theorem dL_law_674 : decode cL_law 674 = .ok (.i2l, 1) := by decide +kernel
theorem dL_law_675 : decode cL_law 675 = .ok (.lcmp, 1) := by decide +kernel
theorem dL_law_676 : decode cL_law 676 = .ok (.ifCond .eq 5, 3) := by decide +kernel
theorem dL_law_679 : decode cL_law 679 = .ok (.iconst 0, 1) := by decide +kernel
theorem dL_law_680 : decode cL_law 680 = .ok (.ireturn, 1) := by decide +kernel
theorem dL_law_681 : decode cL_law 681 = .ok (.goto 1184, 3) := by decide +kernel
theorem dL_law_684 : decode cL_law 684 = .ok (.aload_n 1, 1) := by decide +kernel
theorem dL_law_685 : decode cL_law 685 = .ok (.aload_n 0, 1) := by decide +kernel
theorem dL_law_686 : decode cL_law 686 = .ok (.iload 4, 2) := by decide +kernel
theorem dL_law_688 : decode cL_law 688 = .ok (.iconst 1, 1) := by decide +kernel
theorem dL_law_689 : decode cL_law 689 = .ok (.iadd, 1) := by decide +kernel
theorem dL_law_690 : decode cL_law 690 = .ok (.iaload, 1) := by decide +kernel
theorem dL_law_691 : decode cL_law 691 = .ok (.aload_n 0, 1) := by decide +kernel
theorem dL_law_692 : decode cL_law 692 = .ok (.iload 4, 2) := by decide +kernel
theorem dL_law_694 : decode cL_law 694 = .ok (.iconst 2, 1) := by decide +kernel
theorem dL_law_695 : decode cL_law 695 = .ok (.iadd, 1) := by decide +kernel
theorem dL_law_696 : decode cL_law 696 = .ok (.iaload, 1) := by decide +kernel
theorem dL_law_697 : decode cL_law 697 = .ok (.aload_n 0, 1) := by decide +kernel
theorem dL_law_698 : decode cL_law 698 = .ok (.iload 4, 2) := by decide +kernel
theorem dL_law_700 : decode cL_law 700 = .ok (.iconst 3, 1) := by decide +kernel
theorem dL_law_701 : decode cL_law 701 = .ok (.iadd, 1) := by decide +kernel
theorem dL_law_702 : decode cL_law 702 = .ok (.iaload, 1) := by decide +kernel
theorem dL_law_703 : decode cL_law 703 = .ok (.invokestatic 130, 3) := by decide +kernel
theorem dL_law_706 : decode cL_law 706 = .ok (.istore 5, 2) := by decide +kernel
theorem dL_law_708 : decode cL_law 708 = .ok (.aload_n 2, 1) := by decide +kernel
theorem dL_law_709 : decode cL_law 709 = .ok (.aload_n 0, 1) := by decide +kernel
theorem dL_law_710 : decode cL_law 710 = .ok (.iload 4, 2) := by decide +kernel
theorem dL_law_712 : decode cL_law 712 = .ok (.iconst 1, 1) := by decide +kernel
theorem dL_law_713 : decode cL_law 713 = .ok (.iadd, 1) := by decide +kernel
theorem dL_law_714 : decode cL_law 714 = .ok (.iaload, 1) := by decide +kernel
theorem dL_law_715 : decode cL_law 715 = .ok (.aload_n 0, 1) := by decide +kernel
theorem dL_law_716 : decode cL_law 716 = .ok (.iload 4, 2) := by decide +kernel
theorem dL_law_718 : decode cL_law 718 = .ok (.iconst 2, 1) := by decide +kernel
theorem dL_law_719 : decode cL_law 719 = .ok (.iadd, 1) := by decide +kernel
theorem dL_law_720 : decode cL_law 720 = .ok (.iaload, 1) := by decide +kernel
theorem dL_law_721 : decode cL_law 721 = .ok (.aload_n 0, 1) := by decide +kernel
theorem dL_law_722 : decode cL_law 722 = .ok (.iload 4, 2) := by decide +kernel
theorem dL_law_724 : decode cL_law 724 = .ok (.iconst 3, 1) := by decide +kernel
theorem dL_law_725 : decode cL_law 725 = .ok (.iadd, 1) := by decide +kernel
theorem dL_law_726 : decode cL_law 726 = .ok (.iaload, 1) := by decide +kernel
theorem dL_law_727 : decode cL_law 727 = .ok (.invokevirtual 132, 3) := by decide +kernel
theorem dL_law_730 : decode cL_law 730 = .ok (.aload_n 2, 1) := by decide +kernel
theorem dL_law_731 : decode cL_law 731 = .ok (.invokevirtual 105, 3) := by decide +kernel
theorem dL_law_734 : decode cL_law 734 = .ok (.iload 5, 2) := by decide +kernel
theorem dL_law_736 : decode cL_law 736 = .ok (.if_icmp .eq 5, 3) := by decide +kernel
theorem dL_law_739 : decode cL_law 739 = .ok (.iconst 0, 1) := by decide +kernel
theorem dL_law_740 : decode cL_law 740 = .ok (.ireturn, 1) := by decide +kernel
theorem dL_law_741 : decode cL_law 741 = .ok (.goto 1124, 3) := by decide +kernel
theorem dL_law_744 : decode cL_law 744 = .ok (.aload_n 1, 1) := by decide +kernel
theorem dL_law_745 : decode cL_law 745 = .ok (.aload_n 0, 1) := by decide +kernel
theorem dL_law_746 : decode cL_law 746 = .ok (.iload 4, 2) := by decide +kernel
theorem dL_law_748 : decode cL_law 748 = .ok (.iconst 1, 1) := by decide +kernel
theorem dL_law_749 : decode cL_law 749 = .ok (.iadd, 1) := by decide +kernel
theorem dL_law_750 : decode cL_law 750 = .ok (.iaload, 1) := by decide +kernel
theorem dL_law_751 : decode cL_law 751 = .ok (.aload_n 0, 1) := by decide +kernel
theorem dL_law_752 : decode cL_law 752 = .ok (.iload 4, 2) := by decide +kernel
theorem dL_law_754 : decode cL_law 754 = .ok (.iconst 2, 1) := by decide +kernel
theorem dL_law_755 : decode cL_law 755 = .ok (.iadd, 1) := by decide +kernel
theorem dL_law_756 : decode cL_law 756 = .ok (.iaload, 1) := by decide +kernel
theorem dL_law_757 : decode cL_law 757 = .ok (.aload_n 0, 1) := by decide +kernel
theorem dL_law_758 : decode cL_law 758 = .ok (.iload 4, 2) := by decide +kernel
theorem dL_law_760 : decode cL_law 760 = .ok (.iconst 3, 1) := by decide +kernel
theorem dL_law_761 : decode cL_law 761 = .ok (.iadd, 1) := by decide +kernel
theorem dL_law_762 : decode cL_law 762 = .ok (.iaload, 1) := by decide +kernel
theorem dL_law_763 : decode cL_law 763 = .ok (.aload_n 3, 1) := by decide +kernel
theorem dL_law_764 : decode cL_law 764 = .ok (.invokestatic 133, 3) := by decide +kernel
theorem dL_law_767 : decode cL_law 767 = .ok (.istore 5, 2) := by decide +kernel
theorem dL_law_769 : decode cL_law 769 = .ok (.aload_n 2, 1) := by decide +kernel
theorem dL_law_770 : decode cL_law 770 = .ok (.aload_n 0, 1) := by decide +kernel
theorem dL_law_771 : decode cL_law 771 = .ok (.iload 4, 2) := by decide +kernel
theorem dL_law_773 : decode cL_law 773 = .ok (.iconst 1, 1) := by decide +kernel
theorem dL_law_774 : decode cL_law 774 = .ok (.iadd, 1) := by decide +kernel
theorem dL_law_775 : decode cL_law 775 = .ok (.iaload, 1) := by decide +kernel
theorem dL_law_776 : decode cL_law 776 = .ok (.aload_n 0, 1) := by decide +kernel
theorem dL_law_777 : decode cL_law 777 = .ok (.iload 4, 2) := by decide +kernel
theorem dL_law_779 : decode cL_law 779 = .ok (.iconst 2, 1) := by decide +kernel
theorem dL_law_780 : decode cL_law 780 = .ok (.iadd, 1) := by decide +kernel
theorem dL_law_781 : decode cL_law 781 = .ok (.iaload, 1) := by decide +kernel
theorem dL_law_782 : decode cL_law 782 = .ok (.aload_n 0, 1) := by decide +kernel
theorem dL_law_783 : decode cL_law 783 = .ok (.iload 4, 2) := by decide +kernel
theorem dL_law_785 : decode cL_law 785 = .ok (.iconst 3, 1) := by decide +kernel
theorem dL_law_786 : decode cL_law 786 = .ok (.iadd, 1) := by decide +kernel
theorem dL_law_787 : decode cL_law 787 = .ok (.iaload, 1) := by decide +kernel
theorem dL_law_788 : decode cL_law 788 = .ok (.invokevirtual 135, 3) := by decide +kernel
theorem dL_law_791 : decode cL_law 791 = .ok (.istore 6, 2) := by decide +kernel
theorem dL_law_793 : decode cL_law 793 = .ok (.aload_n 2, 1) := by decide +kernel
theorem dL_law_794 : decode cL_law 794 = .ok (.invokevirtual 105, 3) := by decide +kernel
theorem dL_law_797 : decode cL_law 797 = .ok (.iload 5, 2) := by decide +kernel
theorem dL_law_799 : decode cL_law 799 = .ok (.if_icmp .eq 5, 3) := by decide +kernel
theorem dL_law_802 : decode cL_law 802 = .ok (.iconst 0, 1) := by decide +kernel
theorem dL_law_803 : decode cL_law 803 = .ok (.ireturn, 1) := by decide +kernel
theorem dL_law_804 : decode cL_law 804 = .ok (.iload 5, 2) := by decide +kernel
theorem dL_law_806 : decode cL_law 806 = .ok (.ifCond .ne 15, 3) := by decide +kernel
theorem dL_law_809 : decode cL_law 809 = .ok (.aload_n 3, 1) := by decide +kernel
theorem dL_law_810 : decode cL_law 810 = .ok (.iconst 0, 1) := by decide +kernel
theorem dL_law_811 : decode cL_law 811 = .ok (.laload, 1) := by decide +kernel
theorem dL_law_812 : decode cL_law 812 = .ok (.iload 6, 2) := by decide +kernel
theorem dL_law_814 : decode cL_law 814 = .ok (.i2l, 1) := by decide +kernel
theorem dL_law_815 : decode cL_law 815 = .ok (.lcmp, 1) := by decide +kernel
theorem dL_law_816 : decode cL_law 816 = .ok (.ifCond .eq 5, 3) := by decide +kernel
theorem dL_law_819 : decode cL_law 819 = .ok (.iconst 0, 1) := by decide +kernel
theorem dL_law_820 : decode cL_law 820 = .ok (.ireturn, 1) := by decide +kernel
theorem dL_law_821 : decode cL_law 821 = .ok (.goto 1044, 3) := by decide +kernel
theorem dL_law_824 : decode cL_law 824 = .ok (.aload_n 1, 1) := by decide +kernel
theorem dL_law_825 : decode cL_law 825 = .ok (.aload_n 0, 1) := by decide +kernel
theorem dL_law_826 : decode cL_law 826 = .ok (.iload 4, 2) := by decide +kernel
theorem dL_law_828 : decode cL_law 828 = .ok (.iconst 1, 1) := by decide +kernel
theorem dL_law_829 : decode cL_law 829 = .ok (.iadd, 1) := by decide +kernel
theorem dL_law_830 : decode cL_law 830 = .ok (.iaload, 1) := by decide +kernel
theorem dL_law_831 : decode cL_law 831 = .ok (.aload_n 0, 1) := by decide +kernel
theorem dL_law_832 : decode cL_law 832 = .ok (.iload 4, 2) := by decide +kernel
theorem dL_law_834 : decode cL_law 834 = .ok (.iconst 2, 1) := by decide +kernel
theorem dL_law_835 : decode cL_law 835 = .ok (.iadd, 1) := by decide +kernel
theorem dL_law_836 : decode cL_law 836 = .ok (.iaload, 1) := by decide +kernel
theorem dL_law_837 : decode cL_law 837 = .ok (.aload_n 3, 1) := by decide +kernel
theorem dL_law_838 : decode cL_law 838 = .ok (.invokestatic 136, 3) := by decide +kernel
theorem dL_law_841 : decode cL_law 841 = .ok (.istore 5, 2) := by decide +kernel
theorem dL_law_843 : decode cL_law 843 = .ok (.aload_n 2, 1) := by decide +kernel
theorem dL_law_844 : decode cL_law 844 = .ok (.aload_n 0, 1) := by decide +kernel
theorem dL_law_845 : decode cL_law 845 = .ok (.iload 4, 2) := by decide +kernel
theorem dL_law_847 : decode cL_law 847 = .ok (.iconst 1, 1) := by decide +kernel
theorem dL_law_848 : decode cL_law 848 = .ok (.iadd, 1) := by decide +kernel
theorem dL_law_849 : decode cL_law 849 = .ok (.iaload, 1) := by decide +kernel
theorem dL_law_850 : decode cL_law 850 = .ok (.aload_n 0, 1) := by decide +kernel
theorem dL_law_851 : decode cL_law 851 = .ok (.iload 4, 2) := by decide +kernel
theorem dL_law_853 : decode cL_law 853 = .ok (.iconst 2, 1) := by decide +kernel
theorem dL_law_854 : decode cL_law 854 = .ok (.iadd, 1) := by decide +kernel
theorem dL_law_855 : decode cL_law 855 = .ok (.iaload, 1) := by decide +kernel
theorem dL_law_856 : decode cL_law 856 = .ok (.invokevirtual 139, 3) := by decide +kernel
theorem dL_law_859 : decode cL_law 859 = .ok (.istore 6, 2) := by decide +kernel
theorem dL_law_861 : decode cL_law 861 = .ok (.aload_n 2, 1) := by decide +kernel
theorem dL_law_862 : decode cL_law 862 = .ok (.invokevirtual 105, 3) := by decide +kernel
theorem dL_law_865 : decode cL_law 865 = .ok (.iload 5, 2) := by decide +kernel
theorem dL_law_867 : decode cL_law 867 = .ok (.if_icmp .eq 5, 3) := by decide +kernel
theorem dL_law_870 : decode cL_law 870 = .ok (.iconst 0, 1) := by decide +kernel
theorem dL_law_871 : decode cL_law 871 = .ok (.ireturn, 1) := by decide +kernel
theorem dL_law_872 : decode cL_law 872 = .ok (.iload 5, 2) := by decide +kernel
theorem dL_law_874 : decode cL_law 874 = .ok (.ifCond .ne 15, 3) := by decide +kernel
theorem dL_law_877 : decode cL_law 877 = .ok (.aload_n 3, 1) := by decide +kernel
theorem dL_law_878 : decode cL_law 878 = .ok (.iconst 0, 1) := by decide +kernel
theorem dL_law_879 : decode cL_law 879 = .ok (.laload, 1) := by decide +kernel
theorem dL_law_880 : decode cL_law 880 = .ok (.iload 6, 2) := by decide +kernel
theorem dL_law_882 : decode cL_law 882 = .ok (.i2l, 1) := by decide +kernel
theorem dL_law_883 : decode cL_law 883 = .ok (.lcmp, 1) := by decide +kernel
theorem dL_law_884 : decode cL_law 884 = .ok (.ifCond .eq 5, 3) := by decide +kernel
theorem dL_law_887 : decode cL_law 887 = .ok (.iconst 0, 1) := by decide +kernel
theorem dL_law_888 : decode cL_law 888 = .ok (.ireturn, 1) := by decide +kernel
theorem dL_law_889 : decode cL_law 889 = .ok (.goto 976, 3) := by decide +kernel
theorem dL_law_892 : decode cL_law 892 = .ok (.aload_n 1, 1) := by decide +kernel
theorem dL_law_893 : decode cL_law 893 = .ok (.aload_n 0, 1) := by decide +kernel
theorem dL_law_894 : decode cL_law 894 = .ok (.iload 4, 2) := by decide +kernel
theorem dL_law_896 : decode cL_law 896 = .ok (.iconst 1, 1) := by decide +kernel
theorem dL_law_897 : decode cL_law 897 = .ok (.iadd, 1) := by decide +kernel
theorem dL_law_898 : decode cL_law 898 = .ok (.iaload, 1) := by decide +kernel
theorem dL_law_899 : decode cL_law 899 = .ok (.aload_n 3, 1) := by decide +kernel
theorem dL_law_900 : decode cL_law 900 = .ok (.invokestatic 140, 3) := by decide +kernel
theorem dL_law_903 : decode cL_law 903 = .ok (.istore 5, 2) := by decide +kernel
theorem dL_law_905 : decode cL_law 905 = .ok (.aload_n 2, 1) := by decide +kernel
theorem dL_law_906 : decode cL_law 906 = .ok (.aload_n 0, 1) := by decide +kernel
theorem dL_law_907 : decode cL_law 907 = .ok (.iload 4, 2) := by decide +kernel
theorem dL_law_909 : decode cL_law 909 = .ok (.iconst 1, 1) := by decide +kernel
theorem dL_law_910 : decode cL_law 910 = .ok (.iadd, 1) := by decide +kernel
theorem dL_law_911 : decode cL_law 911 = .ok (.iaload, 1) := by decide +kernel
theorem dL_law_912 : decode cL_law 912 = .ok (.invokevirtual 142, 3) := by decide +kernel
theorem dL_law_915 : decode cL_law 915 = .ok (.istore 6, 2) := by decide +kernel
theorem dL_law_917 : decode cL_law 917 = .ok (.aload_n 2, 1) := by decide +kernel
theorem dL_law_918 : decode cL_law 918 = .ok (.invokevirtual 105, 3) := by decide +kernel
theorem dL_law_921 : decode cL_law 921 = .ok (.iload 5, 2) := by decide +kernel
theorem dL_law_923 : decode cL_law 923 = .ok (.if_icmp .eq 5, 3) := by decide +kernel
theorem dL_law_926 : decode cL_law 926 = .ok (.iconst 0, 1) := by decide +kernel
theorem dL_law_927 : decode cL_law 927 = .ok (.ireturn, 1) := by decide +kernel
theorem dL_law_928 : decode cL_law 928 = .ok (.iload 5, 2) := by decide +kernel
theorem dL_law_930 : decode cL_law 930 = .ok (.ifCond .ne 15, 3) := by decide +kernel
theorem dL_law_933 : decode cL_law 933 = .ok (.aload_n 3, 1) := by decide +kernel
theorem dL_law_934 : decode cL_law 934 = .ok (.iconst 0, 1) := by decide +kernel
theorem dL_law_935 : decode cL_law 935 = .ok (.laload, 1) := by decide +kernel
theorem dL_law_936 : decode cL_law 936 = .ok (.iload 6, 2) := by decide +kernel
theorem dL_law_938 : decode cL_law 938 = .ok (.i2l, 1) := by decide +kernel
theorem dL_law_939 : decode cL_law 939 = .ok (.lcmp, 1) := by decide +kernel
theorem dL_law_940 : decode cL_law 940 = .ok (.ifCond .eq 5, 3) := by decide +kernel
theorem dL_law_943 : decode cL_law 943 = .ok (.iconst 0, 1) := by decide +kernel
theorem dL_law_944 : decode cL_law 944 = .ok (.ireturn, 1) := by decide +kernel
theorem dL_law_945 : decode cL_law 945 = .ok (.goto 920, 3) := by decide +kernel
theorem dL_law_948 : decode cL_law 948 = .ok (.aload_n 1, 1) := by decide +kernel
theorem dL_law_949 : decode cL_law 949 = .ok (.aload_n 0, 1) := by decide +kernel
theorem dL_law_950 : decode cL_law 950 = .ok (.iload 4, 2) := by decide +kernel
theorem dL_law_952 : decode cL_law 952 = .ok (.iconst 1, 1) := by decide +kernel
theorem dL_law_953 : decode cL_law 953 = .ok (.iadd, 1) := by decide +kernel
theorem dL_law_954 : decode cL_law 954 = .ok (.iaload, 1) := by decide +kernel
theorem dL_law_955 : decode cL_law 955 = .ok (.aload_n 3, 1) := by decide +kernel
theorem dL_law_956 : decode cL_law 956 = .ok (.invokestatic 143, 3) := by decide +kernel
theorem dL_law_959 : decode cL_law 959 = .ok (.istore 5, 2) := by decide +kernel
theorem dL_law_961 : decode cL_law 961 = .ok (.aload_n 2, 1) := by decide +kernel
theorem dL_law_962 : decode cL_law 962 = .ok (.aload_n 0, 1) := by decide +kernel
theorem dL_law_963 : decode cL_law 963 = .ok (.iload 4, 2) := by decide +kernel
theorem dL_law_965 : decode cL_law 965 = .ok (.iconst 1, 1) := by decide +kernel
theorem dL_law_966 : decode cL_law 966 = .ok (.iadd, 1) := by decide +kernel
theorem dL_law_967 : decode cL_law 967 = .ok (.iaload, 1) := by decide +kernel
theorem dL_law_968 : decode cL_law 968 = .ok (.invokevirtual 145, 3) := by decide +kernel
theorem dL_law_971 : decode cL_law 971 = .ok (.istore 6, 2) := by decide +kernel
theorem dL_law_973 : decode cL_law 973 = .ok (.aload_n 2, 1) := by decide +kernel
theorem dL_law_974 : decode cL_law 974 = .ok (.invokevirtual 105, 3) := by decide +kernel
theorem dL_law_977 : decode cL_law 977 = .ok (.iload 5, 2) := by decide +kernel
theorem dL_law_979 : decode cL_law 979 = .ok (.if_icmp .eq 5, 3) := by decide +kernel
theorem dL_law_982 : decode cL_law 982 = .ok (.iconst 0, 1) := by decide +kernel
theorem dL_law_983 : decode cL_law 983 = .ok (.ireturn, 1) := by decide +kernel
theorem dL_law_984 : decode cL_law 984 = .ok (.iload 5, 2) := by decide +kernel
theorem dL_law_986 : decode cL_law 986 = .ok (.ifCond .ne 15, 3) := by decide +kernel
theorem dL_law_989 : decode cL_law 989 = .ok (.aload_n 3, 1) := by decide +kernel
theorem dL_law_990 : decode cL_law 990 = .ok (.iconst 0, 1) := by decide +kernel
theorem dL_law_991 : decode cL_law 991 = .ok (.laload, 1) := by decide +kernel
theorem dL_law_992 : decode cL_law 992 = .ok (.iload 6, 2) := by decide +kernel
theorem dL_law_994 : decode cL_law 994 = .ok (.i2l, 1) := by decide +kernel
theorem dL_law_995 : decode cL_law 995 = .ok (.lcmp, 1) := by decide +kernel
theorem dL_law_996 : decode cL_law 996 = .ok (.ifCond .eq 5, 3) := by decide +kernel
theorem dL_law_999 : decode cL_law 999 = .ok (.iconst 0, 1) := by decide +kernel
theorem dL_law_1000 : decode cL_law 1000 = .ok (.ireturn, 1) := by decide +kernel
theorem dL_law_1001 : decode cL_law 1001 = .ok (.goto 864, 3) := by decide +kernel
theorem dL_law_1004 : decode cL_law 1004 = .ok (.aload_n 1, 1) := by decide +kernel
theorem dL_law_1005 : decode cL_law 1005 = .ok (.aload_n 0, 1) := by decide +kernel
theorem dL_law_1006 : decode cL_law 1006 = .ok (.iload 4, 2) := by decide +kernel
theorem dL_law_1008 : decode cL_law 1008 = .ok (.iconst 1, 1) := by decide +kernel
theorem dL_law_1009 : decode cL_law 1009 = .ok (.iadd, 1) := by decide +kernel
theorem dL_law_1010 : decode cL_law 1010 = .ok (.iaload, 1) := by decide +kernel
theorem dL_law_1011 : decode cL_law 1011 = .ok (.aload_n 0, 1) := by decide +kernel
theorem dL_law_1012 : decode cL_law 1012 = .ok (.iload 4, 2) := by decide +kernel
theorem dL_law_1014 : decode cL_law 1014 = .ok (.iconst 2, 1) := by decide +kernel
theorem dL_law_1015 : decode cL_law 1015 = .ok (.iadd, 1) := by decide +kernel
theorem dL_law_1016 : decode cL_law 1016 = .ok (.iaload, 1) := by decide +kernel
theorem dL_law_1017 : decode cL_law 1017 = .ok (.aload_n 0, 1) := by decide +kernel
theorem dL_law_1018 : decode cL_law 1018 = .ok (.iload 4, 2) := by decide +kernel
theorem dL_law_1020 : decode cL_law 1020 = .ok (.iconst 3, 1) := by decide +kernel
theorem dL_law_1021 : decode cL_law 1021 = .ok (.iadd, 1) := by decide +kernel
theorem dL_law_1022 : decode cL_law 1022 = .ok (.iaload, 1) := by decide +kernel
theorem dL_law_1023 : decode cL_law 1023 = .ok (.aload_n 3, 1) := by decide +kernel
theorem dL_law_1024 : decode cL_law 1024 = .ok (.invokestatic 146, 3) := by decide +kernel
theorem dL_law_1027 : decode cL_law 1027 = .ok (.istore 5, 2) := by decide +kernel
theorem dL_law_1029 : decode cL_law 1029 = .ok (.aload_n 2, 1) := by decide +kernel
theorem dL_law_1030 : decode cL_law 1030 = .ok (.aload_n 0, 1) := by decide +kernel
theorem dL_law_1031 : decode cL_law 1031 = .ok (.iload 4, 2) := by decide +kernel
theorem dL_law_1033 : decode cL_law 1033 = .ok (.iconst 1, 1) := by decide +kernel
theorem dL_law_1034 : decode cL_law 1034 = .ok (.iadd, 1) := by decide +kernel
theorem dL_law_1035 : decode cL_law 1035 = .ok (.iaload, 1) := by decide +kernel
theorem dL_law_1036 : decode cL_law 1036 = .ok (.aload_n 0, 1) := by decide +kernel
theorem dL_law_1037 : decode cL_law 1037 = .ok (.iload 4, 2) := by decide +kernel
theorem dL_law_1039 : decode cL_law 1039 = .ok (.iconst 2, 1) := by decide +kernel
theorem dL_law_1040 : decode cL_law 1040 = .ok (.iadd, 1) := by decide +kernel
theorem dL_law_1041 : decode cL_law 1041 = .ok (.iaload, 1) := by decide +kernel
theorem dL_law_1042 : decode cL_law 1042 = .ok (.aload_n 0, 1) := by decide +kernel
theorem dL_law_1043 : decode cL_law 1043 = .ok (.iload 4, 2) := by decide +kernel
theorem dL_law_1045 : decode cL_law 1045 = .ok (.iconst 3, 1) := by decide +kernel
theorem dL_law_1046 : decode cL_law 1046 = .ok (.iadd, 1) := by decide +kernel
theorem dL_law_1047 : decode cL_law 1047 = .ok (.iaload, 1) := by decide +kernel
theorem dL_law_1048 : decode cL_law 1048 = .ok (.invokevirtual 148, 3) := by decide +kernel
theorem dL_law_1051 : decode cL_law 1051 = .ok (.istore 6, 2) := by decide +kernel
theorem dL_law_1053 : decode cL_law 1053 = .ok (.aload_n 2, 1) := by decide +kernel
theorem dL_law_1054 : decode cL_law 1054 = .ok (.invokevirtual 105, 3) := by decide +kernel
theorem dL_law_1057 : decode cL_law 1057 = .ok (.iload 5, 2) := by decide +kernel
theorem dL_law_1059 : decode cL_law 1059 = .ok (.if_icmp .eq 5, 3) := by decide +kernel
theorem dL_law_1062 : decode cL_law 1062 = .ok (.iconst 0, 1) := by decide +kernel
theorem dL_law_1063 : decode cL_law 1063 = .ok (.ireturn, 1) := by decide +kernel
theorem dL_law_1064 : decode cL_law 1064 = .ok (.iload 5, 2) := by decide +kernel
theorem dL_law_1066 : decode cL_law 1066 = .ok (.ifCond .ne 15, 3) := by decide +kernel
theorem dL_law_1069 : decode cL_law 1069 = .ok (.aload_n 3, 1) := by decide +kernel
theorem dL_law_1070 : decode cL_law 1070 = .ok (.iconst 0, 1) := by decide +kernel
theorem dL_law_1071 : decode cL_law 1071 = .ok (.laload, 1) := by decide +kernel
theorem dL_law_1072 : decode cL_law 1072 = .ok (.iload 6, 2) := by decide +kernel
theorem dL_law_1074 : decode cL_law 1074 = .ok (.i2l, 1) := by decide +kernel
theorem dL_law_1075 : decode cL_law 1075 = .ok (.lcmp, 1) := by decide +kernel
theorem dL_law_1076 : decode cL_law 1076 = .ok (.ifCond .eq 5, 3) := by decide +kernel
theorem dL_law_1079 : decode cL_law 1079 = .ok (.iconst 0, 1) := by decide +kernel
theorem dL_law_1080 : decode cL_law 1080 = .ok (.ireturn, 1) := by decide +kernel
theorem dL_law_1081 : decode cL_law 1081 = .ok (.goto 784, 3) := by decide +kernel
theorem dL_law_1084 : decode cL_law 1084 = .ok (.aload_n 1, 1) := by decide +kernel
theorem dL_law_1085 : decode cL_law 1085 = .ok (.aload_n 0, 1) := by decide +kernel
theorem dL_law_1086 : decode cL_law 1086 = .ok (.iload 4, 2) := by decide +kernel
theorem dL_law_1088 : decode cL_law 1088 = .ok (.iconst 1, 1) := by decide +kernel
theorem dL_law_1089 : decode cL_law 1089 = .ok (.iadd, 1) := by decide +kernel
theorem dL_law_1090 : decode cL_law 1090 = .ok (.iaload, 1) := by decide +kernel
theorem dL_law_1091 : decode cL_law 1091 = .ok (.aload_n 3, 1) := by decide +kernel
theorem dL_law_1092 : decode cL_law 1092 = .ok (.invokestatic 149, 3) := by decide +kernel
theorem dL_law_1095 : decode cL_law 1095 = .ok (.istore 5, 2) := by decide +kernel
theorem dL_law_1097 : decode cL_law 1097 = .ok (.aload_n 2, 1) := by decide +kernel
theorem dL_law_1098 : decode cL_law 1098 = .ok (.aload_n 0, 1) := by decide +kernel
theorem dL_law_1099 : decode cL_law 1099 = .ok (.iload 4, 2) := by decide +kernel
theorem dL_law_1101 : decode cL_law 1101 = .ok (.iconst 1, 1) := by decide +kernel
theorem dL_law_1102 : decode cL_law 1102 = .ok (.iadd, 1) := by decide +kernel
theorem dL_law_1103 : decode cL_law 1103 = .ok (.iaload, 1) := by decide +kernel
theorem dL_law_1104 : decode cL_law 1104 = .ok (.invokevirtual 151, 3) := by decide +kernel
theorem dL_law_1107 : decode cL_law 1107 = .ok (.istore 6, 2) := by decide +kernel
theorem dL_law_1109 : decode cL_law 1109 = .ok (.aload_n 2, 1) := by decide +kernel
theorem dL_law_1110 : decode cL_law 1110 = .ok (.invokevirtual 105, 3) := by decide +kernel
theorem dL_law_1113 : decode cL_law 1113 = .ok (.iload 5, 2) := by decide +kernel
theorem dL_law_1115 : decode cL_law 1115 = .ok (.if_icmp .eq 5, 3) := by decide +kernel
theorem dL_law_1118 : decode cL_law 1118 = .ok (.iconst 0, 1) := by decide +kernel
theorem dL_law_1119 : decode cL_law 1119 = .ok (.ireturn, 1) := by decide +kernel
theorem dL_law_1120 : decode cL_law 1120 = .ok (.iload 5, 2) := by decide +kernel
theorem dL_law_1122 : decode cL_law 1122 = .ok (.ifCond .ne 15, 3) := by decide +kernel
theorem dL_law_1125 : decode cL_law 1125 = .ok (.aload_n 3, 1) := by decide +kernel
theorem dL_law_1126 : decode cL_law 1126 = .ok (.iconst 0, 1) := by decide +kernel
theorem dL_law_1127 : decode cL_law 1127 = .ok (.laload, 1) := by decide +kernel
theorem dL_law_1128 : decode cL_law 1128 = .ok (.iload 6, 2) := by decide +kernel
theorem dL_law_1130 : decode cL_law 1130 = .ok (.i2l, 1) := by decide +kernel
theorem dL_law_1131 : decode cL_law 1131 = .ok (.lcmp, 1) := by decide +kernel
theorem dL_law_1132 : decode cL_law 1132 = .ok (.ifCond .eq 5, 3) := by decide +kernel
theorem dL_law_1135 : decode cL_law 1135 = .ok (.iconst 0, 1) := by decide +kernel
theorem dL_law_1136 : decode cL_law 1136 = .ok (.ireturn, 1) := by decide +kernel
theorem dL_law_1137 : decode cL_law 1137 = .ok (.goto 728, 3) := by decide +kernel
theorem dL_law_1140 : decode cL_law 1140 = .ok (.aload_n 1, 1) := by decide +kernel
theorem dL_law_1141 : decode cL_law 1141 = .ok (.invokevirtual 152, 3) := by decide +kernel
theorem dL_law_1144 : decode cL_law 1144 = .ok (.aload_n 2, 1) := by decide +kernel
theorem dL_law_1145 : decode cL_law 1145 = .ok (.invokevirtual 155, 3) := by decide +kernel
theorem dL_law_1148 : decode cL_law 1148 = .ok (.if_icmp .eq 717, 3) := by decide +kernel
theorem dL_law_1151 : decode cL_law 1151 = .ok (.iconst 0, 1) := by decide +kernel
theorem dL_law_1152 : decode cL_law 1152 = .ok (.ireturn, 1) := by decide +kernel
theorem dL_law_1153 : decode cL_law 1153 = .ok (.aload_n 1, 1) := by decide +kernel
theorem dL_law_1154 : decode cL_law 1154 = .ok (.aload_n 0, 1) := by decide +kernel
theorem dL_law_1155 : decode cL_law 1155 = .ok (.iload 4, 2) := by decide +kernel
theorem dL_law_1157 : decode cL_law 1157 = .ok (.iconst 1, 1) := by decide +kernel
theorem dL_law_1158 : decode cL_law 1158 = .ok (.iadd, 1) := by decide +kernel
theorem dL_law_1159 : decode cL_law 1159 = .ok (.iaload, 1) := by decide +kernel
theorem dL_law_1160 : decode cL_law 1160 = .ok (.aload_n 3, 1) := by decide +kernel
theorem dL_law_1161 : decode cL_law 1161 = .ok (.invokestatic 156, 3) := by decide +kernel
theorem dL_law_1164 : decode cL_law 1164 = .ok (.istore 5, 2) := by decide +kernel
theorem dL_law_1166 : decode cL_law 1166 = .ok (.aload_n 2, 1) := by decide +kernel
theorem dL_law_1167 : decode cL_law 1167 = .ok (.aload_n 0, 1) := by decide +kernel
theorem dL_law_1168 : decode cL_law 1168 = .ok (.iload 4, 2) := by decide +kernel
theorem dL_law_1170 : decode cL_law 1170 = .ok (.iconst 1, 1) := by decide +kernel
theorem dL_law_1171 : decode cL_law 1171 = .ok (.iadd, 1) := by decide +kernel
theorem dL_law_1172 : decode cL_law 1172 = .ok (.iaload, 1) := by decide +kernel
theorem dL_law_1173 : decode cL_law 1173 = .ok (.invokevirtual 158, 3) := by decide +kernel
theorem dL_law_1176 : decode cL_law 1176 = .ok (.istore 6, 2) := by decide +kernel
theorem dL_law_1178 : decode cL_law 1178 = .ok (.aload_n 2, 1) := by decide +kernel
theorem dL_law_1179 : decode cL_law 1179 = .ok (.invokevirtual 105, 3) := by decide +kernel
theorem dL_law_1182 : decode cL_law 1182 = .ok (.iload 5, 2) := by decide +kernel
theorem dL_law_1184 : decode cL_law 1184 = .ok (.if_icmp .eq 5, 3) := by decide +kernel
theorem dL_law_1187 : decode cL_law 1187 = .ok (.iconst 0, 1) := by decide +kernel
theorem dL_law_1188 : decode cL_law 1188 = .ok (.ireturn, 1) := by decide +kernel
theorem dL_law_1189 : decode cL_law 1189 = .ok (.iload 5, 2) := by decide +kernel
theorem dL_law_1191 : decode cL_law 1191 = .ok (.ifCond .ne 15, 3) := by decide +kernel
theorem dL_law_1194 : decode cL_law 1194 = .ok (.aload_n 3, 1) := by decide +kernel
theorem dL_law_1195 : decode cL_law 1195 = .ok (.iconst 0, 1) := by decide +kernel
theorem dL_law_1196 : decode cL_law 1196 = .ok (.laload, 1) := by decide +kernel
theorem dL_law_1197 : decode cL_law 1197 = .ok (.iload 6, 2) := by decide +kernel
theorem dL_law_1199 : decode cL_law 1199 = .ok (.i2l, 1) := by decide +kernel
theorem dL_law_1200 : decode cL_law 1200 = .ok (.lcmp, 1) := by decide +kernel
theorem dL_law_1201 : decode cL_law 1201 = .ok (.ifCond .eq 5, 3) := by decide +kernel
theorem dL_law_1204 : decode cL_law 1204 = .ok (.iconst 0, 1) := by decide +kernel
theorem dL_law_1205 : decode cL_law 1205 = .ok (.ireturn, 1) := by decide +kernel
theorem dL_law_1206 : decode cL_law 1206 = .ok (.goto 659, 3) := by decide +kernel
theorem dL_law_1209 : decode cL_law 1209 = .ok (.aload_n 1, 1) := by decide +kernel
theorem dL_law_1210 : decode cL_law 1210 = .ok (.aload_n 0, 1) := by decide +kernel
theorem dL_law_1211 : decode cL_law 1211 = .ok (.iload 4, 2) := by decide +kernel
theorem dL_law_1213 : decode cL_law 1213 = .ok (.iconst 1, 1) := by decide +kernel
theorem dL_law_1214 : decode cL_law 1214 = .ok (.iadd, 1) := by decide +kernel
theorem dL_law_1215 : decode cL_law 1215 = .ok (.iaload, 1) := by decide +kernel
theorem dL_law_1216 : decode cL_law 1216 = .ok (.aload_n 0, 1) := by decide +kernel
theorem dL_law_1217 : decode cL_law 1217 = .ok (.iload 4, 2) := by decide +kernel
theorem dL_law_1219 : decode cL_law 1219 = .ok (.iconst 2, 1) := by decide +kernel
theorem dL_law_1220 : decode cL_law 1220 = .ok (.iadd, 1) := by decide +kernel
theorem dL_law_1221 : decode cL_law 1221 = .ok (.iaload, 1) := by decide +kernel
theorem dL_law_1222 : decode cL_law 1222 = .ok (.aload_n 3, 1) := by decide +kernel
theorem dL_law_1223 : decode cL_law 1223 = .ok (.invokestatic 159, 3) := by decide +kernel
theorem dL_law_1226 : decode cL_law 1226 = .ok (.istore 5, 2) := by decide +kernel
theorem dL_law_1228 : decode cL_law 1228 = .ok (.aload_n 2, 1) := by decide +kernel
theorem dL_law_1229 : decode cL_law 1229 = .ok (.aload_n 0, 1) := by decide +kernel
theorem dL_law_1230 : decode cL_law 1230 = .ok (.iload 4, 2) := by decide +kernel
theorem dL_law_1232 : decode cL_law 1232 = .ok (.iconst 1, 1) := by decide +kernel
theorem dL_law_1233 : decode cL_law 1233 = .ok (.iadd, 1) := by decide +kernel
theorem dL_law_1234 : decode cL_law 1234 = .ok (.iaload, 1) := by decide +kernel
theorem dL_law_1235 : decode cL_law 1235 = .ok (.aload_n 0, 1) := by decide +kernel
theorem dL_law_1236 : decode cL_law 1236 = .ok (.iload 4, 2) := by decide +kernel
theorem dL_law_1238 : decode cL_law 1238 = .ok (.iconst 2, 1) := by decide +kernel
theorem dL_law_1239 : decode cL_law 1239 = .ok (.iadd, 1) := by decide +kernel
theorem dL_law_1240 : decode cL_law 1240 = .ok (.iaload, 1) := by decide +kernel
theorem dL_law_1241 : decode cL_law 1241 = .ok (.invokevirtual 161, 3) := by decide +kernel
theorem dL_law_1244 : decode cL_law 1244 = .ok (.istore 6, 2) := by decide +kernel
theorem dL_law_1246 : decode cL_law 1246 = .ok (.aload_n 2, 1) := by decide +kernel
theorem dL_law_1247 : decode cL_law 1247 = .ok (.invokevirtual 105, 3) := by decide +kernel
theorem dL_law_1250 : decode cL_law 1250 = .ok (.iload 5, 2) := by decide +kernel
theorem dL_law_1252 : decode cL_law 1252 = .ok (.if_icmp .eq 5, 3) := by decide +kernel
theorem dL_law_1255 : decode cL_law 1255 = .ok (.iconst 0, 1) := by decide +kernel
theorem dL_law_1256 : decode cL_law 1256 = .ok (.ireturn, 1) := by decide +kernel
theorem dL_law_1257 : decode cL_law 1257 = .ok (.iload 5, 2) := by decide +kernel
theorem dL_law_1259 : decode cL_law 1259 = .ok (.ifCond .ne 15, 3) := by decide +kernel
theorem dL_law_1262 : decode cL_law 1262 = .ok (.aload_n 3, 1) := by decide +kernel
theorem dL_law_1263 : decode cL_law 1263 = .ok (.iconst 0, 1) := by decide +kernel
theorem dL_law_1264 : decode cL_law 1264 = .ok (.laload, 1) := by decide +kernel
theorem dL_law_1265 : decode cL_law 1265 = .ok (.iload 6, 2) := by decide +kernel
theorem dL_law_1267 : decode cL_law 1267 = .ok (.i2l, 1) := by decide +kernel
theorem dL_law_1268 : decode cL_law 1268 = .ok (.lcmp, 1) := by decide +kernel
theorem dL_law_1269 : decode cL_law 1269 = .ok (.ifCond .eq 5, 3) := by decide +kernel
theorem dL_law_1272 : decode cL_law 1272 = .ok (.iconst 0, 1) := by decide +kernel
theorem dL_law_1273 : decode cL_law 1273 = .ok (.ireturn, 1) := by decide +kernel
theorem dL_law_1274 : decode cL_law 1274 = .ok (.goto 591, 3) := by decide +kernel
theorem dL_law_1277 : decode cL_law 1277 = .ok (.aload_n 1, 1) := by decide +kernel
theorem dL_law_1278 : decode cL_law 1278 = .ok (.aload_n 0, 1) := by decide +kernel
theorem dL_law_1279 : decode cL_law 1279 = .ok (.iload 4, 2) := by decide +kernel
theorem dL_law_1281 : decode cL_law 1281 = .ok (.iconst 1, 1) := by decide +kernel
theorem dL_law_1282 : decode cL_law 1282 = .ok (.iadd, 1) := by decide +kernel
theorem dL_law_1283 : decode cL_law 1283 = .ok (.iaload, 1) := by decide +kernel
theorem dL_law_1284 : decode cL_law 1284 = .ok (.aload_n 0, 1) := by decide +kernel
theorem dL_law_1285 : decode cL_law 1285 = .ok (.iload 4, 2) := by decide +kernel
theorem dL_law_1287 : decode cL_law 1287 = .ok (.iconst 2, 1) := by decide +kernel
theorem dL_law_1288 : decode cL_law 1288 = .ok (.iadd, 1) := by decide +kernel
theorem dL_law_1289 : decode cL_law 1289 = .ok (.iaload, 1) := by decide +kernel
theorem dL_law_1290 : decode cL_law 1290 = .ok (.aload_n 3, 1) := by decide +kernel
theorem dL_law_1291 : decode cL_law 1291 = .ok (.invokestatic 162, 3) := by decide +kernel
theorem dL_law_1294 : decode cL_law 1294 = .ok (.istore 5, 2) := by decide +kernel
theorem dL_law_1296 : decode cL_law 1296 = .ok (.aload_n 2, 1) := by decide +kernel
theorem dL_law_1297 : decode cL_law 1297 = .ok (.aload_n 0, 1) := by decide +kernel
theorem dL_law_1298 : decode cL_law 1298 = .ok (.iload 4, 2) := by decide +kernel
theorem dL_law_1300 : decode cL_law 1300 = .ok (.iconst 1, 1) := by decide +kernel
theorem dL_law_1301 : decode cL_law 1301 = .ok (.iadd, 1) := by decide +kernel
theorem dL_law_1302 : decode cL_law 1302 = .ok (.iaload, 1) := by decide +kernel
theorem dL_law_1303 : decode cL_law 1303 = .ok (.aload_n 0, 1) := by decide +kernel
theorem dL_law_1304 : decode cL_law 1304 = .ok (.iload 4, 2) := by decide +kernel
theorem dL_law_1306 : decode cL_law 1306 = .ok (.iconst 2, 1) := by decide +kernel
theorem dL_law_1307 : decode cL_law 1307 = .ok (.iadd, 1) := by decide +kernel
theorem dL_law_1308 : decode cL_law 1308 = .ok (.iaload, 1) := by decide +kernel
theorem dL_law_1309 : decode cL_law 1309 = .ok (.invokevirtual 164, 3) := by decide +kernel
theorem dL_law_1312 : decode cL_law 1312 = .ok (.istore 6, 2) := by decide +kernel
theorem dL_law_1314 : decode cL_law 1314 = .ok (.aload_n 2, 1) := by decide +kernel
theorem dL_law_1315 : decode cL_law 1315 = .ok (.invokevirtual 105, 3) := by decide +kernel
theorem dL_law_1318 : decode cL_law 1318 = .ok (.iload 5, 2) := by decide +kernel
theorem dL_law_1320 : decode cL_law 1320 = .ok (.if_icmp .eq 5, 3) := by decide +kernel
theorem dL_law_1323 : decode cL_law 1323 = .ok (.iconst 0, 1) := by decide +kernel
theorem dL_law_1324 : decode cL_law 1324 = .ok (.ireturn, 1) := by decide +kernel
theorem dL_law_1325 : decode cL_law 1325 = .ok (.iload 5, 2) := by decide +kernel
theorem dL_law_1327 : decode cL_law 1327 = .ok (.ifCond .ne 15, 3) := by decide +kernel
theorem dL_law_1330 : decode cL_law 1330 = .ok (.aload_n 3, 1) := by decide +kernel
theorem dL_law_1331 : decode cL_law 1331 = .ok (.iconst 0, 1) := by decide +kernel
theorem dL_law_1332 : decode cL_law 1332 = .ok (.laload, 1) := by decide +kernel
theorem dL_law_1333 : decode cL_law 1333 = .ok (.iload 6, 2) := by decide +kernel
theorem dL_law_1335 : decode cL_law 1335 = .ok (.i2l, 1) := by decide +kernel
theorem dL_law_1336 : decode cL_law 1336 = .ok (.lcmp, 1) := by decide +kernel
theorem dL_law_1337 : decode cL_law 1337 = .ok (.ifCond .eq 5, 3) := by decide +kernel
theorem dL_law_1340 : decode cL_law 1340 = .ok (.iconst 0, 1) := by decide +kernel
theorem dL_law_1341 : decode cL_law 1341 = .ok (.ireturn, 1) := by decide +kernel
theorem dL_law_1342 : decode cL_law 1342 = .ok (.goto 523, 3) := by decide +kernel
theorem dL_law_1345 : decode cL_law 1345 = .ok (.aload_n 1, 1) := by decide +kernel
theorem dL_law_1346 : decode cL_law 1346 = .ok (.aload_n 0, 1) := by decide +kernel
theorem dL_law_1347 : decode cL_law 1347 = .ok (.iload 4, 2) := by decide +kernel
theorem dL_law_1349 : decode cL_law 1349 = .ok (.iconst 1, 1) := by decide +kernel
theorem dL_law_1350 : decode cL_law 1350 = .ok (.iadd, 1) := by decide +kernel
theorem dL_law_1351 : decode cL_law 1351 = .ok (.iaload, 1) := by decide +kernel
theorem dL_law_1352 : decode cL_law 1352 = .ok (.aload_n 0, 1) := by decide +kernel
theorem dL_law_1353 : decode cL_law 1353 = .ok (.iload 4, 2) := by decide +kernel
theorem dL_law_1355 : decode cL_law 1355 = .ok (.iconst 2, 1) := by decide +kernel
theorem dL_law_1356 : decode cL_law 1356 = .ok (.iadd, 1) := by decide +kernel
theorem dL_law_1357 : decode cL_law 1357 = .ok (.iaload, 1) := by decide +kernel
theorem dL_law_1358 : decode cL_law 1358 = .ok (.aload_n 3, 1) := by decide +kernel
theorem dL_law_1359 : decode cL_law 1359 = .ok (.invokestatic 165, 3) := by decide +kernel
theorem dL_law_1362 : decode cL_law 1362 = .ok (.istore 5, 2) := by decide +kernel
theorem dL_law_1364 : decode cL_law 1364 = .ok (.aload_n 2, 1) := by decide +kernel
theorem dL_law_1365 : decode cL_law 1365 = .ok (.aload_n 0, 1) := by decide +kernel
theorem dL_law_1366 : decode cL_law 1366 = .ok (.iload 4, 2) := by decide +kernel
theorem dL_law_1368 : decode cL_law 1368 = .ok (.iconst 1, 1) := by decide +kernel
theorem dL_law_1369 : decode cL_law 1369 = .ok (.iadd, 1) := by decide +kernel
theorem dL_law_1370 : decode cL_law 1370 = .ok (.iaload, 1) := by decide +kernel
theorem dL_law_1371 : decode cL_law 1371 = .ok (.aload_n 0, 1) := by decide +kernel
theorem dL_law_1372 : decode cL_law 1372 = .ok (.iload 4, 2) := by decide +kernel
theorem dL_law_1374 : decode cL_law 1374 = .ok (.iconst 2, 1) := by decide +kernel
theorem dL_law_1375 : decode cL_law 1375 = .ok (.iadd, 1) := by decide +kernel
theorem dL_law_1376 : decode cL_law 1376 = .ok (.iaload, 1) := by decide +kernel
theorem dL_law_1377 : decode cL_law 1377 = .ok (.invokevirtual 167, 3) := by decide +kernel
theorem dL_law_1380 : decode cL_law 1380 = .ok (.istore 6, 2) := by decide +kernel
theorem dL_law_1382 : decode cL_law 1382 = .ok (.aload_n 2, 1) := by decide +kernel
theorem dL_law_1383 : decode cL_law 1383 = .ok (.invokevirtual 105, 3) := by decide +kernel
theorem dL_law_1386 : decode cL_law 1386 = .ok (.iload 5, 2) := by decide +kernel
theorem dL_law_1388 : decode cL_law 1388 = .ok (.if_icmp .eq 5, 3) := by decide +kernel
theorem dL_law_1391 : decode cL_law 1391 = .ok (.iconst 0, 1) := by decide +kernel
theorem dL_law_1392 : decode cL_law 1392 = .ok (.ireturn, 1) := by decide +kernel
theorem dL_law_1393 : decode cL_law 1393 = .ok (.iload 5, 2) := by decide +kernel
theorem dL_law_1395 : decode cL_law 1395 = .ok (.ifCond .ne 15, 3) := by decide +kernel
theorem dL_law_1398 : decode cL_law 1398 = .ok (.aload_n 3, 1) := by decide +kernel
theorem dL_law_1399 : decode cL_law 1399 = .ok (.iconst 0, 1) := by decide +kernel
theorem dL_law_1400 : decode cL_law 1400 = .ok (.laload, 1) := by decide +kernel
theorem dL_law_1401 : decode cL_law 1401 = .ok (.iload 6, 2) := by decide +kernel
theorem dL_law_1403 : decode cL_law 1403 = .ok (.i2l, 1) := by decide +kernel
theorem dL_law_1404 : decode cL_law 1404 = .ok (.lcmp, 1) := by decide +kernel
theorem dL_law_1405 : decode cL_law 1405 = .ok (.ifCond .eq 5, 3) := by decide +kernel
theorem dL_law_1408 : decode cL_law 1408 = .ok (.iconst 0, 1) := by decide +kernel
theorem dL_law_1409 : decode cL_law 1409 = .ok (.ireturn, 1) := by decide +kernel
theorem dL_law_1410 : decode cL_law 1410 = .ok (.goto 455, 3) := by decide +kernel
theorem dL_law_1413 : decode cL_law 1413 = .ok (.aload_n 1, 1) := by decide +kernel
theorem dL_law_1414 : decode cL_law 1414 = .ok (.aload_n 0, 1) := by decide +kernel
theorem dL_law_1415 : decode cL_law 1415 = .ok (.iload 4, 2) := by decide +kernel
theorem dL_law_1417 : decode cL_law 1417 = .ok (.iconst 1, 1) := by decide +kernel
theorem dL_law_1418 : decode cL_law 1418 = .ok (.iadd, 1) := by decide +kernel
theorem dL_law_1419 : decode cL_law 1419 = .ok (.iaload, 1) := by decide +kernel
theorem dL_law_1420 : decode cL_law 1420 = .ok (.aload_n 0, 1) := by decide +kernel
theorem dL_law_1421 : decode cL_law 1421 = .ok (.iload 4, 2) := by decide +kernel
theorem dL_law_1423 : decode cL_law 1423 = .ok (.iconst 2, 1) := by decide +kernel
theorem dL_law_1424 : decode cL_law 1424 = .ok (.iadd, 1) := by decide +kernel
theorem dL_law_1425 : decode cL_law 1425 = .ok (.iaload, 1) := by decide +kernel
theorem dL_law_1426 : decode cL_law 1426 = .ok (.aload_n 3, 1) := by decide +kernel
theorem dL_law_1427 : decode cL_law 1427 = .ok (.invokestatic 168, 3) := by decide +kernel
theorem dL_law_1430 : decode cL_law 1430 = .ok (.istore 5, 2) := by decide +kernel
theorem dL_law_1432 : decode cL_law 1432 = .ok (.aload_n 2, 1) := by decide +kernel
theorem dL_law_1433 : decode cL_law 1433 = .ok (.aload_n 0, 1) := by decide +kernel
theorem dL_law_1434 : decode cL_law 1434 = .ok (.iload 4, 2) := by decide +kernel
theorem dL_law_1436 : decode cL_law 1436 = .ok (.iconst 1, 1) := by decide +kernel
theorem dL_law_1437 : decode cL_law 1437 = .ok (.iadd, 1) := by decide +kernel
theorem dL_law_1438 : decode cL_law 1438 = .ok (.iaload, 1) := by decide +kernel
theorem dL_law_1439 : decode cL_law 1439 = .ok (.aload_n 0, 1) := by decide +kernel
theorem dL_law_1440 : decode cL_law 1440 = .ok (.iload 4, 2) := by decide +kernel
theorem dL_law_1442 : decode cL_law 1442 = .ok (.iconst 2, 1) := by decide +kernel
theorem dL_law_1443 : decode cL_law 1443 = .ok (.iadd, 1) := by decide +kernel
theorem dL_law_1444 : decode cL_law 1444 = .ok (.iaload, 1) := by decide +kernel
theorem dL_law_1445 : decode cL_law 1445 = .ok (.invokevirtual 170, 3) := by decide +kernel
theorem dL_law_1448 : decode cL_law 1448 = .ok (.istore 6, 2) := by decide +kernel
theorem dL_law_1450 : decode cL_law 1450 = .ok (.aload_n 2, 1) := by decide +kernel
theorem dL_law_1451 : decode cL_law 1451 = .ok (.invokevirtual 105, 3) := by decide +kernel
theorem dL_law_1454 : decode cL_law 1454 = .ok (.iload 5, 2) := by decide +kernel
theorem dL_law_1456 : decode cL_law 1456 = .ok (.if_icmp .eq 5, 3) := by decide +kernel
theorem dL_law_1459 : decode cL_law 1459 = .ok (.iconst 0, 1) := by decide +kernel
theorem dL_law_1460 : decode cL_law 1460 = .ok (.ireturn, 1) := by decide +kernel
theorem dL_law_1461 : decode cL_law 1461 = .ok (.iload 5, 2) := by decide +kernel
theorem dL_law_1463 : decode cL_law 1463 = .ok (.ifCond .ne 15, 3) := by decide +kernel
theorem dL_law_1466 : decode cL_law 1466 = .ok (.aload_n 3, 1) := by decide +kernel
theorem dL_law_1467 : decode cL_law 1467 = .ok (.iconst 0, 1) := by decide +kernel
theorem dL_law_1468 : decode cL_law 1468 = .ok (.laload, 1) := by decide +kernel
theorem dL_law_1469 : decode cL_law 1469 = .ok (.iload 6, 2) := by decide +kernel
theorem dL_law_1471 : decode cL_law 1471 = .ok (.i2l, 1) := by decide +kernel
theorem dL_law_1472 : decode cL_law 1472 = .ok (.lcmp, 1) := by decide +kernel
theorem dL_law_1473 : decode cL_law 1473 = .ok (.ifCond .eq 5, 3) := by decide +kernel
theorem dL_law_1476 : decode cL_law 1476 = .ok (.iconst 0, 1) := by decide +kernel
theorem dL_law_1477 : decode cL_law 1477 = .ok (.ireturn, 1) := by decide +kernel
theorem dL_law_1478 : decode cL_law 1478 = .ok (.goto 387, 3) := by decide +kernel
theorem dL_law_1481 : decode cL_law 1481 = .ok (.aload_n 1, 1) := by decide +kernel
theorem dL_law_1482 : decode cL_law 1482 = .ok (.aload_n 0, 1) := by decide +kernel
theorem dL_law_1483 : decode cL_law 1483 = .ok (.iload 4, 2) := by decide +kernel
theorem dL_law_1485 : decode cL_law 1485 = .ok (.iconst 1, 1) := by decide +kernel
theorem dL_law_1486 : decode cL_law 1486 = .ok (.iadd, 1) := by decide +kernel
theorem dL_law_1487 : decode cL_law 1487 = .ok (.iaload, 1) := by decide +kernel
theorem dL_law_1488 : decode cL_law 1488 = .ok (.aload_n 0, 1) := by decide +kernel
theorem dL_law_1489 : decode cL_law 1489 = .ok (.iload 4, 2) := by decide +kernel
theorem dL_law_1491 : decode cL_law 1491 = .ok (.iconst 2, 1) := by decide +kernel
theorem dL_law_1492 : decode cL_law 1492 = .ok (.iadd, 1) := by decide +kernel
theorem dL_law_1493 : decode cL_law 1493 = .ok (.iaload, 1) := by decide +kernel
theorem dL_law_1494 : decode cL_law 1494 = .ok (.aload_n 3, 1) := by decide +kernel
theorem dL_law_1495 : decode cL_law 1495 = .ok (.invokestatic 171, 3) := by decide +kernel
theorem dL_law_1498 : decode cL_law 1498 = .ok (.istore 5, 2) := by decide +kernel
theorem dL_law_1500 : decode cL_law 1500 = .ok (.aload_n 2, 1) := by decide +kernel
theorem dL_law_1501 : decode cL_law 1501 = .ok (.aload_n 0, 1) := by decide +kernel
theorem dL_law_1502 : decode cL_law 1502 = .ok (.iload 4, 2) := by decide +kernel
theorem dL_law_1504 : decode cL_law 1504 = .ok (.iconst 1, 1) := by decide +kernel
theorem dL_law_1505 : decode cL_law 1505 = .ok (.iadd, 1) := by decide +kernel
theorem dL_law_1506 : decode cL_law 1506 = .ok (.iaload, 1) := by decide +kernel
theorem dL_law_1507 : decode cL_law 1507 = .ok (.aload_n 0, 1) := by decide +kernel
theorem dL_law_1508 : decode cL_law 1508 = .ok (.iload 4, 2) := by decide +kernel
theorem dL_law_1510 : decode cL_law 1510 = .ok (.iconst 2, 1) := by decide +kernel
theorem dL_law_1511 : decode cL_law 1511 = .ok (.iadd, 1) := by decide +kernel
theorem dL_law_1512 : decode cL_law 1512 = .ok (.iaload, 1) := by decide +kernel
theorem dL_law_1513 : decode cL_law 1513 = .ok (.invokevirtual 173, 3) := by decide +kernel
theorem dL_law_1516 : decode cL_law 1516 = .ok (.istore 6, 2) := by decide +kernel
theorem dL_law_1518 : decode cL_law 1518 = .ok (.aload_n 2, 1) := by decide +kernel
theorem dL_law_1519 : decode cL_law 1519 = .ok (.invokevirtual 105, 3) := by decide +kernel
theorem dL_law_1522 : decode cL_law 1522 = .ok (.iload 5, 2) := by decide +kernel
theorem dL_law_1524 : decode cL_law 1524 = .ok (.if_icmp .eq 5, 3) := by decide +kernel
theorem dL_law_1527 : decode cL_law 1527 = .ok (.iconst 0, 1) := by decide +kernel
theorem dL_law_1528 : decode cL_law 1528 = .ok (.ireturn, 1) := by decide +kernel
theorem dL_law_1529 : decode cL_law 1529 = .ok (.iload 5, 2) := by decide +kernel
theorem dL_law_1531 : decode cL_law 1531 = .ok (.ifCond .ne 15, 3) := by decide +kernel
theorem dL_law_1534 : decode cL_law 1534 = .ok (.aload_n 3, 1) := by decide +kernel
theorem dL_law_1535 : decode cL_law 1535 = .ok (.iconst 0, 1) := by decide +kernel
theorem dL_law_1536 : decode cL_law 1536 = .ok (.laload, 1) := by decide +kernel
theorem dL_law_1537 : decode cL_law 1537 = .ok (.iload 6, 2) := by decide +kernel
theorem dL_law_1539 : decode cL_law 1539 = .ok (.i2l, 1) := by decide +kernel
theorem dL_law_1540 : decode cL_law 1540 = .ok (.lcmp, 1) := by decide +kernel
theorem dL_law_1541 : decode cL_law 1541 = .ok (.ifCond .eq 5, 3) := by decide +kernel
theorem dL_law_1544 : decode cL_law 1544 = .ok (.iconst 0, 1) := by decide +kernel
theorem dL_law_1545 : decode cL_law 1545 = .ok (.ireturn, 1) := by decide +kernel
theorem dL_law_1546 : decode cL_law 1546 = .ok (.goto 319, 3) := by decide +kernel
theorem dL_law_1549 : decode cL_law 1549 = .ok (.aload_n 1, 1) := by decide +kernel
theorem dL_law_1550 : decode cL_law 1550 = .ok (.aload_n 0, 1) := by decide +kernel
theorem dL_law_1551 : decode cL_law 1551 = .ok (.iload 4, 2) := by decide +kernel
theorem dL_law_1553 : decode cL_law 1553 = .ok (.iconst 1, 1) := by decide +kernel
theorem dL_law_1554 : decode cL_law 1554 = .ok (.iadd, 1) := by decide +kernel
theorem dL_law_1555 : decode cL_law 1555 = .ok (.iaload, 1) := by decide +kernel
theorem dL_law_1556 : decode cL_law 1556 = .ok (.aload_n 0, 1) := by decide +kernel
theorem dL_law_1557 : decode cL_law 1557 = .ok (.iload 4, 2) := by decide +kernel
theorem dL_law_1559 : decode cL_law 1559 = .ok (.iconst 2, 1) := by decide +kernel
theorem dL_law_1560 : decode cL_law 1560 = .ok (.iadd, 1) := by decide +kernel
theorem dL_law_1561 : decode cL_law 1561 = .ok (.iaload, 1) := by decide +kernel
theorem dL_law_1562 : decode cL_law 1562 = .ok (.aload_n 3, 1) := by decide +kernel
theorem dL_law_1563 : decode cL_law 1563 = .ok (.invokestatic 174, 3) := by decide +kernel
theorem dL_law_1566 : decode cL_law 1566 = .ok (.istore 5, 2) := by decide +kernel
theorem dL_law_1568 : decode cL_law 1568 = .ok (.aload_n 2, 1) := by decide +kernel
theorem dL_law_1569 : decode cL_law 1569 = .ok (.aload_n 0, 1) := by decide +kernel
theorem dL_law_1570 : decode cL_law 1570 = .ok (.iload 4, 2) := by decide +kernel
theorem dL_law_1572 : decode cL_law 1572 = .ok (.iconst 1, 1) := by decide +kernel
theorem dL_law_1573 : decode cL_law 1573 = .ok (.iadd, 1) := by decide +kernel
theorem dL_law_1574 : decode cL_law 1574 = .ok (.iaload, 1) := by decide +kernel
theorem dL_law_1575 : decode cL_law 1575 = .ok (.aload_n 0, 1) := by decide +kernel
theorem dL_law_1576 : decode cL_law 1576 = .ok (.iload 4, 2) := by decide +kernel
theorem dL_law_1578 : decode cL_law 1578 = .ok (.iconst 2, 1) := by decide +kernel
theorem dL_law_1579 : decode cL_law 1579 = .ok (.iadd, 1) := by decide +kernel
theorem dL_law_1580 : decode cL_law 1580 = .ok (.iaload, 1) := by decide +kernel
theorem dL_law_1581 : decode cL_law 1581 = .ok (.invokevirtual 176, 3) := by decide +kernel
theorem dL_law_1584 : decode cL_law 1584 = .ok (.istore 6, 2) := by decide +kernel
theorem dL_law_1586 : decode cL_law 1586 = .ok (.aload_n 2, 1) := by decide +kernel
theorem dL_law_1587 : decode cL_law 1587 = .ok (.invokevirtual 105, 3) := by decide +kernel
theorem dL_law_1590 : decode cL_law 1590 = .ok (.iload 5, 2) := by decide +kernel
theorem dL_law_1592 : decode cL_law 1592 = .ok (.if_icmp .eq 5, 3) := by decide +kernel
theorem dL_law_1595 : decode cL_law 1595 = .ok (.iconst 0, 1) := by decide +kernel
theorem dL_law_1596 : decode cL_law 1596 = .ok (.ireturn, 1) := by decide +kernel
theorem dL_law_1597 : decode cL_law 1597 = .ok (.iload 5, 2) := by decide +kernel
theorem dL_law_1599 : decode cL_law 1599 = .ok (.ifCond .ne 15, 3) := by decide +kernel
theorem dL_law_1602 : decode cL_law 1602 = .ok (.aload_n 3, 1) := by decide +kernel
theorem dL_law_1603 : decode cL_law 1603 = .ok (.iconst 0, 1) := by decide +kernel
theorem dL_law_1604 : decode cL_law 1604 = .ok (.laload, 1) := by decide +kernel
theorem dL_law_1605 : decode cL_law 1605 = .ok (.iload 6, 2) := by decide +kernel
theorem dL_law_1607 : decode cL_law 1607 = .ok (.i2l, 1) := by decide +kernel
theorem dL_law_1608 : decode cL_law 1608 = .ok (.lcmp, 1) := by decide +kernel
theorem dL_law_1609 : decode cL_law 1609 = .ok (.ifCond .eq 5, 3) := by decide +kernel
theorem dL_law_1612 : decode cL_law 1612 = .ok (.iconst 0, 1) := by decide +kernel
theorem dL_law_1613 : decode cL_law 1613 = .ok (.ireturn, 1) := by decide +kernel
theorem dL_law_1614 : decode cL_law 1614 = .ok (.goto 251, 3) := by decide +kernel
theorem dL_law_1617 : decode cL_law 1617 = .ok (.aload_n 1, 1) := by decide +kernel
theorem dL_law_1618 : decode cL_law 1618 = .ok (.aload_n 0, 1) := by decide +kernel
theorem dL_law_1619 : decode cL_law 1619 = .ok (.iload 4, 2) := by decide +kernel
theorem dL_law_1621 : decode cL_law 1621 = .ok (.iconst 1, 1) := by decide +kernel
theorem dL_law_1622 : decode cL_law 1622 = .ok (.iadd, 1) := by decide +kernel
theorem dL_law_1623 : decode cL_law 1623 = .ok (.iaload, 1) := by decide +kernel
theorem dL_law_1624 : decode cL_law 1624 = .ok (.aload_n 3, 1) := by decide +kernel
theorem dL_law_1625 : decode cL_law 1625 = .ok (.invokestatic 177, 3) := by decide +kernel
theorem dL_law_1628 : decode cL_law 1628 = .ok (.istore 5, 2) := by decide +kernel
theorem dL_law_1630 : decode cL_law 1630 = .ok (.aload_n 2, 1) := by decide +kernel
theorem dL_law_1631 : decode cL_law 1631 = .ok (.aload_n 0, 1) := by decide +kernel
theorem dL_law_1632 : decode cL_law 1632 = .ok (.iload 4, 2) := by decide +kernel
theorem dL_law_1634 : decode cL_law 1634 = .ok (.iconst 1, 1) := by decide +kernel
theorem dL_law_1635 : decode cL_law 1635 = .ok (.iadd, 1) := by decide +kernel
theorem dL_law_1636 : decode cL_law 1636 = .ok (.iaload, 1) := by decide +kernel
theorem dL_law_1637 : decode cL_law 1637 = .ok (.invokevirtual 179, 3) := by decide +kernel
theorem dL_law_1640 : decode cL_law 1640 = .ok (.istore 6, 2) := by decide +kernel
theorem dL_law_1642 : decode cL_law 1642 = .ok (.aload_n 2, 1) := by decide +kernel
theorem dL_law_1643 : decode cL_law 1643 = .ok (.invokevirtual 105, 3) := by decide +kernel
theorem dL_law_1646 : decode cL_law 1646 = .ok (.iload 5, 2) := by decide +kernel
theorem dL_law_1648 : decode cL_law 1648 = .ok (.if_icmp .eq 5, 3) := by decide +kernel
theorem dL_law_1651 : decode cL_law 1651 = .ok (.iconst 0, 1) := by decide +kernel
theorem dL_law_1652 : decode cL_law 1652 = .ok (.ireturn, 1) := by decide +kernel
theorem dL_law_1653 : decode cL_law 1653 = .ok (.iload 5, 2) := by decide +kernel
theorem dL_law_1655 : decode cL_law 1655 = .ok (.ifCond .ne 15, 3) := by decide +kernel
theorem dL_law_1658 : decode cL_law 1658 = .ok (.aload_n 3, 1) := by decide +kernel
theorem dL_law_1659 : decode cL_law 1659 = .ok (.iconst 0, 1) := by decide +kernel
theorem dL_law_1660 : decode cL_law 1660 = .ok (.laload, 1) := by decide +kernel
theorem dL_law_1661 : decode cL_law 1661 = .ok (.iload 6, 2) := by decide +kernel
theorem dL_law_1663 : decode cL_law 1663 = .ok (.i2l, 1) := by decide +kernel
theorem dL_law_1664 : decode cL_law 1664 = .ok (.lcmp, 1) := by decide +kernel
theorem dL_law_1665 : decode cL_law 1665 = .ok (.ifCond .eq 5, 3) := by decide +kernel
theorem dL_law_1668 : decode cL_law 1668 = .ok (.iconst 0, 1) := by decide +kernel
theorem dL_law_1669 : decode cL_law 1669 = .ok (.ireturn, 1) := by decide +kernel
theorem dL_law_1670 : decode cL_law 1670 = .ok (.goto 195, 3) := by decide +kernel
theorem dL_law_1673 : decode cL_law 1673 = .ok (.aload_n 1, 1) := by decide +kernel
theorem dL_law_1674 : decode cL_law 1674 = .ok (.aload_n 0, 1) := by decide +kernel
theorem dL_law_1675 : decode cL_law 1675 = .ok (.iload 4, 2) := by decide +kernel
theorem dL_law_1677 : decode cL_law 1677 = .ok (.iconst 1, 1) := by decide +kernel
theorem dL_law_1678 : decode cL_law 1678 = .ok (.iadd, 1) := by decide +kernel
theorem dL_law_1679 : decode cL_law 1679 = .ok (.iaload, 1) := by decide +kernel
theorem dL_law_1680 : decode cL_law 1680 = .ok (.aload_n 3, 1) := by decide +kernel
theorem dL_law_1681 : decode cL_law 1681 = .ok (.invokestatic 180, 3) := by decide +kernel
theorem dL_law_1684 : decode cL_law 1684 = .ok (.istore 5, 2) := by decide +kernel
theorem dL_law_1686 : decode cL_law 1686 = .ok (.aload_n 2, 1) := by decide +kernel
theorem dL_law_1687 : decode cL_law 1687 = .ok (.aload_n 0, 1) := by decide +kernel
theorem dL_law_1688 : decode cL_law 1688 = .ok (.iload 4, 2) := by decide +kernel
theorem dL_law_1690 : decode cL_law 1690 = .ok (.iconst 1, 1) := by decide +kernel
theorem dL_law_1691 : decode cL_law 1691 = .ok (.iadd, 1) := by decide +kernel
theorem dL_law_1692 : decode cL_law 1692 = .ok (.iaload, 1) := by decide +kernel
theorem dL_law_1693 : decode cL_law 1693 = .ok (.invokevirtual 182, 3) := by decide +kernel
theorem dL_law_1696 : decode cL_law 1696 = .ok (.istore 6, 2) := by decide +kernel
theorem dL_law_1698 : decode cL_law 1698 = .ok (.aload_n 2, 1) := by decide +kernel
theorem dL_law_1699 : decode cL_law 1699 = .ok (.invokevirtual 105, 3) := by decide +kernel
theorem dL_law_1702 : decode cL_law 1702 = .ok (.iload 5, 2) := by decide +kernel
theorem dL_law_1704 : decode cL_law 1704 = .ok (.if_icmp .eq 5, 3) := by decide +kernel
theorem dL_law_1707 : decode cL_law 1707 = .ok (.iconst 0, 1) := by decide +kernel
theorem dL_law_1708 : decode cL_law 1708 = .ok (.ireturn, 1) := by decide +kernel
theorem dL_law_1709 : decode cL_law 1709 = .ok (.iload 5, 2) := by decide +kernel
theorem dL_law_1711 : decode cL_law 1711 = .ok (.ifCond .ne 15, 3) := by decide +kernel
theorem dL_law_1714 : decode cL_law 1714 = .ok (.aload_n 3, 1) := by decide +kernel
theorem dL_law_1715 : decode cL_law 1715 = .ok (.iconst 0, 1) := by decide +kernel
theorem dL_law_1716 : decode cL_law 1716 = .ok (.laload, 1) := by decide +kernel
theorem dL_law_1717 : decode cL_law 1717 = .ok (.iload 6, 2) := by decide +kernel
theorem dL_law_1719 : decode cL_law 1719 = .ok (.i2l, 1) := by decide +kernel
theorem dL_law_1720 : decode cL_law 1720 = .ok (.lcmp, 1) := by decide +kernel
theorem dL_law_1721 : decode cL_law 1721 = .ok (.ifCond .eq 5, 3) := by decide +kernel
theorem dL_law_1724 : decode cL_law 1724 = .ok (.iconst 0, 1) := by decide +kernel
theorem dL_law_1725 : decode cL_law 1725 = .ok (.ireturn, 1) := by decide +kernel
theorem dL_law_1726 : decode cL_law 1726 = .ok (.goto 139, 3) := by decide +kernel
theorem dL_law_1729 : decode cL_law 1729 = .ok (.aload_n 1, 1) := by decide +kernel
theorem dL_law_1730 : decode cL_law 1730 = .ok (.aload_n 0, 1) := by decide +kernel
theorem dL_law_1731 : decode cL_law 1731 = .ok (.iload 4, 2) := by decide +kernel
theorem dL_law_1733 : decode cL_law 1733 = .ok (.iconst 1, 1) := by decide +kernel
theorem dL_law_1734 : decode cL_law 1734 = .ok (.iadd, 1) := by decide +kernel
theorem dL_law_1735 : decode cL_law 1735 = .ok (.iaload, 1) := by decide +kernel
theorem dL_law_1736 : decode cL_law 1736 = .ok (.aload_n 0, 1) := by decide +kernel
theorem dL_law_1737 : decode cL_law 1737 = .ok (.iload 4, 2) := by decide +kernel
theorem dL_law_1739 : decode cL_law 1739 = .ok (.iconst 2, 1) := by decide +kernel
theorem dL_law_1740 : decode cL_law 1740 = .ok (.iadd, 1) := by decide +kernel
theorem dL_law_1741 : decode cL_law 1741 = .ok (.iaload, 1) := by decide +kernel
theorem dL_law_1742 : decode cL_law 1742 = .ok (.aload_n 3, 1) := by decide +kernel
theorem dL_law_1743 : decode cL_law 1743 = .ok (.invokestatic 183, 3) := by decide +kernel
theorem dL_law_1746 : decode cL_law 1746 = .ok (.istore 5, 2) := by decide +kernel
theorem dL_law_1748 : decode cL_law 1748 = .ok (.aload_n 2, 1) := by decide +kernel
theorem dL_law_1749 : decode cL_law 1749 = .ok (.aload_n 0, 1) := by decide +kernel
theorem dL_law_1750 : decode cL_law 1750 = .ok (.iload 4, 2) := by decide +kernel
theorem dL_law_1752 : decode cL_law 1752 = .ok (.iconst 1, 1) := by decide +kernel
theorem dL_law_1753 : decode cL_law 1753 = .ok (.iadd, 1) := by decide +kernel
theorem dL_law_1754 : decode cL_law 1754 = .ok (.iaload, 1) := by decide +kernel
theorem dL_law_1755 : decode cL_law 1755 = .ok (.aload_n 0, 1) := by decide +kernel
theorem dL_law_1756 : decode cL_law 1756 = .ok (.iload 4, 2) := by decide +kernel
theorem dL_law_1758 : decode cL_law 1758 = .ok (.iconst 2, 1) := by decide +kernel
theorem dL_law_1759 : decode cL_law 1759 = .ok (.iadd, 1) := by decide +kernel
theorem dL_law_1760 : decode cL_law 1760 = .ok (.iaload, 1) := by decide +kernel
theorem dL_law_1761 : decode cL_law 1761 = .ok (.invokevirtual 185, 3) := by decide +kernel
theorem dL_law_1764 : decode cL_law 1764 = .ok (.istore 6, 2) := by decide +kernel
theorem dL_law_1766 : decode cL_law 1766 = .ok (.aload_n 2, 1) := by decide +kernel
theorem dL_law_1767 : decode cL_law 1767 = .ok (.invokevirtual 105, 3) := by decide +kernel
theorem dL_law_1770 : decode cL_law 1770 = .ok (.iload 5, 2) := by decide +kernel
theorem dL_law_1772 : decode cL_law 1772 = .ok (.if_icmp .eq 5, 3) := by decide +kernel
theorem dL_law_1775 : decode cL_law 1775 = .ok (.iconst 0, 1) := by decide +kernel
theorem dL_law_1776 : decode cL_law 1776 = .ok (.ireturn, 1) := by decide +kernel
theorem dL_law_1777 : decode cL_law 1777 = .ok (.iload 5, 2) := by decide +kernel
theorem dL_law_1779 : decode cL_law 1779 = .ok (.ifCond .ne 15, 3) := by decide +kernel
theorem dL_law_1782 : decode cL_law 1782 = .ok (.aload_n 3, 1) := by decide +kernel
theorem dL_law_1783 : decode cL_law 1783 = .ok (.iconst 0, 1) := by decide +kernel
theorem dL_law_1784 : decode cL_law 1784 = .ok (.laload, 1) := by decide +kernel
theorem dL_law_1785 : decode cL_law 1785 = .ok (.iload 6, 2) := by decide +kernel
theorem dL_law_1787 : decode cL_law 1787 = .ok (.i2l, 1) := by decide +kernel
theorem dL_law_1788 : decode cL_law 1788 = .ok (.lcmp, 1) := by decide +kernel
theorem dL_law_1789 : decode cL_law 1789 = .ok (.ifCond .eq 5, 3) := by decide +kernel
theorem dL_law_1792 : decode cL_law 1792 = .ok (.iconst 0, 1) := by decide +kernel
theorem dL_law_1793 : decode cL_law 1793 = .ok (.ireturn, 1) := by decide +kernel
theorem dL_law_1794 : decode cL_law 1794 = .ok (.goto 71, 3) := by decide +kernel
theorem dL_law_1797 : decode cL_law 1797 = .ok (.aload_n 1, 1) := by decide +kernel
theorem dL_law_1798 : decode cL_law 1798 = .ok (.aload_n 0, 1) := by decide +kernel
theorem dL_law_1799 : decode cL_law 1799 = .ok (.iload 4, 2) := by decide +kernel
theorem dL_law_1801 : decode cL_law 1801 = .ok (.iconst 1, 1) := by decide +kernel
theorem dL_law_1802 : decode cL_law 1802 = .ok (.iadd, 1) := by decide +kernel
theorem dL_law_1803 : decode cL_law 1803 = .ok (.iaload, 1) := by decide +kernel
theorem dL_law_1804 : decode cL_law 1804 = .ok (.aload_n 0, 1) := by decide +kernel
theorem dL_law_1805 : decode cL_law 1805 = .ok (.iload 4, 2) := by decide +kernel
theorem dL_law_1807 : decode cL_law 1807 = .ok (.iconst 2, 1) := by decide +kernel
theorem dL_law_1808 : decode cL_law 1808 = .ok (.iadd, 1) := by decide +kernel
theorem dL_law_1809 : decode cL_law 1809 = .ok (.iaload, 1) := by decide +kernel
theorem dL_law_1810 : decode cL_law 1810 = .ok (.aload_n 3, 1) := by decide +kernel
theorem dL_law_1811 : decode cL_law 1811 = .ok (.invokestatic 186, 3) := by decide +kernel
theorem dL_law_1814 : decode cL_law 1814 = .ok (.istore 5, 2) := by decide +kernel
theorem dL_law_1816 : decode cL_law 1816 = .ok (.aload_n 2, 1) := by decide +kernel
theorem dL_law_1817 : decode cL_law 1817 = .ok (.aload_n 0, 1) := by decide +kernel
theorem dL_law_1818 : decode cL_law 1818 = .ok (.iload 4, 2) := by decide +kernel
theorem dL_law_1820 : decode cL_law 1820 = .ok (.iconst 1, 1) := by decide +kernel
theorem dL_law_1821 : decode cL_law 1821 = .ok (.iadd, 1) := by decide +kernel
theorem dL_law_1822 : decode cL_law 1822 = .ok (.iaload, 1) := by decide +kernel
theorem dL_law_1823 : decode cL_law 1823 = .ok (.aload_n 0, 1) := by decide +kernel
theorem dL_law_1824 : decode cL_law 1824 = .ok (.iload 4, 2) := by decide +kernel
theorem dL_law_1826 : decode cL_law 1826 = .ok (.iconst 2, 1) := by decide +kernel
theorem dL_law_1827 : decode cL_law 1827 = .ok (.iadd, 1) := by decide +kernel
theorem dL_law_1828 : decode cL_law 1828 = .ok (.iaload, 1) := by decide +kernel
theorem dL_law_1829 : decode cL_law 1829 = .ok (.invokevirtual 188, 3) := by decide +kernel
theorem dL_law_1832 : decode cL_law 1832 = .ok (.istore 6, 2) := by decide +kernel
theorem dL_law_1834 : decode cL_law 1834 = .ok (.aload_n 2, 1) := by decide +kernel
theorem dL_law_1835 : decode cL_law 1835 = .ok (.invokevirtual 105, 3) := by decide +kernel
theorem dL_law_1838 : decode cL_law 1838 = .ok (.iload 5, 2) := by decide +kernel
theorem dL_law_1840 : decode cL_law 1840 = .ok (.if_icmp .eq 5, 3) := by decide +kernel
theorem dL_law_1843 : decode cL_law 1843 = .ok (.iconst 0, 1) := by decide +kernel
theorem dL_law_1844 : decode cL_law 1844 = .ok (.ireturn, 1) := by decide +kernel
theorem dL_law_1845 : decode cL_law 1845 = .ok (.iload 5, 2) := by decide +kernel
theorem dL_law_1847 : decode cL_law 1847 = .ok (.ifCond .ne 15, 3) := by decide +kernel
theorem dL_law_1850 : decode cL_law 1850 = .ok (.aload_n 3, 1) := by decide +kernel
theorem dL_law_1851 : decode cL_law 1851 = .ok (.iconst 0, 1) := by decide +kernel
theorem dL_law_1852 : decode cL_law 1852 = .ok (.laload, 1) := by decide +kernel
theorem dL_law_1853 : decode cL_law 1853 = .ok (.iload 6, 2) := by decide +kernel
theorem dL_law_1855 : decode cL_law 1855 = .ok (.i2l, 1) := by decide +kernel
theorem dL_law_1856 : decode cL_law 1856 = .ok (.lcmp, 1) := by decide +kernel
theorem dL_law_1857 : decode cL_law 1857 = .ok (.ifCond .eq 5, 3) := by decide +kernel
theorem dL_law_1860 : decode cL_law 1860 = .ok (.iconst 0, 1) := by decide +kernel
theorem dL_law_1861 : decode cL_law 1861 = .ok (.ireturn, 1) := by decide +kernel
theorem dL_law_1862 : decode cL_law 1862 = .ok (.goto 3, 3) := by decide +kernel
theorem dL_law_1865 : decode cL_law 1865 = .ok (.iinc 4 5, 3) := by decide +kernel
theorem dL_law_1868 : decode cL_law 1868 = .ok (.goto (-1845), 3) := by decide +kernel
theorem dL_law_1871 : decode cL_law 1871 = .ok (.iconst 1, 1) := by decide +kernel
theorem dL_law_1872 : decode cL_law 1872 = .ok (.ireturn, 1) := by decide +kernel
