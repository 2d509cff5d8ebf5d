theorem dX0_init_0 : decode cX0_init 0 = .ok (.aload_n 0, 1) := by decide +kernel
theorem dX0_init_1 : decode cX0_init 1 = .ok (.invokespecial 3, 3) := by decide +kernel
theorem dX0_init_4 : decode cX0_init 4 = .ok (.aload_n 0, 1) := by decide +kernel
theorem dX0_init_5 : decode cX0_init 5 = .ok (.bipush 8, 2) := by decide +kernel
theorem dX0_init_7 : decode cX0_init 7 = .ok (.newarray .int, 2) := by decide +kernel
theorem dX0_init_9 : decode cX0_init 9 = .ok (.putfield 9, 3) := by decide +kernel
theorem dX0_init_12 : decode cX0_init 12 = .ok (.aload_n 0, 1) := by decide +kernel
theorem dX0_init_13 : decode cX0_init 13 = .ok (.bipush 8, 2) := by decide +kernel
theorem dX0_init_15 : decode cX0_init 15 = .ok (.newarray .int, 2) := by decide +kernel
theorem dX0_init_17 : decode cX0_init 17 = .ok (.putfield 15, 3) := by decide +kernel
theorem dX0_init_20 : decode cX0_init 20 = .ok (.aload_n 0, 1) := by decide +kernel
theorem dX0_init_21 : decode cX0_init 21 = .ok (.iload_n 1, 1) := by decide +kernel
theorem dX0_init_22 : decode cX0_init 22 = .ok (.putfield 18, 3) := by decide +kernel
theorem dX0_init_25 : decode cX0_init 25 = .ok (.aload_n 0, 1) := by decide +kernel
theorem dX0_init_26 : decode cX0_init 26 = .ok (.iload_n 2, 1) := by decide +kernel
theorem dX0_init_27 : decode cX0_init 27 = .ok (.bipush 10, 2) := by decide +kernel
theorem dX0_init_29 : decode cX0_init 29 = .ok (.idiv, 1) := by decide +kernel
theorem dX0_init_30 : decode cX0_init 30 = .ok (.putfield 22, 3) := by decide +kernel
theorem dX0_init_33 : decode cX0_init 33 = .ok (.aload_n 0, 1) := by decide +kernel
theorem dX0_init_34 : decode cX0_init 34 = .ok (.iload_n 2, 1) := by decide +kernel
theorem dX0_init_35 : decode cX0_init 35 = .ok (.bipush 10, 2) := by decide +kernel
theorem dX0_init_37 : decode cX0_init 37 = .ok (.irem, 1) := by decide +kernel
theorem dX0_init_38 : decode cX0_init 38 = .ok (.putfield 25, 3) := by decide +kernel
theorem dX0_init_41 : decode cX0_init 41 = .ok (.aload_n 0, 1) := by decide +kernel
theorem dX0_init_42 : decode cX0_init 42 = .ok (.iload_n 3, 1) := by decide +kernel
theorem dX0_init_43 : decode cX0_init 43 = .ok (.putfield 28, 3) := by decide +kernel
theorem dX0_init_46 : decode cX0_init 46 = .ok (.aload_n 0, 1) := by decide +kernel
theorem dX0_init_47 : decode cX0_init 47 = .ok (.iload 4, 2) := by decide +kernel
theorem dX0_init_49 : decode cX0_init 49 = .ok (.putfield 31, 3) := by decide +kernel
theorem dX0_init_52 : decode cX0_init 52 = .ok (.aload_n 0, 1) := by decide +kernel
theorem dX0_init_53 : decode cX0_init 53 = .ok (.iload 5, 2) := by decide +kernel
theorem dX0_init_55 : decode cX0_init 55 = .ok (.putfield 34, 3) := by decide +kernel
theorem dX0_init_58 : decode cX0_init 58 = .ok (.aload_n 0, 1) := by decide +kernel
theorem dX0_init_59 : decode cX0_init 59 = .ok (.iload 5, 2) := by decide +kernel
theorem dX0_init_61 : decode cX0_init 61 = .ok (.putfield 37, 3) := by decide +kernel
theorem dX0_init_64 : decode cX0_init 64 = .ok (.iload_n 1, 1) := by decide +kernel
theorem dX0_init_65 : decode cX0_init 65 = .ok (.ifCond .lt 17, 3) := by decide +kernel
theorem dX0_init_68 : decode cX0_init 68 = .ok (.iload_n 1, 1) := by decide +kernel
theorem dX0_init_69 : decode cX0_init 69 = .ok (.bipush 8, 2) := by decide +kernel
theorem dX0_init_71 : decode cX0_init 71 = .ok (.if_icmp .ge 11, 3) := by decide +kernel
theorem dX0_init_74 : decode cX0_init 74 = .ok (.aload_n 0, 1) := by decide +kernel
theorem dX0_init_75 : decode cX0_init 75 = .ok (.getfield 9, 3) := by decide +kernel
theorem dX0_init_78 : decode cX0_init 78 = .ok (.iload_n 1, 1) := by decide +kernel
theorem dX0_init_79 : decode cX0_init 79 = .ok (.bipush 12, 2) := by decide +kernel
theorem dX0_init_81 : decode cX0_init 81 = .ok (.iastore, 1) := by decide +kernel
theorem dX0_init_82 : decode cX0_init 82 = .ok (.aload_n 0, 1) := by decide +kernel
theorem dX0_init_83 : decode cX0_init 83 = .ok (.getfield 15, 3) := by decide +kernel
theorem dX0_init_86 : decode cX0_init 86 = .ok (.iconst (-1), 1) := by decide +kernel
theorem dX0_init_87 : decode cX0_init 87 = .ok (.invokestatic 40, 3) := by decide +kernel
theorem dX0_init_90 : decode cX0_init 90 = .ok (.return_, 1) := by decide +kernel
theorem dX0_isOfPeople_0 : decode cX0_isOfPeople 0 = .ok (.aload_n 0, 1) := by decide +kernel
theorem dX0_isOfPeople_1 : decode cX0_isOfPeople 1 = .ok (.getfield 9, 3) := by decide +kernel
theorem dX0_isOfPeople_4 : decode cX0_isOfPeople 4 = .ok (.iload_n 1, 1) := by decide +kernel
theorem dX0_isOfPeople_5 : decode cX0_isOfPeople 5 = .ok (.iaload, 1) := by decide +kernel
theorem dX0_isOfPeople_6 : decode cX0_isOfPeople 6 = .ok (.ifCond .le 7, 3) := by decide +kernel
theorem dX0_isOfPeople_9 : decode cX0_isOfPeople 9 = .ok (.iconst 1, 1) := by decide +kernel
theorem dX0_isOfPeople_10 : decode cX0_isOfPeople 10 = .ok (.goto 4, 3) := by decide +kernel
theorem dX0_isOfPeople_13 : decode cX0_isOfPeople 13 = .ok (.iconst 0, 1) := by decide +kernel
theorem dX0_isOfPeople_14 : decode cX0_isOfPeople 14 = .ok (.ireturn, 1) := by decide +kernel
theorem dX0_isLive_0 : decode cX0_isLive 0 = .ok (.aload_n 0, 1) := by decide +kernel
theorem dX0_isLive_1 : decode cX0_isLive 1 = .ok (.iload_n 1, 1) := by decide +kernel
theorem dX0_isLive_2 : decode cX0_isLive 2 = .ok (.invokevirtual 46, 3) := by decide +kernel
theorem dX0_isLive_5 : decode cX0_isLive 5 = .ok (.ifCond .le 7, 3) := by decide +kernel
theorem dX0_isLive_8 : decode cX0_isLive 8 = .ok (.iconst 1, 1) := by decide +kernel
theorem dX0_isLive_9 : decode cX0_isLive 9 = .ok (.goto 4, 3) := by decide +kernel
theorem dX0_isLive_12 : decode cX0_isLive 12 = .ok (.iconst 0, 1) := by decide +kernel
theorem dX0_isLive_13 : decode cX0_isLive 13 = .ok (.ireturn, 1) := by decide +kernel
theorem dX0_hoursToLapse_0 : decode cX0_hoursToLapse 0 = .ok (.iconst 0, 1) := by decide +kernel
theorem dX0_hoursToLapse_1 : decode cX0_hoursToLapse 1 = .ok (.bipush 72, 2) := by decide +kernel
theorem dX0_hoursToLapse_3 : decode cX0_hoursToLapse 3 = .ok (.iload_n 1, 1) := by decide +kernel
theorem dX0_hoursToLapse_4 : decode cX0_hoursToLapse 4 = .ok (.aload_n 0, 1) := by decide +kernel
theorem dX0_hoursToLapse_5 : decode cX0_hoursToLapse 5 = .ok (.getfield 37, 3) := by decide +kernel
theorem dX0_hoursToLapse_8 : decode cX0_hoursToLapse 8 = .ok (.isub, 1) := by decide +kernel
theorem dX0_hoursToLapse_9 : decode cX0_hoursToLapse 9 = .ok (.isub, 1) := by decide +kernel
theorem dX0_hoursToLapse_10 : decode cX0_hoursToLapse 10 = .ok (.invokestatic 50, 3) := by decide +kernel
theorem dX0_hoursToLapse_13 : decode cX0_hoursToLapse 13 = .ok (.ireturn, 1) := by decide +kernel
theorem dX0_covers_0 : decode cX0_covers 0 = .ok (.iload_n 1, 1) := by decide +kernel
theorem dX0_covers_1 : decode cX0_covers 1 = .ok (.bipush 10, 2) := by decide +kernel
theorem dX0_covers_3 : decode cX0_covers 3 = .ok (.idiv, 1) := by decide +kernel
theorem dX0_covers_4 : decode cX0_covers 4 = .ok (.istore_n 2, 1) := by decide +kernel
theorem dX0_covers_5 : decode cX0_covers 5 = .ok (.iload_n 1, 1) := by decide +kernel
theorem dX0_covers_6 : decode cX0_covers 6 = .ok (.bipush 10, 2) := by decide +kernel
theorem dX0_covers_8 : decode cX0_covers 8 = .ok (.irem, 1) := by decide +kernel
theorem dX0_covers_9 : decode cX0_covers 9 = .ok (.istore_n 3, 1) := by decide +kernel
theorem dX0_covers_10 : decode cX0_covers 10 = .ok (.iload_n 2, 1) := by decide +kernel
theorem dX0_covers_11 : decode cX0_covers 11 = .ok (.aload_n 0, 1) := by decide +kernel
theorem dX0_covers_12 : decode cX0_covers 12 = .ok (.getfield 22, 3) := by decide +kernel
theorem dX0_covers_15 : decode cX0_covers 15 = .ok (.if_icmp .lt 41, 3) := by decide +kernel
theorem dX0_covers_18 : decode cX0_covers 18 = .ok (.iload_n 2, 1) := by decide +kernel
theorem dX0_covers_19 : decode cX0_covers 19 = .ok (.aload_n 0, 1) := by decide +kernel
theorem dX0_covers_20 : decode cX0_covers 20 = .ok (.getfield 22, 3) := by decide +kernel
theorem dX0_covers_23 : decode cX0_covers 23 = .ok (.aload_n 0, 1) := by decide +kernel
theorem dX0_covers_24 : decode cX0_covers 24 = .ok (.getfield 28, 3) := by decide +kernel
theorem dX0_covers_27 : decode cX0_covers 27 = .ok (.iadd, 1) := by decide +kernel
theorem dX0_covers_28 : decode cX0_covers 28 = .ok (.if_icmp .ge 28, 3) := by decide +kernel
theorem dX0_covers_31 : decode cX0_covers 31 = .ok (.iload_n 3, 1) := by decide +kernel
theorem dX0_covers_32 : decode cX0_covers 32 = .ok (.aload_n 0, 1) := by decide +kernel
theorem dX0_covers_33 : decode cX0_covers 33 = .ok (.getfield 25, 3) := by decide +kernel
theorem dX0_covers_36 : decode cX0_covers 36 = .ok (.if_icmp .lt 20, 3) := by decide +kernel
theorem dX0_covers_39 : decode cX0_covers 39 = .ok (.iload_n 3, 1) := by decide +kernel
theorem dX0_covers_40 : decode cX0_covers 40 = .ok (.aload_n 0, 1) := by decide +kernel
theorem dX0_covers_41 : decode cX0_covers 41 = .ok (.getfield 25, 3) := by decide +kernel
theorem dX0_covers_44 : decode cX0_covers 44 = .ok (.aload_n 0, 1) := by decide +kernel
theorem dX0_covers_45 : decode cX0_covers 45 = .ok (.getfield 31, 3) := by decide +kernel
theorem dX0_covers_48 : decode cX0_covers 48 = .ok (.iadd, 1) := by decide +kernel
theorem dX0_covers_49 : decode cX0_covers 49 = .ok (.if_icmp .ge 7, 3) := by decide +kernel
theorem dX0_covers_52 : decode cX0_covers 52 = .ok (.iconst 1, 1) := by decide +kernel
theorem dX0_covers_53 : decode cX0_covers 53 = .ok (.goto 4, 3) := by decide +kernel
theorem dX0_covers_56 : decode cX0_covers 56 = .ok (.iconst 0, 1) := by decide +kernel
theorem dX0_covers_57 : decode cX0_covers 57 = .ok (.ireturn, 1) := by decide +kernel
theorem dX0_overlaps_0 : decode cX0_overlaps 0 = .ok (.aload_n 0, 1) := by decide +kernel
theorem dX0_overlaps_1 : decode cX0_overlaps 1 = .ok (.getfield 22, 3) := by decide +kernel
theorem dX0_overlaps_4 : decode cX0_overlaps 4 = .ok (.aload_n 1, 1) := by decide +kernel
theorem dX0_overlaps_5 : decode cX0_overlaps 5 = .ok (.getfield 22, 3) := by decide +kernel
theorem dX0_overlaps_8 : decode cX0_overlaps 8 = .ok (.aload_n 1, 1) := by decide +kernel
theorem dX0_overlaps_9 : decode cX0_overlaps 9 = .ok (.getfield 28, 3) := by decide +kernel
theorem dX0_overlaps_12 : decode cX0_overlaps 12 = .ok (.iadd, 1) := by decide +kernel
theorem dX0_overlaps_13 : decode cX0_overlaps 13 = .ok (.if_icmp .ge 55, 3) := by decide +kernel
theorem dX0_overlaps_16 : decode cX0_overlaps 16 = .ok (.aload_n 1, 1) := by decide +kernel
theorem dX0_overlaps_17 : decode cX0_overlaps 17 = .ok (.getfield 22, 3) := by decide +kernel
theorem dX0_overlaps_20 : decode cX0_overlaps 20 = .ok (.aload_n 0, 1) := by decide +kernel
theorem dX0_overlaps_21 : decode cX0_overlaps 21 = .ok (.getfield 22, 3) := by decide +kernel
theorem dX0_overlaps_24 : decode cX0_overlaps 24 = .ok (.aload_n 0, 1) := by decide +kernel
theorem dX0_overlaps_25 : decode cX0_overlaps 25 = .ok (.getfield 28, 3) := by decide +kernel
theorem dX0_overlaps_28 : decode cX0_overlaps 28 = .ok (.iadd, 1) := by decide +kernel
theorem dX0_overlaps_29 : decode cX0_overlaps 29 = .ok (.if_icmp .ge 39, 3) := by decide +kernel
theorem dX0_overlaps_32 : decode cX0_overlaps 32 = .ok (.aload_n 0, 1) := by decide +kernel
theorem dX0_overlaps_33 : decode cX0_overlaps 33 = .ok (.getfield 25, 3) := by decide +kernel
theorem dX0_overlaps_36 : decode cX0_overlaps 36 = .ok (.aload_n 1, 1) := by decide +kernel
theorem dX0_overlaps_37 : decode cX0_overlaps 37 = .ok (.getfield 25, 3) := by decide +kernel
theorem dX0_overlaps_40 : decode cX0_overlaps 40 = .ok (.aload_n 1, 1) := by decide +kernel
theorem dX0_overlaps_41 : decode cX0_overlaps 41 = .ok (.getfield 31, 3) := by decide +kernel
theorem dX0_overlaps_44 : decode cX0_overlaps 44 = .ok (.iadd, 1) := by decide +kernel
theorem dX0_overlaps_45 : decode cX0_overlaps 45 = .ok (.if_icmp .ge 23, 3) := by decide +kernel
theorem dX0_overlaps_48 : decode cX0_overlaps 48 = .ok (.aload_n 1, 1) := by decide +kernel
theorem dX0_overlaps_49 : decode cX0_overlaps 49 = .ok (.getfield 25, 3) := by decide +kernel
theorem dX0_overlaps_52 : decode cX0_overlaps 52 = .ok (.aload_n 0, 1) := by decide +kernel
theorem dX0_overlaps_53 : decode cX0_overlaps 53 = .ok (.getfield 25, 3) := by decide +kernel
theorem dX0_overlaps_56 : decode cX0_overlaps 56 = .ok (.aload_n 0, 1) := by decide +kernel
theorem dX0_overlaps_57 : decode cX0_overlaps 57 = .ok (.getfield 31, 3) := by decide +kernel
theorem dX0_overlaps_60 : decode cX0_overlaps 60 = .ok (.iadd, 1) := by decide +kernel
theorem dX0_overlaps_61 : decode cX0_overlaps 61 = .ok (.if_icmp .ge 7, 3) := by decide +kernel
theorem dX0_overlaps_64 : decode cX0_overlaps 64 = .ok (.iconst 1, 1) := by decide +kernel
theorem dX0_overlaps_65 : decode cX0_overlaps 65 = .ok (.goto 4, 3) := by decide +kernel
theorem dX0_overlaps_68 : decode cX0_overlaps 68 = .ok (.iconst 0, 1) := by decide +kernel
theorem dX0_overlaps_69 : decode cX0_overlaps 69 = .ok (.ireturn, 1) := by decide +kernel
theorem dX0_middleHourTold_0 : decode cX0_middleHourTold 0 = .ok (.aload_n 0, 1) := by decide +kernel
theorem dX0_middleHourTold_1 : decode cX0_middleHourTold 1 = .ok (.getfield 34, 3) := by decide +kernel
theorem dX0_middleHourTold_4 : decode cX0_middleHourTold 4 = .ok (.istore_n 1, 1) := by decide +kernel
theorem dX0_middleHourTold_5 : decode cX0_middleHourTold 5 = .ok (.iconst 0, 1) := by decide +kernel
theorem dX0_middleHourTold_6 : decode cX0_middleHourTold 6 = .ok (.istore_n 2, 1) := by decide +kernel
theorem dX0_middleHourTold_7 : decode cX0_middleHourTold 7 = .ok (.iload_n 2, 1) := by decide +kernel
theorem dX0_middleHourTold_8 : decode cX0_middleHourTold 8 = .ok (.bipush 8, 2) := by decide +kernel
theorem dX0_middleHourTold_10 : decode cX0_middleHourTold 10 = .ok (.if_icmp .ge 39, 3) := by decide +kernel
theorem dX0_middleHourTold_13 : decode cX0_middleHourTold 13 = .ok (.aload_n 0, 1) := by decide +kernel
theorem dX0_middleHourTold_14 : decode cX0_middleHourTold 14 = .ok (.getfield 15, 3) := by decide +kernel
theorem dX0_middleHourTold_17 : decode cX0_middleHourTold 17 = .ok (.iload_n 2, 1) := by decide +kernel
theorem dX0_middleHourTold_18 : decode cX0_middleHourTold 18 = .ok (.iaload, 1) := by decide +kernel
theorem dX0_middleHourTold_19 : decode cX0_middleHourTold 19 = .ok (.iconst (-1), 1) := by decide +kernel
theorem dX0_middleHourTold_20 : decode cX0_middleHourTold 20 = .ok (.if_icmp .eq 23, 3) := by decide +kernel
theorem dX0_middleHourTold_23 : decode cX0_middleHourTold 23 = .ok (.aload_n 0, 1) := by decide +kernel
theorem dX0_middleHourTold_24 : decode cX0_middleHourTold 24 = .ok (.aload_n 0, 1) := by decide +kernel
theorem dX0_middleHourTold_25 : decode cX0_middleHourTold 25 = .ok (.getfield 15, 3) := by decide +kernel
theorem dX0_middleHourTold_28 : decode cX0_middleHourTold 28 = .ok (.iload_n 2, 1) := by decide +kernel
theorem dX0_middleHourTold_29 : decode cX0_middleHourTold 29 = .ok (.iaload, 1) := by decide +kernel
theorem dX0_middleHourTold_30 : decode cX0_middleHourTold 30 = .ok (.invokevirtual 56, 3) := by decide +kernel
theorem dX0_middleHourTold_33 : decode cX0_middleHourTold 33 = .ok (.ifCond .eq 10, 3) := by decide +kernel
theorem dX0_middleHourTold_36 : decode cX0_middleHourTold 36 = .ok (.aload_n 0, 1) := by decide +kernel
theorem dX0_middleHourTold_37 : decode cX0_middleHourTold 37 = .ok (.getfield 15, 3) := by decide +kernel
theorem dX0_middleHourTold_40 : decode cX0_middleHourTold 40 = .ok (.iload_n 2, 1) := by decide +kernel
theorem dX0_middleHourTold_41 : decode cX0_middleHourTold 41 = .ok (.iaload, 1) := by decide +kernel
theorem dX0_middleHourTold_42 : decode cX0_middleHourTold 42 = .ok (.istore_n 1, 1) := by decide +kernel
theorem dX0_middleHourTold_43 : decode cX0_middleHourTold 43 = .ok (.iinc 2 1, 3) := by decide +kernel
theorem dX0_middleHourTold_46 : decode cX0_middleHourTold 46 = .ok (.goto (-39), 3) := by decide +kernel
theorem dX0_middleHourTold_49 : decode cX0_middleHourTold 49 = .ok (.iload_n 1, 1) := by decide +kernel
theorem dX0_middleHourTold_50 : decode cX0_middleHourTold 50 = .ok (.ireturn, 1) := by decide +kernel
theorem dX0_isMiddle_0 : decode cX0_isMiddle 0 = .ok (.iconst 0, 1) := by decide +kernel
theorem dX0_isMiddle_1 : decode cX0_isMiddle 1 = .ok (.istore_n 2, 1) := by decide +kernel
theorem dX0_isMiddle_2 : decode cX0_isMiddle 2 = .ok (.iconst 0, 1) := by decide +kernel
theorem dX0_isMiddle_3 : decode cX0_isMiddle 3 = .ok (.istore_n 3, 1) := by decide +kernel
theorem dX0_isMiddle_4 : decode cX0_isMiddle 4 = .ok (.iconst 0, 1) := by decide +kernel
theorem dX0_isMiddle_5 : decode cX0_isMiddle 5 = .ok (.istore 4, 2) := by decide +kernel
theorem dX0_isMiddle_7 : decode cX0_isMiddle 7 = .ok (.iconst 0, 1) := by decide +kernel
theorem dX0_isMiddle_8 : decode cX0_isMiddle 8 = .ok (.istore 5, 2) := by decide +kernel
theorem dX0_isMiddle_10 : decode cX0_isMiddle 10 = .ok (.iload 5, 2) := by decide +kernel
theorem dX0_isMiddle_12 : decode cX0_isMiddle 12 = .ok (.bipush 8, 2) := by decide +kernel
theorem dX0_isMiddle_14 : decode cX0_isMiddle 14 = .ok (.if_icmp .ge 63, 3) := by decide +kernel
theorem dX0_isMiddle_17 : decode cX0_isMiddle 17 = .ok (.aload_n 0, 1) := by decide +kernel
theorem dX0_isMiddle_18 : decode cX0_isMiddle 18 = .ok (.getfield 15, 3) := by decide +kernel
theorem dX0_isMiddle_21 : decode cX0_isMiddle 21 = .ok (.iload 5, 2) := by decide +kernel
theorem dX0_isMiddle_23 : decode cX0_isMiddle 23 = .ok (.iaload, 1) := by decide +kernel
theorem dX0_isMiddle_24 : decode cX0_isMiddle 24 = .ok (.istore 6, 2) := by decide +kernel
theorem dX0_isMiddle_26 : decode cX0_isMiddle 26 = .ok (.iload 6, 2) := by decide +kernel
theorem dX0_isMiddle_28 : decode cX0_isMiddle 28 = .ok (.iconst (-1), 1) := by decide +kernel
theorem dX0_isMiddle_29 : decode cX0_isMiddle 29 = .ok (.if_icmp .eq 42, 3) := by decide +kernel
theorem dX0_isMiddle_32 : decode cX0_isMiddle 32 = .ok (.iinc 2 1, 3) := by decide +kernel
theorem dX0_isMiddle_35 : decode cX0_isMiddle 35 = .ok (.iload_n 3, 1) := by decide +kernel
theorem dX0_isMiddle_36 : decode cX0_isMiddle 36 = .ok (.iload 6, 2) := by decide +kernel
theorem dX0_isMiddle_38 : decode cX0_isMiddle 38 = .ok (.iload_n 1, 1) := by decide +kernel
theorem dX0_isMiddle_39 : decode cX0_isMiddle 39 = .ok (.if_icmp .ge 7, 3) := by decide +kernel
theorem dX0_isMiddle_42 : decode cX0_isMiddle 42 = .ok (.iconst 1, 1) := by decide +kernel
theorem dX0_isMiddle_43 : decode cX0_isMiddle 43 = .ok (.goto 4, 3) := by decide +kernel
theorem dX0_isMiddle_46 : decode cX0_isMiddle 46 = .ok (.iconst 0, 1) := by decide +kernel
theorem dX0_isMiddle_47 : decode cX0_isMiddle 47 = .ok (.invokestatic 60, 3) := by decide +kernel
theorem dX0_isMiddle_50 : decode cX0_isMiddle 50 = .ok (.iadd, 1) := by decide +kernel
theorem dX0_isMiddle_51 : decode cX0_isMiddle 51 = .ok (.istore_n 3, 1) := by decide +kernel
theorem dX0_isMiddle_52 : decode cX0_isMiddle 52 = .ok (.iload 4, 2) := by decide +kernel
theorem dX0_isMiddle_54 : decode cX0_isMiddle 54 = .ok (.iload 6, 2) := by decide +kernel
theorem dX0_isMiddle_56 : decode cX0_isMiddle 56 = .ok (.iload_n 1, 1) := by decide +kernel
theorem dX0_isMiddle_57 : decode cX0_isMiddle 57 = .ok (.if_icmp .gt 7, 3) := by decide +kernel
theorem dX0_isMiddle_60 : decode cX0_isMiddle 60 = .ok (.iconst 1, 1) := by decide +kernel
theorem dX0_isMiddle_61 : decode cX0_isMiddle 61 = .ok (.goto 4, 3) := by decide +kernel
theorem dX0_isMiddle_64 : decode cX0_isMiddle 64 = .ok (.iconst 0, 1) := by decide +kernel
theorem dX0_isMiddle_65 : decode cX0_isMiddle 65 = .ok (.invokestatic 60, 3) := by decide +kernel
theorem dX0_isMiddle_68 : decode cX0_isMiddle 68 = .ok (.iadd, 1) := by decide +kernel
theorem dX0_isMiddle_69 : decode cX0_isMiddle 69 = .ok (.istore 4, 2) := by decide +kernel
theorem dX0_isMiddle_71 : decode cX0_isMiddle 71 = .ok (.iinc 5 1, 3) := by decide +kernel
theorem dX0_isMiddle_74 : decode cX0_isMiddle 74 = .ok (.goto (-64), 3) := by decide +kernel
theorem dX0_isMiddle_77 : decode cX0_isMiddle 77 = .ok (.iload_n 2, 1) := by decide +kernel
theorem dX0_isMiddle_78 : decode cX0_isMiddle 78 = .ok (.iconst 1, 1) := by decide +kernel
theorem dX0_isMiddle_79 : decode cX0_isMiddle 79 = .ok (.isub, 1) := by decide +kernel
theorem dX0_isMiddle_80 : decode cX0_isMiddle 80 = .ok (.iconst 2, 1) := by decide +kernel
theorem dX0_isMiddle_81 : decode cX0_isMiddle 81 = .ok (.idiv, 1) := by decide +kernel
theorem dX0_isMiddle_82 : decode cX0_isMiddle 82 = .ok (.istore 5, 2) := by decide +kernel
theorem dX0_isMiddle_84 : decode cX0_isMiddle 84 = .ok (.iload_n 3, 1) := by decide +kernel
theorem dX0_isMiddle_85 : decode cX0_isMiddle 85 = .ok (.iload 5, 2) := by decide +kernel
theorem dX0_isMiddle_87 : decode cX0_isMiddle 87 = .ok (.if_icmp .gt 14, 3) := by decide +kernel
theorem dX0_isMiddle_90 : decode cX0_isMiddle 90 = .ok (.iload 5, 2) := by decide +kernel
theorem dX0_isMiddle_92 : decode cX0_isMiddle 92 = .ok (.iload 4, 2) := by decide +kernel
theorem dX0_isMiddle_94 : decode cX0_isMiddle 94 = .ok (.if_icmp .ge 7, 3) := by decide +kernel
theorem dX0_isMiddle_97 : decode cX0_isMiddle 97 = .ok (.iconst 1, 1) := by decide +kernel
theorem dX0_isMiddle_98 : decode cX0_isMiddle 98 = .ok (.goto 4, 3) := by decide +kernel
theorem dX0_isMiddle_101 : decode cX0_isMiddle 101 = .ok (.iconst 0, 1) := by decide +kernel
theorem dX0_isMiddle_102 : decode cX0_isMiddle 102 = .ok (.ireturn, 1) := by decide +kernel
theorem dX0_mostWanting_0 : decode cX0_mostWanting 0 = .ok (.aload_n 0, 1) := by decide +kernel
theorem dX0_mostWanting_1 : decode cX0_mostWanting 1 = .ok (.getfield 18, 3) := by decide +kernel
theorem dX0_mostWanting_4 : decode cX0_mostWanting 4 = .ok (.istore_n 3, 1) := by decide +kernel
theorem dX0_mostWanting_5 : decode cX0_mostWanting 5 = .ok (.aload_n 0, 1) := by decide +kernel
theorem dX0_mostWanting_6 : decode cX0_mostWanting 6 = .ok (.aload_n 0, 1) := by decide +kernel
theorem dX0_mostWanting_7 : decode cX0_mostWanting 7 = .ok (.getfield 18, 3) := by decide +kernel
theorem dX0_mostWanting_10 : decode cX0_mostWanting 10 = .ok (.iload_n 1, 1) := by decide +kernel
theorem dX0_mostWanting_11 : decode cX0_mostWanting 11 = .ok (.aload_n 2, 1) := by decide +kernel
theorem dX0_mostWanting_12 : decode cX0_mostWanting 12 = .ok (.invokevirtual 64, 3) := by decide +kernel
theorem dX0_mostWanting_15 : decode cX0_mostWanting 15 = .ok (.istore 4, 2) := by decide +kernel
theorem dX0_mostWanting_17 : decode cX0_mostWanting 17 = .ok (.iconst 0, 1) := by decide +kernel
theorem dX0_mostWanting_18 : decode cX0_mostWanting 18 = .ok (.istore 5, 2) := by decide +kernel
theorem dX0_mostWanting_20 : decode cX0_mostWanting 20 = .ok (.iload 5, 2) := by decide +kernel
theorem dX0_mostWanting_22 : decode cX0_mostWanting 22 = .ok (.bipush 8, 2) := by decide +kernel
theorem dX0_mostWanting_24 : decode cX0_mostWanting 24 = .ok (.if_icmp .ge 55, 3) := by decide +kernel
theorem dX0_mostWanting_27 : decode cX0_mostWanting 27 = .ok (.aload_n 0, 1) := by decide +kernel
theorem dX0_mostWanting_28 : decode cX0_mostWanting 28 = .ok (.iload 5, 2) := by decide +kernel
theorem dX0_mostWanting_30 : decode cX0_mostWanting 30 = .ok (.iload_n 1, 1) := by decide +kernel
theorem dX0_mostWanting_31 : decode cX0_mostWanting 31 = .ok (.aload_n 2, 1) := by decide +kernel
theorem dX0_mostWanting_32 : decode cX0_mostWanting 32 = .ok (.invokevirtual 64, 3) := by decide +kernel
theorem dX0_mostWanting_35 : decode cX0_mostWanting 35 = .ok (.istore 6, 2) := by decide +kernel
theorem dX0_mostWanting_37 : decode cX0_mostWanting 37 = .ok (.aload_n 0, 1) := by decide +kernel
theorem dX0_mostWanting_38 : decode cX0_mostWanting 38 = .ok (.iload 5, 2) := by decide +kernel
theorem dX0_mostWanting_40 : decode cX0_mostWanting 40 = .ok (.invokevirtual 68, 3) := by decide +kernel
theorem dX0_mostWanting_43 : decode cX0_mostWanting 43 = .ok (.ifCond .eq 30, 3) := by decide +kernel
theorem dX0_mostWanting_46 : decode cX0_mostWanting 46 = .ok (.iload 6, 2) := by decide +kernel
theorem dX0_mostWanting_48 : decode cX0_mostWanting 48 = .ok (.iload 4, 2) := by decide +kernel
theorem dX0_mostWanting_50 : decode cX0_mostWanting 50 = .ok (.if_icmp .gt 16, 3) := by decide +kernel
theorem dX0_mostWanting_53 : decode cX0_mostWanting 53 = .ok (.iload 6, 2) := by decide +kernel
theorem dX0_mostWanting_55 : decode cX0_mostWanting 55 = .ok (.iload 4, 2) := by decide +kernel
theorem dX0_mostWanting_57 : decode cX0_mostWanting 57 = .ok (.if_icmp .ne 16, 3) := by decide +kernel
theorem dX0_mostWanting_60 : decode cX0_mostWanting 60 = .ok (.iload 5, 2) := by decide +kernel
theorem dX0_mostWanting_62 : decode cX0_mostWanting 62 = .ok (.iload_n 3, 1) := by decide +kernel
theorem dX0_mostWanting_63 : decode cX0_mostWanting 63 = .ok (.if_icmp .ge 10, 3) := by decide +kernel
theorem dX0_mostWanting_66 : decode cX0_mostWanting 66 = .ok (.iload 5, 2) := by decide +kernel
theorem dX0_mostWanting_68 : decode cX0_mostWanting 68 = .ok (.istore_n 3, 1) := by decide +kernel
theorem dX0_mostWanting_69 : decode cX0_mostWanting 69 = .ok (.iload 6, 2) := by decide +kernel
theorem dX0_mostWanting_71 : decode cX0_mostWanting 71 = .ok (.istore 4, 2) := by decide +kernel
theorem dX0_mostWanting_73 : decode cX0_mostWanting 73 = .ok (.iinc 5 1, 3) := by decide +kernel
theorem dX0_mostWanting_76 : decode cX0_mostWanting 76 = .ok (.goto (-56), 3) := by decide +kernel
theorem dX0_mostWanting_79 : decode cX0_mostWanting 79 = .ok (.iload_n 3, 1) := by decide +kernel
theorem dX0_mostWanting_80 : decode cX0_mostWanting 80 = .ok (.ireturn, 1) := by decide +kernel
theorem dX0_wanting_0 : decode cX0_wanting 0 = .ok (.aload_n 0, 1) := by decide +kernel
theorem dX0_wanting_1 : decode cX0_wanting 1 = .ok (.getfield 9, 3) := by decide +kernel
theorem dX0_wanting_4 : decode cX0_wanting 4 = .ok (.iload_n 1, 1) := by decide +kernel
theorem dX0_wanting_5 : decode cX0_wanting 5 = .ok (.iaload, 1) := by decide +kernel
theorem dX0_wanting_6 : decode cX0_wanting 6 = .ok (.iload_n 2, 1) := by decide +kernel
theorem dX0_wanting_7 : decode cX0_wanting 7 = .ok (.imul, 1) := by decide +kernel
theorem dX0_wanting_8 : decode cX0_wanting 8 = .ok (.bipush 12, 2) := by decide +kernel
theorem dX0_wanting_10 : decode cX0_wanting 10 = .ok (.aload_n 3, 1) := by decide +kernel
theorem dX0_wanting_11 : decode cX0_wanting 11 = .ok (.iload_n 1, 1) := by decide +kernel
theorem dX0_wanting_12 : decode cX0_wanting 12 = .ok (.iaload, 1) := by decide +kernel
theorem dX0_wanting_13 : decode cX0_wanting 13 = .ok (.imul, 1) := by decide +kernel
theorem dX0_wanting_14 : decode cX0_wanting 14 = .ok (.isub, 1) := by decide +kernel
theorem dX0_wanting_15 : decode cX0_wanting 15 = .ok (.ireturn, 1) := by decide +kernel
theorem dX1_init_0 : decode cX1_init 0 = .ok (.aload_n 0, 1) := by decide +kernel
theorem dX1_init_1 : decode cX1_init 1 = .ok (.invokespecial 3, 3) := by decide +kernel
theorem dX1_init_4 : decode cX1_init 4 = .ok (.aload_n 0, 1) := by decide +kernel
theorem dX1_init_5 : decode cX1_init 5 = .ok (.bipush 100, 2) := by decide +kernel
theorem dX1_init_7 : decode cX1_init 7 = .ok (.newarray .int, 2) := by decide +kernel
theorem dX1_init_9 : decode cX1_init 9 = .ok (.putfield 9, 3) := by decide +kernel
theorem dX1_init_12 : decode cX1_init 12 = .ok (.aload_n 0, 1) := by decide +kernel
theorem dX1_init_13 : decode cX1_init 13 = .ok (.bipush 100, 2) := by decide +kernel
theorem dX1_init_15 : decode cX1_init 15 = .ok (.newarray .int, 2) := by decide +kernel
theorem dX1_init_17 : decode cX1_init 17 = .ok (.putfield 15, 3) := by decide +kernel
theorem dX1_init_20 : decode cX1_init 20 = .ok (.aload_n 0, 1) := by decide +kernel
theorem dX1_init_21 : decode cX1_init 21 = .ok (.bipush 100, 2) := by decide +kernel
theorem dX1_init_23 : decode cX1_init 23 = .ok (.newarray .int, 2) := by decide +kernel
theorem dX1_init_25 : decode cX1_init 25 = .ok (.putfield 18, 3) := by decide +kernel
theorem dX1_init_28 : decode cX1_init 28 = .ok (.aload_n 0, 1) := by decide +kernel
theorem dX1_init_29 : decode cX1_init 29 = .ok (.bipush 100, 2) := by decide +kernel
theorem dX1_init_31 : decode cX1_init 31 = .ok (.newarray .int, 2) := by decide +kernel
theorem dX1_init_33 : decode cX1_init 33 = .ok (.putfield 21, 3) := by decide +kernel
theorem dX1_init_36 : decode cX1_init 36 = .ok (.aload_n 0, 1) := by decide +kernel
theorem dX1_init_37 : decode cX1_init 37 = .ok (.bipush 100, 2) := by decide +kernel
theorem dX1_init_39 : decode cX1_init 39 = .ok (.newarray .boolean, 2) := by decide +kernel
theorem dX1_init_41 : decode cX1_init 41 = .ok (.putfield 24, 3) := by decide +kernel
theorem dX1_init_44 : decode cX1_init 44 = .ok (.aload_n 0, 1) := by decide +kernel
theorem dX1_init_45 : decode cX1_init 45 = .ok (.bipush 100, 2) := by decide +kernel
theorem dX1_init_47 : decode cX1_init 47 = .ok (.newarray .int, 2) := by decide +kernel
theorem dX1_init_49 : decode cX1_init 49 = .ok (.putfield 28, 3) := by decide +kernel
theorem dX1_init_52 : decode cX1_init 52 = .ok (.aload_n 0, 1) := by decide +kernel
theorem dX1_init_53 : decode cX1_init 53 = .ok (.getfield 28, 3) := by decide +kernel
theorem dX1_init_56 : decode cX1_init 56 = .ok (.iconst (-1), 1) := by decide +kernel
theorem dX1_init_57 : decode cX1_init 57 = .ok (.invokestatic 31, 3) := by decide +kernel
theorem dX1_init_60 : decode cX1_init 60 = .ok (.return_, 1) := by decide +kernel
theorem dX1_isOpen_0 : decode cX1_isOpen 0 = .ok (.iload_n 1, 1) := by decide +kernel
theorem dX1_isOpen_1 : decode cX1_isOpen 1 = .ok (.invokestatic 37, 3) := by decide +kernel
theorem dX1_isOpen_4 : decode cX1_isOpen 4 = .ok (.ifCond .eq 17, 3) := by decide +kernel
theorem dX1_isOpen_7 : decode cX1_isOpen 7 = .ok (.aload_n 0, 1) := by decide +kernel
theorem dX1_isOpen_8 : decode cX1_isOpen 8 = .ok (.getfield 9, 3) := by decide +kernel
theorem dX1_isOpen_11 : decode cX1_isOpen 11 = .ok (.iload_n 1, 1) := by decide +kernel
theorem dX1_isOpen_12 : decode cX1_isOpen 12 = .ok (.iaload, 1) := by decide +kernel
theorem dX1_isOpen_13 : decode cX1_isOpen 13 = .ok (.iconst 1, 1) := by decide +kernel
theorem dX1_isOpen_14 : decode cX1_isOpen 14 = .ok (.if_icmp .ne 7, 3) := by decide +kernel
theorem dX1_isOpen_17 : decode cX1_isOpen 17 = .ok (.iconst 1, 1) := by decide +kernel
theorem dX1_isOpen_18 : decode cX1_isOpen 18 = .ok (.goto 4, 3) := by decide +kernel
theorem dX1_isOpen_21 : decode cX1_isOpen 21 = .ok (.iconst 0, 1) := by decide +kernel
theorem dX1_isOpen_22 : decode cX1_isOpen 22 = .ok (.ireturn, 1) := by decide +kernel
theorem dX1_isLoose_0 : decode cX1_isLoose 0 = .ok (.iload_n 1, 1) := by decide +kernel
theorem dX1_isLoose_1 : decode cX1_isLoose 1 = .ok (.ifCond .lt 32, 3) := by decide +kernel
theorem dX1_isLoose_4 : decode cX1_isLoose 4 = .ok (.iload_n 1, 1) := by decide +kernel
theorem dX1_isLoose_5 : decode cX1_isLoose 5 = .ok (.bipush 100, 2) := by decide +kernel
theorem dX1_isLoose_7 : decode cX1_isLoose 7 = .ok (.if_icmp .ge 26, 3) := by decide +kernel
theorem dX1_isLoose_10 : decode cX1_isLoose 10 = .ok (.aload_n 0, 1) := by decide +kernel
theorem dX1_isLoose_11 : decode cX1_isLoose 11 = .ok (.getfield 9, 3) := by decide +kernel
theorem dX1_isLoose_14 : decode cX1_isLoose 14 = .ok (.iload_n 1, 1) := by decide +kernel
theorem dX1_isLoose_15 : decode cX1_isLoose 15 = .ok (.iaload, 1) := by decide +kernel
theorem dX1_isLoose_16 : decode cX1_isLoose 16 = .ok (.iconst 1, 1) := by decide +kernel
theorem dX1_isLoose_17 : decode cX1_isLoose 17 = .ok (.if_icmp .ne 16, 3) := by decide +kernel
theorem dX1_isLoose_20 : decode cX1_isLoose 20 = .ok (.aload_n 0, 1) := by decide +kernel
theorem dX1_isLoose_21 : decode cX1_isLoose 21 = .ok (.getfield 24, 3) := by decide +kernel
theorem dX1_isLoose_24 : decode cX1_isLoose 24 = .ok (.iload_n 1, 1) := by decide +kernel
theorem dX1_isLoose_25 : decode cX1_isLoose 25 = .ok (.baload, 1) := by decide +kernel
theorem dX1_isLoose_26 : decode cX1_isLoose 26 = .ok (.ifCond .ne 7, 3) := by decide +kernel
theorem dX1_isLoose_29 : decode cX1_isLoose 29 = .ok (.iconst 1, 1) := by decide +kernel
theorem dX1_isLoose_30 : decode cX1_isLoose 30 = .ok (.goto 4, 3) := by decide +kernel
theorem dX1_isLoose_33 : decode cX1_isLoose 33 = .ok (.iconst 0, 1) := by decide +kernel
theorem dX1_isLoose_34 : decode cX1_isLoose 34 = .ok (.ireturn, 1) := by decide +kernel
theorem dX1_canBeDug_0 : decode cX1_canBeDug 0 = .ok (.aload_n 0, 1) := by decide +kernel
theorem dX1_canBeDug_1 : decode cX1_canBeDug 1 = .ok (.iload_n 1, 1) := by decide +kernel
theorem dX1_canBeDug_2 : decode cX1_canBeDug 2 = .ok (.invokevirtual 41, 3) := by decide +kernel
theorem dX1_canBeDug_5 : decode cX1_canBeDug 5 = .ok (.ifCond .eq 5, 3) := by decide +kernel
theorem dX1_canBeDug_8 : decode cX1_canBeDug 8 = .ok (.iconst 0, 1) := by decide +kernel
theorem dX1_canBeDug_9 : decode cX1_canBeDug 9 = .ok (.ireturn, 1) := by decide +kernel
theorem dX1_canBeDug_10 : decode cX1_canBeDug 10 = .ok (.iload_n 1, 1) := by decide +kernel
theorem dX1_canBeDug_11 : decode cX1_canBeDug 11 = .ok (.bipush 10, 2) := by decide +kernel
theorem dX1_canBeDug_13 : decode cX1_canBeDug 13 = .ok (.irem, 1) := by decide +kernel
theorem dX1_canBeDug_14 : decode cX1_canBeDug 14 = .ok (.istore_n 2, 1) := by decide +kernel
theorem dX1_canBeDug_15 : decode cX1_canBeDug 15 = .ok (.aload_n 0, 1) := by decide +kernel
theorem dX1_canBeDug_16 : decode cX1_canBeDug 16 = .ok (.iload_n 1, 1) := by decide +kernel
theorem dX1_canBeDug_17 : decode cX1_canBeDug 17 = .ok (.bipush 10, 2) := by decide +kernel
theorem dX1_canBeDug_19 : decode cX1_canBeDug 19 = .ok (.isub, 1) := by decide +kernel
theorem dX1_canBeDug_20 : decode cX1_canBeDug 20 = .ok (.invokevirtual 41, 3) := by decide +kernel
theorem dX1_canBeDug_23 : decode cX1_canBeDug 23 = .ok (.ifCond .ne 44, 3) := by decide +kernel
theorem dX1_canBeDug_26 : decode cX1_canBeDug 26 = .ok (.aload_n 0, 1) := by decide +kernel
theorem dX1_canBeDug_27 : decode cX1_canBeDug 27 = .ok (.iload_n 1, 1) := by decide +kernel
theorem dX1_canBeDug_28 : decode cX1_canBeDug 28 = .ok (.bipush 10, 2) := by decide +kernel
theorem dX1_canBeDug_30 : decode cX1_canBeDug 30 = .ok (.iadd, 1) := by decide +kernel
theorem dX1_canBeDug_31 : decode cX1_canBeDug 31 = .ok (.invokevirtual 41, 3) := by decide +kernel
theorem dX1_canBeDug_34 : decode cX1_canBeDug 34 = .ok (.ifCond .ne 33, 3) := by decide +kernel
theorem dX1_canBeDug_37 : decode cX1_canBeDug 37 = .ok (.iload_n 2, 1) := by decide +kernel
theorem dX1_canBeDug_38 : decode cX1_canBeDug 38 = .ok (.ifCond .le 13, 3) := by decide +kernel
theorem dX1_canBeDug_41 : decode cX1_canBeDug 41 = .ok (.aload_n 0, 1) := by decide +kernel
theorem dX1_canBeDug_42 : decode cX1_canBeDug 42 = .ok (.iload_n 1, 1) := by decide +kernel
theorem dX1_canBeDug_43 : decode cX1_canBeDug 43 = .ok (.iconst 1, 1) := by decide +kernel
theorem dX1_canBeDug_44 : decode cX1_canBeDug 44 = .ok (.isub, 1) := by decide +kernel
theorem dX1_canBeDug_45 : decode cX1_canBeDug 45 = .ok (.invokevirtual 41, 3) := by decide +kernel
theorem dX1_canBeDug_48 : decode cX1_canBeDug 48 = .ok (.ifCond .ne 19, 3) := by decide +kernel
theorem dX1_canBeDug_51 : decode cX1_canBeDug 51 = .ok (.iload_n 2, 1) := by decide +kernel
theorem dX1_canBeDug_52 : decode cX1_canBeDug 52 = .ok (.bipush 9, 2) := by decide +kernel
theorem dX1_canBeDug_54 : decode cX1_canBeDug 54 = .ok (.if_icmp .ge 17, 3) := by decide +kernel
theorem dX1_canBeDug_57 : decode cX1_canBeDug 57 = .ok (.aload_n 0, 1) := by decide +kernel
theorem dX1_canBeDug_58 : decode cX1_canBeDug 58 = .ok (.iload_n 1, 1) := by decide +kernel
theorem dX1_canBeDug_59 : decode cX1_canBeDug 59 = .ok (.iconst 1, 1) := by decide +kernel
theorem dX1_canBeDug_60 : decode cX1_canBeDug 60 = .ok (.iadd, 1) := by decide +kernel
theorem dX1_canBeDug_61 : decode cX1_canBeDug 61 = .ok (.invokevirtual 41, 3) := by decide +kernel
theorem dX1_canBeDug_64 : decode cX1_canBeDug 64 = .ok (.ifCond .eq 7, 3) := by decide +kernel
theorem dX1_canBeDug_67 : decode cX1_canBeDug 67 = .ok (.iconst 1, 1) := by decide +kernel
theorem dX1_canBeDug_68 : decode cX1_canBeDug 68 = .ok (.goto 4, 3) := by decide +kernel
theorem dX1_canBeDug_71 : decode cX1_canBeDug 71 = .ok (.iconst 0, 1) := by decide +kernel
theorem dX1_canBeDug_72 : decode cX1_canBeDug 72 = .ok (.ireturn, 1) := by decide +kernel
theorem dX1_canBeDugSafely_0 : decode cX1_canBeDugSafely 0 = .ok (.aload_n 0, 1) := by decide +kernel
theorem dX1_canBeDugSafely_1 : decode cX1_canBeDugSafely 1 = .ok (.iload_n 1, 1) := by decide +kernel
theorem dX1_canBeDugSafely_2 : decode cX1_canBeDugSafely 2 = .ok (.invokevirtual 44, 3) := by decide +kernel
theorem dX1_canBeDugSafely_5 : decode cX1_canBeDugSafely 5 = .ok (.ifCond .eq 25, 3) := by decide +kernel
theorem dX1_canBeDugSafely_8 : decode cX1_canBeDugSafely 8 = .ok (.aload_n 0, 1) := by decide +kernel
theorem dX1_canBeDugSafely_9 : decode cX1_canBeDugSafely 9 = .ok (.iload_n 1, 1) := by decide +kernel
theorem dX1_canBeDugSafely_10 : decode cX1_canBeDugSafely 10 = .ok (.invokevirtual 47, 3) := by decide +kernel
theorem dX1_canBeDugSafely_13 : decode cX1_canBeDugSafely 13 = .ok (.iconst 3, 1) := by decide +kernel
theorem dX1_canBeDugSafely_14 : decode cX1_canBeDugSafely 14 = .ok (.if_icmp .gt 16, 3) := by decide +kernel
theorem dX1_canBeDugSafely_17 : decode cX1_canBeDugSafely 17 = .ok (.aload_n 0, 1) := by decide +kernel
theorem dX1_canBeDugSafely_18 : decode cX1_canBeDugSafely 18 = .ok (.iload_n 1, 1) := by decide +kernel
theorem dX1_canBeDugSafely_19 : decode cX1_canBeDugSafely 19 = .ok (.invokevirtual 51, 3) := by decide +kernel
theorem dX1_canBeDugSafely_22 : decode cX1_canBeDugSafely 22 = .ok (.iconst 3, 1) := by decide +kernel
theorem dX1_canBeDugSafely_23 : decode cX1_canBeDugSafely 23 = .ok (.if_icmp .gt 7, 3) := by decide +kernel
theorem dX1_canBeDugSafely_26 : decode cX1_canBeDugSafely 26 = .ok (.iconst 1, 1) := by decide +kernel
theorem dX1_canBeDugSafely_27 : decode cX1_canBeDugSafely 27 = .ok (.goto 4, 3) := by decide +kernel
theorem dX1_canBeDugSafely_30 : decode cX1_canBeDugSafely 30 = .ok (.iconst 0, 1) := by decide +kernel
theorem dX1_canBeDugSafely_31 : decode cX1_canBeDugSafely 31 = .ok (.ireturn, 1) := by decide +kernel
theorem dX1_openForNow_0 : decode cX1_openForNow 0 = .ok (.aload_n 0, 1) := by decide +kernel
theorem dX1_openForNow_1 : decode cX1_openForNow 1 = .ok (.getfield 9, 3) := by decide +kernel
theorem dX1_openForNow_4 : decode cX1_openForNow 4 = .ok (.iload_n 1, 1) := by decide +kernel
theorem dX1_openForNow_5 : decode cX1_openForNow 5 = .ok (.iaload, 1) := by decide +kernel
theorem dX1_openForNow_6 : decode cX1_openForNow 6 = .ok (.istore_n 2, 1) := by decide +kernel
theorem dX1_openForNow_7 : decode cX1_openForNow 7 = .ok (.aload_n 0, 1) := by decide +kernel
theorem dX1_openForNow_8 : decode cX1_openForNow 8 = .ok (.getfield 9, 3) := by decide +kernel
theorem dX1_openForNow_11 : decode cX1_openForNow 11 = .ok (.iload_n 1, 1) := by decide +kernel
theorem dX1_openForNow_12 : decode cX1_openForNow 12 = .ok (.iconst 1, 1) := by decide +kernel
theorem dX1_openForNow_13 : decode cX1_openForNow 13 = .ok (.iastore, 1) := by decide +kernel
theorem dX1_openForNow_14 : decode cX1_openForNow 14 = .ok (.iload_n 2, 1) := by decide +kernel
theorem dX1_openForNow_15 : decode cX1_openForNow 15 = .ok (.ireturn, 1) := by decide +kernel
theorem dX1_caratsAround_0 : decode cX1_caratsAround 0 = .ok (.iload_n 1, 1) := by decide +kernel
theorem dX1_caratsAround_1 : decode cX1_caratsAround 1 = .ok (.bipush 10, 2) := by decide +kernel
theorem dX1_caratsAround_3 : decode cX1_caratsAround 3 = .ok (.irem, 1) := by decide +kernel
theorem dX1_caratsAround_4 : decode cX1_caratsAround 4 = .ok (.istore_n 2, 1) := by decide +kernel
theorem dX1_caratsAround_5 : decode cX1_caratsAround 5 = .ok (.aload_n 0, 1) := by decide +kernel
theorem dX1_caratsAround_6 : decode cX1_caratsAround 6 = .ok (.iload_n 1, 1) := by decide +kernel
theorem dX1_caratsAround_7 : decode cX1_caratsAround 7 = .ok (.invokevirtual 54, 3) := by decide +kernel
theorem dX1_caratsAround_10 : decode cX1_caratsAround 10 = .ok (.invokestatic 57, 3) := by decide +kernel
theorem dX1_caratsAround_13 : decode cX1_caratsAround 13 = .ok (.aload_n 0, 1) := by decide +kernel
theorem dX1_caratsAround_14 : decode cX1_caratsAround 14 = .ok (.iload_n 1, 1) := by decide +kernel
theorem dX1_caratsAround_15 : decode cX1_caratsAround 15 = .ok (.bipush 10, 2) := by decide +kernel
theorem dX1_caratsAround_17 : decode cX1_caratsAround 17 = .ok (.isub, 1) := by decide +kernel
theorem dX1_caratsAround_18 : decode cX1_caratsAround 18 = .ok (.invokevirtual 54, 3) := by decide +kernel
theorem dX1_caratsAround_21 : decode cX1_caratsAround 21 = .ok (.invokestatic 57, 3) := by decide +kernel
theorem dX1_caratsAround_24 : decode cX1_caratsAround 24 = .ok (.iadd, 1) := by decide +kernel
theorem dX1_caratsAround_25 : decode cX1_caratsAround 25 = .ok (.aload_n 0, 1) := by decide +kernel
theorem dX1_caratsAround_26 : decode cX1_caratsAround 26 = .ok (.iload_n 1, 1) := by decide +kernel
theorem dX1_caratsAround_27 : decode cX1_caratsAround 27 = .ok (.bipush 10, 2) := by decide +kernel
theorem dX1_caratsAround_29 : decode cX1_caratsAround 29 = .ok (.iadd, 1) := by decide +kernel
theorem dX1_caratsAround_30 : decode cX1_caratsAround 30 = .ok (.invokevirtual 54, 3) := by decide +kernel
theorem dX1_caratsAround_33 : decode cX1_caratsAround 33 = .ok (.invokestatic 57, 3) := by decide +kernel
theorem dX1_caratsAround_36 : decode cX1_caratsAround 36 = .ok (.iadd, 1) := by decide +kernel
theorem dX1_caratsAround_37 : decode cX1_caratsAround 37 = .ok (.iload_n 2, 1) := by decide +kernel
theorem dX1_caratsAround_38 : decode cX1_caratsAround 38 = .ok (.ifCond .le 17, 3) := by decide +kernel
theorem dX1_caratsAround_41 : decode cX1_caratsAround 41 = .ok (.aload_n 0, 1) := by decide +kernel
theorem dX1_caratsAround_42 : decode cX1_caratsAround 42 = .ok (.iload_n 1, 1) := by decide +kernel
theorem dX1_caratsAround_43 : decode cX1_caratsAround 43 = .ok (.iconst 1, 1) := by decide +kernel
theorem dX1_caratsAround_44 : decode cX1_caratsAround 44 = .ok (.isub, 1) := by decide +kernel
theorem dX1_caratsAround_45 : decode cX1_caratsAround 45 = .ok (.invokevirtual 54, 3) := by decide +kernel
theorem dX1_caratsAround_48 : decode cX1_caratsAround 48 = .ok (.ifCond .eq 7, 3) := by decide +kernel
theorem dX1_caratsAround_51 : decode cX1_caratsAround 51 = .ok (.iconst 1, 1) := by decide +kernel
theorem dX1_caratsAround_52 : decode cX1_caratsAround 52 = .ok (.goto 4, 3) := by decide +kernel
theorem dX1_caratsAround_55 : decode cX1_caratsAround 55 = .ok (.iconst 0, 1) := by decide +kernel
theorem dX1_caratsAround_56 : decode cX1_caratsAround 56 = .ok (.invokestatic 57, 3) := by decide +kernel
theorem dX1_caratsAround_59 : decode cX1_caratsAround 59 = .ok (.iadd, 1) := by decide +kernel
theorem dX1_caratsAround_60 : decode cX1_caratsAround 60 = .ok (.iload_n 2, 1) := by decide +kernel
theorem dX1_caratsAround_61 : decode cX1_caratsAround 61 = .ok (.bipush 9, 2) := by decide +kernel
theorem dX1_caratsAround_63 : decode cX1_caratsAround 63 = .ok (.if_icmp .ge 17, 3) := by decide +kernel
theorem dX1_caratsAround_66 : decode cX1_caratsAround 66 = .ok (.aload_n 0, 1) := by decide +kernel
theorem dX1_caratsAround_67 : decode cX1_caratsAround 67 = .ok (.iload_n 1, 1) := by decide +kernel
theorem dX1_caratsAround_68 : decode cX1_caratsAround 68 = .ok (.iconst 1, 1) := by decide +kernel
theorem dX1_caratsAround_69 : decode cX1_caratsAround 69 = .ok (.iadd, 1) := by decide +kernel
theorem dX1_caratsAround_70 : decode cX1_caratsAround 70 = .ok (.invokevirtual 54, 3) := by decide +kernel
theorem dX1_caratsAround_73 : decode cX1_caratsAround 73 = .ok (.ifCond .eq 7, 3) := by decide +kernel
theorem dX1_caratsAround_76 : decode cX1_caratsAround 76 = .ok (.iconst 1, 1) := by decide +kernel
theorem dX1_caratsAround_77 : decode cX1_caratsAround 77 = .ok (.goto 4, 3) := by decide +kernel
theorem dX1_caratsAround_80 : decode cX1_caratsAround 80 = .ok (.iconst 0, 1) := by decide +kernel
theorem dX1_caratsAround_81 : decode cX1_caratsAround 81 = .ok (.invokestatic 57, 3) := by decide +kernel
theorem dX1_caratsAround_84 : decode cX1_caratsAround 84 = .ok (.iadd, 1) := by decide +kernel
theorem dX1_caratsAround_85 : decode cX1_caratsAround 85 = .ok (.ireturn, 1) := by decide +kernel
theorem dX1_hasCarats_0 : decode cX1_hasCarats 0 = .ok (.iload_n 1, 1) := by decide +kernel
theorem dX1_hasCarats_1 : decode cX1_hasCarats 1 = .ok (.invokestatic 37, 3) := by decide +kernel
theorem dX1_hasCarats_4 : decode cX1_hasCarats 4 = .ok (.ifCond .eq 16, 3) := by decide +kernel
theorem dX1_hasCarats_7 : decode cX1_hasCarats 7 = .ok (.aload_n 0, 1) := by decide +kernel
theorem dX1_hasCarats_8 : decode cX1_hasCarats 8 = .ok (.getfield 18, 3) := by decide +kernel
theorem dX1_hasCarats_11 : decode cX1_hasCarats 11 = .ok (.iload_n 1, 1) := by decide +kernel
theorem dX1_hasCarats_12 : decode cX1_hasCarats 12 = .ok (.iaload, 1) := by decide +kernel
theorem dX1_hasCarats_13 : decode cX1_hasCarats 13 = .ok (.ifCond .le 7, 3) := by decide +kernel
theorem dX1_hasCarats_16 : decode cX1_hasCarats 16 = .ok (.iconst 1, 1) := by decide +kernel
theorem dX1_hasCarats_17 : decode cX1_hasCarats 17 = .ok (.goto 4, 3) := by decide +kernel
theorem dX1_hasCarats_20 : decode cX1_hasCarats 20 = .ok (.iconst 0, 1) := by decide +kernel
theorem dX1_hasCarats_21 : decode cX1_hasCarats 21 = .ok (.ireturn, 1) := by decide +kernel
theorem dX1_trapsOf_0 : decode cX1_trapsOf 0 = .ok (.iconst 0, 1) := by decide +kernel
theorem dX1_trapsOf_1 : decode cX1_trapsOf 1 = .ok (.istore_n 2, 1) := by decide +kernel
theorem dX1_trapsOf_2 : decode cX1_trapsOf 2 = .ok (.iconst 0, 1) := by decide +kernel
theorem dX1_trapsOf_3 : decode cX1_trapsOf 3 = .ok (.istore_n 3, 1) := by decide +kernel
theorem dX1_trapsOf_4 : decode cX1_trapsOf 4 = .ok (.iload_n 3, 1) := by decide +kernel
theorem dX1_trapsOf_5 : decode cX1_trapsOf 5 = .ok (.bipush 100, 2) := by decide +kernel
theorem dX1_trapsOf_7 : decode cX1_trapsOf 7 = .ok (.if_icmp .ge 30, 3) := by decide +kernel
theorem dX1_trapsOf_10 : decode cX1_trapsOf 10 = .ok (.iload_n 2, 1) := by decide +kernel
theorem dX1_trapsOf_11 : decode cX1_trapsOf 11 = .ok (.aload_n 0, 1) := by decide +kernel
theorem dX1_trapsOf_12 : decode cX1_trapsOf 12 = .ok (.getfield 28, 3) := by decide +kernel
theorem dX1_trapsOf_15 : decode cX1_trapsOf 15 = .ok (.iload_n 3, 1) := by decide +kernel
theorem dX1_trapsOf_16 : decode cX1_trapsOf 16 = .ok (.iaload, 1) := by decide +kernel
theorem dX1_trapsOf_17 : decode cX1_trapsOf 17 = .ok (.iload_n 1, 1) := by decide +kernel
theorem dX1_trapsOf_18 : decode cX1_trapsOf 18 = .ok (.if_icmp .ne 7, 3) := by decide +kernel
theorem dX1_trapsOf_21 : decode cX1_trapsOf 21 = .ok (.iconst 1, 1) := by decide +kernel
theorem dX1_trapsOf_22 : decode cX1_trapsOf 22 = .ok (.goto 4, 3) := by decide +kernel
theorem dX1_trapsOf_25 : decode cX1_trapsOf 25 = .ok (.iconst 0, 1) := by decide +kernel
theorem dX1_trapsOf_26 : decode cX1_trapsOf 26 = .ok (.invokestatic 57, 3) := by decide +kernel
theorem dX1_trapsOf_29 : decode cX1_trapsOf 29 = .ok (.iadd, 1) := by decide +kernel
theorem dX1_trapsOf_30 : decode cX1_trapsOf 30 = .ok (.istore_n 2, 1) := by decide +kernel
theorem dX1_trapsOf_31 : decode cX1_trapsOf 31 = .ok (.iinc 3 1, 3) := by decide +kernel
theorem dX1_trapsOf_34 : decode cX1_trapsOf 34 = .ok (.goto (-30), 3) := by decide +kernel
theorem dX1_trapsOf_37 : decode cX1_trapsOf 37 = .ok (.iload_n 2, 1) := by decide +kernel
theorem dX1_trapsOf_38 : decode cX1_trapsOf 38 = .ok (.ireturn, 1) := by decide +kernel
theorem dX1_looseInRow_0 : decode cX1_looseInRow 0 = .ok (.aload_n 0, 1) := by decide +kernel
theorem dX1_looseInRow_1 : decode cX1_looseInRow 1 = .ok (.iload_n 1, 1) := by decide +kernel
theorem dX1_looseInRow_2 : decode cX1_looseInRow 2 = .ok (.iconst (-1), 1) := by decide +kernel
theorem dX1_looseInRow_3 : decode cX1_looseInRow 3 = .ok (.iload_n 1, 1) := by decide +kernel
theorem dX1_looseInRow_4 : decode cX1_looseInRow 4 = .ok (.bipush 10, 2) := by decide +kernel
theorem dX1_looseInRow_6 : decode cX1_looseInRow 6 = .ok (.irem, 1) := by decide +kernel
theorem dX1_looseInRow_7 : decode cX1_looseInRow 7 = .ok (.invokevirtual 61, 3) := by decide +kernel
theorem dX1_looseInRow_10 : decode cX1_looseInRow 10 = .ok (.iconst 1, 1) := by decide +kernel
theorem dX1_looseInRow_11 : decode cX1_looseInRow 11 = .ok (.iadd, 1) := by decide +kernel
theorem dX1_looseInRow_12 : decode cX1_looseInRow 12 = .ok (.aload_n 0, 1) := by decide +kernel
theorem dX1_looseInRow_13 : decode cX1_looseInRow 13 = .ok (.iload_n 1, 1) := by decide +kernel
theorem dX1_looseInRow_14 : decode cX1_looseInRow 14 = .ok (.iconst 1, 1) := by decide +kernel
theorem dX1_looseInRow_15 : decode cX1_looseInRow 15 = .ok (.bipush 9, 2) := by decide +kernel
theorem dX1_looseInRow_17 : decode cX1_looseInRow 17 = .ok (.iload_n 1, 1) := by decide +kernel
theorem dX1_looseInRow_18 : decode cX1_looseInRow 18 = .ok (.bipush 10, 2) := by decide +kernel
theorem dX1_looseInRow_20 : decode cX1_looseInRow 20 = .ok (.irem, 1) := by decide +kernel
theorem dX1_looseInRow_21 : decode cX1_looseInRow 21 = .ok (.isub, 1) := by decide +kernel
theorem dX1_looseInRow_22 : decode cX1_looseInRow 22 = .ok (.invokevirtual 61, 3) := by decide +kernel
theorem dX1_looseInRow_25 : decode cX1_looseInRow 25 = .ok (.iadd, 1) := by decide +kernel
theorem dX1_looseInRow_26 : decode cX1_looseInRow 26 = .ok (.ireturn, 1) := by decide +kernel
theorem dX1_looseInColumn_0 : decode cX1_looseInColumn 0 = .ok (.aload_n 0, 1) := by decide +kernel
theorem dX1_looseInColumn_1 : decode cX1_looseInColumn 1 = .ok (.iload_n 1, 1) := by decide +kernel
theorem dX1_looseInColumn_2 : decode cX1_looseInColumn 2 = .ok (.bipush (-10), 2) := by decide +kernel
theorem dX1_looseInColumn_4 : decode cX1_looseInColumn 4 = .ok (.iload_n 1, 1) := by decide +kernel
theorem dX1_looseInColumn_5 : decode cX1_looseInColumn 5 = .ok (.bipush 10, 2) := by decide +kernel
theorem dX1_looseInColumn_7 : decode cX1_looseInColumn 7 = .ok (.idiv, 1) := by decide +kernel
theorem dX1_looseInColumn_8 : decode cX1_looseInColumn 8 = .ok (.invokevirtual 61, 3) := by decide +kernel
theorem dX1_looseInColumn_11 : decode cX1_looseInColumn 11 = .ok (.iconst 1, 1) := by decide +kernel
theorem dX1_looseInColumn_12 : decode cX1_looseInColumn 12 = .ok (.iadd, 1) := by decide +kernel
theorem dX1_looseInColumn_13 : decode cX1_looseInColumn 13 = .ok (.aload_n 0, 1) := by decide +kernel
theorem dX1_looseInColumn_14 : decode cX1_looseInColumn 14 = .ok (.iload_n 1, 1) := by decide +kernel
theorem dX1_looseInColumn_15 : decode cX1_looseInColumn 15 = .ok (.bipush 10, 2) := by decide +kernel
theorem dX1_looseInColumn_17 : decode cX1_looseInColumn 17 = .ok (.bipush 9, 2) := by decide +kernel
theorem dX1_looseInColumn_19 : decode cX1_looseInColumn 19 = .ok (.iload_n 1, 1) := by decide +kernel
theorem dX1_looseInColumn_20 : decode cX1_looseInColumn 20 = .ok (.bipush 10, 2) := by decide +kernel
theorem dX1_looseInColumn_22 : decode cX1_looseInColumn 22 = .ok (.idiv, 1) := by decide +kernel
theorem dX1_looseInColumn_23 : decode cX1_looseInColumn 23 = .ok (.isub, 1) := by decide +kernel
theorem dX1_looseInColumn_24 : decode cX1_looseInColumn 24 = .ok (.invokevirtual 61, 3) := by decide +kernel
theorem dX1_looseInColumn_27 : decode cX1_looseInColumn 27 = .ok (.iadd, 1) := by decide +kernel
theorem dX1_looseInColumn_28 : decode cX1_looseInColumn 28 = .ok (.ireturn, 1) := by decide +kernel
theorem dX1_looseBeside_0 : decode cX1_looseBeside 0 = .ok (.iconst 0, 1) := by decide +kernel
theorem dX1_looseBeside_1 : decode cX1_looseBeside 1 = .ok (.istore 4, 2) := by decide +kernel
theorem dX1_looseBeside_3 : decode cX1_looseBeside 3 = .ok (.iload 4, 2) := by decide +kernel
theorem dX1_looseBeside_5 : decode cX1_looseBeside 5 = .ok (.iload_n 3, 1) := by decide +kernel
theorem dX1_looseBeside_6 : decode cX1_looseBeside 6 = .ok (.if_icmp .ge 24, 3) := by decide +kernel
theorem dX1_looseBeside_9 : decode cX1_looseBeside 9 = .ok (.aload_n 0, 1) := by decide +kernel
theorem dX1_looseBeside_10 : decode cX1_looseBeside 10 = .ok (.iload_n 1, 1) := by decide +kernel
theorem dX1_looseBeside_11 : decode cX1_looseBeside 11 = .ok (.iload 4, 2) := by decide +kernel
theorem dX1_looseBeside_13 : decode cX1_looseBeside 13 = .ok (.iconst 1, 1) := by decide +kernel
theorem dX1_looseBeside_14 : decode cX1_looseBeside 14 = .ok (.iadd, 1) := by decide +kernel
theorem dX1_looseBeside_15 : decode cX1_looseBeside 15 = .ok (.iload_n 2, 1) := by decide +kernel
theorem dX1_looseBeside_16 : decode cX1_looseBeside 16 = .ok (.imul, 1) := by decide +kernel
theorem dX1_looseBeside_17 : decode cX1_looseBeside 17 = .ok (.iadd, 1) := by decide +kernel
theorem dX1_looseBeside_18 : decode cX1_looseBeside 18 = .ok (.invokevirtual 65, 3) := by decide +kernel
theorem dX1_looseBeside_21 : decode cX1_looseBeside 21 = .ok (.ifCond .eq 9, 3) := by decide +kernel
theorem dX1_looseBeside_24 : decode cX1_looseBeside 24 = .ok (.iinc 4 1, 3) := by decide +kernel
theorem dX1_looseBeside_27 : decode cX1_looseBeside 27 = .ok (.goto (-24), 3) := by decide +kernel
theorem dX1_looseBeside_30 : decode cX1_looseBeside 30 = .ok (.iload 4, 2) := by decide +kernel
theorem dX1_looseBeside_32 : decode cX1_looseBeside 32 = .ok (.ireturn, 1) := by decide +kernel
theorem dX1_fall_0 : decode cX1_fall 0 = .ok (.aload_n 0, 1) := by decide +kernel
theorem dX1_fall_1 : decode cX1_fall 1 = .ok (.iload_n 1, 1) := by decide +kernel
theorem dX1_fall_2 : decode cX1_fall 2 = .ok (.invokevirtual 47, 3) := by decide +kernel
theorem dX1_fall_5 : decode cX1_fall 5 = .ok (.istore_n 2, 1) := by decide +kernel
theorem dX1_fall_6 : decode cX1_fall 6 = .ok (.aload_n 0, 1) := by decide +kernel
theorem dX1_fall_7 : decode cX1_fall 7 = .ok (.iload_n 1, 1) := by decide +kernel
theorem dX1_fall_8 : decode cX1_fall 8 = .ok (.invokevirtual 51, 3) := by decide +kernel
theorem dX1_fall_11 : decode cX1_fall 11 = .ok (.istore_n 3, 1) := by decide +kernel
theorem dX1_fall_12 : decode cX1_fall 12 = .ok (.iload_n 1, 1) := by decide +kernel
theorem dX1_fall_13 : decode cX1_fall 13 = .ok (.aload_n 0, 1) := by decide +kernel
theorem dX1_fall_14 : decode cX1_fall 14 = .ok (.iload_n 1, 1) := by decide +kernel
theorem dX1_fall_15 : decode cX1_fall 15 = .ok (.iconst (-1), 1) := by decide +kernel
theorem dX1_fall_16 : decode cX1_fall 16 = .ok (.iload_n 1, 1) := by decide +kernel
theorem dX1_fall_17 : decode cX1_fall 17 = .ok (.bipush 10, 2) := by decide +kernel
theorem dX1_fall_19 : decode cX1_fall 19 = .ok (.irem, 1) := by decide +kernel
theorem dX1_fall_20 : decode cX1_fall 20 = .ok (.invokevirtual 61, 3) := by decide +kernel
theorem dX1_fall_23 : decode cX1_fall 23 = .ok (.isub, 1) := by decide +kernel
theorem dX1_fall_24 : decode cX1_fall 24 = .ok (.istore 4, 2) := by decide +kernel
theorem dX1_fall_26 : decode cX1_fall 26 = .ok (.iload_n 1, 1) := by decide +kernel
theorem dX1_fall_27 : decode cX1_fall 27 = .ok (.aload_n 0, 1) := by decide +kernel
theorem dX1_fall_28 : decode cX1_fall 28 = .ok (.iload_n 1, 1) := by decide +kernel
theorem dX1_fall_29 : decode cX1_fall 29 = .ok (.bipush (-10), 2) := by decide +kernel
theorem dX1_fall_31 : decode cX1_fall 31 = .ok (.iload_n 1, 1) := by decide +kernel
theorem dX1_fall_32 : decode cX1_fall 32 = .ok (.bipush 10, 2) := by decide +kernel
theorem dX1_fall_34 : decode cX1_fall 34 = .ok (.idiv, 1) := by decide +kernel
theorem dX1_fall_35 : decode cX1_fall 35 = .ok (.invokevirtual 61, 3) := by decide +kernel
theorem dX1_fall_38 : decode cX1_fall 38 = .ok (.bipush 10, 2) := by decide +kernel
theorem dX1_fall_40 : decode cX1_fall 40 = .ok (.imul, 1) := by decide +kernel
theorem dX1_fall_41 : decode cX1_fall 41 = .ok (.isub, 1) := by decide +kernel
theorem dX1_fall_42 : decode cX1_fall 42 = .ok (.istore 5, 2) := by decide +kernel
theorem dX1_fall_44 : decode cX1_fall 44 = .ok (.iload_n 2, 1) := by decide +kernel
theorem dX1_fall_45 : decode cX1_fall 45 = .ok (.iconst 3, 1) := by decide +kernel
theorem dX1_fall_46 : decode cX1_fall 46 = .ok (.if_icmp .le 11, 3) := by decide +kernel
theorem dX1_fall_49 : decode cX1_fall 49 = .ok (.aload_n 0, 1) := by decide +kernel
theorem dX1_fall_50 : decode cX1_fall 50 = .ok (.iload 4, 2) := by decide +kernel
theorem dX1_fall_52 : decode cX1_fall 52 = .ok (.iconst 1, 1) := by decide +kernel
theorem dX1_fall_53 : decode cX1_fall 53 = .ok (.iload_n 2, 1) := by decide +kernel
theorem dX1_fall_54 : decode cX1_fall 54 = .ok (.invokevirtual 68, 3) := by decide +kernel
theorem dX1_fall_57 : decode cX1_fall 57 = .ok (.iload_n 3, 1) := by decide +kernel
theorem dX1_fall_58 : decode cX1_fall 58 = .ok (.iconst 3, 1) := by decide +kernel
theorem dX1_fall_59 : decode cX1_fall 59 = .ok (.if_icmp .le 12, 3) := by decide +kernel
theorem dX1_fall_62 : decode cX1_fall 62 = .ok (.aload_n 0, 1) := by decide +kernel
theorem dX1_fall_63 : decode cX1_fall 63 = .ok (.iload 5, 2) := by decide +kernel
theorem dX1_fall_65 : decode cX1_fall 65 = .ok (.bipush 10, 2) := by decide +kernel
theorem dX1_fall_67 : decode cX1_fall 67 = .ok (.iload_n 3, 1) := by decide +kernel
theorem dX1_fall_68 : decode cX1_fall 68 = .ok (.invokevirtual 68, 3) := by decide +kernel
theorem dX1_fall_71 : decode cX1_fall 71 = .ok (.return_, 1) := by decide +kernel
theorem dX1_bury_0 : decode cX1_bury 0 = .ok (.iconst 0, 1) := by decide +kernel
theorem dX1_bury_1 : decode cX1_bury 1 = .ok (.istore 4, 2) := by decide +kernel
theorem dX1_bury_3 : decode cX1_bury 3 = .ok (.iload 4, 2) := by decide +kernel
theorem dX1_bury_5 : decode cX1_bury 5 = .ok (.iload_n 3, 1) := by decide +kernel
theorem dX1_bury_6 : decode cX1_bury 6 = .ok (.if_icmp .ge 33, 3) := by decide +kernel
theorem dX1_bury_9 : decode cX1_bury 9 = .ok (.iload_n 1, 1) := by decide +kernel
theorem dX1_bury_10 : decode cX1_bury 10 = .ok (.iload 4, 2) := by decide +kernel
theorem dX1_bury_12 : decode cX1_bury 12 = .ok (.iload_n 2, 1) := by decide +kernel
theorem dX1_bury_13 : decode cX1_bury 13 = .ok (.imul, 1) := by decide +kernel
theorem dX1_bury_14 : decode cX1_bury 14 = .ok (.iadd, 1) := by decide +kernel
theorem dX1_bury_15 : decode cX1_bury 15 = .ok (.istore 5, 2) := by decide +kernel
theorem dX1_bury_17 : decode cX1_bury 17 = .ok (.iload 5, 2) := by decide +kernel
theorem dX1_bury_19 : decode cX1_bury 19 = .ok (.invokestatic 37, 3) := by decide +kernel
theorem dX1_bury_22 : decode cX1_bury 22 = .ok (.ifCond .eq 11, 3) := by decide +kernel
theorem dX1_bury_25 : decode cX1_bury 25 = .ok (.aload_n 0, 1) := by decide +kernel
theorem dX1_bury_26 : decode cX1_bury 26 = .ok (.getfield 9, 3) := by decide +kernel
theorem dX1_bury_29 : decode cX1_bury 29 = .ok (.iload 5, 2) := by decide +kernel
theorem dX1_bury_31 : decode cX1_bury 31 = .ok (.iconst 2, 1) := by decide +kernel
theorem dX1_bury_32 : decode cX1_bury 32 = .ok (.iastore, 1) := by decide +kernel
theorem dX1_bury_33 : decode cX1_bury 33 = .ok (.iinc 4 1, 3) := by decide +kernel
theorem dX1_bury_36 : decode cX1_bury 36 = .ok (.goto (-33), 3) := by decide +kernel
theorem dX1_bury_39 : decode cX1_bury 39 = .ok (.return_, 1) := by decide +kernel
theorem dX2_init_0 : decode cX2_init 0 = .ok (.aload_n 0, 1) := by decide +kernel
theorem dX2_init_1 : decode cX2_init 1 = .ok (.invokespecial 3, 3) := by decide +kernel
theorem dX2_init_4 : decode cX2_init 4 = .ok (.aload_n 0, 1) := by decide +kernel
theorem dX2_init_5 : decode cX2_init 5 = .ok (.iconst (-1), 1) := by decide +kernel
theorem dX2_init_6 : decode cX2_init 6 = .ok (.putfield 9, 3) := by decide +kernel
theorem dX2_init_9 : decode cX2_init 9 = .ok (.aload_n 0, 1) := by decide +kernel
theorem dX2_init_10 : decode cX2_init 10 = .ok (.iconst 5, 1) := by decide +kernel
theorem dX2_init_11 : decode cX2_init 11 = .ok (.newarray .int, 2) := by decide +kernel
theorem dX2_init_13 : decode cX2_init 13 = .ok (.putfield 15, 3) := by decide +kernel
theorem dX2_init_16 : decode cX2_init 16 = .ok (.aload_n 0, 1) := by decide +kernel
theorem dX2_init_17 : decode cX2_init 17 = .ok (.iconst 5, 1) := by decide +kernel
theorem dX2_init_18 : decode cX2_init 18 = .ok (.newarray .int, 2) := by decide +kernel
theorem dX2_init_20 : decode cX2_init 20 = .ok (.putfield 19, 3) := by decide +kernel
theorem dX2_init_23 : decode cX2_init 23 = .ok (.aload_n 0, 1) := by decide +kernel
theorem dX2_init_24 : decode cX2_init 24 = .ok (.iload_n 1, 1) := by decide +kernel
theorem dX2_init_25 : decode cX2_init 25 = .ok (.putfield 22, 3) := by decide +kernel
theorem dX2_init_28 : decode cX2_init 28 = .ok (.aload_n 0, 1) := by decide +kernel
theorem dX2_init_29 : decode cX2_init 29 = .ok (.iload_n 2, 1) := by decide +kernel
theorem dX2_init_30 : decode cX2_init 30 = .ok (.putfield 25, 3) := by decide +kernel
theorem dX2_init_33 : decode cX2_init 33 = .ok (.aload_n 0, 1) := by decide +kernel
theorem dX2_init_34 : decode cX2_init 34 = .ok (.iload_n 3, 1) := by decide +kernel
theorem dX2_init_35 : decode cX2_init 35 = .ok (.putfield 28, 3) := by decide +kernel
theorem dX2_init_38 : decode cX2_init 38 = .ok (.aload_n 0, 1) := by decide +kernel
theorem dX2_init_39 : decode cX2_init 39 = .ok (.iload 4, 2) := by decide +kernel
theorem dX2_init_41 : decode cX2_init 41 = .ok (.putfield 31, 3) := by decide +kernel
theorem dX2_init_44 : decode cX2_init 44 = .ok (.aload_n 0, 1) := by decide +kernel
theorem dX2_init_45 : decode cX2_init 45 = .ok (.iload 5, 2) := by decide +kernel
theorem dX2_init_47 : decode cX2_init 47 = .ok (.putfield 34, 3) := by decide +kernel
theorem dX2_init_50 : decode cX2_init 50 = .ok (.return_, 1) := by decide +kernel
theorem dX2_place_0 : decode cX2_place 0 = .ok (.aload_n 0, 1) := by decide +kernel
theorem dX2_place_1 : decode cX2_place 1 = .ok (.getfield 9, 3) := by decide +kernel
theorem dX2_place_4 : decode cX2_place 4 = .ok (.iconst (-1), 1) := by decide +kernel
theorem dX2_place_5 : decode cX2_place 5 = .ok (.if_icmp .eq 5, 3) := by decide +kernel
theorem dX2_place_8 : decode cX2_place 8 = .ok (.iconst 2, 1) := by decide +kernel
theorem dX2_place_9 : decode cX2_place 9 = .ok (.ireturn, 1) := by decide +kernel
theorem dX2_place_10 : decode cX2_place 10 = .ok (.aload_n 0, 1) := by decide +kernel
theorem dX2_place_11 : decode cX2_place 11 = .ok (.getfield 34, 3) := by decide +kernel
theorem dX2_place_14 : decode cX2_place 14 = .ok (.iconst (-1), 1) := by decide +kernel
theorem dX2_place_15 : decode cX2_place 15 = .ok (.if_icmp .ne 7, 3) := by decide +kernel
theorem dX2_place_18 : decode cX2_place 18 = .ok (.iconst 0, 1) := by decide +kernel
theorem dX2_place_19 : decode cX2_place 19 = .ok (.goto 4, 3) := by decide +kernel
theorem dX2_place_22 : decode cX2_place 22 = .ok (.iconst 1, 1) := by decide +kernel
theorem dX2_place_23 : decode cX2_place 23 = .ok (.ireturn, 1) := by decide +kernel
theorem dX2_isInParcelOf_0 : decode cX2_isInParcelOf 0 = .ok (.aload_n 0, 1) := by decide +kernel
theorem dX2_isInParcelOf_1 : decode cX2_isInParcelOf 1 = .ok (.getfield 31, 3) := by decide +kernel
theorem dX2_isInParcelOf_4 : decode cX2_isInParcelOf 4 = .ok (.iload_n 1, 1) := by decide +kernel
theorem dX2_isInParcelOf_5 : decode cX2_isInParcelOf 5 = .ok (.if_icmp .ne 14, 3) := by decide +kernel
theorem dX2_isInParcelOf_8 : decode cX2_isInParcelOf 8 = .ok (.aload_n 0, 1) := by decide +kernel
theorem dX2_isInParcelOf_9 : decode cX2_isInParcelOf 9 = .ok (.invokevirtual 37, 3) := by decide +kernel
theorem dX2_isInParcelOf_12 : decode cX2_isInParcelOf 12 = .ok (.ifCond .ne 7, 3) := by decide +kernel
theorem dX2_isInParcelOf_15 : decode cX2_isInParcelOf 15 = .ok (.iconst 1, 1) := by decide +kernel
theorem dX2_isInParcelOf_16 : decode cX2_isInParcelOf 16 = .ok (.goto 4, 3) := by decide +kernel
theorem dX2_isInParcelOf_19 : decode cX2_isInParcelOf 19 = .ok (.iconst 0, 1) := by decide +kernel
theorem dX2_isInParcelOf_20 : decode cX2_isInParcelOf 20 = .ok (.ireturn, 1) := by decide +kernel
theorem dX2_lustre_0 : decode cX2_lustre 0 = .ok (.aload_n 0, 1) := by decide +kernel
theorem dX2_lustre_1 : decode cX2_lustre 1 = .ok (.getfield 41, 3) := by decide +kernel
theorem dX2_lustre_4 : decode cX2_lustre 4 = .ok (.aload_n 0, 1) := by decide +kernel
theorem dX2_lustre_5 : decode cX2_lustre 5 = .ok (.getfield 28, 3) := by decide +kernel
theorem dX2_lustre_8 : decode cX2_lustre 8 = .ok (.if_icmp .ge 5, 3) := by decide +kernel
theorem dX2_lustre_11 : decode cX2_lustre 11 = .ok (.iconst 0, 1) := by decide +kernel
theorem dX2_lustre_12 : decode cX2_lustre 12 = .ok (.ireturn, 1) := by decide +kernel
theorem dX2_lustre_13 : decode cX2_lustre 13 = .ok (.aload_n 0, 1) := by decide +kernel
theorem dX2_lustre_14 : decode cX2_lustre 14 = .ok (.getfield 41, 3) := by decide +kernel
theorem dX2_lustre_17 : decode cX2_lustre 17 = .ok (.aload_n 0, 1) := by decide +kernel
theorem dX2_lustre_18 : decode cX2_lustre 18 = .ok (.getfield 28, 3) := by decide +kernel
theorem dX2_lustre_21 : decode cX2_lustre 21 = .ok (.iconst 2, 1) := by decide +kernel
theorem dX2_lustre_22 : decode cX2_lustre 22 = .ok (.iadd, 1) := by decide +kernel
theorem dX2_lustre_23 : decode cX2_lustre 23 = .ok (.if_icmp .gt 7, 3) := by decide +kernel
theorem dX2_lustre_26 : decode cX2_lustre 26 = .ok (.iconst 1, 1) := by decide +kernel
theorem dX2_lustre_27 : decode cX2_lustre 27 = .ok (.goto 4, 3) := by decide +kernel
theorem dX2_lustre_30 : decode cX2_lustre 30 = .ok (.iconst 2, 1) := by decide +kernel
theorem dX2_lustre_31 : decode cX2_lustre 31 = .ok (.ireturn, 1) := by decide +kernel
theorem dX2_value_0 : decode cX2_value 0 = .ok (.aload_n 0, 1) := by decide +kernel
theorem dX2_value_1 : decode cX2_value 1 = .ok (.invokevirtual 44, 3) := by decide +kernel
theorem dX2_value_4 : decode cX2_value 4 = .ok (.lookupswitch 43 #[(0, 28), (1, 35)], 28) := by decide +kernel
theorem dX2_value_32 : decode cX2_value 32 = .ok (.aload_n 0, 1) := by decide +kernel
theorem dX2_value_33 : decode cX2_value 33 = .ok (.getfield 25, 3) := by decide +kernel
theorem dX2_value_36 : decode cX2_value 36 = .ok (.iconst 2, 1) := by decide +kernel
theorem dX2_value_37 : decode cX2_value 37 = .ok (.imul, 1) := by decide +kernel
theorem dX2_value_38 : decode cX2_value 38 = .ok (.ireturn, 1) := by decide +kernel
theorem dX2_value_39 : decode cX2_value 39 = .ok (.aload_n 0, 1) := by decide +kernel
theorem dX2_value_40 : decode cX2_value 40 = .ok (.getfield 25, 3) := by decide +kernel
theorem dX2_value_43 : decode cX2_value 43 = .ok (.bipush 10, 2) := by decide +kernel
theorem dX2_value_45 : decode cX2_value 45 = .ok (.imul, 1) := by decide +kernel
theorem dX2_value_46 : decode cX2_value 46 = .ok (.ireturn, 1) := by decide +kernel
theorem dX2_value_47 : decode cX2_value 47 = .ok (.iconst 0, 1) := by decide +kernel
theorem dX2_value_48 : decode cX2_value 48 = .ok (.ireturn, 1) := by decide +kernel
theorem dX2_bestBidder_0 : decode cX2_bestBidder 0 = .ok (.iconst (-1), 1) := by decide +kernel
theorem dX2_bestBidder_1 : decode cX2_bestBidder 1 = .ok (.istore_n 2, 1) := by decide +kernel
theorem dX2_bestBidder_2 : decode cX2_bestBidder 2 = .ok (.iconst 0, 1) := by decide +kernel
theorem dX2_bestBidder_3 : decode cX2_bestBidder 3 = .ok (.istore_n 3, 1) := by decide +kernel
theorem dX2_bestBidder_4 : decode cX2_bestBidder 4 = .ok (.iload_n 3, 1) := by decide +kernel
theorem dX2_bestBidder_5 : decode cX2_bestBidder 5 = .ok (.iconst 5, 1) := by decide +kernel
theorem dX2_bestBidder_6 : decode cX2_bestBidder 6 = .ok (.if_icmp .ge 52, 3) := by decide +kernel
theorem dX2_bestBidder_9 : decode cX2_bestBidder 9 = .ok (.iload_n 3, 1) := by decide +kernel
theorem dX2_bestBidder_10 : decode cX2_bestBidder 10 = .ok (.aload_n 1, 1) := by decide +kernel
theorem dX2_bestBidder_11 : decode cX2_bestBidder 11 = .ok (.arraylength, 1) := by decide +kernel
theorem dX2_bestBidder_12 : decode cX2_bestBidder 12 = .ok (.if_icmp .ge 46, 3) := by decide +kernel
theorem dX2_bestBidder_15 : decode cX2_bestBidder 15 = .ok (.aload_n 0, 1) := by decide +kernel
theorem dX2_bestBidder_16 : decode cX2_bestBidder 16 = .ok (.getfield 15, 3) := by decide +kernel
theorem dX2_bestBidder_19 : decode cX2_bestBidder 19 = .ok (.iload_n 3, 1) := by decide +kernel
theorem dX2_bestBidder_20 : decode cX2_bestBidder 20 = .ok (.iaload, 1) := by decide +kernel
theorem dX2_bestBidder_21 : decode cX2_bestBidder 21 = .ok (.ifCond .le 31, 3) := by decide +kernel
theorem dX2_bestBidder_24 : decode cX2_bestBidder 24 = .ok (.aload_n 0, 1) := by decide +kernel
theorem dX2_bestBidder_25 : decode cX2_bestBidder 25 = .ok (.getfield 15, 3) := by decide +kernel
theorem dX2_bestBidder_28 : decode cX2_bestBidder 28 = .ok (.iload_n 3, 1) := by decide +kernel
theorem dX2_bestBidder_29 : decode cX2_bestBidder 29 = .ok (.iaload, 1) := by decide +kernel
theorem dX2_bestBidder_30 : decode cX2_bestBidder 30 = .ok (.aload_n 1, 1) := by decide +kernel
theorem dX2_bestBidder_31 : decode cX2_bestBidder 31 = .ok (.iload_n 3, 1) := by decide +kernel
theorem dX2_bestBidder_32 : decode cX2_bestBidder 32 = .ok (.iaload, 1) := by decide +kernel
theorem dX2_bestBidder_33 : decode cX2_bestBidder 33 = .ok (.if_icmp .gt 19, 3) := by decide +kernel
theorem dX2_bestBidder_36 : decode cX2_bestBidder 36 = .ok (.iload_n 2, 1) := by decide +kernel
theorem dX2_bestBidder_37 : decode cX2_bestBidder 37 = .ok (.iconst (-1), 1) := by decide +kernel
theorem dX2_bestBidder_38 : decode cX2_bestBidder 38 = .ok (.if_icmp .eq 12, 3) := by decide +kernel
theorem dX2_bestBidder_41 : decode cX2_bestBidder 41 = .ok (.aload_n 0, 1) := by decide +kernel
theorem dX2_bestBidder_42 : decode cX2_bestBidder 42 = .ok (.iload_n 3, 1) := by decide +kernel
theorem dX2_bestBidder_43 : decode cX2_bestBidder 43 = .ok (.iload_n 2, 1) := by decide +kernel
theorem dX2_bestBidder_44 : decode cX2_bestBidder 44 = .ok (.invokevirtual 47, 3) := by decide +kernel
theorem dX2_bestBidder_47 : decode cX2_bestBidder 47 = .ok (.ifCond .eq 5, 3) := by decide +kernel
theorem dX2_bestBidder_50 : decode cX2_bestBidder 50 = .ok (.iload_n 3, 1) := by decide +kernel
theorem dX2_bestBidder_51 : decode cX2_bestBidder 51 = .ok (.istore_n 2, 1) := by decide +kernel
theorem dX2_bestBidder_52 : decode cX2_bestBidder 52 = .ok (.iinc 3 1, 3) := by decide +kernel
theorem dX2_bestBidder_55 : decode cX2_bestBidder 55 = .ok (.goto (-51), 3) := by decide +kernel
theorem dX2_bestBidder_58 : decode cX2_bestBidder 58 = .ok (.iload_n 2, 1) := by decide +kernel
theorem dX2_bestBidder_59 : decode cX2_bestBidder 59 = .ok (.ireturn, 1) := by decide +kernel
theorem dX2_isAhead_0 : decode cX2_isAhead 0 = .ok (.aload_n 0, 1) := by decide +kernel
theorem dX2_isAhead_1 : decode cX2_isAhead 1 = .ok (.getfield 15, 3) := by decide +kernel
theorem dX2_isAhead_4 : decode cX2_isAhead 4 = .ok (.iload_n 1, 1) := by decide +kernel
theorem dX2_isAhead_5 : decode cX2_isAhead 5 = .ok (.iaload, 1) := by decide +kernel
theorem dX2_isAhead_6 : decode cX2_isAhead 6 = .ok (.aload_n 0, 1) := by decide +kernel
theorem dX2_isAhead_7 : decode cX2_isAhead 7 = .ok (.getfield 15, 3) := by decide +kernel
theorem dX2_isAhead_10 : decode cX2_isAhead 10 = .ok (.iload_n 2, 1) := by decide +kernel
theorem dX2_isAhead_11 : decode cX2_isAhead 11 = .ok (.iaload, 1) := by decide +kernel
theorem dX2_isAhead_12 : decode cX2_isAhead 12 = .ok (.if_icmp .gt 33, 3) := by decide +kernel
theorem dX2_isAhead_15 : decode cX2_isAhead 15 = .ok (.aload_n 0, 1) := by decide +kernel
theorem dX2_isAhead_16 : decode cX2_isAhead 16 = .ok (.getfield 15, 3) := by decide +kernel
theorem dX2_isAhead_19 : decode cX2_isAhead 19 = .ok (.iload_n 1, 1) := by decide +kernel
theorem dX2_isAhead_20 : decode cX2_isAhead 20 = .ok (.iaload, 1) := by decide +kernel
theorem dX2_isAhead_21 : decode cX2_isAhead 21 = .ok (.aload_n 0, 1) := by decide +kernel
theorem dX2_isAhead_22 : decode cX2_isAhead 22 = .ok (.getfield 15, 3) := by decide +kernel
theorem dX2_isAhead_25 : decode cX2_isAhead 25 = .ok (.iload_n 2, 1) := by decide +kernel
theorem dX2_isAhead_26 : decode cX2_isAhead 26 = .ok (.iaload, 1) := by decide +kernel
theorem dX2_isAhead_27 : decode cX2_isAhead 27 = .ok (.if_icmp .ne 22, 3) := by decide +kernel
theorem dX2_isAhead_30 : decode cX2_isAhead 30 = .ok (.aload_n 0, 1) := by decide +kernel
theorem dX2_isAhead_31 : decode cX2_isAhead 31 = .ok (.getfield 19, 3) := by decide +kernel
theorem dX2_isAhead_34 : decode cX2_isAhead 34 = .ok (.iload_n 1, 1) := by decide +kernel
theorem dX2_isAhead_35 : decode cX2_isAhead 35 = .ok (.iaload, 1) := by decide +kernel
theorem dX2_isAhead_36 : decode cX2_isAhead 36 = .ok (.aload_n 0, 1) := by decide +kernel
theorem dX2_isAhead_37 : decode cX2_isAhead 37 = .ok (.getfield 19, 3) := by decide +kernel
theorem dX2_isAhead_40 : decode cX2_isAhead 40 = .ok (.iload_n 2, 1) := by decide +kernel
theorem dX2_isAhead_41 : decode cX2_isAhead 41 = .ok (.iaload, 1) := by decide +kernel
theorem dX2_isAhead_42 : decode cX2_isAhead 42 = .ok (.if_icmp .ge 7, 3) := by decide +kernel
theorem dX2_isAhead_45 : decode cX2_isAhead 45 = .ok (.iconst 1, 1) := by decide +kernel
theorem dX2_isAhead_46 : decode cX2_isAhead 46 = .ok (.goto 4, 3) := by decide +kernel
theorem dX2_isAhead_49 : decode cX2_isAhead 49 = .ok (.iconst 0, 1) := by decide +kernel
theorem dX2_isAhead_50 : decode cX2_isAhead 50 = .ok (.ireturn, 1) := by decide +kernel
theorem dX3_init_0 : decode cX3_init 0 = .ok (.aload_n 0, 1) := by decide +kernel
theorem dX3_init_1 : decode cX3_init 1 = .ok (.invokespecial 3, 3) := by decide +kernel
theorem dX3_init_4 : decode cX3_init 4 = .ok (.aload_n 0, 1) := by decide +kernel
theorem dX3_init_5 : decode cX3_init 5 = .ok (.new 9, 3) := by decide +kernel
theorem dX3_init_8 : decode cX3_init 8 = .ok (.dup, 1) := by decide +kernel
theorem dX3_init_9 : decode cX3_init 9 = .ok (.invokespecial 11, 3) := by decide +kernel
theorem dX3_init_12 : decode cX3_init 12 = .ok (.putfield 12, 3) := by decide +kernel
theorem dX3_init_15 : decode cX3_init 15 = .ok (.aload_n 0, 1) := by decide +kernel
theorem dX3_init_16 : decode cX3_init 16 = .ok (.new 16, 3) := by decide +kernel
theorem dX3_init_19 : decode cX3_init 19 = .ok (.dup, 1) := by decide +kernel
theorem dX3_init_20 : decode cX3_init 20 = .ok (.invokespecial 18, 3) := by decide +kernel
theorem dX3_init_23 : decode cX3_init 23 = .ok (.putfield 19, 3) := by decide +kernel
theorem dX3_init_26 : decode cX3_init 26 = .ok (.aload_n 0, 1) := by decide +kernel
theorem dX3_init_27 : decode cX3_init 27 = .ok (.new 16, 3) := by decide +kernel
theorem dX3_init_30 : decode cX3_init 30 = .ok (.dup, 1) := by decide +kernel
theorem dX3_init_31 : decode cX3_init 31 = .ok (.invokespecial 18, 3) := by decide +kernel
theorem dX3_init_34 : decode cX3_init 34 = .ok (.putfield 23, 3) := by decide +kernel
theorem dX3_init_37 : decode cX3_init 37 = .ok (.aload_n 0, 1) := by decide +kernel
theorem dX3_init_38 : decode cX3_init 38 = .ok (.bipush 8, 2) := by decide +kernel
theorem dX3_init_40 : decode cX3_init 40 = .ok (.newarray .int, 2) := by decide +kernel
theorem dX3_init_42 : decode cX3_init 42 = .ok (.putfield 26, 3) := by decide +kernel
theorem dX3_init_45 : decode cX3_init 45 = .ok (.aload_n 0, 1) := by decide +kernel
theorem dX3_init_46 : decode cX3_init 46 = .ok (.bipush 8, 2) := by decide +kernel
theorem dX3_init_48 : decode cX3_init 48 = .ok (.newarray .int, 2) := by decide +kernel
theorem dX3_init_50 : decode cX3_init 50 = .ok (.putfield 30, 3) := by decide +kernel
theorem dX3_init_53 : decode cX3_init 53 = .ok (.aload_n 0, 1) := by decide +kernel
theorem dX3_init_54 : decode cX3_init 54 = .ok (.bipush 8, 2) := by decide +kernel
theorem dX3_init_56 : decode cX3_init 56 = .ok (.newarray .int, 2) := by decide +kernel
theorem dX3_init_58 : decode cX3_init 58 = .ok (.putfield 33, 3) := by decide +kernel
theorem dX3_init_61 : decode cX3_init 61 = .ok (.aload_n 0, 1) := by decide +kernel
theorem dX3_init_62 : decode cX3_init 62 = .ok (.iconst 5, 1) := by decide +kernel
theorem dX3_init_63 : decode cX3_init 63 = .ok (.newarray .int, 2) := by decide +kernel
theorem dX3_init_65 : decode cX3_init 65 = .ok (.putfield 36, 3) := by decide +kernel
theorem dX3_init_68 : decode cX3_init 68 = .ok (.aload_n 0, 1) := by decide +kernel
theorem dX3_init_69 : decode cX3_init 69 = .ok (.getfield 36, 3) := by decide +kernel
theorem dX3_init_72 : decode cX3_init 72 = .ok (.sipush 20000, 3) := by decide +kernel
theorem dX3_init_75 : decode cX3_init 75 = .ok (.invokestatic 39, 3) := by decide +kernel
theorem dX3_init_78 : decode cX3_init 78 = .ok (.aload_n 0, 1) := by decide +kernel
theorem dX3_init_79 : decode cX3_init 79 = .ok (.bipush 8, 2) := by decide +kernel
theorem dX3_init_81 : decode cX3_init 81 = .ok (.newarray .int, 2) := by decide +kernel
theorem dX3_init_83 : decode cX3_init 83 = .ok (.putfield 45, 3) := by decide +kernel
theorem dX3_init_86 : decode cX3_init 86 = .ok (.aload_n 0, 1) := by decide +kernel
theorem dX3_init_87 : decode cX3_init 87 = .ok (.bipush 16, 2) := by decide +kernel
theorem dX3_init_89 : decode cX3_init 89 = .ok (.newarray .int, 2) := by decide +kernel
theorem dX3_init_91 : decode cX3_init 91 = .ok (.putfield 48, 3) := by decide +kernel
theorem dX3_init_94 : decode cX3_init 94 = .ok (.return_, 1) := by decide +kernel
theorem dX3_seam_0 : decode cX3_seam 0 = .ok (.iload_n 1, 1) := by decide +kernel
theorem dX3_seam_1 : decode cX3_seam 1 = .ok (.invokestatic 51, 3) := by decide +kernel
theorem dX3_seam_4 : decode cX3_seam 4 = .ok (.iload_n 2, 1) := by decide +kernel
theorem dX3_seam_5 : decode cX3_seam 5 = .ok (.iconst 1, 1) := by decide +kernel
theorem dX3_seam_6 : decode cX3_seam 6 = .ok (.sipush 999, 3) := by decide +kernel
theorem dX3_seam_9 : decode cX3_seam 9 = .ok (.invokestatic 55, 3) := by decide +kernel
theorem dX3_seam_12 : decode cX3_seam 12 = .ok (.iload_n 3, 1) := by decide +kernel
theorem dX3_seam_13 : decode cX3_seam 13 = .ok (.iconst 0, 1) := by decide +kernel
theorem dX3_seam_14 : decode cX3_seam 14 = .ok (.bipush 9, 2) := by decide +kernel
theorem dX3_seam_16 : decode cX3_seam 16 = .ok (.invokestatic 55, 3) := by decide +kernel
theorem dX3_seam_19 : decode cX3_seam 19 = .ok (.aload_n 0, 1) := by decide +kernel
theorem dX3_seam_20 : decode cX3_seam 20 = .ok (.getfield 12, 3) := by decide +kernel
theorem dX3_seam_23 : decode cX3_seam 23 = .ok (.getfield 59, 3) := by decide +kernel
theorem dX3_seam_26 : decode cX3_seam 26 = .ok (.iload_n 1, 1) := by decide +kernel
theorem dX3_seam_27 : decode cX3_seam 27 = .ok (.iaload, 1) := by decide +kernel
theorem dX3_seam_28 : decode cX3_seam 28 = .ok (.ifCond .eq 13, 3) := by decide +kernel
theorem dX3_seam_31 : decode cX3_seam 31 = .ok (.new 62, 3) := by decide +kernel
theorem dX3_seam_34 : decode cX3_seam 34 = .ok (.dup, 1) := by decide +kernel
theorem dX3_seam_35 : decode cX3_seam 35 = .ok (.ldc 64, 2) := by decide +kernel
theorem dX3_seam_37 : decode cX3_seam 37 = .ok (.invokespecial 66, 3) := by decide +kernel
theorem dX3_seam_40 : decode cX3_seam 40 = .ok (.athrow, 1) := by decide +kernel
theorem dX3_seam_41 : decode cX3_seam 41 = .ok (.aload_n 0, 1) := by decide +kernel
theorem dX3_seam_42 : decode cX3_seam 42 = .ok (.getfield 12, 3) := by decide +kernel
theorem dX3_seam_45 : decode cX3_seam 45 = .ok (.getfield 69, 3) := by decide +kernel
theorem dX3_seam_48 : decode cX3_seam 48 = .ok (.iload_n 1, 1) := by decide +kernel
theorem dX3_seam_49 : decode cX3_seam 49 = .ok (.iaload, 1) := by decide +kernel
theorem dX3_seam_50 : decode cX3_seam 50 = .ok (.ifCond .le 13, 3) := by decide +kernel
theorem dX3_seam_53 : decode cX3_seam 53 = .ok (.new 62, 3) := by decide +kernel
theorem dX3_seam_56 : decode cX3_seam 56 = .ok (.dup, 1) := by decide +kernel
theorem dX3_seam_57 : decode cX3_seam 57 = .ok (.ldc 72, 2) := by decide +kernel
theorem dX3_seam_59 : decode cX3_seam 59 = .ok (.invokespecial 66, 3) := by decide +kernel
theorem dX3_seam_62 : decode cX3_seam 62 = .ok (.athrow, 1) := by decide +kernel
theorem dX3_seam_63 : decode cX3_seam 63 = .ok (.aload_n 0, 1) := by decide +kernel
theorem dX3_seam_64 : decode cX3_seam 64 = .ok (.getfield 12, 3) := by decide +kernel
theorem dX3_seam_67 : decode cX3_seam 67 = .ok (.getfield 69, 3) := by decide +kernel
theorem dX3_seam_70 : decode cX3_seam 70 = .ok (.iload_n 1, 1) := by decide +kernel
theorem dX3_seam_71 : decode cX3_seam 71 = .ok (.iload_n 2, 1) := by decide +kernel
theorem dX3_seam_72 : decode cX3_seam 72 = .ok (.iastore, 1) := by decide +kernel
theorem dX3_seam_73 : decode cX3_seam 73 = .ok (.aload_n 0, 1) := by decide +kernel
theorem dX3_seam_74 : decode cX3_seam 74 = .ok (.getfield 12, 3) := by decide +kernel
theorem dX3_seam_77 : decode cX3_seam 77 = .ok (.getfield 74, 3) := by decide +kernel
theorem dX3_seam_80 : decode cX3_seam 80 = .ok (.iload_n 1, 1) := by decide +kernel
theorem dX3_seam_81 : decode cX3_seam 81 = .ok (.iload_n 2, 1) := by decide +kernel
theorem dX3_seam_82 : decode cX3_seam 82 = .ok (.iastore, 1) := by decide +kernel
theorem dX3_seam_83 : decode cX3_seam 83 = .ok (.aload_n 0, 1) := by decide +kernel
theorem dX3_seam_84 : decode cX3_seam 84 = .ok (.getfield 12, 3) := by decide +kernel
theorem dX3_seam_87 : decode cX3_seam 87 = .ok (.getfield 77, 3) := by decide +kernel
theorem dX3_seam_90 : decode cX3_seam 90 = .ok (.iload_n 1, 1) := by decide +kernel
theorem dX3_seam_91 : decode cX3_seam 91 = .ok (.iload_n 3, 1) := by decide +kernel
theorem dX3_seam_92 : decode cX3_seam 92 = .ok (.iastore, 1) := by decide +kernel
theorem dX3_seam_93 : decode cX3_seam 93 = .ok (.return_, 1) := by decide +kernel
theorem dX3_pass_0 : decode cX3_pass 0 = .ok (.iload_n 1, 1) := by decide +kernel
theorem dX3_pass_1 : decode cX3_pass 1 = .ok (.iconst 1, 1) := by decide +kernel
theorem dX3_pass_2 : decode cX3_pass 2 = .ok (.bipush 99, 2) := by decide +kernel
theorem dX3_pass_4 : decode cX3_pass 4 = .ok (.invokestatic 55, 3) := by decide +kernel
theorem dX3_pass_7 : decode cX3_pass 7 = .ok (.aload_n 0, 1) := by decide +kernel
theorem dX3_pass_8 : decode cX3_pass 8 = .ok (.getfield 80, 3) := by decide +kernel
theorem dX3_pass_11 : decode cX3_pass 11 = .ok (.iload_n 1, 1) := by decide +kernel
theorem dX3_pass_12 : decode cX3_pass 12 = .ok (.iadd, 1) := by decide +kernel
theorem dX3_pass_13 : decode cX3_pass 13 = .ok (.sipush 5000, 3) := by decide +kernel
theorem dX3_pass_16 : decode cX3_pass 16 = .ok (.if_icmp .le 13, 3) := by decide +kernel
theorem dX3_pass_19 : decode cX3_pass 19 = .ok (.new 62, 3) := by decide +kernel
theorem dX3_pass_22 : decode cX3_pass 22 = .ok (.dup, 1) := by decide +kernel
theorem dX3_pass_23 : decode cX3_pass 23 = .ok (.ldc 84, 2) := by decide +kernel
theorem dX3_pass_25 : decode cX3_pass 25 = .ok (.invokespecial 66, 3) := by decide +kernel
theorem dX3_pass_28 : decode cX3_pass 28 = .ok (.athrow, 1) := by decide +kernel
theorem dX3_pass_29 : decode cX3_pass 29 = .ok (.aload_n 0, 1) := by decide +kernel
theorem dX3_pass_30 : decode cX3_pass 30 = .ok (.dup, 1) := by decide +kernel
theorem dX3_pass_31 : decode cX3_pass 31 = .ok (.getfield 80, 3) := by decide +kernel
theorem dX3_pass_34 : decode cX3_pass 34 = .ok (.iload_n 1, 1) := by decide +kernel
theorem dX3_pass_35 : decode cX3_pass 35 = .ok (.iadd, 1) := by decide +kernel
theorem dX3_pass_36 : decode cX3_pass 36 = .ok (.putfield 80, 3) := by decide +kernel
theorem dX3_pass_39 : decode cX3_pass 39 = .ok (.aload_n 0, 1) := by decide +kernel
theorem dX3_pass_40 : decode cX3_pass 40 = .ok (.getfield 80, 3) := by decide +kernel
theorem dX3_pass_43 : decode cX3_pass 43 = .ok (.ireturn, 1) := by decide +kernel
theorem dX3_peg_0 : decode cX3_peg 0 = .ok (.iload_n 1, 1) := by decide +kernel
theorem dX3_peg_1 : decode cX3_peg 1 = .ok (.invokestatic 86, 3) := by decide +kernel
theorem dX3_peg_4 : decode cX3_peg 4 = .ok (.iload_n 2, 1) := by decide +kernel
theorem dX3_peg_5 : decode cX3_peg 5 = .ok (.invokestatic 51, 3) := by decide +kernel
theorem dX3_peg_8 : decode cX3_peg 8 = .ok (.iload_n 3, 1) := by decide +kernel
theorem dX3_peg_9 : decode cX3_peg 9 = .ok (.iconst 1, 1) := by decide +kernel
theorem dX3_peg_10 : decode cX3_peg 10 = .ok (.iconst 4, 1) := by decide +kernel
theorem dX3_peg_11 : decode cX3_peg 11 = .ok (.invokestatic 55, 3) := by decide +kernel
theorem dX3_peg_14 : decode cX3_peg 14 = .ok (.iload 4, 2) := by decide +kernel
theorem dX3_peg_16 : decode cX3_peg 16 = .ok (.iconst 1, 1) := by decide +kernel
theorem dX3_peg_17 : decode cX3_peg 17 = .ok (.iconst 4, 1) := by decide +kernel
theorem dX3_peg_18 : decode cX3_peg 18 = .ok (.invokestatic 55, 3) := by decide +kernel
theorem dX3_peg_21 : decode cX3_peg 21 = .ok (.iload_n 2, 1) := by decide +kernel
theorem dX3_peg_22 : decode cX3_peg 22 = .ok (.bipush 10, 2) := by decide +kernel
theorem dX3_peg_24 : decode cX3_peg 24 = .ok (.idiv, 1) := by decide +kernel
theorem dX3_peg_25 : decode cX3_peg 25 = .ok (.iload_n 3, 1) := by decide +kernel
theorem dX3_peg_26 : decode cX3_peg 26 = .ok (.iadd, 1) := by decide +kernel
theorem dX3_peg_27 : decode cX3_peg 27 = .ok (.bipush 10, 2) := by decide +kernel
theorem dX3_peg_29 : decode cX3_peg 29 = .ok (.if_icmp .gt 15, 3) := by decide +kernel
theorem dX3_peg_32 : decode cX3_peg 32 = .ok (.iload_n 2, 1) := by decide +kernel
theorem dX3_peg_33 : decode cX3_peg 33 = .ok (.bipush 10, 2) := by decide +kernel
theorem dX3_peg_35 : decode cX3_peg 35 = .ok (.irem, 1) := by decide +kernel
theorem dX3_peg_36 : decode cX3_peg 36 = .ok (.iload 4, 2) := by decide +kernel
theorem dX3_peg_38 : decode cX3_peg 38 = .ok (.iadd, 1) := by decide +kernel
theorem dX3_peg_39 : decode cX3_peg 39 = .ok (.bipush 10, 2) := by decide +kernel
theorem dX3_peg_41 : decode cX3_peg 41 = .ok (.if_icmp .le 13, 3) := by decide +kernel
theorem dX3_peg_44 : decode cX3_peg 44 = .ok (.new 89, 3) := by decide +kernel
theorem dX3_peg_47 : decode cX3_peg 47 = .ok (.dup, 1) := by decide +kernel
theorem dX3_peg_48 : decode cX3_peg 48 = .ok (.ldc 91, 2) := by decide +kernel
theorem dX3_peg_50 : decode cX3_peg 50 = .ok (.invokespecial 93, 3) := by decide +kernel
theorem dX3_peg_53 : decode cX3_peg 53 = .ok (.athrow, 1) := by decide +kernel
theorem dX3_peg_54 : decode cX3_peg 54 = .ok (.aload_n 0, 1) := by decide +kernel
theorem dX3_peg_55 : decode cX3_peg 55 = .ok (.getfield 19, 3) := by decide +kernel
theorem dX3_peg_58 : decode cX3_peg 58 = .ok (.invokevirtual 94, 3) := by decide +kernel
theorem dX3_peg_61 : decode cX3_peg 61 = .ok (.bipush 12, 2) := by decide +kernel
theorem dX3_peg_63 : decode cX3_peg 63 = .ok (.if_icmp .lt 13, 3) := by decide +kernel
theorem dX3_peg_66 : decode cX3_peg 66 = .ok (.new 62, 3) := by decide +kernel
theorem dX3_peg_69 : decode cX3_peg 69 = .ok (.dup, 1) := by decide +kernel
theorem dX3_peg_70 : decode cX3_peg 70 = .ok (.ldc 98, 2) := by decide +kernel
theorem dX3_peg_72 : decode cX3_peg 72 = .ok (.invokespecial 66, 3) := by decide +kernel
theorem dX3_peg_75 : decode cX3_peg 75 = .ok (.athrow, 1) := by decide +kernel
theorem dX3_peg_76 : decode cX3_peg 76 = .ok (.aload_n 0, 1) := by decide +kernel
theorem dX3_peg_77 : decode cX3_peg 77 = .ok (.iload_n 1, 1) := by decide +kernel
theorem dX3_peg_78 : decode cX3_peg 78 = .ok (.invokevirtual 100, 3) := by decide +kernel
theorem dX3_peg_81 : decode cX3_peg 81 = .ok (.aload_n 0, 1) := by decide +kernel
theorem dX3_peg_82 : decode cX3_peg 82 = .ok (.getfield 19, 3) := by decide +kernel
theorem dX3_peg_85 : decode cX3_peg 85 = .ok (.new 103, 3) := by decide +kernel
theorem dX3_peg_88 : decode cX3_peg 88 = .ok (.dup, 1) := by decide +kernel
theorem dX3_peg_89 : decode cX3_peg 89 = .ok (.iload_n 1, 1) := by decide +kernel
theorem dX3_peg_90 : decode cX3_peg 90 = .ok (.iload_n 2, 1) := by decide +kernel
theorem dX3_peg_91 : decode cX3_peg 91 = .ok (.iload_n 3, 1) := by decide +kernel
theorem dX3_peg_92 : decode cX3_peg 92 = .ok (.iload 4, 2) := by decide +kernel
theorem dX3_peg_94 : decode cX3_peg 94 = .ok (.aload_n 0, 1) := by decide +kernel
theorem dX3_peg_95 : decode cX3_peg 95 = .ok (.getfield 80, 3) := by decide +kernel
theorem dX3_peg_98 : decode cX3_peg 98 = .ok (.invokespecial 105, 3) := by decide +kernel
theorem dX3_peg_101 : decode cX3_peg 101 = .ok (.invokevirtual 108, 3) := by decide +kernel
theorem dX3_peg_104 : decode cX3_peg 104 = .ok (.pop, 1) := by decide +kernel
theorem dX3_peg_105 : decode cX3_peg 105 = .ok (.aload_n 0, 1) := by decide +kernel
theorem dX3_peg_106 : decode cX3_peg 106 = .ok (.getfield 19, 3) := by decide +kernel
theorem dX3_peg_109 : decode cX3_peg 109 = .ok (.invokevirtual 94, 3) := by decide +kernel
theorem dX3_peg_112 : decode cX3_peg 112 = .ok (.iconst 1, 1) := by decide +kernel
theorem dX3_peg_113 : decode cX3_peg 113 = .ok (.isub, 1) := by decide +kernel
theorem dX3_peg_114 : decode cX3_peg 114 = .ok (.ireturn, 1) := by decide +kernel
theorem dX3_witness_0 : decode cX3_witness 0 = .ok (.aload_n 0, 1) := by decide +kernel
theorem dX3_witness_1 : decode cX3_witness 1 = .ok (.iload_n 1, 1) := by decide +kernel
theorem dX3_witness_2 : decode cX3_witness 2 = .ok (.invokevirtual 112, 3) := by decide +kernel
theorem dX3_witness_5 : decode cX3_witness 5 = .ok (.astore 4, 2) := by decide +kernel
theorem dX3_witness_7 : decode cX3_witness 7 = .ok (.iload_n 2, 1) := by decide +kernel
theorem dX3_witness_8 : decode cX3_witness 8 = .ok (.invokestatic 86, 3) := by decide +kernel
theorem dX3_witness_11 : decode cX3_witness 11 = .ok (.iload_n 3, 1) := by decide +kernel
theorem dX3_witness_12 : decode cX3_witness 12 = .ok (.iconst 0, 1) := by decide +kernel
theorem dX3_witness_13 : decode cX3_witness 13 = .ok (.aload_n 0, 1) := by decide +kernel
theorem dX3_witness_14 : decode cX3_witness 14 = .ok (.getfield 80, 3) := by decide +kernel
theorem dX3_witness_17 : decode cX3_witness 17 = .ok (.invokestatic 55, 3) := by decide +kernel
theorem dX3_witness_20 : decode cX3_witness 20 = .ok (.aload 4, 2) := by decide +kernel
theorem dX3_witness_22 : decode cX3_witness 22 = .ok (.iload_n 2, 1) := by decide +kernel
theorem dX3_witness_23 : decode cX3_witness 23 = .ok (.invokevirtual 116, 3) := by decide +kernel
theorem dX3_witness_26 : decode cX3_witness 26 = .ok (.ifCond .eq 13, 3) := by decide +kernel
theorem dX3_witness_29 : decode cX3_witness 29 = .ok (.new 62, 3) := by decide +kernel
theorem dX3_witness_32 : decode cX3_witness 32 = .ok (.dup, 1) := by decide +kernel
theorem dX3_witness_33 : decode cX3_witness 33 = .ok (.ldc 120, 2) := by decide +kernel
theorem dX3_witness_35 : decode cX3_witness 35 = .ok (.invokespecial 66, 3) := by decide +kernel
theorem dX3_witness_38 : decode cX3_witness 38 = .ok (.athrow, 1) := by decide +kernel
theorem dX3_witness_39 : decode cX3_witness 39 = .ok (.aload 4, 2) := by decide +kernel
theorem dX3_witness_41 : decode cX3_witness 41 = .ok (.getfield 122, 3) := by decide +kernel
theorem dX3_witness_44 : decode cX3_witness 44 = .ok (.iload_n 2, 1) := by decide +kernel
theorem dX3_witness_45 : decode cX3_witness 45 = .ok (.iaload, 1) := by decide +kernel
theorem dX3_witness_46 : decode cX3_witness 46 = .ok (.iconst (-1), 1) := by decide +kernel
theorem dX3_witness_47 : decode cX3_witness 47 = .ok (.if_icmp .eq 13, 3) := by decide +kernel
theorem dX3_witness_50 : decode cX3_witness 50 = .ok (.new 62, 3) := by decide +kernel
theorem dX3_witness_53 : decode cX3_witness 53 = .ok (.dup, 1) := by decide +kernel
theorem dX3_witness_54 : decode cX3_witness 54 = .ok (.ldc 125, 2) := by decide +kernel
theorem dX3_witness_56 : decode cX3_witness 56 = .ok (.invokespecial 66, 3) := by decide +kernel
theorem dX3_witness_59 : decode cX3_witness 59 = .ok (.athrow, 1) := by decide +kernel
theorem dX3_witness_60 : decode cX3_witness 60 = .ok (.aload 4, 2) := by decide +kernel
theorem dX3_witness_62 : decode cX3_witness 62 = .ok (.getfield 122, 3) := by decide +kernel
theorem dX3_witness_65 : decode cX3_witness 65 = .ok (.iload_n 2, 1) := by decide +kernel
theorem dX3_witness_66 : decode cX3_witness 66 = .ok (.iload_n 3, 1) := by decide +kernel
theorem dX3_witness_67 : decode cX3_witness 67 = .ok (.iastore, 1) := by decide +kernel
theorem dX3_witness_68 : decode cX3_witness 68 = .ok (.aload 4, 2) := by decide +kernel
theorem dX3_witness_70 : decode cX3_witness 70 = .ok (.aload 4, 2) := by decide +kernel
theorem dX3_witness_72 : decode cX3_witness 72 = .ok (.invokevirtual 127, 3) := by decide +kernel
theorem dX3_witness_75 : decode cX3_witness 75 = .ok (.putfield 130, 3) := by decide +kernel
theorem dX3_witness_78 : decode cX3_witness 78 = .ok (.aload 4, 2) := by decide +kernel
theorem dX3_witness_80 : decode cX3_witness 80 = .ok (.getfield 130, 3) := by decide +kernel
theorem dX3_witness_83 : decode cX3_witness 83 = .ok (.ireturn, 1) := by decide +kernel
theorem dX3_partner_0 : decode cX3_partner 0 = .ok (.aload_n 0, 1) := by decide +kernel
theorem dX3_partner_1 : decode cX3_partner 1 = .ok (.iload_n 1, 1) := by decide +kernel
theorem dX3_partner_2 : decode cX3_partner 2 = .ok (.invokevirtual 112, 3) := by decide +kernel
theorem dX3_partner_5 : decode cX3_partner 5 = .ok (.astore 4, 2) := by decide +kernel
theorem dX3_partner_7 : decode cX3_partner 7 = .ok (.iload_n 2, 1) := by decide +kernel
theorem dX3_partner_8 : decode cX3_partner 8 = .ok (.invokestatic 86, 3) := by decide +kernel
theorem dX3_partner_11 : decode cX3_partner 11 = .ok (.iload_n 3, 1) := by decide +kernel
theorem dX3_partner_12 : decode cX3_partner 12 = .ok (.iconst 1, 1) := by decide +kernel
theorem dX3_partner_13 : decode cX3_partner 13 = .ok (.bipush 11, 2) := by decide +kernel
theorem dX3_partner_15 : decode cX3_partner 15 = .ok (.invokestatic 55, 3) := by decide +kernel
theorem dX3_partner_18 : decode cX3_partner 18 = .ok (.aload 4, 2) := by decide +kernel
theorem dX3_partner_20 : decode cX3_partner 20 = .ok (.iload_n 2, 1) := by decide +kernel
theorem dX3_partner_21 : decode cX3_partner 21 = .ok (.invokevirtual 116, 3) := by decide +kernel
theorem dX3_partner_24 : decode cX3_partner 24 = .ok (.ifCond .eq 13, 3) := by decide +kernel
theorem dX3_partner_27 : decode cX3_partner 27 = .ok (.new 62, 3) := by decide +kernel
theorem dX3_partner_30 : decode cX3_partner 30 = .ok (.dup, 1) := by decide +kernel
theorem dX3_partner_31 : decode cX3_partner 31 = .ok (.ldc 120, 2) := by decide +kernel
theorem dX3_partner_33 : decode cX3_partner 33 = .ok (.invokespecial 66, 3) := by decide +kernel
theorem dX3_partner_36 : decode cX3_partner 36 = .ok (.athrow, 1) := by decide +kernel
theorem dX3_partner_37 : decode cX3_partner 37 = .ok (.aload 4, 2) := by decide +kernel
theorem dX3_partner_39 : decode cX3_partner 39 = .ok (.getfield 133, 3) := by decide +kernel
theorem dX3_partner_42 : decode cX3_partner 42 = .ok (.aload 4, 2) := by decide +kernel
theorem dX3_partner_44 : decode cX3_partner 44 = .ok (.getfield 136, 3) := by decide +kernel
theorem dX3_partner_47 : decode cX3_partner 47 = .ok (.iaload, 1) := by decide +kernel
theorem dX3_partner_48 : decode cX3_partner 48 = .ok (.iload_n 3, 1) := by decide +kernel
theorem dX3_partner_49 : decode cX3_partner 49 = .ok (.if_icmp .gt 13, 3) := by decide +kernel
theorem dX3_partner_52 : decode cX3_partner 52 = .ok (.new 62, 3) := by decide +kernel
theorem dX3_partner_55 : decode cX3_partner 55 = .ok (.dup, 1) := by decide +kernel
theorem dX3_partner_56 : decode cX3_partner 56 = .ok (.ldc 139, 2) := by decide +kernel
theorem dX3_partner_58 : decode cX3_partner 58 = .ok (.invokespecial 66, 3) := by decide +kernel
theorem dX3_partner_61 : decode cX3_partner 61 = .ok (.athrow, 1) := by decide +kernel
theorem dX3_partner_62 : decode cX3_partner 62 = .ok (.aload 4, 2) := by decide +kernel
theorem dX3_partner_64 : decode cX3_partner 64 = .ok (.getfield 133, 3) := by decide +kernel
theorem dX3_partner_67 : decode cX3_partner 67 = .ok (.aload 4, 2) := by decide +kernel
theorem dX3_partner_69 : decode cX3_partner 69 = .ok (.getfield 136, 3) := by decide +kernel
theorem dX3_partner_72 : decode cX3_partner 72 = .ok (.dup2, 1) := by decide +kernel
theorem dX3_partner_73 : decode cX3_partner 73 = .ok (.iaload, 1) := by decide +kernel
theorem dX3_partner_74 : decode cX3_partner 74 = .ok (.iload_n 3, 1) := by decide +kernel
theorem dX3_partner_75 : decode cX3_partner 75 = .ok (.isub, 1) := by decide +kernel
theorem dX3_partner_76 : decode cX3_partner 76 = .ok (.iastore, 1) := by decide +kernel
theorem dX3_partner_77 : decode cX3_partner 77 = .ok (.aload 4, 2) := by decide +kernel
theorem dX3_partner_79 : decode cX3_partner 79 = .ok (.getfield 133, 3) := by decide +kernel
theorem dX3_partner_82 : decode cX3_partner 82 = .ok (.iload_n 2, 1) := by decide +kernel
theorem dX3_partner_83 : decode cX3_partner 83 = .ok (.iload_n 3, 1) := by decide +kernel
theorem dX3_partner_84 : decode cX3_partner 84 = .ok (.iastore, 1) := by decide +kernel
theorem dX3_partner_85 : decode cX3_partner 85 = .ok (.aload 4, 2) := by decide +kernel
theorem dX3_partner_87 : decode cX3_partner 87 = .ok (.getfield 133, 3) := by decide +kernel
theorem dX3_partner_90 : decode cX3_partner 90 = .ok (.aload 4, 2) := by decide +kernel
theorem dX3_partner_92 : decode cX3_partner 92 = .ok (.getfield 136, 3) := by decide +kernel
theorem dX3_partner_95 : decode cX3_partner 95 = .ok (.iaload, 1) := by decide +kernel
theorem dX3_partner_96 : decode cX3_partner 96 = .ok (.ireturn, 1) := by decide +kernel
theorem dX3_dig_0 : decode cX3_dig 0 = .ok (.aload_n 0, 1) := by decide +kernel
theorem dX3_dig_1 : decode cX3_dig 1 = .ok (.iload_n 1, 1) := by decide +kernel
theorem dX3_dig_2 : decode cX3_dig 2 = .ok (.iload_n 2, 1) := by decide +kernel
theorem dX3_dig_3 : decode cX3_dig 3 = .ok (.iload_n 3, 1) := by decide +kernel
theorem dX3_dig_4 : decode cX3_dig 4 = .ok (.invokevirtual 141, 3) := by decide +kernel
theorem dX3_dig_7 : decode cX3_dig 7 = .ok (.astore 4, 2) := by decide +kernel
theorem dX3_dig_9 : decode cX3_dig 9 = .ok (.aload_n 0, 1) := by decide +kernel
theorem dX3_dig_10 : decode cX3_dig 10 = .ok (.getfield 12, 3) := by decide +kernel
theorem dX3_dig_13 : decode cX3_dig 13 = .ok (.iload_n 3, 1) := by decide +kernel
theorem dX3_dig_14 : decode cX3_dig 14 = .ok (.invokevirtual 145, 3) := by decide +kernel
theorem dX3_dig_17 : decode cX3_dig 17 = .ok (.ifCond .ne 13, 3) := by decide +kernel
theorem dX3_dig_20 : decode cX3_dig 20 = .ok (.new 62, 3) := by decide +kernel
theorem dX3_dig_23 : decode cX3_dig 23 = .ok (.dup, 1) := by decide +kernel
theorem dX3_dig_24 : decode cX3_dig 24 = .ok (.ldc 148, 2) := by decide +kernel
theorem dX3_dig_26 : decode cX3_dig 26 = .ok (.invokespecial 66, 3) := by decide +kernel
theorem dX3_dig_29 : decode cX3_dig 29 = .ok (.athrow, 1) := by decide +kernel
theorem dX3_dig_30 : decode cX3_dig 30 = .ok (.aload_n 0, 1) := by decide +kernel
theorem dX3_dig_31 : decode cX3_dig 31 = .ok (.aload 4, 2) := by decide +kernel
theorem dX3_dig_33 : decode cX3_dig 33 = .ok (.iload_n 1, 1) := by decide +kernel
theorem dX3_dig_34 : decode cX3_dig 34 = .ok (.iload_n 3, 1) := by decide +kernel
theorem dX3_dig_35 : decode cX3_dig 35 = .ok (.invokevirtual 150, 3) := by decide +kernel
theorem dX3_dig_38 : decode cX3_dig 38 = .ok (.ireturn, 1) := by decide +kernel
theorem dX3_sink_0 : decode cX3_sink 0 = .ok (.aload_n 0, 1) := by decide +kernel
theorem dX3_sink_1 : decode cX3_sink 1 = .ok (.iload_n 1, 1) := by decide +kernel
theorem dX3_sink_2 : decode cX3_sink 2 = .ok (.iload_n 2, 1) := by decide +kernel
theorem dX3_sink_3 : decode cX3_sink 3 = .ok (.iload_n 3, 1) := by decide +kernel
theorem dX3_sink_4 : decode cX3_sink 4 = .ok (.invokevirtual 141, 3) := by decide +kernel
theorem dX3_sink_7 : decode cX3_sink 7 = .ok (.astore 4, 2) := by decide +kernel
theorem dX3_sink_9 : decode cX3_sink 9 = .ok (.aload_n 0, 1) := by decide +kernel
theorem dX3_sink_10 : decode cX3_sink 10 = .ok (.getfield 12, 3) := by decide +kernel
theorem dX3_sink_13 : decode cX3_sink 13 = .ok (.iload_n 3, 1) := by decide +kernel
theorem dX3_sink_14 : decode cX3_sink 14 = .ok (.invokevirtual 154, 3) := by decide +kernel
theorem dX3_sink_17 : decode cX3_sink 17 = .ok (.ifCond .eq 13, 3) := by decide +kernel
theorem dX3_sink_20 : decode cX3_sink 20 = .ok (.new 62, 3) := by decide +kernel
theorem dX3_sink_23 : decode cX3_sink 23 = .ok (.dup, 1) := by decide +kernel
theorem dX3_sink_24 : decode cX3_sink 24 = .ok (.ldc 157, 2) := by decide +kernel
theorem dX3_sink_26 : decode cX3_sink 26 = .ok (.invokespecial 66, 3) := by decide +kernel
theorem dX3_sink_29 : decode cX3_sink 29 = .ok (.athrow, 1) := by decide +kernel
theorem dX3_sink_30 : decode cX3_sink 30 = .ok (.aload 4, 2) := by decide +kernel
theorem dX3_sink_32 : decode cX3_sink 32 = .ok (.getfield 159, 3) := by decide +kernel
theorem dX3_sink_35 : decode cX3_sink 35 = .ok (.iconst 2, 1) := by decide +kernel
theorem dX3_sink_36 : decode cX3_sink 36 = .ok (.if_icmp .lt 13, 3) := by decide +kernel
theorem dX3_sink_39 : decode cX3_sink 39 = .ok (.new 62, 3) := by decide +kernel
theorem dX3_sink_42 : decode cX3_sink 42 = .ok (.dup, 1) := by decide +kernel
theorem dX3_sink_43 : decode cX3_sink 43 = .ok (.ldc 162, 2) := by decide +kernel
theorem dX3_sink_45 : decode cX3_sink 45 = .ok (.invokespecial 66, 3) := by decide +kernel
theorem dX3_sink_48 : decode cX3_sink 48 = .ok (.athrow, 1) := by decide +kernel
theorem dX3_sink_49 : decode cX3_sink 49 = .ok (.aload 4, 2) := by decide +kernel
theorem dX3_sink_51 : decode cX3_sink 51 = .ok (.dup, 1) := by decide +kernel
theorem dX3_sink_52 : decode cX3_sink 52 = .ok (.getfield 159, 3) := by decide +kernel
theorem dX3_sink_55 : decode cX3_sink 55 = .ok (.iconst 1, 1) := by decide +kernel
theorem dX3_sink_56 : decode cX3_sink 56 = .ok (.iadd, 1) := by decide +kernel
theorem dX3_sink_57 : decode cX3_sink 57 = .ok (.putfield 159, 3) := by decide +kernel
theorem dX3_sink_60 : decode cX3_sink 60 = .ok (.aload_n 0, 1) := by decide +kernel
theorem dX3_sink_61 : decode cX3_sink 61 = .ok (.aload 4, 2) := by decide +kernel
theorem dX3_sink_63 : decode cX3_sink 63 = .ok (.iload_n 1, 1) := by decide +kernel
theorem dX3_sink_64 : decode cX3_sink 64 = .ok (.iload_n 3, 1) := by decide +kernel
theorem dX3_sink_65 : decode cX3_sink 65 = .ok (.invokevirtual 150, 3) := by decide +kernel
theorem dX3_sink_68 : decode cX3_sink 68 = .ok (.ireturn, 1) := by decide +kernel
theorem dX3_prop_0 : decode cX3_prop 0 = .ok (.aload_n 0, 1) := by decide +kernel
theorem dX3_prop_1 : decode cX3_prop 1 = .ok (.iload_n 1, 1) := by decide +kernel
theorem dX3_prop_2 : decode cX3_prop 2 = .ok (.iload_n 2, 1) := by decide +kernel
theorem dX3_prop_3 : decode cX3_prop 3 = .ok (.iload_n 3, 1) := by decide +kernel
theorem dX3_prop_4 : decode cX3_prop 4 = .ok (.invokevirtual 141, 3) := by decide +kernel
theorem dX3_prop_7 : decode cX3_prop 7 = .ok (.pop, 1) := by decide +kernel
theorem dX3_prop_8 : decode cX3_prop 8 = .ok (.aload_n 0, 1) := by decide +kernel
theorem dX3_prop_9 : decode cX3_prop 9 = .ok (.getfield 12, 3) := by decide +kernel
theorem dX3_prop_12 : decode cX3_prop 12 = .ok (.iload_n 3, 1) := by decide +kernel
theorem dX3_prop_13 : decode cX3_prop 13 = .ok (.invokevirtual 154, 3) := by decide +kernel
theorem dX3_prop_16 : decode cX3_prop 16 = .ok (.ifCond .ne 13, 3) := by decide +kernel
theorem dX3_prop_19 : decode cX3_prop 19 = .ok (.new 62, 3) := by decide +kernel
theorem dX3_prop_22 : decode cX3_prop 22 = .ok (.dup, 1) := by decide +kernel
theorem dX3_prop_23 : decode cX3_prop 23 = .ok (.ldc 164, 2) := by decide +kernel
theorem dX3_prop_25 : decode cX3_prop 25 = .ok (.invokespecial 66, 3) := by decide +kernel
theorem dX3_prop_28 : decode cX3_prop 28 = .ok (.athrow, 1) := by decide +kernel
theorem dX3_prop_29 : decode cX3_prop 29 = .ok (.aload_n 0, 1) := by decide +kernel
theorem dX3_prop_30 : decode cX3_prop 30 = .ok (.getfield 12, 3) := by decide +kernel
theorem dX3_prop_33 : decode cX3_prop 33 = .ok (.getfield 166, 3) := by decide +kernel
theorem dX3_prop_36 : decode cX3_prop 36 = .ok (.iload_n 3, 1) := by decide +kernel
theorem dX3_prop_37 : decode cX3_prop 37 = .ok (.baload, 1) := by decide +kernel
theorem dX3_prop_38 : decode cX3_prop 38 = .ok (.ifCond .eq 13, 3) := by decide +kernel
theorem dX3_prop_41 : decode cX3_prop 41 = .ok (.new 62, 3) := by decide +kernel
theorem dX3_prop_44 : decode cX3_prop 44 = .ok (.dup, 1) := by decide +kernel
theorem dX3_prop_45 : decode cX3_prop 45 = .ok (.ldc 170, 2) := by decide +kernel
theorem dX3_prop_47 : decode cX3_prop 47 = .ok (.invokespecial 66, 3) := by decide +kernel
theorem dX3_prop_50 : decode cX3_prop 50 = .ok (.athrow, 1) := by decide +kernel
theorem dX3_prop_51 : decode cX3_prop 51 = .ok (.aload_n 0, 1) := by decide +kernel
theorem dX3_prop_52 : decode cX3_prop 52 = .ok (.getfield 12, 3) := by decide +kernel
theorem dX3_prop_55 : decode cX3_prop 55 = .ok (.getfield 166, 3) := by decide +kernel
theorem dX3_prop_58 : decode cX3_prop 58 = .ok (.iload_n 3, 1) := by decide +kernel
theorem dX3_prop_59 : decode cX3_prop 59 = .ok (.iconst 1, 1) := by decide +kernel
theorem dX3_prop_60 : decode cX3_prop 60 = .ok (.bastore, 1) := by decide +kernel
theorem dX3_prop_61 : decode cX3_prop 61 = .ok (.return_, 1) := by decide +kernel
theorem dX3_trap_0 : decode cX3_trap 0 = .ok (.aload_n 0, 1) := by decide +kernel
theorem dX3_trap_1 : decode cX3_trap 1 = .ok (.iload_n 1, 1) := by decide +kernel
theorem dX3_trap_2 : decode cX3_trap 2 = .ok (.iload_n 2, 1) := by decide +kernel
theorem dX3_trap_3 : decode cX3_trap 3 = .ok (.iload_n 3, 1) := by decide +kernel
theorem dX3_trap_4 : decode cX3_trap 4 = .ok (.invokevirtual 141, 3) := by decide +kernel
theorem dX3_trap_7 : decode cX3_trap 7 = .ok (.pop, 1) := by decide +kernel
theorem dX3_trap_8 : decode cX3_trap 8 = .ok (.aload_n 0, 1) := by decide +kernel
theorem dX3_trap_9 : decode cX3_trap 9 = .ok (.getfield 12, 3) := by decide +kernel
theorem dX3_trap_12 : decode cX3_trap 12 = .ok (.iload_n 3, 1) := by decide +kernel
theorem dX3_trap_13 : decode cX3_trap 13 = .ok (.invokevirtual 154, 3) := by decide +kernel
theorem dX3_trap_16 : decode cX3_trap 16 = .ok (.ifCond .eq 13, 3) := by decide +kernel
theorem dX3_trap_19 : decode cX3_trap 19 = .ok (.new 62, 3) := by decide +kernel
theorem dX3_trap_22 : decode cX3_trap 22 = .ok (.dup, 1) := by decide +kernel
theorem dX3_trap_23 : decode cX3_trap 23 = .ok (.ldc 157, 2) := by decide +kernel
theorem dX3_trap_25 : decode cX3_trap 25 = .ok (.invokespecial 66, 3) := by decide +kernel
theorem dX3_trap_28 : decode cX3_trap 28 = .ok (.athrow, 1) := by decide +kernel
theorem dX3_trap_29 : decode cX3_trap 29 = .ok (.aload_n 0, 1) := by decide +kernel
theorem dX3_trap_30 : decode cX3_trap 30 = .ok (.getfield 12, 3) := by decide +kernel
theorem dX3_trap_33 : decode cX3_trap 33 = .ok (.getfield 172, 3) := by decide +kernel
theorem dX3_trap_36 : decode cX3_trap 36 = .ok (.iload_n 3, 1) := by decide +kernel
theorem dX3_trap_37 : decode cX3_trap 37 = .ok (.iaload, 1) := by decide +kernel
theorem dX3_trap_38 : decode cX3_trap 38 = .ok (.iconst (-1), 1) := by decide +kernel
theorem dX3_trap_39 : decode cX3_trap 39 = .ok (.if_icmp .eq 13, 3) := by decide +kernel
theorem dX3_trap_42 : decode cX3_trap 42 = .ok (.new 62, 3) := by decide +kernel
theorem dX3_trap_45 : decode cX3_trap 45 = .ok (.dup, 1) := by decide +kernel
theorem dX3_trap_46 : decode cX3_trap 46 = .ok (.ldc 175, 2) := by decide +kernel
theorem dX3_trap_48 : decode cX3_trap 48 = .ok (.invokespecial 66, 3) := by decide +kernel
theorem dX3_trap_51 : decode cX3_trap 51 = .ok (.athrow, 1) := by decide +kernel
theorem dX3_trap_52 : decode cX3_trap 52 = .ok (.aload_n 0, 1) := by decide +kernel
theorem dX3_trap_53 : decode cX3_trap 53 = .ok (.getfield 12, 3) := by decide +kernel
theorem dX3_trap_56 : decode cX3_trap 56 = .ok (.iload_n 1, 1) := by decide +kernel
theorem dX3_trap_57 : decode cX3_trap 57 = .ok (.invokevirtual 177, 3) := by decide +kernel
theorem dX3_trap_60 : decode cX3_trap 60 = .ok (.iconst 3, 1) := by decide +kernel
theorem dX3_trap_61 : decode cX3_trap 61 = .ok (.if_icmp .lt 13, 3) := by decide +kernel
theorem dX3_trap_64 : decode cX3_trap 64 = .ok (.new 62, 3) := by decide +kernel
theorem dX3_trap_67 : decode cX3_trap 67 = .ok (.dup, 1) := by decide +kernel
theorem dX3_trap_68 : decode cX3_trap 68 = .ok (.ldc 181, 2) := by decide +kernel
theorem dX3_trap_70 : decode cX3_trap 70 = .ok (.invokespecial 66, 3) := by decide +kernel
theorem dX3_trap_73 : decode cX3_trap 73 = .ok (.athrow, 1) := by decide +kernel
theorem dX3_trap_74 : decode cX3_trap 74 = .ok (.aload_n 0, 1) := by decide +kernel
theorem dX3_trap_75 : decode cX3_trap 75 = .ok (.getfield 12, 3) := by decide +kernel
theorem dX3_trap_78 : decode cX3_trap 78 = .ok (.getfield 172, 3) := by decide +kernel
theorem dX3_trap_81 : decode cX3_trap 81 = .ok (.iload_n 3, 1) := by decide +kernel
theorem dX3_trap_82 : decode cX3_trap 82 = .ok (.iload_n 1, 1) := by decide +kernel
theorem dX3_trap_83 : decode cX3_trap 83 = .ok (.iastore, 1) := by decide +kernel
theorem dX3_trap_84 : decode cX3_trap 84 = .ok (.aload_n 0, 1) := by decide +kernel
theorem dX3_trap_85 : decode cX3_trap 85 = .ok (.getfield 12, 3) := by decide +kernel
theorem dX3_trap_88 : decode cX3_trap 88 = .ok (.iload_n 1, 1) := by decide +kernel
theorem dX3_trap_89 : decode cX3_trap 89 = .ok (.invokevirtual 177, 3) := by decide +kernel
theorem dX3_trap_92 : decode cX3_trap 92 = .ok (.ireturn, 1) := by decide +kernel
theorem dX3_rat_0 : decode cX3_rat 0 = .ok (.iload_n 1, 1) := by decide +kernel
theorem dX3_rat_1 : decode cX3_rat 1 = .ok (.invokestatic 86, 3) := by decide +kernel
theorem dX3_rat_4 : decode cX3_rat 4 = .ok (.iload_n 2, 1) := by decide +kernel
theorem dX3_rat_5 : decode cX3_rat 5 = .ok (.invokestatic 51, 3) := by decide +kernel
theorem dX3_rat_8 : decode cX3_rat 8 = .ok (.aload_n 0, 1) := by decide +kernel
theorem dX3_rat_9 : decode cX3_rat 9 = .ok (.invokevirtual 183, 3) := by decide +kernel
theorem dX3_rat_12 : decode cX3_rat 12 = .ok (.ifCond .ne 13, 3) := by decide +kernel
theorem dX3_rat_15 : decode cX3_rat 15 = .ok (.new 62, 3) := by decide +kernel
theorem dX3_rat_18 : decode cX3_rat 18 = .ok (.dup, 1) := by decide +kernel
theorem dX3_rat_19 : decode cX3_rat 19 = .ok (.ldc 187, 2) := by decide +kernel
theorem dX3_rat_21 : decode cX3_rat 21 = .ok (.invokespecial 66, 3) := by decide +kernel
theorem dX3_rat_24 : decode cX3_rat 24 = .ok (.athrow, 1) := by decide +kernel
theorem dX3_rat_25 : decode cX3_rat 25 = .ok (.aload_n 0, 1) := by decide +kernel
theorem dX3_rat_26 : decode cX3_rat 26 = .ok (.iload_n 1, 1) := by decide +kernel
theorem dX3_rat_27 : decode cX3_rat 27 = .ok (.invokevirtual 100, 3) := by decide +kernel
theorem dX3_rat_30 : decode cX3_rat 30 = .ok (.aload_n 0, 1) := by decide +kernel
theorem dX3_rat_31 : decode cX3_rat 31 = .ok (.iload_n 2, 1) := by decide +kernel
theorem dX3_rat_32 : decode cX3_rat 32 = .ok (.invokevirtual 189, 3) := by decide +kernel
theorem dX3_rat_35 : decode cX3_rat 35 = .ok (.istore_n 3, 1) := by decide +kernel
theorem dX3_rat_36 : decode cX3_rat 36 = .ok (.iload_n 3, 1) := by decide +kernel
theorem dX3_rat_37 : decode cX3_rat 37 = .ok (.iconst (-1), 1) := by decide +kernel
theorem dX3_rat_38 : decode cX3_rat 38 = .ok (.if_icmp .eq 26, 3) := by decide +kernel
theorem dX3_rat_41 : decode cX3_rat 41 = .ok (.aload_n 0, 1) := by decide +kernel
theorem dX3_rat_42 : decode cX3_rat 42 = .ok (.iload_n 3, 1) := by decide +kernel
theorem dX3_rat_43 : decode cX3_rat 43 = .ok (.invokevirtual 112, 3) := by decide +kernel
theorem dX3_rat_46 : decode cX3_rat 46 = .ok (.iload_n 1, 1) := by decide +kernel
theorem dX3_rat_47 : decode cX3_rat 47 = .ok (.invokevirtual 116, 3) := by decide +kernel
theorem dX3_rat_50 : decode cX3_rat 50 = .ok (.ifCond .ne 14, 3) := by decide +kernel
theorem dX3_rat_53 : decode cX3_rat 53 = .ok (.aload_n 0, 1) := by decide +kernel
theorem dX3_rat_54 : decode cX3_rat 54 = .ok (.getfield 12, 3) := by decide +kernel
theorem dX3_rat_57 : decode cX3_rat 57 = .ok (.iload_n 2, 1) := by decide +kernel
theorem dX3_rat_58 : decode cX3_rat 58 = .ok (.invokevirtual 145, 3) := by decide +kernel
theorem dX3_rat_61 : decode cX3_rat 61 = .ok (.ifCond .ne 13, 3) := by decide +kernel
theorem dX3_rat_64 : decode cX3_rat 64 = .ok (.new 62, 3) := by decide +kernel
theorem dX3_rat_67 : decode cX3_rat 67 = .ok (.dup, 1) := by decide +kernel
theorem dX3_rat_68 : decode cX3_rat 68 = .ok (.ldc 192, 2) := by decide +kernel
theorem dX3_rat_70 : decode cX3_rat 70 = .ok (.invokespecial 66, 3) := by decide +kernel
theorem dX3_rat_73 : decode cX3_rat 73 = .ok (.athrow, 1) := by decide +kernel
theorem dX3_rat_74 : decode cX3_rat 74 = .ok (.aload_n 0, 1) := by decide +kernel
theorem dX3_rat_75 : decode cX3_rat 75 = .ok (.getfield 12, 3) := by decide +kernel
theorem dX3_rat_78 : decode cX3_rat 78 = .ok (.getfield 172, 3) := by decide +kernel
theorem dX3_rat_81 : decode cX3_rat 81 = .ok (.iload_n 2, 1) := by decide +kernel
theorem dX3_rat_82 : decode cX3_rat 82 = .ok (.iaload, 1) := by decide +kernel
theorem dX3_rat_83 : decode cX3_rat 83 = .ok (.iconst (-1), 1) := by decide +kernel
theorem dX3_rat_84 : decode cX3_rat 84 = .ok (.if_icmp .ne 11, 3) := by decide +kernel
theorem dX3_rat_87 : decode cX3_rat 87 = .ok (.aload_n 0, 1) := by decide +kernel
theorem dX3_rat_88 : decode cX3_rat 88 = .ok (.iload_n 2, 1) := by decide +kernel
theorem dX3_rat_89 : decode cX3_rat 89 = .ok (.iconst (-1), 1) := by decide +kernel
theorem dX3_rat_90 : decode cX3_rat 90 = .ok (.iload_n 1, 1) := by decide +kernel
theorem dX3_rat_91 : decode cX3_rat 91 = .ok (.invokevirtual 194, 3) := by decide +kernel
theorem dX3_rat_94 : decode cX3_rat 94 = .ok (.ireturn, 1) := by decide +kernel
theorem dX3_rat_95 : decode cX3_rat 95 = .ok (.aload_n 0, 1) := by decide +kernel
theorem dX3_rat_96 : decode cX3_rat 96 = .ok (.getfield 12, 3) := by decide +kernel
theorem dX3_rat_99 : decode cX3_rat 99 = .ok (.getfield 172, 3) := by decide +kernel
theorem dX3_rat_102 : decode cX3_rat 102 = .ok (.iload_n 2, 1) := by decide +kernel
theorem dX3_rat_103 : decode cX3_rat 103 = .ok (.iconst (-1), 1) := by decide +kernel
theorem dX3_rat_104 : decode cX3_rat 104 = .ok (.iastore, 1) := by decide +kernel
theorem dX3_rat_105 : decode cX3_rat 105 = .ok (.aload_n 0, 1) := by decide +kernel
theorem dX3_rat_106 : decode cX3_rat 106 = .ok (.getfield 30, 3) := by decide +kernel
theorem dX3_rat_109 : decode cX3_rat 109 = .ok (.iload_n 1, 1) := by decide +kernel
theorem dX3_rat_110 : decode cX3_rat 110 = .ok (.aload_n 0, 1) := by decide +kernel
theorem dX3_rat_111 : decode cX3_rat 111 = .ok (.getfield 80, 3) := by decide +kernel
theorem dX3_rat_114 : decode cX3_rat 114 = .ok (.sipush 168, 3) := by decide +kernel
theorem dX3_rat_117 : decode cX3_rat 117 = .ok (.iadd, 1) := by decide +kernel
theorem dX3_rat_118 : decode cX3_rat 118 = .ok (.iastore, 1) := by decide +kernel
theorem dX3_rat_119 : decode cX3_rat 119 = .ok (.aload_n 0, 1) := by decide +kernel
theorem dX3_rat_120 : decode cX3_rat 120 = .ok (.getfield 33, 3) := by decide +kernel
theorem dX3_rat_123 : decode cX3_rat 123 = .ok (.iload_n 1, 1) := by decide +kernel
theorem dX3_rat_124 : decode cX3_rat 124 = .ok (.dup2, 1) := by decide +kernel
theorem dX3_rat_125 : decode cX3_rat 125 = .ok (.iaload, 1) := by decide +kernel
theorem dX3_rat_126 : decode cX3_rat 126 = .ok (.iconst 1, 1) := by decide +kernel
theorem dX3_rat_127 : decode cX3_rat 127 = .ok (.iadd, 1) := by decide +kernel
theorem dX3_rat_128 : decode cX3_rat 128 = .ok (.iastore, 1) := by decide +kernel
theorem dX3_rat_129 : decode cX3_rat 129 = .ok (.iconst (-1), 1) := by decide +kernel
theorem dX3_rat_130 : decode cX3_rat 130 = .ok (.ireturn, 1) := by decide +kernel
theorem dX3_divide_0 : decode cX3_divide 0 = .ok (.aload_n 0, 1) := by decide +kernel
theorem dX3_divide_1 : decode cX3_divide 1 = .ok (.iload_n 1, 1) := by decide +kernel
theorem dX3_divide_2 : decode cX3_divide 2 = .ok (.invokevirtual 112, 3) := by decide +kernel
theorem dX3_divide_5 : decode cX3_divide 5 = .ok (.astore_n 2, 1) := by decide +kernel
theorem dX3_divide_6 : decode cX3_divide 6 = .ok (.aload_n 0, 1) := by decide +kernel
theorem dX3_divide_7 : decode cX3_divide 7 = .ok (.iload_n 1, 1) := by decide +kernel
theorem dX3_divide_8 : decode cX3_divide 8 = .ok (.invokevirtual 198, 3) := by decide +kernel
theorem dX3_divide_11 : decode cX3_divide 11 = .ok (.istore_n 3, 1) := by decide +kernel
theorem dX3_divide_12 : decode cX3_divide 12 = .ok (.iload_n 3, 1) := by decide +kernel
theorem dX3_divide_13 : decode cX3_divide 13 = .ok (.ifCond .ne 13, 3) := by decide +kernel
theorem dX3_divide_16 : decode cX3_divide 16 = .ok (.new 62, 3) := by decide +kernel
theorem dX3_divide_19 : decode cX3_divide 19 = .ok (.dup, 1) := by decide +kernel
theorem dX3_divide_20 : decode cX3_divide 20 = .ok (.ldc 201, 2) := by decide +kernel
theorem dX3_divide_22 : decode cX3_divide 22 = .ok (.invokespecial 66, 3) := by decide +kernel
theorem dX3_divide_25 : decode cX3_divide 25 = .ok (.athrow, 1) := by decide +kernel
theorem dX3_divide_26 : decode cX3_divide 26 = .ok (.aload_n 0, 1) := by decide +kernel
theorem dX3_divide_27 : decode cX3_divide 27 = .ok (.iload_n 1, 1) := by decide +kernel
theorem dX3_divide_28 : decode cX3_divide 28 = .ok (.invokevirtual 203, 3) := by decide +kernel
theorem dX3_divide_31 : decode cX3_divide 31 = .ok (.istore 4, 2) := by decide +kernel
theorem dX3_divide_33 : decode cX3_divide 33 = .ok (.aload_n 0, 1) := by decide +kernel
theorem dX3_divide_34 : decode cX3_divide 34 = .ok (.getfield 45, 3) := by decide +kernel
theorem dX3_divide_37 : decode cX3_divide 37 = .ok (.iconst 0, 1) := by decide +kernel
theorem dX3_divide_38 : decode cX3_divide 38 = .ok (.invokestatic 39, 3) := by decide +kernel
theorem dX3_divide_41 : decode cX3_divide 41 = .ok (.iconst 0, 1) := by decide +kernel
theorem dX3_divide_42 : decode cX3_divide 42 = .ok (.istore 5, 2) := by decide +kernel
theorem dX3_divide_44 : decode cX3_divide 44 = .ok (.iload 5, 2) := by decide +kernel
theorem dX3_divide_46 : decode cX3_divide 46 = .ok (.iload_n 3, 1) := by decide +kernel
theorem dX3_divide_47 : decode cX3_divide 47 = .ok (.if_icmp .ge 63, 3) := by decide +kernel
theorem dX3_divide_50 : decode cX3_divide 50 = .ok (.aload_n 0, 1) := by decide +kernel
theorem dX3_divide_51 : decode cX3_divide 51 = .ok (.iload_n 1, 1) := by decide +kernel
theorem dX3_divide_52 : decode cX3_divide 52 = .ok (.invokevirtual 206, 3) := by decide +kernel
theorem dX3_divide_55 : decode cX3_divide 55 = .ok (.istore 6, 2) := by decide +kernel
theorem dX3_divide_57 : decode cX3_divide 57 = .ok (.iload 6, 2) := by decide +kernel
theorem dX3_divide_59 : decode cX3_divide 59 = .ok (.iconst (-1), 1) := by decide +kernel
theorem dX3_divide_60 : decode cX3_divide 60 = .ok (.if_icmp .eq 44, 3) := by decide +kernel
theorem dX3_divide_63 : decode cX3_divide 63 = .ok (.aload_n 0, 1) := by decide +kernel
theorem dX3_divide_64 : decode cX3_divide 64 = .ok (.iload 6, 2) := by decide +kernel
theorem dX3_divide_66 : decode cX3_divide 66 = .ok (.invokevirtual 209, 3) := by decide +kernel
theorem dX3_divide_69 : decode cX3_divide 69 = .ok (.astore 7, 2) := by decide +kernel
theorem dX3_divide_71 : decode cX3_divide 71 = .ok (.aload 7, 2) := by decide +kernel
theorem dX3_divide_73 : decode cX3_divide 73 = .ok (.aload_n 2, 1) := by decide +kernel
theorem dX3_divide_74 : decode cX3_divide 74 = .ok (.iload 4, 2) := by decide +kernel
theorem dX3_divide_76 : decode cX3_divide 76 = .ok (.aload_n 0, 1) := by decide +kernel
theorem dX3_divide_77 : decode cX3_divide 77 = .ok (.getfield 45, 3) := by decide +kernel
theorem dX3_divide_80 : decode cX3_divide 80 = .ok (.invokevirtual 213, 3) := by decide +kernel
theorem dX3_divide_83 : decode cX3_divide 83 = .ok (.putfield 217, 3) := by decide +kernel
theorem dX3_divide_86 : decode cX3_divide 86 = .ok (.aload_n 0, 1) := by decide +kernel
theorem dX3_divide_87 : decode cX3_divide 87 = .ok (.getfield 45, 3) := by decide +kernel
theorem dX3_divide_90 : decode cX3_divide 90 = .ok (.aload 7, 2) := by decide +kernel
theorem dX3_divide_92 : decode cX3_divide 92 = .ok (.getfield 217, 3) := by decide +kernel
theorem dX3_divide_95 : decode cX3_divide 95 = .ok (.dup2, 1) := by decide +kernel
theorem dX3_divide_96 : decode cX3_divide 96 = .ok (.iaload, 1) := by decide +kernel
theorem dX3_divide_97 : decode cX3_divide 97 = .ok (.aload 7, 2) := by decide +kernel
theorem dX3_divide_99 : decode cX3_divide 99 = .ok (.getfield 222, 3) := by decide +kernel
theorem dX3_divide_102 : decode cX3_divide 102 = .ok (.iadd, 1) := by decide +kernel
theorem dX3_divide_103 : decode cX3_divide 103 = .ok (.iastore, 1) := by decide +kernel
theorem dX3_divide_104 : decode cX3_divide 104 = .ok (.iinc 5 1, 3) := by decide +kernel
theorem dX3_divide_107 : decode cX3_divide 107 = .ok (.goto (-63), 3) := by decide +kernel
theorem dX3_divide_110 : decode cX3_divide 110 = .ok (.iload_n 3, 1) := by decide +kernel
theorem dX3_divide_111 : decode cX3_divide 111 = .ok (.ireturn, 1) := by decide +kernel
theorem dX3_rub_0 : decode cX3_rub 0 = .ok (.aload_n 0, 1) := by decide +kernel
theorem dX3_rub_1 : decode cX3_rub 1 = .ok (.iload_n 1, 1) := by decide +kernel
theorem dX3_rub_2 : decode cX3_rub 2 = .ok (.invokevirtual 209, 3) := by decide +kernel
theorem dX3_rub_5 : decode cX3_rub 5 = .ok (.astore_n 2, 1) := by decide +kernel
theorem dX3_rub_6 : decode cX3_rub 6 = .ok (.aload_n 2, 1) := by decide +kernel
theorem dX3_rub_7 : decode cX3_rub 7 = .ok (.invokestatic 224, 3) := by decide +kernel
theorem dX3_rub_10 : decode cX3_rub 10 = .ok (.aload_n 2, 1) := by decide +kernel
theorem dX3_rub_11 : decode cX3_rub 11 = .ok (.invokevirtual 228, 3) := by decide +kernel
theorem dX3_rub_14 : decode cX3_rub 14 = .ok (.iconst 2, 1) := by decide +kernel
theorem dX3_rub_15 : decode cX3_rub 15 = .ok (.if_icmp .ne 13, 3) := by decide +kernel
theorem dX3_rub_18 : decode cX3_rub 18 = .ok (.new 62, 3) := by decide +kernel
theorem dX3_rub_21 : decode cX3_rub 21 = .ok (.dup, 1) := by decide +kernel
theorem dX3_rub_22 : decode cX3_rub 22 = .ok (.ldc 231, 2) := by decide +kernel
theorem dX3_rub_24 : decode cX3_rub 24 = .ok (.invokespecial 66, 3) := by decide +kernel
theorem dX3_rub_27 : decode cX3_rub 27 = .ok (.athrow, 1) := by decide +kernel
theorem dX3_rub_28 : decode cX3_rub 28 = .ok (.aload_n 2, 1) := by decide +kernel
theorem dX3_rub_29 : decode cX3_rub 29 = .ok (.getfield 222, 3) := by decide +kernel
theorem dX3_rub_32 : decode cX3_rub 32 = .ok (.bipush 10, 2) := by decide +kernel
theorem dX3_rub_34 : decode cX3_rub 34 = .ok (.idiv, 1) := by decide +kernel
theorem dX3_rub_35 : decode cX3_rub 35 = .ok (.istore_n 3, 1) := by decide +kernel
theorem dX3_rub_36 : decode cX3_rub 36 = .ok (.aload_n 2, 1) := by decide +kernel
theorem dX3_rub_37 : decode cX3_rub 37 = .ok (.dup, 1) := by decide +kernel
theorem dX3_rub_38 : decode cX3_rub 38 = .ok (.getfield 222, 3) := by decide +kernel
theorem dX3_rub_41 : decode cX3_rub 41 = .ok (.iload_n 3, 1) := by decide +kernel
theorem dX3_rub_42 : decode cX3_rub 42 = .ok (.isub, 1) := by decide +kernel
theorem dX3_rub_43 : decode cX3_rub 43 = .ok (.putfield 222, 3) := by decide +kernel
theorem dX3_rub_46 : decode cX3_rub 46 = .ok (.aload_n 2, 1) := by decide +kernel
theorem dX3_rub_47 : decode cX3_rub 47 = .ok (.dup, 1) := by decide +kernel
theorem dX3_rub_48 : decode cX3_rub 48 = .ok (.getfield 233, 3) := by decide +kernel
theorem dX3_rub_51 : decode cX3_rub 51 = .ok (.iload_n 3, 1) := by decide +kernel
theorem dX3_rub_52 : decode cX3_rub 52 = .ok (.iadd, 1) := by decide +kernel
theorem dX3_rub_53 : decode cX3_rub 53 = .ok (.putfield 233, 3) := by decide +kernel
theorem dX3_rub_56 : decode cX3_rub 56 = .ok (.aload_n 2, 1) := by decide +kernel
theorem dX3_rub_57 : decode cX3_rub 57 = .ok (.dup, 1) := by decide +kernel
theorem dX3_rub_58 : decode cX3_rub 58 = .ok (.getfield 236, 3) := by decide +kernel
theorem dX3_rub_61 : decode cX3_rub 61 = .ok (.iconst 1, 1) := by decide +kernel
theorem dX3_rub_62 : decode cX3_rub 62 = .ok (.iadd, 1) := by decide +kernel
theorem dX3_rub_63 : decode cX3_rub 63 = .ok (.putfield 236, 3) := by decide +kernel
theorem dX3_rub_66 : decode cX3_rub 66 = .ok (.aload_n 2, 1) := by decide +kernel
theorem dX3_rub_67 : decode cX3_rub 67 = .ok (.getfield 222, 3) := by decide +kernel
theorem dX3_rub_70 : decode cX3_rub 70 = .ok (.ireturn, 1) := by decide +kernel
theorem dX3_bid_0 : decode cX3_bid 0 = .ok (.iload_n 1, 1) := by decide +kernel
theorem dX3_bid_1 : decode cX3_bid 1 = .ok (.invokestatic 239, 3) := by decide +kernel
theorem dX3_bid_4 : decode cX3_bid 4 = .ok (.aload_n 0, 1) := by decide +kernel
theorem dX3_bid_5 : decode cX3_bid 5 = .ok (.iload_n 2, 1) := by decide +kernel
theorem dX3_bid_6 : decode cX3_bid 6 = .ok (.invokevirtual 209, 3) := by decide +kernel
theorem dX3_bid_9 : decode cX3_bid 9 = .ok (.astore 4, 2) := by decide +kernel
theorem dX3_bid_11 : decode cX3_bid 11 = .ok (.iload_n 3, 1) := by decide +kernel
theorem dX3_bid_12 : decode cX3_bid 12 = .ok (.iconst 1, 1) := by decide +kernel
theorem dX3_bid_13 : decode cX3_bid 13 = .ok (.ldc 242, 2) := by decide +kernel
theorem dX3_bid_15 : decode cX3_bid 15 = .ok (.invokestatic 55, 3) := by decide +kernel
theorem dX3_bid_18 : decode cX3_bid 18 = .ok (.aload 4, 2) := by decide +kernel
theorem dX3_bid_20 : decode cX3_bid 20 = .ok (.invokestatic 224, 3) := by decide +kernel
theorem dX3_bid_23 : decode cX3_bid 23 = .ok (.aload 4, 2) := by decide +kernel
theorem dX3_bid_25 : decode cX3_bid 25 = .ok (.getfield 243, 3) := by decide +kernel
theorem dX3_bid_28 : decode cX3_bid 28 = .ok (.iload_n 1, 1) := by decide +kernel
theorem dX3_bid_29 : decode cX3_bid 29 = .ok (.iaload, 1) := by decide +kernel
theorem dX3_bid_30 : decode cX3_bid 30 = .ok (.ifCond .le 13, 3) := by decide +kernel
theorem dX3_bid_33 : decode cX3_bid 33 = .ok (.new 62, 3) := by decide +kernel
theorem dX3_bid_36 : decode cX3_bid 36 = .ok (.dup, 1) := by decide +kernel
theorem dX3_bid_37 : decode cX3_bid 37 = .ok (.ldc 246, 2) := by decide +kernel
theorem dX3_bid_39 : decode cX3_bid 39 = .ok (.invokespecial 66, 3) := by decide +kernel
theorem dX3_bid_42 : decode cX3_bid 42 = .ok (.athrow, 1) := by decide +kernel
theorem dX3_bid_43 : decode cX3_bid 43 = .ok (.aload 4, 2) := by decide +kernel
theorem dX3_bid_45 : decode cX3_bid 45 = .ok (.getfield 243, 3) := by decide +kernel
theorem dX3_bid_48 : decode cX3_bid 48 = .ok (.iload_n 1, 1) := by decide +kernel
theorem dX3_bid_49 : decode cX3_bid 49 = .ok (.iload_n 3, 1) := by decide +kernel
theorem dX3_bid_50 : decode cX3_bid 50 = .ok (.iastore, 1) := by decide +kernel
theorem dX3_bid_51 : decode cX3_bid 51 = .ok (.aload 4, 2) := by decide +kernel
theorem dX3_bid_53 : decode cX3_bid 53 = .ok (.getfield 248, 3) := by decide +kernel
theorem dX3_bid_56 : decode cX3_bid 56 = .ok (.iload_n 1, 1) := by decide +kernel
theorem dX3_bid_57 : decode cX3_bid 57 = .ok (.aload 4, 2) := by decide +kernel
theorem dX3_bid_59 : decode cX3_bid 59 = .ok (.getfield 251, 3) := by decide +kernel
theorem dX3_bid_62 : decode cX3_bid 62 = .ok (.iastore, 1) := by decide +kernel
theorem dX3_bid_63 : decode cX3_bid 63 = .ok (.aload 4, 2) := by decide +kernel
theorem dX3_bid_65 : decode cX3_bid 65 = .ok (.dup, 1) := by decide +kernel
theorem dX3_bid_66 : decode cX3_bid 66 = .ok (.getfield 251, 3) := by decide +kernel
theorem dX3_bid_69 : decode cX3_bid 69 = .ok (.iconst 1, 1) := by decide +kernel
theorem dX3_bid_70 : decode cX3_bid 70 = .ok (.iadd, 1) := by decide +kernel
theorem dX3_bid_71 : decode cX3_bid 71 = .ok (.putfield 251, 3) := by decide +kernel
theorem dX3_bid_74 : decode cX3_bid 74 = .ok (.aload 4, 2) := by decide +kernel
theorem dX3_bid_76 : decode cX3_bid 76 = .ok (.getfield 251, 3) := by decide +kernel
theorem dX3_bid_79 : decode cX3_bid 79 = .ok (.ireturn, 1) := by decide +kernel
theorem dX3_sell_0 : decode cX3_sell 0 = .ok (.aload_n 0, 1) := by decide +kernel
theorem dX3_sell_1 : decode cX3_sell 1 = .ok (.iload_n 1, 1) := by decide +kernel
theorem dX3_sell_2 : decode cX3_sell 2 = .ok (.invokevirtual 209, 3) := by decide +kernel
theorem dX3_sell_5 : decode cX3_sell 5 = .ok (.astore_n 2, 1) := by decide +kernel
theorem dX3_sell_6 : decode cX3_sell 6 = .ok (.aload_n 2, 1) := by decide +kernel
theorem dX3_sell_7 : decode cX3_sell 7 = .ok (.invokestatic 224, 3) := by decide +kernel
theorem dX3_sell_10 : decode cX3_sell 10 = .ok (.aload_n 2, 1) := by decide +kernel
theorem dX3_sell_11 : decode cX3_sell 11 = .ok (.aload_n 0, 1) := by decide +kernel
theorem dX3_sell_12 : decode cX3_sell 12 = .ok (.getfield 36, 3) := by decide +kernel
theorem dX3_sell_15 : decode cX3_sell 15 = .ok (.invokevirtual 254, 3) := by decide +kernel
theorem dX3_sell_18 : decode cX3_sell 18 = .ok (.istore_n 3, 1) := by decide +kernel
theorem dX3_sell_19 : decode cX3_sell 19 = .ok (.iload_n 3, 1) := by decide +kernel
theorem dX3_sell_20 : decode cX3_sell 20 = .ok (.iconst (-1), 1) := by decide +kernel
theorem dX3_sell_21 : decode cX3_sell 21 = .ok (.if_icmp .ne 14, 3) := by decide +kernel
theorem dX3_sell_24 : decode cX3_sell 24 = .ok (.new 62, 3) := by decide +kernel
theorem dX3_sell_27 : decode cX3_sell 27 = .ok (.dup, 1) := by decide +kernel
theorem dX3_sell_28 : decode cX3_sell 28 = .ok (.ldc_w 258, 3) := by decide +kernel
theorem dX3_sell_31 : decode cX3_sell 31 = .ok (.invokespecial 66, 3) := by decide +kernel
theorem dX3_sell_34 : decode cX3_sell 34 = .ok (.athrow, 1) := by decide +kernel
theorem dX3_sell_35 : decode cX3_sell 35 = .ok (.aload_n 2, 1) := by decide +kernel
theorem dX3_sell_36 : decode cX3_sell 36 = .ok (.iload_n 3, 1) := by decide +kernel
theorem dX3_sell_37 : decode cX3_sell 37 = .ok (.putfield 260, 3) := by decide +kernel
theorem dX3_sell_40 : decode cX3_sell 40 = .ok (.aload_n 0, 1) := by decide +kernel
theorem dX3_sell_41 : decode cX3_sell 41 = .ok (.getfield 36, 3) := by decide +kernel
theorem dX3_sell_44 : decode cX3_sell 44 = .ok (.iload_n 3, 1) := by decide +kernel
theorem dX3_sell_45 : decode cX3_sell 45 = .ok (.dup2, 1) := by decide +kernel
theorem dX3_sell_46 : decode cX3_sell 46 = .ok (.iaload, 1) := by decide +kernel
theorem dX3_sell_47 : decode cX3_sell 47 = .ok (.aload_n 2, 1) := by decide +kernel
theorem dX3_sell_48 : decode cX3_sell 48 = .ok (.getfield 243, 3) := by decide +kernel
theorem dX3_sell_51 : decode cX3_sell 51 = .ok (.iload_n 3, 1) := by decide +kernel
theorem dX3_sell_52 : decode cX3_sell 52 = .ok (.iaload, 1) := by decide +kernel
theorem dX3_sell_53 : decode cX3_sell 53 = .ok (.isub, 1) := by decide +kernel
theorem dX3_sell_54 : decode cX3_sell 54 = .ok (.iastore, 1) := by decide +kernel
theorem dX3_sell_55 : decode cX3_sell 55 = .ok (.aload_n 0, 1) := by decide +kernel
theorem dX3_sell_56 : decode cX3_sell 56 = .ok (.getfield 26, 3) := by decide +kernel
theorem dX3_sell_59 : decode cX3_sell 59 = .ok (.aload_n 2, 1) := by decide +kernel
theorem dX3_sell_60 : decode cX3_sell 60 = .ok (.getfield 217, 3) := by decide +kernel
theorem dX3_sell_63 : decode cX3_sell 63 = .ok (.dup2, 1) := by decide +kernel
theorem dX3_sell_64 : decode cX3_sell 64 = .ok (.iaload, 1) := by decide +kernel
theorem dX3_sell_65 : decode cX3_sell 65 = .ok (.aload_n 2, 1) := by decide +kernel
theorem dX3_sell_66 : decode cX3_sell 66 = .ok (.getfield 243, 3) := by decide +kernel
theorem dX3_sell_69 : decode cX3_sell 69 = .ok (.iload_n 3, 1) := by decide +kernel
theorem dX3_sell_70 : decode cX3_sell 70 = .ok (.iaload, 1) := by decide +kernel
theorem dX3_sell_71 : decode cX3_sell 71 = .ok (.iadd, 1) := by decide +kernel
theorem dX3_sell_72 : decode cX3_sell 72 = .ok (.iastore, 1) := by decide +kernel
theorem dX3_sell_73 : decode cX3_sell 73 = .ok (.iload_n 3, 1) := by decide +kernel
theorem dX3_sell_74 : decode cX3_sell 74 = .ok (.ireturn, 1) := by decide +kernel
theorem dX3_hour_0 : decode cX3_hour 0 = .ok (.aload_n 0, 1) := by decide +kernel
theorem dX3_hour_1 : decode cX3_hour 1 = .ok (.getfield 80, 3) := by decide +kernel
theorem dX3_hour_4 : decode cX3_hour 4 = .ok (.ireturn, 1) := by decide +kernel
theorem dX3_bore_0 : decode cX3_bore 0 = .ok (.iload_n 1, 1) := by decide +kernel
theorem dX3_bore_1 : decode cX3_bore 1 = .ok (.invokestatic 51, 3) := by decide +kernel
theorem dX3_bore_4 : decode cX3_bore 4 = .ok (.aload_n 0, 1) := by decide +kernel
theorem dX3_bore_5 : decode cX3_bore 5 = .ok (.getfield 12, 3) := by decide +kernel
theorem dX3_bore_8 : decode cX3_bore 8 = .ok (.iload_n 1, 1) := by decide +kernel
theorem dX3_bore_9 : decode cX3_bore 9 = .ok (.invokevirtual 263, 3) := by decide +kernel
theorem dX3_bore_12 : decode cX3_bore 12 = .ok (.ireturn, 1) := by decide +kernel
theorem dX3_ofCell_0 : decode cX3_ofCell 0 = .ok (.iload_n 1, 1) := by decide +kernel
theorem dX3_ofCell_1 : decode cX3_ofCell 1 = .ok (.invokestatic 51, 3) := by decide +kernel
theorem dX3_ofCell_4 : decode cX3_ofCell 4 = .ok (.iload_n 2, 1) := by decide +kernel
theorem dX3_ofCell_5 : decode cX3_ofCell 5 = .ok (.tableswitch 82 0 3 #[31, 41, 54, 76], 31) := by decide +kernel
theorem dX3_ofCell_36 : decode cX3_ofCell 36 = .ok (.aload_n 0, 1) := by decide +kernel
theorem dX3_ofCell_37 : decode cX3_ofCell 37 = .ok (.getfield 12, 3) := by decide +kernel
theorem dX3_ofCell_40 : decode cX3_ofCell 40 = .ok (.getfield 59, 3) := by decide +kernel
theorem dX3_ofCell_43 : decode cX3_ofCell 43 = .ok (.iload_n 1, 1) := by decide +kernel
theorem dX3_ofCell_44 : decode cX3_ofCell 44 = .ok (.iaload, 1) := by decide +kernel
theorem dX3_ofCell_45 : decode cX3_ofCell 45 = .ok (.ireturn, 1) := by decide +kernel
theorem dX3_ofCell_46 : decode cX3_ofCell 46 = .ok (.aload_n 0, 1) := by decide +kernel
theorem dX3_ofCell_47 : decode cX3_ofCell 47 = .ok (.getfield 12, 3) := by decide +kernel
theorem dX3_ofCell_50 : decode cX3_ofCell 50 = .ok (.getfield 166, 3) := by decide +kernel
theorem dX3_ofCell_53 : decode cX3_ofCell 53 = .ok (.iload_n 1, 1) := by decide +kernel
theorem dX3_ofCell_54 : decode cX3_ofCell 54 = .ok (.baload, 1) := by decide +kernel
theorem dX3_ofCell_55 : decode cX3_ofCell 55 = .ok (.invokestatic 266, 3) := by decide +kernel
theorem dX3_ofCell_58 : decode cX3_ofCell 58 = .ok (.ireturn, 1) := by decide +kernel
theorem dX3_ofCell_59 : decode cX3_ofCell 59 = .ok (.aload_n 0, 1) := by decide +kernel
theorem dX3_ofCell_60 : decode cX3_ofCell 60 = .ok (.getfield 12, 3) := by decide +kernel
theorem dX3_ofCell_63 : decode cX3_ofCell 63 = .ok (.getfield 172, 3) := by decide +kernel
theorem dX3_ofCell_66 : decode cX3_ofCell 66 = .ok (.iload_n 1, 1) := by decide +kernel
theorem dX3_ofCell_67 : decode cX3_ofCell 67 = .ok (.iaload, 1) := by decide +kernel
theorem dX3_ofCell_68 : decode cX3_ofCell 68 = .ok (.iconst (-1), 1) := by decide +kernel
theorem dX3_ofCell_69 : decode cX3_ofCell 69 = .ok (.if_icmp .eq 7, 3) := by decide +kernel
theorem dX3_ofCell_72 : decode cX3_ofCell 72 = .ok (.iconst 1, 1) := by decide +kernel
theorem dX3_ofCell_73 : decode cX3_ofCell 73 = .ok (.goto 4, 3) := by decide +kernel
theorem dX3_ofCell_76 : decode cX3_ofCell 76 = .ok (.iconst 0, 1) := by decide +kernel
theorem dX3_ofCell_77 : decode cX3_ofCell 77 = .ok (.invokestatic 266, 3) := by decide +kernel
theorem dX3_ofCell_80 : decode cX3_ofCell 80 = .ok (.ireturn, 1) := by decide +kernel
theorem dX3_ofCell_81 : decode cX3_ofCell 81 = .ok (.aload_n 0, 1) := by decide +kernel
theorem dX3_ofCell_82 : decode cX3_ofCell 82 = .ok (.iload_n 1, 1) := by decide +kernel
theorem dX3_ofCell_83 : decode cX3_ofCell 83 = .ok (.invokevirtual 189, 3) := by decide +kernel
theorem dX3_ofCell_86 : decode cX3_ofCell 86 = .ok (.ireturn, 1) := by decide +kernel
theorem dX3_ofCell_87 : decode cX3_ofCell 87 = .ok (.new 89, 3) := by decide +kernel
theorem dX3_ofCell_90 : decode cX3_ofCell 90 = .ok (.dup, 1) := by decide +kernel
theorem dX3_ofCell_91 : decode cX3_ofCell 91 = .ok (.ldc_w 270, 3) := by decide +kernel
theorem dX3_ofCell_94 : decode cX3_ofCell 94 = .ok (.invokespecial 93, 3) := by decide +kernel
theorem dX3_ofCell_97 : decode cX3_ofCell 97 = .ok (.athrow, 1) := by decide +kernel
theorem dX3_ofClaim_0 : decode cX3_ofClaim 0 = .ok (.aload_n 0, 1) := by decide +kernel
theorem dX3_ofClaim_1 : decode cX3_ofClaim 1 = .ok (.iload_n 1, 1) := by decide +kernel
theorem dX3_ofClaim_2 : decode cX3_ofClaim 2 = .ok (.invokevirtual 112, 3) := by decide +kernel
theorem dX3_ofClaim_5 : decode cX3_ofClaim 5 = .ok (.astore_n 3, 1) := by decide +kernel
theorem dX3_ofClaim_6 : decode cX3_ofClaim 6 = .ok (.iload_n 2, 1) := by decide +kernel
theorem dX3_ofClaim_7 : decode cX3_ofClaim 7 = .ok (.tableswitch 89 0 6 #[41, 46, 51, 63, 69, 74, 80], 41) := by decide +kernel
theorem dX3_ofClaim_48 : decode cX3_ofClaim 48 = .ok (.aload_n 3, 1) := by decide +kernel
theorem dX3_ofClaim_49 : decode cX3_ofClaim 49 = .ok (.getfield 136, 3) := by decide +kernel
theorem dX3_ofClaim_52 : decode cX3_ofClaim 52 = .ok (.ireturn, 1) := by decide +kernel
theorem dX3_ofClaim_53 : decode cX3_ofClaim 53 = .ok (.aload_n 3, 1) := by decide +kernel
theorem dX3_ofClaim_54 : decode cX3_ofClaim 54 = .ok (.getfield 130, 3) := by decide +kernel
theorem dX3_ofClaim_57 : decode cX3_ofClaim 57 = .ok (.ireturn, 1) := by decide +kernel
theorem dX3_ofClaim_58 : decode cX3_ofClaim 58 = .ok (.aload_n 3, 1) := by decide +kernel
theorem dX3_ofClaim_59 : decode cX3_ofClaim 59 = .ok (.aload_n 0, 1) := by decide +kernel
theorem dX3_ofClaim_60 : decode cX3_ofClaim 60 = .ok (.getfield 80, 3) := by decide +kernel
theorem dX3_ofClaim_63 : decode cX3_ofClaim 63 = .ok (.invokevirtual 272, 3) := by decide +kernel
theorem dX3_ofClaim_66 : decode cX3_ofClaim 66 = .ok (.invokestatic 266, 3) := by decide +kernel
theorem dX3_ofClaim_69 : decode cX3_ofClaim 69 = .ok (.ireturn, 1) := by decide +kernel
theorem dX3_ofClaim_70 : decode cX3_ofClaim 70 = .ok (.aload_n 0, 1) := by decide +kernel
theorem dX3_ofClaim_71 : decode cX3_ofClaim 71 = .ok (.iload_n 1, 1) := by decide +kernel
theorem dX3_ofClaim_72 : decode cX3_ofClaim 72 = .ok (.invokevirtual 275, 3) := by decide +kernel
theorem dX3_ofClaim_75 : decode cX3_ofClaim 75 = .ok (.ireturn, 1) := by decide +kernel
theorem dX3_ofClaim_76 : decode cX3_ofClaim 76 = .ok (.aload_n 3, 1) := by decide +kernel
theorem dX3_ofClaim_77 : decode cX3_ofClaim 77 = .ok (.getfield 159, 3) := by decide +kernel
theorem dX3_ofClaim_80 : decode cX3_ofClaim 80 = .ok (.ireturn, 1) := by decide +kernel
theorem dX3_ofClaim_81 : decode cX3_ofClaim 81 = .ok (.aload_n 0, 1) := by decide +kernel
theorem dX3_ofClaim_82 : decode cX3_ofClaim 82 = .ok (.iload_n 1, 1) := by decide +kernel
theorem dX3_ofClaim_83 : decode cX3_ofClaim 83 = .ok (.invokevirtual 198, 3) := by decide +kernel
theorem dX3_ofClaim_86 : decode cX3_ofClaim 86 = .ok (.ireturn, 1) := by decide +kernel
theorem dX3_ofClaim_87 : decode cX3_ofClaim 87 = .ok (.aload_n 3, 1) := by decide +kernel
theorem dX3_ofClaim_88 : decode cX3_ofClaim 88 = .ok (.aload_n 0, 1) := by decide +kernel
theorem dX3_ofClaim_89 : decode cX3_ofClaim 89 = .ok (.getfield 80, 3) := by decide +kernel
theorem dX3_ofClaim_92 : decode cX3_ofClaim 92 = .ok (.invokevirtual 278, 3) := by decide +kernel
theorem dX3_ofClaim_95 : decode cX3_ofClaim 95 = .ok (.ireturn, 1) := by decide +kernel
theorem dX3_ofClaim_96 : decode cX3_ofClaim 96 = .ok (.new 89, 3) := by decide +kernel
theorem dX3_ofClaim_99 : decode cX3_ofClaim 99 = .ok (.dup, 1) := by decide +kernel
theorem dX3_ofClaim_100 : decode cX3_ofClaim 100 = .ok (.ldc_w 281, 3) := by decide +kernel
theorem dX3_ofClaim_103 : decode cX3_ofClaim 103 = .ok (.invokespecial 93, 3) := by decide +kernel
theorem dX3_ofClaim_106 : decode cX3_ofClaim 106 = .ok (.athrow, 1) := by decide +kernel
theorem dX3_share_0 : decode cX3_share 0 = .ok (.aload_n 0, 1) := by decide +kernel
theorem dX3_share_1 : decode cX3_share 1 = .ok (.iload_n 1, 1) := by decide +kernel
theorem dX3_share_2 : decode cX3_share 2 = .ok (.invokevirtual 112, 3) := by decide +kernel
theorem dX3_share_5 : decode cX3_share 5 = .ok (.astore_n 3, 1) := by decide +kernel
theorem dX3_share_6 : decode cX3_share 6 = .ok (.iload_n 2, 1) := by decide +kernel
theorem dX3_share_7 : decode cX3_share 7 = .ok (.invokestatic 86, 3) := by decide +kernel
theorem dX3_share_10 : decode cX3_share 10 = .ok (.aload_n 3, 1) := by decide +kernel
theorem dX3_share_11 : decode cX3_share 11 = .ok (.getfield 133, 3) := by decide +kernel
theorem dX3_share_14 : decode cX3_share 14 = .ok (.iload_n 2, 1) := by decide +kernel
theorem dX3_share_15 : decode cX3_share 15 = .ok (.iaload, 1) := by decide +kernel
theorem dX3_share_16 : decode cX3_share 16 = .ok (.ireturn, 1) := by decide +kernel
theorem dX3_verdict_0 : decode cX3_verdict 0 = .ok (.aload_n 0, 1) := by decide +kernel
theorem dX3_verdict_1 : decode cX3_verdict 1 = .ok (.iload_n 1, 1) := by decide +kernel
theorem dX3_verdict_2 : decode cX3_verdict 2 = .ok (.invokevirtual 112, 3) := by decide +kernel
theorem dX3_verdict_5 : decode cX3_verdict 5 = .ok (.astore_n 3, 1) := by decide +kernel
theorem dX3_verdict_6 : decode cX3_verdict 6 = .ok (.aload_n 0, 1) := by decide +kernel
theorem dX3_verdict_7 : decode cX3_verdict 7 = .ok (.iload_n 2, 1) := by decide +kernel
theorem dX3_verdict_8 : decode cX3_verdict 8 = .ok (.invokevirtual 112, 3) := by decide +kernel
theorem dX3_verdict_11 : decode cX3_verdict 11 = .ok (.astore 4, 2) := by decide +kernel
theorem dX3_verdict_13 : decode cX3_verdict 13 = .ok (.iload_n 1, 1) := by decide +kernel
theorem dX3_verdict_14 : decode cX3_verdict 14 = .ok (.iload_n 2, 1) := by decide +kernel
theorem dX3_verdict_15 : decode cX3_verdict 15 = .ok (.if_icmp .ne 14, 3) := by decide +kernel
theorem dX3_verdict_18 : decode cX3_verdict 18 = .ok (.new 89, 3) := by decide +kernel
theorem dX3_verdict_21 : decode cX3_verdict 21 = .ok (.dup, 1) := by decide +kernel
theorem dX3_verdict_22 : decode cX3_verdict 22 = .ok (.ldc_w 283, 3) := by decide +kernel
theorem dX3_verdict_25 : decode cX3_verdict 25 = .ok (.invokespecial 93, 3) := by decide +kernel
theorem dX3_verdict_28 : decode cX3_verdict 28 = .ok (.athrow, 1) := by decide +kernel
theorem dX3_verdict_29 : decode cX3_verdict 29 = .ok (.aload_n 3, 1) := by decide +kernel
theorem dX3_verdict_30 : decode cX3_verdict 30 = .ok (.aload_n 0, 1) := by decide +kernel
theorem dX3_verdict_31 : decode cX3_verdict 31 = .ok (.getfield 80, 3) := by decide +kernel
theorem dX3_verdict_34 : decode cX3_verdict 34 = .ok (.invokevirtual 272, 3) := by decide +kernel
theorem dX3_verdict_37 : decode cX3_verdict 37 = .ok (.ifCond .eq 24, 3) := by decide +kernel
theorem dX3_verdict_40 : decode cX3_verdict 40 = .ok (.aload 4, 2) := by decide +kernel
theorem dX3_verdict_42 : decode cX3_verdict 42 = .ok (.aload_n 0, 1) := by decide +kernel
theorem dX3_verdict_43 : decode cX3_verdict 43 = .ok (.getfield 80, 3) := by decide +kernel
theorem dX3_verdict_46 : decode cX3_verdict 46 = .ok (.invokevirtual 272, 3) := by decide +kernel
theorem dX3_verdict_49 : decode cX3_verdict 49 = .ok (.ifCond .eq 12, 3) := by decide +kernel
theorem dX3_verdict_52 : decode cX3_verdict 52 = .ok (.aload_n 3, 1) := by decide +kernel
theorem dX3_verdict_53 : decode cX3_verdict 53 = .ok (.aload 4, 2) := by decide +kernel
theorem dX3_verdict_55 : decode cX3_verdict 55 = .ok (.invokevirtual 285, 3) := by decide +kernel
theorem dX3_verdict_58 : decode cX3_verdict 58 = .ok (.ifCond .ne 5, 3) := by decide +kernel
theorem dX3_verdict_61 : decode cX3_verdict 61 = .ok (.iconst (-1), 1) := by decide +kernel
theorem dX3_verdict_62 : decode cX3_verdict 62 = .ok (.ireturn, 1) := by decide +kernel
theorem dX3_verdict_63 : decode cX3_verdict 63 = .ok (.aload_n 3, 1) := by decide +kernel
theorem dX3_verdict_64 : decode cX3_verdict 64 = .ok (.getfield 130, 3) := by decide +kernel
theorem dX3_verdict_67 : decode cX3_verdict 67 = .ok (.aload 4, 2) := by decide +kernel
theorem dX3_verdict_69 : decode cX3_verdict 69 = .ok (.getfield 130, 3) := by decide +kernel
theorem dX3_verdict_72 : decode cX3_verdict 72 = .ok (.if_icmp .ne 9, 3) := by decide +kernel
theorem dX3_verdict_75 : decode cX3_verdict 75 = .ok (.iload_n 1, 1) := by decide +kernel
theorem dX3_verdict_76 : decode cX3_verdict 76 = .ok (.iload_n 2, 1) := by decide +kernel
theorem dX3_verdict_77 : decode cX3_verdict 77 = .ok (.invokestatic 289, 3) := by decide +kernel
theorem dX3_verdict_80 : decode cX3_verdict 80 = .ok (.ireturn, 1) := by decide +kernel
theorem dX3_verdict_81 : decode cX3_verdict 81 = .ok (.aload_n 3, 1) := by decide +kernel
theorem dX3_verdict_82 : decode cX3_verdict 82 = .ok (.getfield 130, 3) := by decide +kernel
theorem dX3_verdict_85 : decode cX3_verdict 85 = .ok (.aload 4, 2) := by decide +kernel
theorem dX3_verdict_87 : decode cX3_verdict 87 = .ok (.getfield 130, 3) := by decide +kernel
theorem dX3_verdict_90 : decode cX3_verdict 90 = .ok (.if_icmp .ge 7, 3) := by decide +kernel
theorem dX3_verdict_93 : decode cX3_verdict 93 = .ok (.iload_n 1, 1) := by decide +kernel
theorem dX3_verdict_94 : decode cX3_verdict 94 = .ok (.goto 4, 3) := by decide +kernel
theorem dX3_verdict_97 : decode cX3_verdict 97 = .ok (.iload_n 2, 1) := by decide +kernel
theorem dX3_verdict_98 : decode cX3_verdict 98 = .ok (.ireturn, 1) := by decide +kernel
theorem dX3_ofPerson_0 : decode cX3_ofPerson 0 = .ok (.iload_n 1, 1) := by decide +kernel
theorem dX3_ofPerson_1 : decode cX3_ofPerson 1 = .ok (.invokestatic 86, 3) := by decide +kernel
theorem dX3_ofPerson_4 : decode cX3_ofPerson 4 = .ok (.iload_n 2, 1) := by decide +kernel
theorem dX3_ofPerson_5 : decode cX3_ofPerson 5 = .ok (.tableswitch 57 0 3 #[31, 38, 44, 50], 31) := by decide +kernel
theorem dX3_ofPerson_36 : decode cX3_ofPerson 36 = .ok (.aload_n 0, 1) := by decide +kernel
theorem dX3_ofPerson_37 : decode cX3_ofPerson 37 = .ok (.getfield 26, 3) := by decide +kernel
theorem dX3_ofPerson_40 : decode cX3_ofPerson 40 = .ok (.iload_n 1, 1) := by decide +kernel
theorem dX3_ofPerson_41 : decode cX3_ofPerson 41 = .ok (.iaload, 1) := by decide +kernel
theorem dX3_ofPerson_42 : decode cX3_ofPerson 42 = .ok (.ireturn, 1) := by decide +kernel
theorem dX3_ofPerson_43 : decode cX3_ofPerson 43 = .ok (.aload_n 0, 1) := by decide +kernel
theorem dX3_ofPerson_44 : decode cX3_ofPerson 44 = .ok (.iload_n 1, 1) := by decide +kernel
theorem dX3_ofPerson_45 : decode cX3_ofPerson 45 = .ok (.invokevirtual 295, 3) := by decide +kernel
theorem dX3_ofPerson_48 : decode cX3_ofPerson 48 = .ok (.ireturn, 1) := by decide +kernel
theorem dX3_ofPerson_49 : decode cX3_ofPerson 49 = .ok (.aload_n 0, 1) := by decide +kernel
theorem dX3_ofPerson_50 : decode cX3_ofPerson 50 = .ok (.iload_n 1, 1) := by decide +kernel
theorem dX3_ofPerson_51 : decode cX3_ofPerson 51 = .ok (.invokevirtual 298, 3) := by decide +kernel
theorem dX3_ofPerson_54 : decode cX3_ofPerson 54 = .ok (.ireturn, 1) := by decide +kernel
theorem dX3_ofPerson_55 : decode cX3_ofPerson 55 = .ok (.aload_n 0, 1) := by decide +kernel
theorem dX3_ofPerson_56 : decode cX3_ofPerson 56 = .ok (.getfield 33, 3) := by decide +kernel
theorem dX3_ofPerson_59 : decode cX3_ofPerson 59 = .ok (.iload_n 1, 1) := by decide +kernel
theorem dX3_ofPerson_60 : decode cX3_ofPerson 60 = .ok (.iaload, 1) := by decide +kernel
theorem dX3_ofPerson_61 : decode cX3_ofPerson 61 = .ok (.ireturn, 1) := by decide +kernel
theorem dX3_ofPerson_62 : decode cX3_ofPerson 62 = .ok (.new 89, 3) := by decide +kernel
theorem dX3_ofPerson_65 : decode cX3_ofPerson 65 = .ok (.dup, 1) := by decide +kernel
theorem dX3_ofPerson_66 : decode cX3_ofPerson 66 = .ok (.ldc_w 301, 3) := by decide +kernel
theorem dX3_ofPerson_69 : decode cX3_ofPerson 69 = .ok (.invokespecial 93, 3) := by decide +kernel
theorem dX3_ofPerson_72 : decode cX3_ofPerson 72 = .ok (.athrow, 1) := by decide +kernel
theorem dX3_ofStone_0 : decode cX3_ofStone 0 = .ok (.aload_n 0, 1) := by decide +kernel
theorem dX3_ofStone_1 : decode cX3_ofStone 1 = .ok (.iload_n 1, 1) := by decide +kernel
theorem dX3_ofStone_2 : decode cX3_ofStone 2 = .ok (.invokevirtual 209, 3) := by decide +kernel
theorem dX3_ofStone_5 : decode cX3_ofStone 5 = .ok (.astore_n 3, 1) := by decide +kernel
theorem dX3_ofStone_6 : decode cX3_ofStone 6 = .ok (.iload_n 2, 1) := by decide +kernel
theorem dX3_ofStone_7 : decode cX3_ofStone 7 = .ok (.tableswitch 85 0 7 #[45, 50, 55, 60, 65, 70, 75, 80], 45) := by decide +kernel
theorem dX3_ofStone_52 : decode cX3_ofStone 52 = .ok (.aload_n 3, 1) := by decide +kernel
theorem dX3_ofStone_53 : decode cX3_ofStone 53 = .ok (.getfield 222, 3) := by decide +kernel
theorem dX3_ofStone_56 : decode cX3_ofStone 56 = .ok (.ireturn, 1) := by decide +kernel
theorem dX3_ofStone_57 : decode cX3_ofStone 57 = .ok (.aload_n 3, 1) := by decide +kernel
theorem dX3_ofStone_58 : decode cX3_ofStone 58 = .ok (.invokevirtual 228, 3) := by decide +kernel
theorem dX3_ofStone_61 : decode cX3_ofStone 61 = .ok (.ireturn, 1) := by decide +kernel
theorem dX3_ofStone_62 : decode cX3_ofStone 62 = .ok (.aload_n 3, 1) := by decide +kernel
theorem dX3_ofStone_63 : decode cX3_ofStone 63 = .ok (.getfield 217, 3) := by decide +kernel
theorem dX3_ofStone_66 : decode cX3_ofStone 66 = .ok (.ireturn, 1) := by decide +kernel
theorem dX3_ofStone_67 : decode cX3_ofStone 67 = .ok (.aload_n 3, 1) := by decide +kernel
theorem dX3_ofStone_68 : decode cX3_ofStone 68 = .ok (.getfield 303, 3) := by decide +kernel
theorem dX3_ofStone_71 : decode cX3_ofStone 71 = .ok (.ireturn, 1) := by decide +kernel
theorem dX3_ofStone_72 : decode cX3_ofStone 72 = .ok (.aload_n 3, 1) := by decide +kernel
theorem dX3_ofStone_73 : decode cX3_ofStone 73 = .ok (.invokevirtual 306, 3) := by decide +kernel
theorem dX3_ofStone_76 : decode cX3_ofStone 76 = .ok (.ireturn, 1) := by decide +kernel
theorem dX3_ofStone_77 : decode cX3_ofStone 77 = .ok (.aload_n 3, 1) := by decide +kernel
theorem dX3_ofStone_78 : decode cX3_ofStone 78 = .ok (.getfield 260, 3) := by decide +kernel
theorem dX3_ofStone_81 : decode cX3_ofStone 81 = .ok (.ireturn, 1) := by decide +kernel
theorem dX3_ofStone_82 : decode cX3_ofStone 82 = .ok (.aload_n 3, 1) := by decide +kernel
theorem dX3_ofStone_83 : decode cX3_ofStone 83 = .ok (.getfield 236, 3) := by decide +kernel
theorem dX3_ofStone_86 : decode cX3_ofStone 86 = .ok (.ireturn, 1) := by decide +kernel
theorem dX3_ofStone_87 : decode cX3_ofStone 87 = .ok (.aload_n 3, 1) := by decide +kernel
theorem dX3_ofStone_88 : decode cX3_ofStone 88 = .ok (.getfield 309, 3) := by decide +kernel
theorem dX3_ofStone_91 : decode cX3_ofStone 91 = .ok (.ireturn, 1) := by decide +kernel
theorem dX3_ofStone_92 : decode cX3_ofStone 92 = .ok (.new 89, 3) := by decide +kernel
theorem dX3_ofStone_95 : decode cX3_ofStone 95 = .ok (.dup, 1) := by decide +kernel
theorem dX3_ofStone_96 : decode cX3_ofStone 96 = .ok (.ldc_w 312, 3) := by decide +kernel
theorem dX3_ofStone_99 : decode cX3_ofStone 99 = .ok (.invokespecial 93, 3) := by decide +kernel
theorem dX3_ofStone_102 : decode cX3_ofStone 102 = .ok (.athrow, 1) := by decide +kernel
theorem dX3_purse_0 : decode cX3_purse 0 = .ok (.iload_n 1, 1) := by decide +kernel
theorem dX3_purse_1 : decode cX3_purse 1 = .ok (.invokestatic 239, 3) := by decide +kernel
theorem dX3_purse_4 : decode cX3_purse 4 = .ok (.aload_n 0, 1) := by decide +kernel
theorem dX3_purse_5 : decode cX3_purse 5 = .ok (.getfield 36, 3) := by decide +kernel
theorem dX3_purse_8 : decode cX3_purse 8 = .ok (.iload_n 1, 1) := by decide +kernel
theorem dX3_purse_9 : decode cX3_purse 9 = .ok (.iaload, 1) := by decide +kernel
theorem dX3_purse_10 : decode cX3_purse 10 = .ok (.ireturn, 1) := by decide +kernel
theorem dX3_carats_0 : decode cX3_carats 0 = .ok (.iload_n 1, 1) := by decide +kernel
theorem dX3_carats_1 : decode cX3_carats 1 = .ok (.tableswitch 84 0 5 #[39, 50, 61, 67, 73, 79], 39) := by decide +kernel
theorem dX3_carats_40 : decode cX3_carats 40 = .ok (.aload_n 0, 1) := by decide +kernel
theorem dX3_carats_41 : decode cX3_carats 41 = .ok (.getfield 12, 3) := by decide +kernel
theorem dX3_carats_44 : decode cX3_carats 44 = .ok (.getfield 69, 3) := by decide +kernel
theorem dX3_carats_47 : decode cX3_carats 47 = .ok (.invokestatic 314, 3) := by decide +kernel
theorem dX3_carats_50 : decode cX3_carats 50 = .ok (.ireturn, 1) := by decide +kernel
theorem dX3_carats_51 : decode cX3_carats 51 = .ok (.aload_n 0, 1) := by decide +kernel
theorem dX3_carats_52 : decode cX3_carats 52 = .ok (.getfield 12, 3) := by decide +kernel
theorem dX3_carats_55 : decode cX3_carats 55 = .ok (.getfield 74, 3) := by decide +kernel
theorem dX3_carats_58 : decode cX3_carats 58 = .ok (.invokestatic 314, 3) := by decide +kernel
theorem dX3_carats_61 : decode cX3_carats 61 = .ok (.ireturn, 1) := by decide +kernel
theorem dX3_carats_62 : decode cX3_carats 62 = .ok (.aload_n 0, 1) := by decide +kernel
theorem dX3_carats_63 : decode cX3_carats 63 = .ok (.iconst 0, 1) := by decide +kernel
theorem dX3_carats_64 : decode cX3_carats 64 = .ok (.invokevirtual 317, 3) := by decide +kernel
theorem dX3_carats_67 : decode cX3_carats 67 = .ok (.ireturn, 1) := by decide +kernel
theorem dX3_carats_68 : decode cX3_carats 68 = .ok (.aload_n 0, 1) := by decide +kernel
theorem dX3_carats_69 : decode cX3_carats 69 = .ok (.iconst 1, 1) := by decide +kernel
theorem dX3_carats_70 : decode cX3_carats 70 = .ok (.invokevirtual 317, 3) := by decide +kernel
theorem dX3_carats_73 : decode cX3_carats 73 = .ok (.ireturn, 1) := by decide +kernel
theorem dX3_carats_74 : decode cX3_carats 74 = .ok (.aload_n 0, 1) := by decide +kernel
theorem dX3_carats_75 : decode cX3_carats 75 = .ok (.iconst 2, 1) := by decide +kernel
theorem dX3_carats_76 : decode cX3_carats 76 = .ok (.invokevirtual 317, 3) := by decide +kernel
theorem dX3_carats_79 : decode cX3_carats 79 = .ok (.ireturn, 1) := by decide +kernel
theorem dX3_carats_80 : decode cX3_carats 80 = .ok (.aload_n 0, 1) := by decide +kernel
theorem dX3_carats_81 : decode cX3_carats 81 = .ok (.invokevirtual 320, 3) := by decide +kernel
theorem dX3_carats_84 : decode cX3_carats 84 = .ok (.ireturn, 1) := by decide +kernel
theorem dX3_carats_85 : decode cX3_carats 85 = .ok (.new 89, 3) := by decide +kernel
theorem dX3_carats_88 : decode cX3_carats 88 = .ok (.dup, 1) := by decide +kernel
theorem dX3_carats_89 : decode cX3_carats 89 = .ok (.ldc_w 323, 3) := by decide +kernel
theorem dX3_carats_92 : decode cX3_carats 92 = .ok (.invokespecial 93, 3) := by decide +kernel
theorem dX3_carats_95 : decode cX3_carats 95 = .ok (.athrow, 1) := by decide +kernel
theorem dX3_plan_0 : decode cX3_plan 0 = .ok (.aload_n 0, 1) := by decide +kernel
theorem dX3_plan_1 : decode cX3_plan 1 = .ok (.iload_n 1, 1) := by decide +kernel
theorem dX3_plan_2 : decode cX3_plan 2 = .ok (.invokevirtual 112, 3) := by decide +kernel
theorem dX3_plan_5 : decode cX3_plan 5 = .ok (.pop, 1) := by decide +kernel
theorem dX3_plan_6 : decode cX3_plan 6 = .ok (.iload_n 2, 1) := by decide +kernel
theorem dX3_plan_7 : decode cX3_plan 7 = .ok (.iconst 0, 1) := by decide +kernel
theorem dX3_plan_8 : decode cX3_plan 8 = .ok (.iconst 3, 1) := by decide +kernel
theorem dX3_plan_9 : decode cX3_plan 9 = .ok (.invokestatic 55, 3) := by decide +kernel
theorem dX3_plan_12 : decode cX3_plan 12 = .ok (.aload_n 0, 1) := by decide +kernel
theorem dX3_plan_13 : decode cX3_plan 13 = .ok (.iload_n 1, 1) := by decide +kernel
theorem dX3_plan_14 : decode cX3_plan 14 = .ok (.invokevirtual 325, 3) := by decide +kernel
theorem dX3_plan_17 : decode cX3_plan 17 = .ok (.istore_n 3, 1) := by decide +kernel
theorem dX3_plan_18 : decode cX3_plan 18 = .ok (.aload_n 0, 1) := by decide +kernel
theorem dX3_plan_19 : decode cX3_plan 19 = .ok (.getfield 12, 3) := by decide +kernel
theorem dX3_plan_22 : decode cX3_plan 22 = .ok (.aload_n 0, 1) := by decide +kernel
theorem dX3_plan_23 : decode cX3_plan 23 = .ok (.getfield 48, 3) := by decide +kernel
theorem dX3_plan_26 : decode cX3_plan 26 = .ok (.iload_n 3, 1) := by decide +kernel
theorem dX3_plan_27 : decode cX3_plan 27 = .ok (.iload_n 2, 1) := by decide +kernel
theorem dX3_plan_28 : decode cX3_plan 28 = .ok (.iconst 0, 1) := by decide +kernel
theorem dX3_plan_29 : decode cX3_plan 29 = .ok (.invokestatic 328, 3) := by decide +kernel
theorem dX3_plan_32 : decode cX3_plan 32 = .ok (.ireturn, 1) := by decide +kernel
theorem dX3_planAnew_0 : decode cX3_planAnew 0 = .ok (.aload_n 0, 1) := by decide +kernel
theorem dX3_planAnew_1 : decode cX3_planAnew 1 = .ok (.iload_n 1, 1) := by decide +kernel
theorem dX3_planAnew_2 : decode cX3_planAnew 2 = .ok (.invokevirtual 112, 3) := by decide +kernel
theorem dX3_planAnew_5 : decode cX3_planAnew 5 = .ok (.pop, 1) := by decide +kernel
theorem dX3_planAnew_6 : decode cX3_planAnew 6 = .ok (.iload_n 2, 1) := by decide +kernel
theorem dX3_planAnew_7 : decode cX3_planAnew 7 = .ok (.iconst 0, 1) := by decide +kernel
theorem dX3_planAnew_8 : decode cX3_planAnew 8 = .ok (.iconst 3, 1) := by decide +kernel
theorem dX3_planAnew_9 : decode cX3_planAnew 9 = .ok (.invokestatic 55, 3) := by decide +kernel
theorem dX3_planAnew_12 : decode cX3_planAnew 12 = .ok (.aload_n 0, 1) := by decide +kernel
theorem dX3_planAnew_13 : decode cX3_planAnew 13 = .ok (.iload_n 1, 1) := by decide +kernel
theorem dX3_planAnew_14 : decode cX3_planAnew 14 = .ok (.invokevirtual 325, 3) := by decide +kernel
theorem dX3_planAnew_17 : decode cX3_planAnew 17 = .ok (.istore_n 3, 1) := by decide +kernel
theorem dX3_planAnew_18 : decode cX3_planAnew 18 = .ok (.aload_n 0, 1) := by decide +kernel
theorem dX3_planAnew_19 : decode cX3_planAnew 19 = .ok (.getfield 12, 3) := by decide +kernel
theorem dX3_planAnew_22 : decode cX3_planAnew 22 = .ok (.aload_n 0, 1) := by decide +kernel
theorem dX3_planAnew_23 : decode cX3_planAnew 23 = .ok (.getfield 48, 3) := by decide +kernel
theorem dX3_planAnew_26 : decode cX3_planAnew 26 = .ok (.iload_n 3, 1) := by decide +kernel
theorem dX3_planAnew_27 : decode cX3_planAnew 27 = .ok (.iload_n 2, 1) := by decide +kernel
theorem dX3_planAnew_28 : decode cX3_planAnew 28 = .ok (.invokestatic 332, 3) := by decide +kernel
theorem dX3_planAnew_31 : decode cX3_planAnew 31 = .ok (.ireturn, 1) := by decide +kernel
theorem dX3_needCell_0 : decode cX3_needCell 0 = .ok (.iload_n 0, 1) := by decide +kernel
theorem dX3_needCell_1 : decode cX3_needCell 1 = .ok (.invokestatic 336, 3) := by decide +kernel
theorem dX3_needCell_4 : decode cX3_needCell 4 = .ok (.ifCond .ne 14, 3) := by decide +kernel
theorem dX3_needCell_7 : decode cX3_needCell 7 = .ok (.new 339, 3) := by decide +kernel
theorem dX3_needCell_10 : decode cX3_needCell 10 = .ok (.dup, 1) := by decide +kernel
theorem dX3_needCell_11 : decode cX3_needCell 11 = .ok (.ldc_w 341, 3) := by decide +kernel
theorem dX3_needCell_14 : decode cX3_needCell 14 = .ok (.invokespecial 343, 3) := by decide +kernel
theorem dX3_needCell_17 : decode cX3_needCell 17 = .ok (.athrow, 1) := by decide +kernel
theorem dX3_needCell_18 : decode cX3_needCell 18 = .ok (.return_, 1) := by decide +kernel
theorem dX3_needPerson_0 : decode cX3_needPerson 0 = .ok (.iload_n 0, 1) := by decide +kernel
theorem dX3_needPerson_1 : decode cX3_needPerson 1 = .ok (.ifCond .lt 9, 3) := by decide +kernel
theorem dX3_needPerson_4 : decode cX3_needPerson 4 = .ok (.iload_n 0, 1) := by decide +kernel
theorem dX3_needPerson_5 : decode cX3_needPerson 5 = .ok (.bipush 8, 2) := by decide +kernel
theorem dX3_needPerson_7 : decode cX3_needPerson 7 = .ok (.if_icmp .lt 14, 3) := by decide +kernel
theorem dX3_needPerson_10 : decode cX3_needPerson 10 = .ok (.new 339, 3) := by decide +kernel
theorem dX3_needPerson_13 : decode cX3_needPerson 13 = .ok (.dup, 1) := by decide +kernel
theorem dX3_needPerson_14 : decode cX3_needPerson 14 = .ok (.ldc_w 344, 3) := by decide +kernel
theorem dX3_needPerson_17 : decode cX3_needPerson 17 = .ok (.invokespecial 343, 3) := by decide +kernel
theorem dX3_needPerson_20 : decode cX3_needPerson 20 = .ok (.athrow, 1) := by decide +kernel
theorem dX3_needPerson_21 : decode cX3_needPerson 21 = .ok (.return_, 1) := by decide +kernel
theorem dX3_needBuyer_0 : decode cX3_needBuyer 0 = .ok (.iload_n 0, 1) := by decide +kernel
theorem dX3_needBuyer_1 : decode cX3_needBuyer 1 = .ok (.ifCond .lt 8, 3) := by decide +kernel
theorem dX3_needBuyer_4 : decode cX3_needBuyer 4 = .ok (.iload_n 0, 1) := by decide +kernel
theorem dX3_needBuyer_5 : decode cX3_needBuyer 5 = .ok (.iconst 5, 1) := by decide +kernel
theorem dX3_needBuyer_6 : decode cX3_needBuyer 6 = .ok (.if_icmp .lt 14, 3) := by decide +kernel
theorem dX3_needBuyer_9 : decode cX3_needBuyer 9 = .ok (.new 339, 3) := by decide +kernel
theorem dX3_needBuyer_12 : decode cX3_needBuyer 12 = .ok (.dup, 1) := by decide +kernel
theorem dX3_needBuyer_13 : decode cX3_needBuyer 13 = .ok (.ldc_w 346, 3) := by decide +kernel
theorem dX3_needBuyer_16 : decode cX3_needBuyer 16 = .ok (.invokespecial 343, 3) := by decide +kernel
theorem dX3_needBuyer_19 : decode cX3_needBuyer 19 = .ok (.athrow, 1) := by decide +kernel
theorem dX3_needBuyer_20 : decode cX3_needBuyer 20 = .ok (.return_, 1) := by decide +kernel
theorem dX3_claimAt_0 : decode cX3_claimAt 0 = .ok (.iload_n 1, 1) := by decide +kernel
theorem dX3_claimAt_1 : decode cX3_claimAt 1 = .ok (.ifCond .lt 14, 3) := by decide +kernel
theorem dX3_claimAt_4 : decode cX3_claimAt 4 = .ok (.iload_n 1, 1) := by decide +kernel
theorem dX3_claimAt_5 : decode cX3_claimAt 5 = .ok (.aload_n 0, 1) := by decide +kernel
theorem dX3_claimAt_6 : decode cX3_claimAt 6 = .ok (.getfield 19, 3) := by decide +kernel
theorem dX3_claimAt_9 : decode cX3_claimAt 9 = .ok (.invokevirtual 94, 3) := by decide +kernel
theorem dX3_claimAt_12 : decode cX3_claimAt 12 = .ok (.if_icmp .lt 14, 3) := by decide +kernel
theorem dX3_claimAt_15 : decode cX3_claimAt 15 = .ok (.new 339, 3) := by decide +kernel
theorem dX3_claimAt_18 : decode cX3_claimAt 18 = .ok (.dup, 1) := by decide +kernel
theorem dX3_claimAt_19 : decode cX3_claimAt 19 = .ok (.ldc_w 348, 3) := by decide +kernel
theorem dX3_claimAt_22 : decode cX3_claimAt 22 = .ok (.invokespecial 343, 3) := by decide +kernel
theorem dX3_claimAt_25 : decode cX3_claimAt 25 = .ok (.athrow, 1) := by decide +kernel
theorem dX3_claimAt_26 : decode cX3_claimAt 26 = .ok (.aload_n 0, 1) := by decide +kernel
theorem dX3_claimAt_27 : decode cX3_claimAt 27 = .ok (.getfield 19, 3) := by decide +kernel
theorem dX3_claimAt_30 : decode cX3_claimAt 30 = .ok (.iload_n 1, 1) := by decide +kernel
theorem dX3_claimAt_31 : decode cX3_claimAt 31 = .ok (.invokevirtual 350, 3) := by decide +kernel
theorem dX3_claimAt_34 : decode cX3_claimAt 34 = .ok (.checkcast 103, 3) := by decide +kernel
theorem dX3_claimAt_37 : decode cX3_claimAt 37 = .ok (.areturn, 1) := by decide +kernel
theorem dX3_stoneAt_0 : decode cX3_stoneAt 0 = .ok (.iload_n 1, 1) := by decide +kernel
theorem dX3_stoneAt_1 : decode cX3_stoneAt 1 = .ok (.ifCond .lt 14, 3) := by decide +kernel
theorem dX3_stoneAt_4 : decode cX3_stoneAt 4 = .ok (.iload_n 1, 1) := by decide +kernel
theorem dX3_stoneAt_5 : decode cX3_stoneAt 5 = .ok (.aload_n 0, 1) := by decide +kernel
theorem dX3_stoneAt_6 : decode cX3_stoneAt 6 = .ok (.getfield 23, 3) := by decide +kernel
theorem dX3_stoneAt_9 : decode cX3_stoneAt 9 = .ok (.invokevirtual 94, 3) := by decide +kernel
theorem dX3_stoneAt_12 : decode cX3_stoneAt 12 = .ok (.if_icmp .lt 14, 3) := by decide +kernel
theorem dX3_stoneAt_15 : decode cX3_stoneAt 15 = .ok (.new 339, 3) := by decide +kernel
theorem dX3_stoneAt_18 : decode cX3_stoneAt 18 = .ok (.dup, 1) := by decide +kernel
theorem dX3_stoneAt_19 : decode cX3_stoneAt 19 = .ok (.ldc_w 354, 3) := by decide +kernel
theorem dX3_stoneAt_22 : decode cX3_stoneAt 22 = .ok (.invokespecial 343, 3) := by decide +kernel
theorem dX3_stoneAt_25 : decode cX3_stoneAt 25 = .ok (.athrow, 1) := by decide +kernel
theorem dX3_stoneAt_26 : decode cX3_stoneAt 26 = .ok (.aload_n 0, 1) := by decide +kernel
theorem dX3_stoneAt_27 : decode cX3_stoneAt 27 = .ok (.getfield 23, 3) := by decide +kernel
theorem dX3_stoneAt_30 : decode cX3_stoneAt 30 = .ok (.iload_n 1, 1) := by decide +kernel
theorem dX3_stoneAt_31 : decode cX3_stoneAt 31 = .ok (.invokevirtual 350, 3) := by decide +kernel
theorem dX3_stoneAt_34 : decode cX3_stoneAt 34 = .ok (.checkcast 218, 3) := by decide +kernel
theorem dX3_stoneAt_37 : decode cX3_stoneAt 37 = .ok (.areturn, 1) := by decide +kernel
theorem dX3_needRange_0 : decode cX3_needRange 0 = .ok (.iload_n 0, 1) := by decide +kernel
theorem dX3_needRange_1 : decode cX3_needRange 1 = .ok (.iload_n 1, 1) := by decide +kernel
theorem dX3_needRange_2 : decode cX3_needRange 2 = .ok (.if_icmp .lt 8, 3) := by decide +kernel
theorem dX3_needRange_5 : decode cX3_needRange 5 = .ok (.iload_n 0, 1) := by decide +kernel
theorem dX3_needRange_6 : decode cX3_needRange 6 = .ok (.iload_n 2, 1) := by decide +kernel
theorem dX3_needRange_7 : decode cX3_needRange 7 = .ok (.if_icmp .le 14, 3) := by decide +kernel
theorem dX3_needRange_10 : decode cX3_needRange 10 = .ok (.new 89, 3) := by decide +kernel
theorem dX3_needRange_13 : decode cX3_needRange 13 = .ok (.dup, 1) := by decide +kernel
theorem dX3_needRange_14 : decode cX3_needRange 14 = .ok (.ldc_w 356, 3) := by decide +kernel
theorem dX3_needRange_17 : decode cX3_needRange 17 = .ok (.invokespecial 93, 3) := by decide +kernel
theorem dX3_needRange_20 : decode cX3_needRange 20 = .ok (.athrow, 1) := by decide +kernel
theorem dX3_needRange_21 : decode cX3_needRange 21 = .ok (.return_, 1) := by decide +kernel
theorem dX3_needFree_0 : decode cX3_needFree 0 = .ok (.aload_n 0, 1) := by decide +kernel
theorem dX3_needFree_1 : decode cX3_needFree 1 = .ok (.iload_n 1, 1) := by decide +kernel
theorem dX3_needFree_2 : decode cX3_needFree 2 = .ok (.invokevirtual 295, 3) := by decide +kernel
theorem dX3_needFree_5 : decode cX3_needFree 5 = .ok (.ifCond .le 14, 3) := by decide +kernel
theorem dX3_needFree_8 : decode cX3_needFree 8 = .ok (.new 62, 3) := by decide +kernel
theorem dX3_needFree_11 : decode cX3_needFree 11 = .ok (.dup, 1) := by decide +kernel
theorem dX3_needFree_12 : decode cX3_needFree 12 = .ok (.ldc_w 358, 3) := by decide +kernel
theorem dX3_needFree_15 : decode cX3_needFree 15 = .ok (.invokespecial 66, 3) := by decide +kernel
theorem dX3_needFree_18 : decode cX3_needFree 18 = .ok (.athrow, 1) := by decide +kernel
theorem dX3_needFree_19 : decode cX3_needFree 19 = .ok (.return_, 1) := by decide +kernel
theorem dX3_claimAtHand_0 : decode cX3_claimAtHand 0 = .ok (.aload_n 0, 1) := by decide +kernel
theorem dX3_claimAtHand_1 : decode cX3_claimAtHand 1 = .ok (.iload_n 1, 1) := by decide +kernel
theorem dX3_claimAtHand_2 : decode cX3_claimAtHand 2 = .ok (.invokevirtual 112, 3) := by decide +kernel
theorem dX3_claimAtHand_5 : decode cX3_claimAtHand 5 = .ok (.astore 4, 2) := by decide +kernel
theorem dX3_claimAtHand_7 : decode cX3_claimAtHand 7 = .ok (.iload_n 2, 1) := by decide +kernel
theorem dX3_claimAtHand_8 : decode cX3_claimAtHand 8 = .ok (.invokestatic 86, 3) := by decide +kernel
theorem dX3_claimAtHand_11 : decode cX3_claimAtHand 11 = .ok (.iload_n 3, 1) := by decide +kernel
theorem dX3_claimAtHand_12 : decode cX3_claimAtHand 12 = .ok (.invokestatic 51, 3) := by decide +kernel
theorem dX3_claimAtHand_15 : decode cX3_claimAtHand 15 = .ok (.aload 4, 2) := by decide +kernel
theorem dX3_claimAtHand_17 : decode cX3_claimAtHand 17 = .ok (.iload_n 2, 1) := by decide +kernel
theorem dX3_claimAtHand_18 : decode cX3_claimAtHand 18 = .ok (.invokevirtual 116, 3) := by decide +kernel
theorem dX3_claimAtHand_21 : decode cX3_claimAtHand 21 = .ok (.ifCond .ne 14, 3) := by decide +kernel
theorem dX3_claimAtHand_24 : decode cX3_claimAtHand 24 = .ok (.new 62, 3) := by decide +kernel
theorem dX3_claimAtHand_27 : decode cX3_claimAtHand 27 = .ok (.dup, 1) := by decide +kernel
theorem dX3_claimAtHand_28 : decode cX3_claimAtHand 28 = .ok (.ldc_w 360, 3) := by decide +kernel
theorem dX3_claimAtHand_31 : decode cX3_claimAtHand 31 = .ok (.invokespecial 66, 3) := by decide +kernel
theorem dX3_claimAtHand_34 : decode cX3_claimAtHand 34 = .ok (.athrow, 1) := by decide +kernel
theorem dX3_claimAtHand_35 : decode cX3_claimAtHand 35 = .ok (.aload_n 0, 1) := by decide +kernel
theorem dX3_claimAtHand_36 : decode cX3_claimAtHand 36 = .ok (.iload_n 2, 1) := by decide +kernel
theorem dX3_claimAtHand_37 : decode cX3_claimAtHand 37 = .ok (.invokevirtual 100, 3) := by decide +kernel
theorem dX3_claimAtHand_40 : decode cX3_claimAtHand 40 = .ok (.aload_n 0, 1) := by decide +kernel
theorem dX3_claimAtHand_41 : decode cX3_claimAtHand 41 = .ok (.iload_n 3, 1) := by decide +kernel
theorem dX3_claimAtHand_42 : decode cX3_claimAtHand 42 = .ok (.invokevirtual 189, 3) := by decide +kernel
theorem dX3_claimAtHand_45 : decode cX3_claimAtHand 45 = .ok (.iload_n 1, 1) := by decide +kernel
theorem dX3_claimAtHand_46 : decode cX3_claimAtHand 46 = .ok (.if_icmp .eq 14, 3) := by decide +kernel
theorem dX3_claimAtHand_49 : decode cX3_claimAtHand 49 = .ok (.new 62, 3) := by decide +kernel
theorem dX3_claimAtHand_52 : decode cX3_claimAtHand 52 = .ok (.dup, 1) := by decide +kernel
theorem dX3_claimAtHand_53 : decode cX3_claimAtHand 53 = .ok (.ldc_w 362, 3) := by decide +kernel
theorem dX3_claimAtHand_56 : decode cX3_claimAtHand 56 = .ok (.invokespecial 66, 3) := by decide +kernel
theorem dX3_claimAtHand_59 : decode cX3_claimAtHand 59 = .ok (.athrow, 1) := by decide +kernel
theorem dX3_claimAtHand_60 : decode cX3_claimAtHand 60 = .ok (.aload 4, 2) := by decide +kernel
theorem dX3_claimAtHand_62 : decode cX3_claimAtHand 62 = .ok (.areturn, 1) := by decide +kernel
theorem dX3_needOfPerson_0 : decode cX3_needOfPerson 0 = .ok (.aload_n 0, 1) := by decide +kernel
theorem dX3_needOfPerson_1 : decode cX3_needOfPerson 1 = .ok (.invokevirtual 364, 3) := by decide +kernel
theorem dX3_needOfPerson_4 : decode cX3_needOfPerson 4 = .ok (.iconst 1, 1) := by decide +kernel
theorem dX3_needOfPerson_5 : decode cX3_needOfPerson 5 = .ok (.if_icmp .eq 14, 3) := by decide +kernel
theorem dX3_needOfPerson_8 : decode cX3_needOfPerson 8 = .ok (.new 62, 3) := by decide +kernel
theorem dX3_needOfPerson_11 : decode cX3_needOfPerson 11 = .ok (.dup, 1) := by decide +kernel
theorem dX3_needOfPerson_12 : decode cX3_needOfPerson 12 = .ok (.ldc_w 367, 3) := by decide +kernel
theorem dX3_needOfPerson_15 : decode cX3_needOfPerson 15 = .ok (.invokespecial 66, 3) := by decide +kernel
theorem dX3_needOfPerson_18 : decode cX3_needOfPerson 18 = .ok (.athrow, 1) := by decide +kernel
theorem dX3_needOfPerson_19 : decode cX3_needOfPerson 19 = .ok (.return_, 1) := by decide +kernel
theorem dX3_isCell_0 : decode cX3_isCell 0 = .ok (.iload_n 0, 1) := by decide +kernel
theorem dX3_isCell_1 : decode cX3_isCell 1 = .ok (.ifCond .lt 13, 3) := by decide +kernel
theorem dX3_isCell_4 : decode cX3_isCell 4 = .ok (.iload_n 0, 1) := by decide +kernel
theorem dX3_isCell_5 : decode cX3_isCell 5 = .ok (.bipush 100, 2) := by decide +kernel
theorem dX3_isCell_7 : decode cX3_isCell 7 = .ok (.if_icmp .ge 7, 3) := by decide +kernel
theorem dX3_isCell_10 : decode cX3_isCell 10 = .ok (.iconst 1, 1) := by decide +kernel
theorem dX3_isCell_11 : decode cX3_isCell 11 = .ok (.goto 4, 3) := by decide +kernel
theorem dX3_isCell_14 : decode cX3_isCell 14 = .ok (.iconst 0, 1) := by decide +kernel
theorem dX3_isCell_15 : decode cX3_isCell 15 = .ok (.ireturn, 1) := by decide +kernel
theorem dX3_oneIf_0 : decode cX3_oneIf 0 = .ok (.iload_n 0, 1) := by decide +kernel
theorem dX3_oneIf_1 : decode cX3_oneIf 1 = .ok (.ifCond .eq 7, 3) := by decide +kernel
theorem dX3_oneIf_4 : decode cX3_oneIf 4 = .ok (.iconst 1, 1) := by decide +kernel
theorem dX3_oneIf_5 : decode cX3_oneIf 5 = .ok (.goto 4, 3) := by decide +kernel
theorem dX3_oneIf_8 : decode cX3_oneIf 8 = .ok (.iconst 0, 1) := by decide +kernel
theorem dX3_oneIf_9 : decode cX3_oneIf 9 = .ok (.ireturn, 1) := by decide +kernel
theorem dX3_sum_0 : decode cX3_sum 0 = .ok (.iconst 0, 1) := by decide +kernel
theorem dX3_sum_1 : decode cX3_sum 1 = .ok (.istore_n 1, 1) := by decide +kernel
theorem dX3_sum_2 : decode cX3_sum 2 = .ok (.iconst 0, 1) := by decide +kernel
theorem dX3_sum_3 : decode cX3_sum 3 = .ok (.istore_n 2, 1) := by decide +kernel
theorem dX3_sum_4 : decode cX3_sum 4 = .ok (.iload_n 2, 1) := by decide +kernel
theorem dX3_sum_5 : decode cX3_sum 5 = .ok (.aload_n 0, 1) := by decide +kernel
theorem dX3_sum_6 : decode cX3_sum 6 = .ok (.arraylength, 1) := by decide +kernel
theorem dX3_sum_7 : decode cX3_sum 7 = .ok (.if_icmp .ge 15, 3) := by decide +kernel
theorem dX3_sum_10 : decode cX3_sum 10 = .ok (.iload_n 1, 1) := by decide +kernel
theorem dX3_sum_11 : decode cX3_sum 11 = .ok (.aload_n 0, 1) := by decide +kernel
theorem dX3_sum_12 : decode cX3_sum 12 = .ok (.iload_n 2, 1) := by decide +kernel
theorem dX3_sum_13 : decode cX3_sum 13 = .ok (.iaload, 1) := by decide +kernel
theorem dX3_sum_14 : decode cX3_sum 14 = .ok (.iadd, 1) := by decide +kernel
theorem dX3_sum_15 : decode cX3_sum 15 = .ok (.istore_n 1, 1) := by decide +kernel
theorem dX3_sum_16 : decode cX3_sum 16 = .ok (.iinc 2 1, 3) := by decide +kernel
theorem dX3_sum_19 : decode cX3_sum 19 = .ok (.goto (-15), 3) := by decide +kernel
theorem dX3_sum_22 : decode cX3_sum 22 = .ok (.iload_n 1, 1) := by decide +kernel
theorem dX3_sum_23 : decode cX3_sum 23 = .ok (.ireturn, 1) := by decide +kernel
theorem dX3_isNight_0 : decode cX3_isNight 0 = .ok (.aload_n 0, 1) := by decide +kernel
theorem dX3_isNight_1 : decode cX3_isNight 1 = .ok (.getfield 80, 3) := by decide +kernel
theorem dX3_isNight_4 : decode cX3_isNight 4 = .ok (.bipush 24, 2) := by decide +kernel
theorem dX3_isNight_6 : decode cX3_isNight 6 = .ok (.irem, 1) := by decide +kernel
theorem dX3_isNight_7 : decode cX3_isNight 7 = .ok (.istore_n 1, 1) := by decide +kernel
theorem dX3_isNight_8 : decode cX3_isNight 8 = .ok (.iload_n 1, 1) := by decide +kernel
theorem dX3_isNight_9 : decode cX3_isNight 9 = .ok (.bipush 21, 2) := by decide +kernel
theorem dX3_isNight_11 : decode cX3_isNight 11 = .ok (.if_icmp .ge 8, 3) := by decide +kernel
theorem dX3_isNight_14 : decode cX3_isNight 14 = .ok (.iload_n 1, 1) := by decide +kernel
theorem dX3_isNight_15 : decode cX3_isNight 15 = .ok (.iconst 4, 1) := by decide +kernel
theorem dX3_isNight_16 : decode cX3_isNight 16 = .ok (.if_icmp .gt 7, 3) := by decide +kernel
theorem dX3_isNight_19 : decode cX3_isNight 19 = .ok (.iconst 1, 1) := by decide +kernel
theorem dX3_isNight_20 : decode cX3_isNight 20 = .ok (.goto 4, 3) := by decide +kernel
theorem dX3_isNight_23 : decode cX3_isNight 23 = .ok (.iconst 0, 1) := by decide +kernel
theorem dX3_isNight_24 : decode cX3_isNight 24 = .ok (.ireturn, 1) := by decide +kernel
theorem dX3_hoursBarred_0 : decode cX3_hoursBarred 0 = .ok (.iconst 0, 1) := by decide +kernel
theorem dX3_hoursBarred_1 : decode cX3_hoursBarred 1 = .ok (.aload_n 0, 1) := by decide +kernel
theorem dX3_hoursBarred_2 : decode cX3_hoursBarred 2 = .ok (.getfield 30, 3) := by decide +kernel
theorem dX3_hoursBarred_5 : decode cX3_hoursBarred 5 = .ok (.iload_n 1, 1) := by decide +kernel
theorem dX3_hoursBarred_6 : decode cX3_hoursBarred 6 = .ok (.iaload, 1) := by decide +kernel
theorem dX3_hoursBarred_7 : decode cX3_hoursBarred 7 = .ok (.aload_n 0, 1) := by decide +kernel
theorem dX3_hoursBarred_8 : decode cX3_hoursBarred 8 = .ok (.getfield 80, 3) := by decide +kernel
theorem dX3_hoursBarred_11 : decode cX3_hoursBarred 11 = .ok (.isub, 1) := by decide +kernel
theorem dX3_hoursBarred_12 : decode cX3_hoursBarred 12 = .ok (.invokestatic 369, 3) := by decide +kernel
theorem dX3_hoursBarred_15 : decode cX3_hoursBarred 15 = .ok (.ireturn, 1) := by decide +kernel
theorem dX3_holderOf_0 : decode cX3_holderOf 0 = .ok (.iconst (-1), 1) := by decide +kernel
theorem dX3_holderOf_1 : decode cX3_holderOf 1 = .ok (.istore_n 2, 1) := by decide +kernel
theorem dX3_holderOf_2 : decode cX3_holderOf 2 = .ok (.iconst 0, 1) := by decide +kernel
theorem dX3_holderOf_3 : decode cX3_holderOf 3 = .ok (.istore_n 3, 1) := by decide +kernel
theorem dX3_holderOf_4 : decode cX3_holderOf 4 = .ok (.iconst 0, 1) := by decide +kernel
theorem dX3_holderOf_5 : decode cX3_holderOf 5 = .ok (.istore 4, 2) := by decide +kernel
theorem dX3_holderOf_7 : decode cX3_holderOf 7 = .ok (.iload 4, 2) := by decide +kernel
theorem dX3_holderOf_9 : decode cX3_holderOf 9 = .ok (.aload_n 0, 1) := by decide +kernel
theorem dX3_holderOf_10 : decode cX3_holderOf 10 = .ok (.getfield 19, 3) := by decide +kernel
theorem dX3_holderOf_13 : decode cX3_holderOf 13 = .ok (.invokevirtual 94, 3) := by decide +kernel
theorem dX3_holderOf_16 : decode cX3_holderOf 16 = .ok (.if_icmp .ge 67, 3) := by decide +kernel
theorem dX3_holderOf_19 : decode cX3_holderOf 19 = .ok (.aload_n 0, 1) := by decide +kernel
theorem dX3_holderOf_20 : decode cX3_holderOf 20 = .ok (.getfield 19, 3) := by decide +kernel
theorem dX3_holderOf_23 : decode cX3_holderOf 23 = .ok (.iload 4, 2) := by decide +kernel
theorem dX3_holderOf_25 : decode cX3_holderOf 25 = .ok (.invokevirtual 350, 3) := by decide +kernel
theorem dX3_holderOf_28 : decode cX3_holderOf 28 = .ok (.checkcast 103, 3) := by decide +kernel
theorem dX3_holderOf_31 : decode cX3_holderOf 31 = .ok (.astore 5, 2) := by decide +kernel
theorem dX3_holderOf_33 : decode cX3_holderOf 33 = .ok (.aload 5, 2) := by decide +kernel
theorem dX3_holderOf_35 : decode cX3_holderOf 35 = .ok (.iload_n 1, 1) := by decide +kernel
theorem dX3_holderOf_36 : decode cX3_holderOf 36 = .ok (.invokevirtual 372, 3) := by decide +kernel
theorem dX3_holderOf_39 : decode cX3_holderOf 39 = .ok (.ifCond .eq 38, 3) := by decide +kernel
theorem dX3_holderOf_42 : decode cX3_holderOf 42 = .ok (.aload 5, 2) := by decide +kernel
theorem dX3_holderOf_44 : decode cX3_holderOf 44 = .ok (.aload_n 0, 1) := by decide +kernel
theorem dX3_holderOf_45 : decode cX3_holderOf 45 = .ok (.getfield 80, 3) := by decide +kernel
theorem dX3_holderOf_48 : decode cX3_holderOf 48 = .ok (.invokevirtual 272, 3) := by decide +kernel
theorem dX3_holderOf_51 : decode cX3_holderOf 51 = .ok (.ifCond .eq 26, 3) := by decide +kernel
theorem dX3_holderOf_54 : decode cX3_holderOf 54 = .ok (.iload_n 2, 1) := by decide +kernel
theorem dX3_holderOf_55 : decode cX3_holderOf 55 = .ok (.iconst (-1), 1) := by decide +kernel
theorem dX3_holderOf_56 : decode cX3_holderOf 56 = .ok (.if_icmp .eq 12, 3) := by decide +kernel
theorem dX3_holderOf_59 : decode cX3_holderOf 59 = .ok (.aload 5, 2) := by decide +kernel
theorem dX3_holderOf_61 : decode cX3_holderOf 61 = .ok (.getfield 130, 3) := by decide +kernel
theorem dX3_holderOf_64 : decode cX3_holderOf 64 = .ok (.iload_n 3, 1) := by decide +kernel
theorem dX3_holderOf_65 : decode cX3_holderOf 65 = .ok (.if_icmp .ge 12, 3) := by decide +kernel
theorem dX3_holderOf_68 : decode cX3_holderOf 68 = .ok (.iload 4, 2) := by decide +kernel
theorem dX3_holderOf_70 : decode cX3_holderOf 70 = .ok (.istore_n 2, 1) := by decide +kernel
theorem dX3_holderOf_71 : decode cX3_holderOf 71 = .ok (.aload 5, 2) := by decide +kernel
theorem dX3_holderOf_73 : decode cX3_holderOf 73 = .ok (.getfield 130, 3) := by decide +kernel
theorem dX3_holderOf_76 : decode cX3_holderOf 76 = .ok (.istore_n 3, 1) := by decide +kernel
theorem dX3_holderOf_77 : decode cX3_holderOf 77 = .ok (.iinc 4 1, 3) := by decide +kernel
theorem dX3_holderOf_80 : decode cX3_holderOf 80 = .ok (.goto (-73), 3) := by decide +kernel
theorem dX3_holderOf_83 : decode cX3_holderOf 83 = .ok (.iload_n 2, 1) := by decide +kernel
theorem dX3_holderOf_84 : decode cX3_holderOf 84 = .ok (.ireturn, 1) := by decide +kernel
theorem dX3_cellsHeldBy_0 : decode cX3_cellsHeldBy 0 = .ok (.iconst 0, 1) := by decide +kernel
theorem dX3_cellsHeldBy_1 : decode cX3_cellsHeldBy 1 = .ok (.istore_n 2, 1) := by decide +kernel
theorem dX3_cellsHeldBy_2 : decode cX3_cellsHeldBy 2 = .ok (.iconst 0, 1) := by decide +kernel
theorem dX3_cellsHeldBy_3 : decode cX3_cellsHeldBy 3 = .ok (.istore_n 3, 1) := by decide +kernel
theorem dX3_cellsHeldBy_4 : decode cX3_cellsHeldBy 4 = .ok (.iload_n 3, 1) := by decide +kernel
theorem dX3_cellsHeldBy_5 : decode cX3_cellsHeldBy 5 = .ok (.bipush 100, 2) := by decide +kernel
theorem dX3_cellsHeldBy_7 : decode cX3_cellsHeldBy 7 = .ok (.if_icmp .ge 41, 3) := by decide +kernel
theorem dX3_cellsHeldBy_10 : decode cX3_cellsHeldBy 10 = .ok (.iload_n 2, 1) := by decide +kernel
theorem dX3_cellsHeldBy_11 : decode cX3_cellsHeldBy 11 = .ok (.aload_n 0, 1) := by decide +kernel
theorem dX3_cellsHeldBy_12 : decode cX3_cellsHeldBy 12 = .ok (.iload_n 1, 1) := by decide +kernel
theorem dX3_cellsHeldBy_13 : decode cX3_cellsHeldBy 13 = .ok (.invokevirtual 112, 3) := by decide +kernel
theorem dX3_cellsHeldBy_16 : decode cX3_cellsHeldBy 16 = .ok (.iload_n 3, 1) := by decide +kernel
theorem dX3_cellsHeldBy_17 : decode cX3_cellsHeldBy 17 = .ok (.invokevirtual 372, 3) := by decide +kernel
theorem dX3_cellsHeldBy_20 : decode cX3_cellsHeldBy 20 = .ok (.ifCond .eq 16, 3) := by decide +kernel
theorem dX3_cellsHeldBy_23 : decode cX3_cellsHeldBy 23 = .ok (.aload_n 0, 1) := by decide +kernel
theorem dX3_cellsHeldBy_24 : decode cX3_cellsHeldBy 24 = .ok (.iload_n 3, 1) := by decide +kernel
theorem dX3_cellsHeldBy_25 : decode cX3_cellsHeldBy 25 = .ok (.invokevirtual 189, 3) := by decide +kernel
theorem dX3_cellsHeldBy_28 : decode cX3_cellsHeldBy 28 = .ok (.iload_n 1, 1) := by decide +kernel
theorem dX3_cellsHeldBy_29 : decode cX3_cellsHeldBy 29 = .ok (.if_icmp .ne 7, 3) := by decide +kernel
theorem dX3_cellsHeldBy_32 : decode cX3_cellsHeldBy 32 = .ok (.iconst 1, 1) := by decide +kernel
theorem dX3_cellsHeldBy_33 : decode cX3_cellsHeldBy 33 = .ok (.goto 4, 3) := by decide +kernel
theorem dX3_cellsHeldBy_36 : decode cX3_cellsHeldBy 36 = .ok (.iconst 0, 1) := by decide +kernel
theorem dX3_cellsHeldBy_37 : decode cX3_cellsHeldBy 37 = .ok (.invokestatic 266, 3) := by decide +kernel
theorem dX3_cellsHeldBy_40 : decode cX3_cellsHeldBy 40 = .ok (.iadd, 1) := by decide +kernel
theorem dX3_cellsHeldBy_41 : decode cX3_cellsHeldBy 41 = .ok (.istore_n 2, 1) := by decide +kernel
theorem dX3_cellsHeldBy_42 : decode cX3_cellsHeldBy 42 = .ok (.iinc 3 1, 3) := by decide +kernel
theorem dX3_cellsHeldBy_45 : decode cX3_cellsHeldBy 45 = .ok (.goto (-41), 3) := by decide +kernel
theorem dX3_cellsHeldBy_48 : decode cX3_cellsHeldBy 48 = .ok (.iload_n 2, 1) := by decide +kernel
theorem dX3_cellsHeldBy_49 : decode cX3_cellsHeldBy 49 = .ok (.ireturn, 1) := by decide +kernel
theorem dX3_work_0 : decode cX3_work 0 = .ok (.aload_n 1, 1) := by decide +kernel
theorem dX3_work_1 : decode cX3_work 1 = .ok (.aload_n 0, 1) := by decide +kernel
theorem dX3_work_2 : decode cX3_work 2 = .ok (.getfield 80, 3) := by decide +kernel
theorem dX3_work_5 : decode cX3_work 5 = .ok (.putfield 375, 3) := by decide +kernel
theorem dX3_work_8 : decode cX3_work 8 = .ok (.aload_n 0, 1) := by decide +kernel
theorem dX3_work_9 : decode cX3_work 9 = .ok (.getfield 12, 3) := by decide +kernel
theorem dX3_work_12 : decode cX3_work 12 = .ok (.getfield 172, 3) := by decide +kernel
theorem dX3_work_15 : decode cX3_work 15 = .ok (.iload_n 3, 1) := by decide +kernel
theorem dX3_work_16 : decode cX3_work 16 = .ok (.iconst (-1), 1) := by decide +kernel
theorem dX3_work_17 : decode cX3_work 17 = .ok (.iastore, 1) := by decide +kernel
theorem dX3_work_18 : decode cX3_work 18 = .ok (.aload_n 0, 1) := by decide +kernel
theorem dX3_work_19 : decode cX3_work 19 = .ok (.iload_n 3, 1) := by decide +kernel
theorem dX3_work_20 : decode cX3_work 20 = .ok (.iload_n 2, 1) := by decide +kernel
theorem dX3_work_21 : decode cX3_work 21 = .ok (.iconst (-1), 1) := by decide +kernel
theorem dX3_work_22 : decode cX3_work 22 = .ok (.invokevirtual 194, 3) := by decide +kernel
theorem dX3_work_25 : decode cX3_work 25 = .ok (.ireturn, 1) := by decide +kernel
theorem dX3_uncover_0 : decode cX3_uncover 0 = .ok (.aload_n 0, 1) := by decide +kernel
theorem dX3_uncover_1 : decode cX3_uncover 1 = .ok (.getfield 12, 3) := by decide +kernel
theorem dX3_uncover_4 : decode cX3_uncover 4 = .ok (.getfield 74, 3) := by decide +kernel
theorem dX3_uncover_7 : decode cX3_uncover 7 = .ok (.iload_n 1, 1) := by decide +kernel
theorem dX3_uncover_8 : decode cX3_uncover 8 = .ok (.iaload, 1) := by decide +kernel
theorem dX3_uncover_9 : decode cX3_uncover 9 = .ok (.istore 4, 2) := by decide +kernel
theorem dX3_uncover_11 : decode cX3_uncover 11 = .ok (.aload_n 0, 1) := by decide +kernel
theorem dX3_uncover_12 : decode cX3_uncover 12 = .ok (.getfield 12, 3) := by decide +kernel
theorem dX3_uncover_15 : decode cX3_uncover 15 = .ok (.getfield 74, 3) := by decide +kernel
theorem dX3_uncover_18 : decode cX3_uncover 18 = .ok (.iload_n 1, 1) := by decide +kernel
theorem dX3_uncover_19 : decode cX3_uncover 19 = .ok (.iconst 0, 1) := by decide +kernel
theorem dX3_uncover_20 : decode cX3_uncover 20 = .ok (.iastore, 1) := by decide +kernel
theorem dX3_uncover_21 : decode cX3_uncover 21 = .ok (.aload_n 0, 1) := by decide +kernel
theorem dX3_uncover_22 : decode cX3_uncover 22 = .ok (.getfield 12, 3) := by decide +kernel
theorem dX3_uncover_25 : decode cX3_uncover 25 = .ok (.getfield 59, 3) := by decide +kernel
theorem dX3_uncover_28 : decode cX3_uncover 28 = .ok (.iload_n 1, 1) := by decide +kernel
theorem dX3_uncover_29 : decode cX3_uncover 29 = .ok (.iconst 1, 1) := by decide +kernel
theorem dX3_uncover_30 : decode cX3_uncover 30 = .ok (.iastore, 1) := by decide +kernel
theorem dX3_uncover_31 : decode cX3_uncover 31 = .ok (.iload 4, 2) := by decide +kernel
theorem dX3_uncover_33 : decode cX3_uncover 33 = .ok (.ifCond .le 32, 3) := by decide +kernel
theorem dX3_uncover_36 : decode cX3_uncover 36 = .ok (.aload_n 0, 1) := by decide +kernel
theorem dX3_uncover_37 : decode cX3_uncover 37 = .ok (.getfield 23, 3) := by decide +kernel
theorem dX3_uncover_40 : decode cX3_uncover 40 = .ok (.new 218, 3) := by decide +kernel
theorem dX3_uncover_43 : decode cX3_uncover 43 = .ok (.dup, 1) := by decide +kernel
theorem dX3_uncover_44 : decode cX3_uncover 44 = .ok (.iload_n 1, 1) := by decide +kernel
theorem dX3_uncover_45 : decode cX3_uncover 45 = .ok (.iload 4, 2) := by decide +kernel
theorem dX3_uncover_47 : decode cX3_uncover 47 = .ok (.aload_n 0, 1) := by decide +kernel
theorem dX3_uncover_48 : decode cX3_uncover 48 = .ok (.getfield 12, 3) := by decide +kernel
theorem dX3_uncover_51 : decode cX3_uncover 51 = .ok (.getfield 77, 3) := by decide +kernel
theorem dX3_uncover_54 : decode cX3_uncover 54 = .ok (.iload_n 1, 1) := by decide +kernel
theorem dX3_uncover_55 : decode cX3_uncover 55 = .ok (.iaload, 1) := by decide +kernel
theorem dX3_uncover_56 : decode cX3_uncover 56 = .ok (.iload_n 2, 1) := by decide +kernel
theorem dX3_uncover_57 : decode cX3_uncover 57 = .ok (.iload_n 3, 1) := by decide +kernel
theorem dX3_uncover_58 : decode cX3_uncover 58 = .ok (.invokespecial 378, 3) := by decide +kernel
theorem dX3_uncover_61 : decode cX3_uncover 61 = .ok (.invokevirtual 108, 3) := by decide +kernel
theorem dX3_uncover_64 : decode cX3_uncover 64 = .ok (.pop, 1) := by decide +kernel
theorem dX3_uncover_65 : decode cX3_uncover 65 = .ok (.aload_n 0, 1) := by decide +kernel
theorem dX3_uncover_66 : decode cX3_uncover 66 = .ok (.getfield 12, 3) := by decide +kernel
theorem dX3_uncover_69 : decode cX3_uncover 69 = .ok (.iload_n 1, 1) := by decide +kernel
theorem dX3_uncover_70 : decode cX3_uncover 70 = .ok (.invokevirtual 379, 3) := by decide +kernel
theorem dX3_uncover_73 : decode cX3_uncover 73 = .ok (.iload 4, 2) := by decide +kernel
theorem dX3_uncover_75 : decode cX3_uncover 75 = .ok (.ireturn, 1) := by decide +kernel
theorem dX3_stonesInParcel_0 : decode cX3_stonesInParcel 0 = .ok (.iconst 0, 1) := by decide +kernel
theorem dX3_stonesInParcel_1 : decode cX3_stonesInParcel 1 = .ok (.istore_n 2, 1) := by decide +kernel
theorem dX3_stonesInParcel_2 : decode cX3_stonesInParcel 2 = .ok (.iconst 0, 1) := by decide +kernel
theorem dX3_stonesInParcel_3 : decode cX3_stonesInParcel 3 = .ok (.istore_n 3, 1) := by decide +kernel
theorem dX3_stonesInParcel_4 : decode cX3_stonesInParcel 4 = .ok (.iload_n 3, 1) := by decide +kernel
theorem dX3_stonesInParcel_5 : decode cX3_stonesInParcel 5 = .ok (.aload_n 0, 1) := by decide +kernel
theorem dX3_stonesInParcel_6 : decode cX3_stonesInParcel 6 = .ok (.getfield 23, 3) := by decide +kernel
theorem dX3_stonesInParcel_9 : decode cX3_stonesInParcel 9 = .ok (.invokevirtual 94, 3) := by decide +kernel
theorem dX3_stonesInParcel_12 : decode cX3_stonesInParcel 12 = .ok (.if_icmp .ge 30, 3) := by decide +kernel
theorem dX3_stonesInParcel_15 : decode cX3_stonesInParcel 15 = .ok (.iload_n 2, 1) := by decide +kernel
theorem dX3_stonesInParcel_16 : decode cX3_stonesInParcel 16 = .ok (.aload_n 0, 1) := by decide +kernel
theorem dX3_stonesInParcel_17 : decode cX3_stonesInParcel 17 = .ok (.getfield 23, 3) := by decide +kernel
theorem dX3_stonesInParcel_20 : decode cX3_stonesInParcel 20 = .ok (.iload_n 3, 1) := by decide +kernel
theorem dX3_stonesInParcel_21 : decode cX3_stonesInParcel 21 = .ok (.invokevirtual 350, 3) := by decide +kernel
theorem dX3_stonesInParcel_24 : decode cX3_stonesInParcel 24 = .ok (.checkcast 218, 3) := by decide +kernel
theorem dX3_stonesInParcel_27 : decode cX3_stonesInParcel 27 = .ok (.iload_n 1, 1) := by decide +kernel
theorem dX3_stonesInParcel_28 : decode cX3_stonesInParcel 28 = .ok (.invokevirtual 382, 3) := by decide +kernel
theorem dX3_stonesInParcel_31 : decode cX3_stonesInParcel 31 = .ok (.invokestatic 266, 3) := by decide +kernel
theorem dX3_stonesInParcel_34 : decode cX3_stonesInParcel 34 = .ok (.iadd, 1) := by decide +kernel
theorem dX3_stonesInParcel_35 : decode cX3_stonesInParcel 35 = .ok (.istore_n 2, 1) := by decide +kernel
theorem dX3_stonesInParcel_36 : decode cX3_stonesInParcel 36 = .ok (.iinc 3 1, 3) := by decide +kernel
theorem dX3_stonesInParcel_39 : decode cX3_stonesInParcel 39 = .ok (.goto (-35), 3) := by decide +kernel
theorem dX3_stonesInParcel_42 : decode cX3_stonesInParcel 42 = .ok (.iload_n 2, 1) := by decide +kernel
theorem dX3_stonesInParcel_43 : decode cX3_stonesInParcel 43 = .ok (.ireturn, 1) := by decide +kernel
theorem dX3_caratsInParcel_0 : decode cX3_caratsInParcel 0 = .ok (.iconst 0, 1) := by decide +kernel
theorem dX3_caratsInParcel_1 : decode cX3_caratsInParcel 1 = .ok (.istore_n 2, 1) := by decide +kernel
theorem dX3_caratsInParcel_2 : decode cX3_caratsInParcel 2 = .ok (.iconst 0, 1) := by decide +kernel
theorem dX3_caratsInParcel_3 : decode cX3_caratsInParcel 3 = .ok (.istore_n 3, 1) := by decide +kernel
theorem dX3_caratsInParcel_4 : decode cX3_caratsInParcel 4 = .ok (.iload_n 3, 1) := by decide +kernel
theorem dX3_caratsInParcel_5 : decode cX3_caratsInParcel 5 = .ok (.aload_n 0, 1) := by decide +kernel
theorem dX3_caratsInParcel_6 : decode cX3_caratsInParcel 6 = .ok (.getfield 23, 3) := by decide +kernel
theorem dX3_caratsInParcel_9 : decode cX3_caratsInParcel 9 = .ok (.invokevirtual 94, 3) := by decide +kernel
theorem dX3_caratsInParcel_12 : decode cX3_caratsInParcel 12 = .ok (.if_icmp .ge 43, 3) := by decide +kernel
theorem dX3_caratsInParcel_15 : decode cX3_caratsInParcel 15 = .ok (.aload_n 0, 1) := by decide +kernel
theorem dX3_caratsInParcel_16 : decode cX3_caratsInParcel 16 = .ok (.getfield 23, 3) := by decide +kernel
theorem dX3_caratsInParcel_19 : decode cX3_caratsInParcel 19 = .ok (.iload_n 3, 1) := by decide +kernel
theorem dX3_caratsInParcel_20 : decode cX3_caratsInParcel 20 = .ok (.invokevirtual 350, 3) := by decide +kernel
theorem dX3_caratsInParcel_23 : decode cX3_caratsInParcel 23 = .ok (.checkcast 218, 3) := by decide +kernel
theorem dX3_caratsInParcel_26 : decode cX3_caratsInParcel 26 = .ok (.astore 4, 2) := by decide +kernel
theorem dX3_caratsInParcel_28 : decode cX3_caratsInParcel 28 = .ok (.iload_n 2, 1) := by decide +kernel
theorem dX3_caratsInParcel_29 : decode cX3_caratsInParcel 29 = .ok (.aload 4, 2) := by decide +kernel
theorem dX3_caratsInParcel_31 : decode cX3_caratsInParcel 31 = .ok (.iload_n 1, 1) := by decide +kernel
theorem dX3_caratsInParcel_32 : decode cX3_caratsInParcel 32 = .ok (.invokevirtual 382, 3) := by decide +kernel
theorem dX3_caratsInParcel_35 : decode cX3_caratsInParcel 35 = .ok (.ifCond .eq 11, 3) := by decide +kernel
theorem dX3_caratsInParcel_38 : decode cX3_caratsInParcel 38 = .ok (.aload 4, 2) := by decide +kernel
theorem dX3_caratsInParcel_40 : decode cX3_caratsInParcel 40 = .ok (.getfield 222, 3) := by decide +kernel
theorem dX3_caratsInParcel_43 : decode cX3_caratsInParcel 43 = .ok (.goto 4, 3) := by decide +kernel
theorem dX3_caratsInParcel_46 : decode cX3_caratsInParcel 46 = .ok (.iconst 0, 1) := by decide +kernel
theorem dX3_caratsInParcel_47 : decode cX3_caratsInParcel 47 = .ok (.iadd, 1) := by decide +kernel
theorem dX3_caratsInParcel_48 : decode cX3_caratsInParcel 48 = .ok (.istore_n 2, 1) := by decide +kernel
theorem dX3_caratsInParcel_49 : decode cX3_caratsInParcel 49 = .ok (.iinc 3 1, 3) := by decide +kernel
theorem dX3_caratsInParcel_52 : decode cX3_caratsInParcel 52 = .ok (.goto (-48), 3) := by decide +kernel
theorem dX3_caratsInParcel_55 : decode cX3_caratsInParcel 55 = .ok (.iload_n 2, 1) := by decide +kernel
theorem dX3_caratsInParcel_56 : decode cX3_caratsInParcel 56 = .ok (.ireturn, 1) := by decide +kernel
theorem dX3_heaviestInParcel_0 : decode cX3_heaviestInParcel 0 = .ok (.iconst (-1), 1) := by decide +kernel
theorem dX3_heaviestInParcel_1 : decode cX3_heaviestInParcel 1 = .ok (.istore_n 2, 1) := by decide +kernel
theorem dX3_heaviestInParcel_2 : decode cX3_heaviestInParcel 2 = .ok (.iconst 0, 1) := by decide +kernel
theorem dX3_heaviestInParcel_3 : decode cX3_heaviestInParcel 3 = .ok (.istore_n 3, 1) := by decide +kernel
theorem dX3_heaviestInParcel_4 : decode cX3_heaviestInParcel 4 = .ok (.iconst 0, 1) := by decide +kernel
theorem dX3_heaviestInParcel_5 : decode cX3_heaviestInParcel 5 = .ok (.istore 4, 2) := by decide +kernel
theorem dX3_heaviestInParcel_7 : decode cX3_heaviestInParcel 7 = .ok (.iload 4, 2) := by decide +kernel
theorem dX3_heaviestInParcel_9 : decode cX3_heaviestInParcel 9 = .ok (.aload_n 0, 1) := by decide +kernel
theorem dX3_heaviestInParcel_10 : decode cX3_heaviestInParcel 10 = .ok (.getfield 23, 3) := by decide +kernel
theorem dX3_heaviestInParcel_13 : decode cX3_heaviestInParcel 13 = .ok (.invokevirtual 94, 3) := by decide +kernel
theorem dX3_heaviestInParcel_16 : decode cX3_heaviestInParcel 16 = .ok (.if_icmp .ge 50, 3) := by decide +kernel
theorem dX3_heaviestInParcel_19 : decode cX3_heaviestInParcel 19 = .ok (.aload_n 0, 1) := by decide +kernel
theorem dX3_heaviestInParcel_20 : decode cX3_heaviestInParcel 20 = .ok (.getfield 23, 3) := by decide +kernel
theorem dX3_heaviestInParcel_23 : decode cX3_heaviestInParcel 23 = .ok (.iload 4, 2) := by decide +kernel
theorem dX3_heaviestInParcel_25 : decode cX3_heaviestInParcel 25 = .ok (.invokevirtual 350, 3) := by decide +kernel
theorem dX3_heaviestInParcel_28 : decode cX3_heaviestInParcel 28 = .ok (.checkcast 218, 3) := by decide +kernel
theorem dX3_heaviestInParcel_31 : decode cX3_heaviestInParcel 31 = .ok (.astore 5, 2) := by decide +kernel
theorem dX3_heaviestInParcel_33 : decode cX3_heaviestInParcel 33 = .ok (.aload 5, 2) := by decide +kernel
theorem dX3_heaviestInParcel_35 : decode cX3_heaviestInParcel 35 = .ok (.iload_n 1, 1) := by decide +kernel
theorem dX3_heaviestInParcel_36 : decode cX3_heaviestInParcel 36 = .ok (.invokevirtual 382, 3) := by decide +kernel
theorem dX3_heaviestInParcel_39 : decode cX3_heaviestInParcel 39 = .ok (.ifCond .eq 21, 3) := by decide +kernel
theorem dX3_heaviestInParcel_42 : decode cX3_heaviestInParcel 42 = .ok (.aload 5, 2) := by decide +kernel
theorem dX3_heaviestInParcel_44 : decode cX3_heaviestInParcel 44 = .ok (.getfield 222, 3) := by decide +kernel
theorem dX3_heaviestInParcel_47 : decode cX3_heaviestInParcel 47 = .ok (.iload_n 3, 1) := by decide +kernel
theorem dX3_heaviestInParcel_48 : decode cX3_heaviestInParcel 48 = .ok (.if_icmp .le 12, 3) := by decide +kernel
theorem dX3_heaviestInParcel_51 : decode cX3_heaviestInParcel 51 = .ok (.iload 4, 2) := by decide +kernel
theorem dX3_heaviestInParcel_53 : decode cX3_heaviestInParcel 53 = .ok (.istore_n 2, 1) := by decide +kernel
theorem dX3_heaviestInParcel_54 : decode cX3_heaviestInParcel 54 = .ok (.aload 5, 2) := by decide +kernel
theorem dX3_heaviestInParcel_56 : decode cX3_heaviestInParcel 56 = .ok (.getfield 222, 3) := by decide +kernel
theorem dX3_heaviestInParcel_59 : decode cX3_heaviestInParcel 59 = .ok (.istore_n 3, 1) := by decide +kernel
theorem dX3_heaviestInParcel_60 : decode cX3_heaviestInParcel 60 = .ok (.iinc 4 1, 3) := by decide +kernel
theorem dX3_heaviestInParcel_63 : decode cX3_heaviestInParcel 63 = .ok (.goto (-56), 3) := by decide +kernel
theorem dX3_heaviestInParcel_66 : decode cX3_heaviestInParcel 66 = .ok (.iload_n 2, 1) := by decide +kernel
theorem dX3_heaviestInParcel_67 : decode cX3_heaviestInParcel 67 = .ok (.ireturn, 1) := by decide +kernel
theorem dX3_stonesOfPerson_0 : decode cX3_stonesOfPerson 0 = .ok (.iconst 0, 1) := by decide +kernel
theorem dX3_stonesOfPerson_1 : decode cX3_stonesOfPerson 1 = .ok (.istore_n 2, 1) := by decide +kernel
theorem dX3_stonesOfPerson_2 : decode cX3_stonesOfPerson 2 = .ok (.iconst 0, 1) := by decide +kernel
theorem dX3_stonesOfPerson_3 : decode cX3_stonesOfPerson 3 = .ok (.istore_n 3, 1) := by decide +kernel
theorem dX3_stonesOfPerson_4 : decode cX3_stonesOfPerson 4 = .ok (.iload_n 3, 1) := by decide +kernel
theorem dX3_stonesOfPerson_5 : decode cX3_stonesOfPerson 5 = .ok (.aload_n 0, 1) := by decide +kernel
theorem dX3_stonesOfPerson_6 : decode cX3_stonesOfPerson 6 = .ok (.getfield 23, 3) := by decide +kernel
theorem dX3_stonesOfPerson_9 : decode cX3_stonesOfPerson 9 = .ok (.invokevirtual 94, 3) := by decide +kernel
theorem dX3_stonesOfPerson_12 : decode cX3_stonesOfPerson 12 = .ok (.if_icmp .ge 51, 3) := by decide +kernel
theorem dX3_stonesOfPerson_15 : decode cX3_stonesOfPerson 15 = .ok (.aload_n 0, 1) := by decide +kernel
theorem dX3_stonesOfPerson_16 : decode cX3_stonesOfPerson 16 = .ok (.getfield 23, 3) := by decide +kernel
theorem dX3_stonesOfPerson_19 : decode cX3_stonesOfPerson 19 = .ok (.iload_n 3, 1) := by decide +kernel
theorem dX3_stonesOfPerson_20 : decode cX3_stonesOfPerson 20 = .ok (.invokevirtual 350, 3) := by decide +kernel
theorem dX3_stonesOfPerson_23 : decode cX3_stonesOfPerson 23 = .ok (.checkcast 218, 3) := by decide +kernel
theorem dX3_stonesOfPerson_26 : decode cX3_stonesOfPerson 26 = .ok (.astore 4, 2) := by decide +kernel
theorem dX3_stonesOfPerson_28 : decode cX3_stonesOfPerson 28 = .ok (.iload_n 2, 1) := by decide +kernel
theorem dX3_stonesOfPerson_29 : decode cX3_stonesOfPerson 29 = .ok (.aload 4, 2) := by decide +kernel
theorem dX3_stonesOfPerson_31 : decode cX3_stonesOfPerson 31 = .ok (.invokevirtual 364, 3) := by decide +kernel
theorem dX3_stonesOfPerson_34 : decode cX3_stonesOfPerson 34 = .ok (.iconst 1, 1) := by decide +kernel
theorem dX3_stonesOfPerson_35 : decode cX3_stonesOfPerson 35 = .ok (.if_icmp .ne 16, 3) := by decide +kernel
theorem dX3_stonesOfPerson_38 : decode cX3_stonesOfPerson 38 = .ok (.aload 4, 2) := by decide +kernel
theorem dX3_stonesOfPerson_40 : decode cX3_stonesOfPerson 40 = .ok (.getfield 217, 3) := by decide +kernel
theorem dX3_stonesOfPerson_43 : decode cX3_stonesOfPerson 43 = .ok (.iload_n 1, 1) := by decide +kernel
theorem dX3_stonesOfPerson_44 : decode cX3_stonesOfPerson 44 = .ok (.if_icmp .ne 7, 3) := by decide +kernel
theorem dX3_stonesOfPerson_47 : decode cX3_stonesOfPerson 47 = .ok (.iconst 1, 1) := by decide +kernel
theorem dX3_stonesOfPerson_48 : decode cX3_stonesOfPerson 48 = .ok (.goto 4, 3) := by decide +kernel
theorem dX3_stonesOfPerson_51 : decode cX3_stonesOfPerson 51 = .ok (.iconst 0, 1) := by decide +kernel
theorem dX3_stonesOfPerson_52 : decode cX3_stonesOfPerson 52 = .ok (.invokestatic 266, 3) := by decide +kernel
theorem dX3_stonesOfPerson_55 : decode cX3_stonesOfPerson 55 = .ok (.iadd, 1) := by decide +kernel
theorem dX3_stonesOfPerson_56 : decode cX3_stonesOfPerson 56 = .ok (.istore_n 2, 1) := by decide +kernel
theorem dX3_stonesOfPerson_57 : decode cX3_stonesOfPerson 57 = .ok (.iinc 3 1, 3) := by decide +kernel
theorem dX3_stonesOfPerson_60 : decode cX3_stonesOfPerson 60 = .ok (.goto (-56), 3) := by decide +kernel
theorem dX3_stonesOfPerson_63 : decode cX3_stonesOfPerson 63 = .ok (.iload_n 2, 1) := by decide +kernel
theorem dX3_stonesOfPerson_64 : decode cX3_stonesOfPerson 64 = .ok (.ireturn, 1) := by decide +kernel
theorem dX3_caratsOfStones_0 : decode cX3_caratsOfStones 0 = .ok (.iconst 0, 1) := by decide +kernel
theorem dX3_caratsOfStones_1 : decode cX3_caratsOfStones 1 = .ok (.istore_n 2, 1) := by decide +kernel
theorem dX3_caratsOfStones_2 : decode cX3_caratsOfStones 2 = .ok (.iconst 0, 1) := by decide +kernel
theorem dX3_caratsOfStones_3 : decode cX3_caratsOfStones 3 = .ok (.istore_n 3, 1) := by decide +kernel
theorem dX3_caratsOfStones_4 : decode cX3_caratsOfStones 4 = .ok (.iload_n 3, 1) := by decide +kernel
theorem dX3_caratsOfStones_5 : decode cX3_caratsOfStones 5 = .ok (.aload_n 0, 1) := by decide +kernel
theorem dX3_caratsOfStones_6 : decode cX3_caratsOfStones 6 = .ok (.getfield 23, 3) := by decide +kernel
theorem dX3_caratsOfStones_9 : decode cX3_caratsOfStones 9 = .ok (.invokevirtual 94, 3) := by decide +kernel
theorem dX3_caratsOfStones_12 : decode cX3_caratsOfStones 12 = .ok (.if_icmp .ge 43, 3) := by decide +kernel
theorem dX3_caratsOfStones_15 : decode cX3_caratsOfStones 15 = .ok (.aload_n 0, 1) := by decide +kernel
theorem dX3_caratsOfStones_16 : decode cX3_caratsOfStones 16 = .ok (.getfield 23, 3) := by decide +kernel
theorem dX3_caratsOfStones_19 : decode cX3_caratsOfStones 19 = .ok (.iload_n 3, 1) := by decide +kernel
theorem dX3_caratsOfStones_20 : decode cX3_caratsOfStones 20 = .ok (.invokevirtual 350, 3) := by decide +kernel
theorem dX3_caratsOfStones_23 : decode cX3_caratsOfStones 23 = .ok (.checkcast 218, 3) := by decide +kernel
theorem dX3_caratsOfStones_26 : decode cX3_caratsOfStones 26 = .ok (.astore 4, 2) := by decide +kernel
theorem dX3_caratsOfStones_28 : decode cX3_caratsOfStones 28 = .ok (.iload_n 2, 1) := by decide +kernel
theorem dX3_caratsOfStones_29 : decode cX3_caratsOfStones 29 = .ok (.aload 4, 2) := by decide +kernel
theorem dX3_caratsOfStones_31 : decode cX3_caratsOfStones 31 = .ok (.invokevirtual 364, 3) := by decide +kernel
theorem dX3_caratsOfStones_34 : decode cX3_caratsOfStones 34 = .ok (.iload_n 1, 1) := by decide +kernel
theorem dX3_caratsOfStones_35 : decode cX3_caratsOfStones 35 = .ok (.if_icmp .ne 11, 3) := by decide +kernel
theorem dX3_caratsOfStones_38 : decode cX3_caratsOfStones 38 = .ok (.aload 4, 2) := by decide +kernel
theorem dX3_caratsOfStones_40 : decode cX3_caratsOfStones 40 = .ok (.getfield 222, 3) := by decide +kernel
theorem dX3_caratsOfStones_43 : decode cX3_caratsOfStones 43 = .ok (.goto 4, 3) := by decide +kernel
theorem dX3_caratsOfStones_46 : decode cX3_caratsOfStones 46 = .ok (.iconst 0, 1) := by decide +kernel
theorem dX3_caratsOfStones_47 : decode cX3_caratsOfStones 47 = .ok (.iadd, 1) := by decide +kernel
theorem dX3_caratsOfStones_48 : decode cX3_caratsOfStones 48 = .ok (.istore_n 2, 1) := by decide +kernel
theorem dX3_caratsOfStones_49 : decode cX3_caratsOfStones 49 = .ok (.iinc 3 1, 3) := by decide +kernel
theorem dX3_caratsOfStones_52 : decode cX3_caratsOfStones 52 = .ok (.goto (-48), 3) := by decide +kernel
theorem dX3_caratsOfStones_55 : decode cX3_caratsOfStones 55 = .ok (.iload_n 2, 1) := by decide +kernel
theorem dX3_caratsOfStones_56 : decode cX3_caratsOfStones 56 = .ok (.ireturn, 1) := by decide +kernel
theorem dX3_caratsLost_0 : decode cX3_caratsLost 0 = .ok (.iconst 0, 1) := by decide +kernel
theorem dX3_caratsLost_1 : decode cX3_caratsLost 1 = .ok (.istore_n 1, 1) := by decide +kernel
theorem dX3_caratsLost_2 : decode cX3_caratsLost 2 = .ok (.iconst 0, 1) := by decide +kernel
theorem dX3_caratsLost_3 : decode cX3_caratsLost 3 = .ok (.istore_n 2, 1) := by decide +kernel
theorem dX3_caratsLost_4 : decode cX3_caratsLost 4 = .ok (.iload_n 2, 1) := by decide +kernel
theorem dX3_caratsLost_5 : decode cX3_caratsLost 5 = .ok (.aload_n 0, 1) := by decide +kernel
theorem dX3_caratsLost_6 : decode cX3_caratsLost 6 = .ok (.getfield 23, 3) := by decide +kernel
theorem dX3_caratsLost_9 : decode cX3_caratsLost 9 = .ok (.invokevirtual 94, 3) := by decide +kernel
theorem dX3_caratsLost_12 : decode cX3_caratsLost 12 = .ok (.if_icmp .ge 26, 3) := by decide +kernel
theorem dX3_caratsLost_15 : decode cX3_caratsLost 15 = .ok (.iload_n 1, 1) := by decide +kernel
theorem dX3_caratsLost_16 : decode cX3_caratsLost 16 = .ok (.aload_n 0, 1) := by decide +kernel
theorem dX3_caratsLost_17 : decode cX3_caratsLost 17 = .ok (.getfield 23, 3) := by decide +kernel
theorem dX3_caratsLost_20 : decode cX3_caratsLost 20 = .ok (.iload_n 2, 1) := by decide +kernel
theorem dX3_caratsLost_21 : decode cX3_caratsLost 21 = .ok (.invokevirtual 350, 3) := by decide +kernel
theorem dX3_caratsLost_24 : decode cX3_caratsLost 24 = .ok (.checkcast 218, 3) := by decide +kernel
theorem dX3_caratsLost_27 : decode cX3_caratsLost 27 = .ok (.getfield 233, 3) := by decide +kernel
theorem dX3_caratsLost_30 : decode cX3_caratsLost 30 = .ok (.iadd, 1) := by decide +kernel
theorem dX3_caratsLost_31 : decode cX3_caratsLost 31 = .ok (.istore_n 1, 1) := by decide +kernel
theorem dX3_caratsLost_32 : decode cX3_caratsLost 32 = .ok (.iinc 2 1, 3) := by decide +kernel
theorem dX3_caratsLost_35 : decode cX3_caratsLost 35 = .ok (.goto (-31), 3) := by decide +kernel
theorem dX3_caratsLost_38 : decode cX3_caratsLost 38 = .ok (.iload_n 1, 1) := by decide +kernel
theorem dX3_caratsLost_39 : decode cX3_caratsLost 39 = .ok (.ireturn, 1) := by decide +kernel
theorem dX3_listDiggable_0 : decode cX3_listDiggable 0 = .ok (.iconst 0, 1) := by decide +kernel
theorem dX3_listDiggable_1 : decode cX3_listDiggable 1 = .ok (.istore_n 2, 1) := by decide +kernel
theorem dX3_listDiggable_2 : decode cX3_listDiggable 2 = .ok (.iconst 0, 1) := by decide +kernel
theorem dX3_listDiggable_3 : decode cX3_listDiggable 3 = .ok (.istore_n 3, 1) := by decide +kernel
theorem dX3_listDiggable_4 : decode cX3_listDiggable 4 = .ok (.iload_n 3, 1) := by decide +kernel
theorem dX3_listDiggable_5 : decode cX3_listDiggable 5 = .ok (.bipush 100, 2) := by decide +kernel
theorem dX3_listDiggable_7 : decode cX3_listDiggable 7 = .ok (.if_icmp .ge 60, 3) := by decide +kernel
theorem dX3_listDiggable_10 : decode cX3_listDiggable 10 = .ok (.iload_n 2, 1) := by decide +kernel
theorem dX3_listDiggable_11 : decode cX3_listDiggable 11 = .ok (.aload_n 0, 1) := by decide +kernel
theorem dX3_listDiggable_12 : decode cX3_listDiggable 12 = .ok (.getfield 48, 3) := by decide +kernel
theorem dX3_listDiggable_15 : decode cX3_listDiggable 15 = .ok (.arraylength, 1) := by decide +kernel
theorem dX3_listDiggable_16 : decode cX3_listDiggable 16 = .ok (.if_icmp .ge 51, 3) := by decide +kernel
theorem dX3_listDiggable_19 : decode cX3_listDiggable 19 = .ok (.aload_n 0, 1) := by decide +kernel
theorem dX3_listDiggable_20 : decode cX3_listDiggable 20 = .ok (.iload_n 1, 1) := by decide +kernel
theorem dX3_listDiggable_21 : decode cX3_listDiggable 21 = .ok (.invokevirtual 112, 3) := by decide +kernel
theorem dX3_listDiggable_24 : decode cX3_listDiggable 24 = .ok (.iload_n 3, 1) := by decide +kernel
theorem dX3_listDiggable_25 : decode cX3_listDiggable 25 = .ok (.invokevirtual 372, 3) := by decide +kernel
theorem dX3_listDiggable_28 : decode cX3_listDiggable 28 = .ok (.ifCond .eq 33, 3) := by decide +kernel
theorem dX3_listDiggable_31 : decode cX3_listDiggable 31 = .ok (.aload_n 0, 1) := by decide +kernel
theorem dX3_listDiggable_32 : decode cX3_listDiggable 32 = .ok (.getfield 12, 3) := by decide +kernel
theorem dX3_listDiggable_35 : decode cX3_listDiggable 35 = .ok (.iload_n 3, 1) := by decide +kernel
theorem dX3_listDiggable_36 : decode cX3_listDiggable 36 = .ok (.invokevirtual 154, 3) := by decide +kernel
theorem dX3_listDiggable_39 : decode cX3_listDiggable 39 = .ok (.ifCond .ne 22, 3) := by decide +kernel
theorem dX3_listDiggable_42 : decode cX3_listDiggable 42 = .ok (.aload_n 0, 1) := by decide +kernel
theorem dX3_listDiggable_43 : decode cX3_listDiggable 43 = .ok (.iload_n 3, 1) := by decide +kernel
theorem dX3_listDiggable_44 : decode cX3_listDiggable 44 = .ok (.invokevirtual 189, 3) := by decide +kernel
theorem dX3_listDiggable_47 : decode cX3_listDiggable 47 = .ok (.iload_n 1, 1) := by decide +kernel
theorem dX3_listDiggable_48 : decode cX3_listDiggable 48 = .ok (.if_icmp .ne 13, 3) := by decide +kernel
theorem dX3_listDiggable_51 : decode cX3_listDiggable 51 = .ok (.aload_n 0, 1) := by decide +kernel
theorem dX3_listDiggable_52 : decode cX3_listDiggable 52 = .ok (.getfield 48, 3) := by decide +kernel
theorem dX3_listDiggable_55 : decode cX3_listDiggable 55 = .ok (.iload_n 2, 1) := by decide +kernel
theorem dX3_listDiggable_56 : decode cX3_listDiggable 56 = .ok (.iload_n 3, 1) := by decide +kernel
theorem dX3_listDiggable_57 : decode cX3_listDiggable 57 = .ok (.iastore, 1) := by decide +kernel
theorem dX3_listDiggable_58 : decode cX3_listDiggable 58 = .ok (.iinc 2 1, 3) := by decide +kernel
theorem dX3_listDiggable_61 : decode cX3_listDiggable 61 = .ok (.iinc 3 1, 3) := by decide +kernel
theorem dX3_listDiggable_64 : decode cX3_listDiggable 64 = .ok (.goto (-60), 3) := by decide +kernel
theorem dX3_listDiggable_67 : decode cX3_listDiggable 67 = .ok (.iload_n 2, 1) := by decide +kernel
theorem dX3_listDiggable_68 : decode cX3_listDiggable 68 = .ok (.ireturn, 1) := by decide +kernel
theorem dX3_mostBySets_0 : decode cX3_mostBySets 0 = .ok (.iload_n 3, 1) := by decide +kernel
theorem dX3_mostBySets_1 : decode cX3_mostBySets 1 = .ok (.ifCond .gt 5, 3) := by decide +kernel
theorem dX3_mostBySets_4 : decode cX3_mostBySets 4 = .ok (.iconst 0, 1) := by decide +kernel
theorem dX3_mostBySets_5 : decode cX3_mostBySets 5 = .ok (.ireturn, 1) := by decide +kernel
theorem dX3_mostBySets_6 : decode cX3_mostBySets 6 = .ok (.iconst 0, 1) := by decide +kernel
theorem dX3_mostBySets_7 : decode cX3_mostBySets 7 = .ok (.istore 5, 2) := by decide +kernel
theorem dX3_mostBySets_9 : decode cX3_mostBySets 9 = .ok (.iconst 0, 1) := by decide +kernel
theorem dX3_mostBySets_10 : decode cX3_mostBySets 10 = .ok (.istore 6, 2) := by decide +kernel
theorem dX3_mostBySets_12 : decode cX3_mostBySets 12 = .ok (.iload 6, 2) := by decide +kernel
theorem dX3_mostBySets_14 : decode cX3_mostBySets 14 = .ok (.iload_n 2, 1) := by decide +kernel
theorem dX3_mostBySets_15 : decode cX3_mostBySets 15 = .ok (.if_icmp .ge 97, 3) := by decide +kernel
theorem dX3_mostBySets_18 : decode cX3_mostBySets 18 = .ok (.iload 6, 2) := by decide +kernel
theorem dX3_mostBySets_20 : decode cX3_mostBySets 20 = .ok (.aload_n 1, 1) := by decide +kernel
theorem dX3_mostBySets_21 : decode cX3_mostBySets 21 = .ok (.arraylength, 1) := by decide +kernel
theorem dX3_mostBySets_22 : decode cX3_mostBySets 22 = .ok (.if_icmp .ge 90, 3) := by decide +kernel
theorem dX3_mostBySets_25 : decode cX3_mostBySets 25 = .ok (.aload_n 1, 1) := by decide +kernel
theorem dX3_mostBySets_26 : decode cX3_mostBySets 26 = .ok (.iload 6, 2) := by decide +kernel
theorem dX3_mostBySets_28 : decode cX3_mostBySets 28 = .ok (.iaload, 1) := by decide +kernel
theorem dX3_mostBySets_29 : decode cX3_mostBySets 29 = .ok (.istore 7, 2) := by decide +kernel
theorem dX3_mostBySets_31 : decode cX3_mostBySets 31 = .ok (.iload 4, 2) := by decide +kernel
theorem dX3_mostBySets_33 : decode cX3_mostBySets 33 = .ok (.iload 6, 2) := by decide +kernel
theorem dX3_mostBySets_35 : decode cX3_mostBySets 35 = .ok (.ishr, 1) := by decide +kernel
theorem dX3_mostBySets_36 : decode cX3_mostBySets 36 = .ok (.iconst 1, 1) := by decide +kernel
theorem dX3_mostBySets_37 : decode cX3_mostBySets 37 = .ok (.iand, 1) := by decide +kernel
theorem dX3_mostBySets_38 : decode cX3_mostBySets 38 = .ok (.ifCond .ne 68, 3) := by decide +kernel
theorem dX3_mostBySets_41 : decode cX3_mostBySets 41 = .ok (.aload_n 0, 1) := by decide +kernel
theorem dX3_mostBySets_42 : decode cX3_mostBySets 42 = .ok (.iload 7, 2) := by decide +kernel
theorem dX3_mostBySets_44 : decode cX3_mostBySets 44 = .ok (.invokevirtual 385, 3) := by decide +kernel
theorem dX3_mostBySets_47 : decode cX3_mostBySets 47 = .ok (.ifCond .eq 59, 3) := by decide +kernel
theorem dX3_mostBySets_50 : decode cX3_mostBySets 50 = .ok (.iload 4, 2) := by decide +kernel
theorem dX3_mostBySets_52 : decode cX3_mostBySets 52 = .ok (.iconst 1, 1) := by decide +kernel
theorem dX3_mostBySets_53 : decode cX3_mostBySets 53 = .ok (.iload 6, 2) := by decide +kernel
theorem dX3_mostBySets_55 : decode cX3_mostBySets 55 = .ok (.ishl, 1) := by decide +kernel
theorem dX3_mostBySets_56 : decode cX3_mostBySets 56 = .ok (.ior, 1) := by decide +kernel
theorem dX3_mostBySets_57 : decode cX3_mostBySets 57 = .ok (.istore 4, 2) := by decide +kernel
theorem dX3_mostBySets_59 : decode cX3_mostBySets 59 = .ok (.aload_n 0, 1) := by decide +kernel
theorem dX3_mostBySets_60 : decode cX3_mostBySets 60 = .ok (.iload 7, 2) := by decide +kernel
theorem dX3_mostBySets_62 : decode cX3_mostBySets 62 = .ok (.invokevirtual 388, 3) := by decide +kernel
theorem dX3_mostBySets_65 : decode cX3_mostBySets 65 = .ok (.istore 8, 2) := by decide +kernel
theorem dX3_mostBySets_67 : decode cX3_mostBySets 67 = .ok (.aload_n 0, 1) := by decide +kernel
theorem dX3_mostBySets_68 : decode cX3_mostBySets 68 = .ok (.getfield 74, 3) := by decide +kernel
theorem dX3_mostBySets_71 : decode cX3_mostBySets 71 = .ok (.iload 7, 2) := by decide +kernel
theorem dX3_mostBySets_73 : decode cX3_mostBySets 73 = .ok (.iaload, 1) := by decide +kernel
theorem dX3_mostBySets_74 : decode cX3_mostBySets 74 = .ok (.aload_n 0, 1) := by decide +kernel
theorem dX3_mostBySets_75 : decode cX3_mostBySets 75 = .ok (.aload_n 1, 1) := by decide +kernel
theorem dX3_mostBySets_76 : decode cX3_mostBySets 76 = .ok (.iload_n 2, 1) := by decide +kernel
theorem dX3_mostBySets_77 : decode cX3_mostBySets 77 = .ok (.iload_n 3, 1) := by decide +kernel
theorem dX3_mostBySets_78 : decode cX3_mostBySets 78 = .ok (.iconst 1, 1) := by decide +kernel
theorem dX3_mostBySets_79 : decode cX3_mostBySets 79 = .ok (.isub, 1) := by decide +kernel
theorem dX3_mostBySets_80 : decode cX3_mostBySets 80 = .ok (.iload 4, 2) := by decide +kernel
theorem dX3_mostBySets_82 : decode cX3_mostBySets 82 = .ok (.invokestatic 328, 3) := by decide +kernel
theorem dX3_mostBySets_85 : decode cX3_mostBySets 85 = .ok (.iadd, 1) := by decide +kernel
theorem dX3_mostBySets_86 : decode cX3_mostBySets 86 = .ok (.istore 9, 2) := by decide +kernel
theorem dX3_mostBySets_88 : decode cX3_mostBySets 88 = .ok (.aload_n 0, 1) := by decide +kernel
theorem dX3_mostBySets_89 : decode cX3_mostBySets 89 = .ok (.getfield 59, 3) := by decide +kernel
theorem dX3_mostBySets_92 : decode cX3_mostBySets 92 = .ok (.iload 7, 2) := by decide +kernel
theorem dX3_mostBySets_94 : decode cX3_mostBySets 94 = .ok (.iload 8, 2) := by decide +kernel
theorem dX3_mostBySets_96 : decode cX3_mostBySets 96 = .ok (.iastore, 1) := by decide +kernel
theorem dX3_mostBySets_97 : decode cX3_mostBySets 97 = .ok (.iload 5, 2) := by decide +kernel
theorem dX3_mostBySets_99 : decode cX3_mostBySets 99 = .ok (.iload 9, 2) := by decide +kernel
theorem dX3_mostBySets_101 : decode cX3_mostBySets 101 = .ok (.invokestatic 369, 3) := by decide +kernel
theorem dX3_mostBySets_104 : decode cX3_mostBySets 104 = .ok (.istore 5, 2) := by decide +kernel
theorem dX3_mostBySets_106 : decode cX3_mostBySets 106 = .ok (.iinc 6 1, 3) := by decide +kernel
theorem dX3_mostBySets_109 : decode cX3_mostBySets 109 = .ok (.goto (-97), 3) := by decide +kernel
theorem dX3_mostBySets_112 : decode cX3_mostBySets 112 = .ok (.iload 5, 2) := by decide +kernel
theorem dX3_mostBySets_114 : decode cX3_mostBySets 114 = .ok (.ireturn, 1) := by decide +kernel
theorem dX3_mostByRows_0 : decode cX3_mostByRows 0 = .ok (.iload_n 3, 1) := by decide +kernel
theorem dX3_mostByRows_1 : decode cX3_mostByRows 1 = .ok (.ifCond .gt 5, 3) := by decide +kernel
theorem dX3_mostByRows_4 : decode cX3_mostByRows 4 = .ok (.iconst 0, 1) := by decide +kernel
theorem dX3_mostByRows_5 : decode cX3_mostByRows 5 = .ok (.ireturn, 1) := by decide +kernel
theorem dX3_mostByRows_6 : decode cX3_mostByRows 6 = .ok (.iconst 0, 1) := by decide +kernel
theorem dX3_mostByRows_7 : decode cX3_mostByRows 7 = .ok (.istore 4, 2) := by decide +kernel
theorem dX3_mostByRows_9 : decode cX3_mostByRows 9 = .ok (.iconst 0, 1) := by decide +kernel
theorem dX3_mostByRows_10 : decode cX3_mostByRows 10 = .ok (.istore 5, 2) := by decide +kernel
theorem dX3_mostByRows_12 : decode cX3_mostByRows 12 = .ok (.iload 5, 2) := by decide +kernel
theorem dX3_mostByRows_14 : decode cX3_mostByRows 14 = .ok (.iload_n 2, 1) := by decide +kernel
theorem dX3_mostByRows_15 : decode cX3_mostByRows 15 = .ok (.if_icmp .ge 76, 3) := by decide +kernel
theorem dX3_mostByRows_18 : decode cX3_mostByRows 18 = .ok (.iload 5, 2) := by decide +kernel
theorem dX3_mostByRows_20 : decode cX3_mostByRows 20 = .ok (.aload_n 1, 1) := by decide +kernel
theorem dX3_mostByRows_21 : decode cX3_mostByRows 21 = .ok (.arraylength, 1) := by decide +kernel
theorem dX3_mostByRows_22 : decode cX3_mostByRows 22 = .ok (.if_icmp .ge 69, 3) := by decide +kernel
theorem dX3_mostByRows_25 : decode cX3_mostByRows 25 = .ok (.aload_n 1, 1) := by decide +kernel
theorem dX3_mostByRows_26 : decode cX3_mostByRows 26 = .ok (.iload 5, 2) := by decide +kernel
theorem dX3_mostByRows_28 : decode cX3_mostByRows 28 = .ok (.iaload, 1) := by decide +kernel
theorem dX3_mostByRows_29 : decode cX3_mostByRows 29 = .ok (.istore 6, 2) := by decide +kernel
theorem dX3_mostByRows_31 : decode cX3_mostByRows 31 = .ok (.aload_n 0, 1) := by decide +kernel
theorem dX3_mostByRows_32 : decode cX3_mostByRows 32 = .ok (.iload 6, 2) := by decide +kernel
theorem dX3_mostByRows_34 : decode cX3_mostByRows 34 = .ok (.invokevirtual 385, 3) := by decide +kernel
theorem dX3_mostByRows_37 : decode cX3_mostByRows 37 = .ok (.ifCond .eq 48, 3) := by decide +kernel
theorem dX3_mostByRows_40 : decode cX3_mostByRows 40 = .ok (.aload_n 0, 1) := by decide +kernel
theorem dX3_mostByRows_41 : decode cX3_mostByRows 41 = .ok (.iload 6, 2) := by decide +kernel
theorem dX3_mostByRows_43 : decode cX3_mostByRows 43 = .ok (.invokevirtual 388, 3) := by decide +kernel
theorem dX3_mostByRows_46 : decode cX3_mostByRows 46 = .ok (.istore 7, 2) := by decide +kernel
theorem dX3_mostByRows_48 : decode cX3_mostByRows 48 = .ok (.aload_n 0, 1) := by decide +kernel
theorem dX3_mostByRows_49 : decode cX3_mostByRows 49 = .ok (.getfield 74, 3) := by decide +kernel
theorem dX3_mostByRows_52 : decode cX3_mostByRows 52 = .ok (.iload 6, 2) := by decide +kernel
theorem dX3_mostByRows_54 : decode cX3_mostByRows 54 = .ok (.iaload, 1) := by decide +kernel
theorem dX3_mostByRows_55 : decode cX3_mostByRows 55 = .ok (.aload_n 0, 1) := by decide +kernel
theorem dX3_mostByRows_56 : decode cX3_mostByRows 56 = .ok (.aload_n 1, 1) := by decide +kernel
theorem dX3_mostByRows_57 : decode cX3_mostByRows 57 = .ok (.iload_n 2, 1) := by decide +kernel
theorem dX3_mostByRows_58 : decode cX3_mostByRows 58 = .ok (.iload_n 3, 1) := by decide +kernel
theorem dX3_mostByRows_59 : decode cX3_mostByRows 59 = .ok (.iconst 1, 1) := by decide +kernel
theorem dX3_mostByRows_60 : decode cX3_mostByRows 60 = .ok (.isub, 1) := by decide +kernel
theorem dX3_mostByRows_61 : decode cX3_mostByRows 61 = .ok (.invokestatic 332, 3) := by decide +kernel
theorem dX3_mostByRows_64 : decode cX3_mostByRows 64 = .ok (.iadd, 1) := by decide +kernel
theorem dX3_mostByRows_65 : decode cX3_mostByRows 65 = .ok (.istore 8, 2) := by decide +kernel
theorem dX3_mostByRows_67 : decode cX3_mostByRows 67 = .ok (.aload_n 0, 1) := by decide +kernel
theorem dX3_mostByRows_68 : decode cX3_mostByRows 68 = .ok (.getfield 59, 3) := by decide +kernel
theorem dX3_mostByRows_71 : decode cX3_mostByRows 71 = .ok (.iload 6, 2) := by decide +kernel
theorem dX3_mostByRows_73 : decode cX3_mostByRows 73 = .ok (.iload 7, 2) := by decide +kernel
theorem dX3_mostByRows_75 : decode cX3_mostByRows 75 = .ok (.iastore, 1) := by decide +kernel
theorem dX3_mostByRows_76 : decode cX3_mostByRows 76 = .ok (.iload 4, 2) := by decide +kernel
theorem dX3_mostByRows_78 : decode cX3_mostByRows 78 = .ok (.iload 8, 2) := by decide +kernel
theorem dX3_mostByRows_80 : decode cX3_mostByRows 80 = .ok (.invokestatic 369, 3) := by decide +kernel
theorem dX3_mostByRows_83 : decode cX3_mostByRows 83 = .ok (.istore 4, 2) := by decide +kernel
theorem dX3_mostByRows_85 : decode cX3_mostByRows 85 = .ok (.iinc 5 1, 3) := by decide +kernel
theorem dX3_mostByRows_88 : decode cX3_mostByRows 88 = .ok (.goto (-76), 3) := by decide +kernel
theorem dX3_mostByRows_91 : decode cX3_mostByRows 91 = .ok (.iload 4, 2) := by decide +kernel
theorem dX3_mostByRows_93 : decode cX3_mostByRows 93 = .ok (.ireturn, 1) := by decide +kernel
theorem dX4_init_0 : decode cX4_init 0 = .ok (.aload_n 0, 1) := by decide +kernel
theorem dX4_init_1 : decode cX4_init 1 = .ok (.invokespecial 1, 3) := by decide +kernel
theorem dX4_init_4 : decode cX4_init 4 = .ok (.aload_n 0, 1) := by decide +kernel
theorem dX4_init_5 : decode cX4_init 5 = .ok (.bipush 100, 2) := by decide +kernel
theorem dX4_init_7 : decode cX4_init 7 = .ok (.newarray .int, 2) := by decide +kernel
theorem dX4_init_9 : decode cX4_init 9 = .ok (.putfield 7, 3) := by decide +kernel
theorem dX4_init_12 : decode cX4_init 12 = .ok (.aload_n 0, 1) := by decide +kernel
theorem dX4_init_13 : decode cX4_init 13 = .ok (.bipush 100, 2) := by decide +kernel
theorem dX4_init_15 : decode cX4_init 15 = .ok (.newarray .int, 2) := by decide +kernel
theorem dX4_init_17 : decode cX4_init 17 = .ok (.putfield 13, 3) := by decide +kernel
theorem dX4_init_20 : decode cX4_init 20 = .ok (.aload_n 0, 1) := by decide +kernel
theorem dX4_init_21 : decode cX4_init 21 = .ok (.bipush 100, 2) := by decide +kernel
theorem dX4_init_23 : decode cX4_init 23 = .ok (.newarray .int, 2) := by decide +kernel
theorem dX4_init_25 : decode cX4_init 25 = .ok (.putfield 16, 3) := by decide +kernel
theorem dX4_init_28 : decode cX4_init 28 = .ok (.aload_n 0, 1) := by decide +kernel
theorem dX4_init_29 : decode cX4_init 29 = .ok (.bipush 100, 2) := by decide +kernel
theorem dX4_init_31 : decode cX4_init 31 = .ok (.newarray .boolean, 2) := by decide +kernel
theorem dX4_init_33 : decode cX4_init 33 = .ok (.putfield 19, 3) := by decide +kernel
theorem dX4_init_36 : decode cX4_init 36 = .ok (.aload_n 0, 1) := by decide +kernel
theorem dX4_init_37 : decode cX4_init 37 = .ok (.bipush 100, 2) := by decide +kernel
theorem dX4_init_39 : decode cX4_init 39 = .ok (.newarray .boolean, 2) := by decide +kernel
theorem dX4_init_41 : decode cX4_init 41 = .ok (.putfield 23, 3) := by decide +kernel
theorem dX4_init_44 : decode cX4_init 44 = .ok (.aload_n 0, 1) := by decide +kernel
theorem dX4_init_45 : decode cX4_init 45 = .ok (.bipush 100, 2) := by decide +kernel
theorem dX4_init_47 : decode cX4_init 47 = .ok (.newarray .int, 2) := by decide +kernel
theorem dX4_init_49 : decode cX4_init 49 = .ok (.putfield 26, 3) := by decide +kernel
theorem dX4_init_52 : decode cX4_init 52 = .ok (.aload_n 0, 1) := by decide +kernel
theorem dX4_init_53 : decode cX4_init 53 = .ok (.bipush 100, 2) := by decide +kernel
theorem dX4_init_55 : decode cX4_init 55 = .ok (.newarray .boolean, 2) := by decide +kernel
theorem dX4_init_57 : decode cX4_init 57 = .ok (.putfield 29, 3) := by decide +kernel
theorem dX4_init_60 : decode cX4_init 60 = .ok (.aload_n 0, 1) := by decide +kernel
theorem dX4_init_61 : decode cX4_init 61 = .ok (.bipush 12, 2) := by decide +kernel
theorem dX4_init_63 : decode cX4_init 63 = .ok (.newarray .int, 2) := by decide +kernel
theorem dX4_init_65 : decode cX4_init 65 = .ok (.putfield 32, 3) := by decide +kernel
theorem dX4_init_68 : decode cX4_init 68 = .ok (.aload_n 0, 1) := by decide +kernel
theorem dX4_init_69 : decode cX4_init 69 = .ok (.bipush 12, 2) := by decide +kernel
theorem dX4_init_71 : decode cX4_init 71 = .ok (.newarray .int, 2) := by decide +kernel
theorem dX4_init_73 : decode cX4_init 73 = .ok (.putfield 35, 3) := by decide +kernel
theorem dX4_init_76 : decode cX4_init 76 = .ok (.aload_n 0, 1) := by decide +kernel
theorem dX4_init_77 : decode cX4_init 77 = .ok (.bipush 12, 2) := by decide +kernel
theorem dX4_init_79 : decode cX4_init 79 = .ok (.newarray .int, 2) := by decide +kernel
theorem dX4_init_81 : decode cX4_init 81 = .ok (.putfield 38, 3) := by decide +kernel
theorem dX4_init_84 : decode cX4_init 84 = .ok (.aload_n 0, 1) := by decide +kernel
theorem dX4_init_85 : decode cX4_init 85 = .ok (.bipush 12, 2) := by decide +kernel
theorem dX4_init_87 : decode cX4_init 87 = .ok (.newarray .int, 2) := by decide +kernel
theorem dX4_init_89 : decode cX4_init 89 = .ok (.putfield 41, 3) := by decide +kernel
theorem dX4_init_92 : decode cX4_init 92 = .ok (.aload_n 0, 1) := by decide +kernel
theorem dX4_init_93 : decode cX4_init 93 = .ok (.bipush 12, 2) := by decide +kernel
theorem dX4_init_95 : decode cX4_init 95 = .ok (.newarray .int, 2) := by decide +kernel
theorem dX4_init_97 : decode cX4_init 97 = .ok (.putfield 44, 3) := by decide +kernel
theorem dX4_init_100 : decode cX4_init 100 = .ok (.aload_n 0, 1) := by decide +kernel
theorem dX4_init_101 : decode cX4_init 101 = .ok (.bipush 12, 2) := by decide +kernel
theorem dX4_init_103 : decode cX4_init 103 = .ok (.newarray .int, 2) := by decide +kernel
theorem dX4_init_105 : decode cX4_init 105 = .ok (.putfield 47, 3) := by decide +kernel
theorem dX4_init_108 : decode cX4_init 108 = .ok (.aload_n 0, 1) := by decide +kernel
theorem dX4_init_109 : decode cX4_init 109 = .ok (.bipush 12, 2) := by decide +kernel
theorem dX4_init_111 : decode cX4_init 111 = .ok (.newarray .int, 2) := by decide +kernel
theorem dX4_init_113 : decode cX4_init 113 = .ok (.putfield 50, 3) := by decide +kernel
theorem dX4_init_116 : decode cX4_init 116 = .ok (.aload_n 0, 1) := by decide +kernel
theorem dX4_init_117 : decode cX4_init 117 = .ok (.bipush 96, 2) := by decide +kernel
theorem dX4_init_119 : decode cX4_init 119 = .ok (.newarray .int, 2) := by decide +kernel
theorem dX4_init_121 : decode cX4_init 121 = .ok (.putfield 53, 3) := by decide +kernel
theorem dX4_init_124 : decode cX4_init 124 = .ok (.aload_n 0, 1) := by decide +kernel
theorem dX4_init_125 : decode cX4_init 125 = .ok (.bipush 96, 2) := by decide +kernel
theorem dX4_init_127 : decode cX4_init 127 = .ok (.newarray .int, 2) := by decide +kernel
theorem dX4_init_129 : decode cX4_init 129 = .ok (.putfield 56, 3) := by decide +kernel
theorem dX4_init_132 : decode cX4_init 132 = .ok (.aload_n 0, 1) := by decide +kernel
theorem dX4_init_133 : decode cX4_init 133 = .ok (.bipush 8, 2) := by decide +kernel
theorem dX4_init_135 : decode cX4_init 135 = .ok (.newarray .int, 2) := by decide +kernel
theorem dX4_init_137 : decode cX4_init 137 = .ok (.putfield 59, 3) := by decide +kernel
theorem dX4_init_140 : decode cX4_init 140 = .ok (.aload_n 0, 1) := by decide +kernel
theorem dX4_init_141 : decode cX4_init 141 = .ok (.bipush 8, 2) := by decide +kernel
theorem dX4_init_143 : decode cX4_init 143 = .ok (.newarray .int, 2) := by decide +kernel
theorem dX4_init_145 : decode cX4_init 145 = .ok (.putfield 62, 3) := by decide +kernel
theorem dX4_init_148 : decode cX4_init 148 = .ok (.aload_n 0, 1) := by decide +kernel
theorem dX4_init_149 : decode cX4_init 149 = .ok (.bipush 8, 2) := by decide +kernel
theorem dX4_init_151 : decode cX4_init 151 = .ok (.newarray .int, 2) := by decide +kernel
theorem dX4_init_153 : decode cX4_init 153 = .ok (.putfield 65, 3) := by decide +kernel
theorem dX4_init_156 : decode cX4_init 156 = .ok (.aload_n 0, 1) := by decide +kernel
theorem dX4_init_157 : decode cX4_init 157 = .ok (.bipush 8, 2) := by decide +kernel
theorem dX4_init_159 : decode cX4_init 159 = .ok (.newarray .int, 2) := by decide +kernel
theorem dX4_init_161 : decode cX4_init 161 = .ok (.putfield 68, 3) := by decide +kernel
theorem dX4_init_164 : decode cX4_init 164 = .ok (.aload_n 0, 1) := by decide +kernel
theorem dX4_init_165 : decode cX4_init 165 = .ok (.bipush 100, 2) := by decide +kernel
theorem dX4_init_167 : decode cX4_init 167 = .ok (.newarray .int, 2) := by decide +kernel
theorem dX4_init_169 : decode cX4_init 169 = .ok (.putfield 71, 3) := by decide +kernel
theorem dX4_init_172 : decode cX4_init 172 = .ok (.aload_n 0, 1) := by decide +kernel
theorem dX4_init_173 : decode cX4_init 173 = .ok (.bipush 100, 2) := by decide +kernel
theorem dX4_init_175 : decode cX4_init 175 = .ok (.newarray .int, 2) := by decide +kernel
theorem dX4_init_177 : decode cX4_init 177 = .ok (.putfield 74, 3) := by decide +kernel
theorem dX4_init_180 : decode cX4_init 180 = .ok (.aload_n 0, 1) := by decide +kernel
theorem dX4_init_181 : decode cX4_init 181 = .ok (.bipush 100, 2) := by decide +kernel
theorem dX4_init_183 : decode cX4_init 183 = .ok (.newarray .int, 2) := by decide +kernel
theorem dX4_init_185 : decode cX4_init 185 = .ok (.putfield 77, 3) := by decide +kernel
theorem dX4_init_188 : decode cX4_init 188 = .ok (.aload_n 0, 1) := by decide +kernel
theorem dX4_init_189 : decode cX4_init 189 = .ok (.bipush 100, 2) := by decide +kernel
theorem dX4_init_191 : decode cX4_init 191 = .ok (.newarray .int, 2) := by decide +kernel
theorem dX4_init_193 : decode cX4_init 193 = .ok (.putfield 80, 3) := by decide +kernel
theorem dX4_init_196 : decode cX4_init 196 = .ok (.aload_n 0, 1) := by decide +kernel
theorem dX4_init_197 : decode cX4_init 197 = .ok (.bipush 100, 2) := by decide +kernel
theorem dX4_init_199 : decode cX4_init 199 = .ok (.newarray .int, 2) := by decide +kernel
theorem dX4_init_201 : decode cX4_init 201 = .ok (.putfield 83, 3) := by decide +kernel
theorem dX4_init_204 : decode cX4_init 204 = .ok (.aload_n 0, 1) := by decide +kernel
theorem dX4_init_205 : decode cX4_init 205 = .ok (.bipush 100, 2) := by decide +kernel
theorem dX4_init_207 : decode cX4_init 207 = .ok (.newarray .int, 2) := by decide +kernel
theorem dX4_init_209 : decode cX4_init 209 = .ok (.putfield 86, 3) := by decide +kernel
theorem dX4_init_212 : decode cX4_init 212 = .ok (.aload_n 0, 1) := by decide +kernel
theorem dX4_init_213 : decode cX4_init 213 = .ok (.bipush 100, 2) := by decide +kernel
theorem dX4_init_215 : decode cX4_init 215 = .ok (.newarray .int, 2) := by decide +kernel
theorem dX4_init_217 : decode cX4_init 217 = .ok (.putfield 89, 3) := by decide +kernel
theorem dX4_init_220 : decode cX4_init 220 = .ok (.aload_n 0, 1) := by decide +kernel
theorem dX4_init_221 : decode cX4_init 221 = .ok (.bipush 100, 2) := by decide +kernel
theorem dX4_init_223 : decode cX4_init 223 = .ok (.newarray .int, 2) := by decide +kernel
theorem dX4_init_225 : decode cX4_init 225 = .ok (.putfield 92, 3) := by decide +kernel
theorem dX4_init_228 : decode cX4_init 228 = .ok (.aload_n 0, 1) := by decide +kernel
theorem dX4_init_229 : decode cX4_init 229 = .ok (.sipush 500, 3) := by decide +kernel
theorem dX4_init_232 : decode cX4_init 232 = .ok (.newarray .int, 2) := by decide +kernel
theorem dX4_init_234 : decode cX4_init 234 = .ok (.putfield 95, 3) := by decide +kernel
theorem dX4_init_237 : decode cX4_init 237 = .ok (.aload_n 0, 1) := by decide +kernel
theorem dX4_init_238 : decode cX4_init 238 = .ok (.sipush 500, 3) := by decide +kernel
theorem dX4_init_241 : decode cX4_init 241 = .ok (.newarray .int, 2) := by decide +kernel
theorem dX4_init_243 : decode cX4_init 243 = .ok (.putfield 98, 3) := by decide +kernel
theorem dX4_init_246 : decode cX4_init 246 = .ok (.aload_n 0, 1) := by decide +kernel
theorem dX4_init_247 : decode cX4_init 247 = .ok (.iconst 5, 1) := by decide +kernel
theorem dX4_init_248 : decode cX4_init 248 = .ok (.newarray .int, 2) := by decide +kernel
theorem dX4_init_250 : decode cX4_init 250 = .ok (.putfield 101, 3) := by decide +kernel
theorem dX4_init_253 : decode cX4_init 253 = .ok (.iconst 0, 1) := by decide +kernel
theorem dX4_init_254 : decode cX4_init 254 = .ok (.istore_n 1, 1) := by decide +kernel
theorem dX4_init_255 : decode cX4_init 255 = .ok (.iload_n 1, 1) := by decide +kernel
theorem dX4_init_256 : decode cX4_init 256 = .ok (.bipush 100, 2) := by decide +kernel
theorem dX4_init_258 : decode cX4_init 258 = .ok (.if_icmp .ge 16, 3) := by decide +kernel
theorem dX4_init_261 : decode cX4_init 261 = .ok (.aload_n 0, 1) := by decide +kernel
theorem dX4_init_262 : decode cX4_init 262 = .ok (.getfield 26, 3) := by decide +kernel
theorem dX4_init_265 : decode cX4_init 265 = .ok (.iload_n 1, 1) := by decide +kernel
theorem dX4_init_266 : decode cX4_init 266 = .ok (.iconst (-1), 1) := by decide +kernel
theorem dX4_init_267 : decode cX4_init 267 = .ok (.iastore, 1) := by decide +kernel
theorem dX4_init_268 : decode cX4_init 268 = .ok (.iinc 1 1, 3) := by decide +kernel
theorem dX4_init_271 : decode cX4_init 271 = .ok (.goto (-16), 3) := by decide +kernel
theorem dX4_init_274 : decode cX4_init 274 = .ok (.iconst 0, 1) := by decide +kernel
theorem dX4_init_275 : decode cX4_init 275 = .ok (.istore_n 1, 1) := by decide +kernel
theorem dX4_init_276 : decode cX4_init 276 = .ok (.iload_n 1, 1) := by decide +kernel
theorem dX4_init_277 : decode cX4_init 277 = .ok (.iconst 5, 1) := by decide +kernel
theorem dX4_init_278 : decode cX4_init 278 = .ok (.if_icmp .ge 18, 3) := by decide +kernel
theorem dX4_init_281 : decode cX4_init 281 = .ok (.aload_n 0, 1) := by decide +kernel
theorem dX4_init_282 : decode cX4_init 282 = .ok (.getfield 101, 3) := by decide +kernel
theorem dX4_init_285 : decode cX4_init 285 = .ok (.iload_n 1, 1) := by decide +kernel
theorem dX4_init_286 : decode cX4_init 286 = .ok (.sipush 20000, 3) := by decide +kernel
theorem dX4_init_289 : decode cX4_init 289 = .ok (.iastore, 1) := by decide +kernel
theorem dX4_init_290 : decode cX4_init 290 = .ok (.iinc 1 1, 3) := by decide +kernel
theorem dX4_init_293 : decode cX4_init 293 = .ok (.goto (-17), 3) := by decide +kernel
theorem dX4_init_296 : decode cX4_init 296 = .ok (.return_, 1) := by decide +kernel
theorem dX4_thrown_0 : decode cX4_thrown 0 = .ok (.aload_n 0, 1) := by decide +kernel
theorem dX4_thrown_1 : decode cX4_thrown 1 = .ok (.getfield 104, 3) := by decide +kernel
theorem dX4_thrown_4 : decode cX4_thrown 4 = .ok (.ireturn, 1) := by decide +kernel
theorem dX4_in_0 : decode cX4_in 0 = .ok (.iload_n 0, 1) := by decide +kernel
theorem dX4_in_1 : decode cX4_in 1 = .ok (.iload_n 1, 1) := by decide +kernel
theorem dX4_in_2 : decode cX4_in 2 = .ok (.if_icmp .lt 12, 3) := by decide +kernel
theorem dX4_in_5 : decode cX4_in 5 = .ok (.iload_n 0, 1) := by decide +kernel
theorem dX4_in_6 : decode cX4_in 6 = .ok (.iload_n 2, 1) := by decide +kernel
theorem dX4_in_7 : decode cX4_in 7 = .ok (.if_icmp .gt 7, 3) := by decide +kernel
theorem dX4_in_10 : decode cX4_in 10 = .ok (.iconst 1, 1) := by decide +kernel
theorem dX4_in_11 : decode cX4_in 11 = .ok (.goto 4, 3) := by decide +kernel
theorem dX4_in_14 : decode cX4_in 14 = .ok (.iconst 0, 1) := by decide +kernel
theorem dX4_in_15 : decode cX4_in 15 = .ok (.ireturn, 1) := by decide +kernel
theorem dX4_isCell_0 : decode cX4_isCell 0 = .ok (.iload_n 0, 1) := by decide +kernel
theorem dX4_isCell_1 : decode cX4_isCell 1 = .ok (.iconst 0, 1) := by decide +kernel
theorem dX4_isCell_2 : decode cX4_isCell 2 = .ok (.bipush 99, 2) := by decide +kernel
theorem dX4_isCell_4 : decode cX4_isCell 4 = .ok (.invokestatic 108, 3) := by decide +kernel
theorem dX4_isCell_7 : decode cX4_isCell 7 = .ok (.ireturn, 1) := by decide +kernel
theorem dX4_isPerson_0 : decode cX4_isPerson 0 = .ok (.iload_n 0, 1) := by decide +kernel
theorem dX4_isPerson_1 : decode cX4_isPerson 1 = .ok (.iconst 0, 1) := by decide +kernel
theorem dX4_isPerson_2 : decode cX4_isPerson 2 = .ok (.bipush 7, 2) := by decide +kernel
theorem dX4_isPerson_4 : decode cX4_isPerson 4 = .ok (.invokestatic 108, 3) := by decide +kernel
theorem dX4_isPerson_7 : decode cX4_isPerson 7 = .ok (.ireturn, 1) := by decide +kernel
theorem dX4_isClaim_0 : decode cX4_isClaim 0 = .ok (.iload_n 1, 1) := by decide +kernel
theorem dX4_isClaim_1 : decode cX4_isClaim 1 = .ok (.iconst 0, 1) := by decide +kernel
theorem dX4_isClaim_2 : decode cX4_isClaim 2 = .ok (.aload_n 0, 1) := by decide +kernel
theorem dX4_isClaim_3 : decode cX4_isClaim 3 = .ok (.getfield 112, 3) := by decide +kernel
theorem dX4_isClaim_6 : decode cX4_isClaim 6 = .ok (.iconst 1, 1) := by decide +kernel
theorem dX4_isClaim_7 : decode cX4_isClaim 7 = .ok (.isub, 1) := by decide +kernel
theorem dX4_isClaim_8 : decode cX4_isClaim 8 = .ok (.invokestatic 108, 3) := by decide +kernel
theorem dX4_isClaim_11 : decode cX4_isClaim 11 = .ok (.ireturn, 1) := by decide +kernel
theorem dX4_isStone_0 : decode cX4_isStone 0 = .ok (.iload_n 1, 1) := by decide +kernel
theorem dX4_isStone_1 : decode cX4_isStone 1 = .ok (.iconst 0, 1) := by decide +kernel
theorem dX4_isStone_2 : decode cX4_isStone 2 = .ok (.aload_n 0, 1) := by decide +kernel
theorem dX4_isStone_3 : decode cX4_isStone 3 = .ok (.getfield 115, 3) := by decide +kernel
theorem dX4_isStone_6 : decode cX4_isStone 6 = .ok (.iconst 1, 1) := by decide +kernel
theorem dX4_isStone_7 : decode cX4_isStone 7 = .ok (.isub, 1) := by decide +kernel
theorem dX4_isStone_8 : decode cX4_isStone 8 = .ok (.invokestatic 108, 3) := by decide +kernel
theorem dX4_isStone_11 : decode cX4_isStone 11 = .ok (.ireturn, 1) := by decide +kernel
theorem dX4_isBarred_0 : decode cX4_isBarred 0 = .ok (.aload_n 0, 1) := by decide +kernel
theorem dX4_isBarred_1 : decode cX4_isBarred 1 = .ok (.getfield 118, 3) := by decide +kernel
theorem dX4_isBarred_4 : decode cX4_isBarred 4 = .ok (.aload_n 0, 1) := by decide +kernel
theorem dX4_isBarred_5 : decode cX4_isBarred 5 = .ok (.getfield 59, 3) := by decide +kernel
theorem dX4_isBarred_8 : decode cX4_isBarred 8 = .ok (.iload_n 1, 1) := by decide +kernel
theorem dX4_isBarred_9 : decode cX4_isBarred 9 = .ok (.iaload, 1) := by decide +kernel
theorem dX4_isBarred_10 : decode cX4_isBarred 10 = .ok (.if_icmp .ge 7, 3) := by decide +kernel
theorem dX4_isBarred_13 : decode cX4_isBarred 13 = .ok (.iconst 1, 1) := by decide +kernel
theorem dX4_isBarred_14 : decode cX4_isBarred 14 = .ok (.goto 4, 3) := by decide +kernel
theorem dX4_isBarred_17 : decode cX4_isBarred 17 = .ok (.iconst 0, 1) := by decide +kernel
theorem dX4_isBarred_18 : decode cX4_isBarred 18 = .ok (.ireturn, 1) := by decide +kernel
theorem dX4_beside_0 : decode cX4_beside 0 = .ok (.iload_n 0, 1) := by decide +kernel
theorem dX4_beside_1 : decode cX4_beside 1 = .ok (.bipush 10, 2) := by decide +kernel
theorem dX4_beside_3 : decode cX4_beside 3 = .ok (.idiv, 1) := by decide +kernel
theorem dX4_beside_4 : decode cX4_beside 4 = .ok (.iload_n 1, 1) := by decide +kernel
theorem dX4_beside_5 : decode cX4_beside 5 = .ok (.ifCond .ne 7, 3) := by decide +kernel
theorem dX4_beside_8 : decode cX4_beside 8 = .ok (.iconst (-1), 1) := by decide +kernel
theorem dX4_beside_9 : decode cX4_beside 9 = .ok (.goto 13, 3) := by decide +kernel
theorem dX4_beside_12 : decode cX4_beside 12 = .ok (.iload_n 1, 1) := by decide +kernel
theorem dX4_beside_13 : decode cX4_beside 13 = .ok (.iconst 1, 1) := by decide +kernel
theorem dX4_beside_14 : decode cX4_beside 14 = .ok (.if_icmp .ne 7, 3) := by decide +kernel
theorem dX4_beside_17 : decode cX4_beside 17 = .ok (.iconst 1, 1) := by decide +kernel
theorem dX4_beside_18 : decode cX4_beside 18 = .ok (.goto 4, 3) := by decide +kernel
theorem dX4_beside_21 : decode cX4_beside 21 = .ok (.iconst 0, 1) := by decide +kernel
theorem dX4_beside_22 : decode cX4_beside 22 = .ok (.iadd, 1) := by decide +kernel
theorem dX4_beside_23 : decode cX4_beside 23 = .ok (.istore_n 2, 1) := by decide +kernel
theorem dX4_beside_24 : decode cX4_beside 24 = .ok (.iload_n 0, 1) := by decide +kernel
theorem dX4_beside_25 : decode cX4_beside 25 = .ok (.bipush 10, 2) := by decide +kernel
theorem dX4_beside_27 : decode cX4_beside 27 = .ok (.irem, 1) := by decide +kernel
theorem dX4_beside_28 : decode cX4_beside 28 = .ok (.iload_n 1, 1) := by decide +kernel
theorem dX4_beside_29 : decode cX4_beside 29 = .ok (.iconst 2, 1) := by decide +kernel
theorem dX4_beside_30 : decode cX4_beside 30 = .ok (.if_icmp .ne 7, 3) := by decide +kernel
theorem dX4_beside_33 : decode cX4_beside 33 = .ok (.iconst (-1), 1) := by decide +kernel
theorem dX4_beside_34 : decode cX4_beside 34 = .ok (.goto 13, 3) := by decide +kernel
theorem dX4_beside_37 : decode cX4_beside 37 = .ok (.iload_n 1, 1) := by decide +kernel
theorem dX4_beside_38 : decode cX4_beside 38 = .ok (.iconst 3, 1) := by decide +kernel
theorem dX4_beside_39 : decode cX4_beside 39 = .ok (.if_icmp .ne 7, 3) := by decide +kernel
theorem dX4_beside_42 : decode cX4_beside 42 = .ok (.iconst 1, 1) := by decide +kernel
theorem dX4_beside_43 : decode cX4_beside 43 = .ok (.goto 4, 3) := by decide +kernel
theorem dX4_beside_46 : decode cX4_beside 46 = .ok (.iconst 0, 1) := by decide +kernel
theorem dX4_beside_47 : decode cX4_beside 47 = .ok (.iadd, 1) := by decide +kernel
theorem dX4_beside_48 : decode cX4_beside 48 = .ok (.istore_n 3, 1) := by decide +kernel
theorem dX4_beside_49 : decode cX4_beside 49 = .ok (.iload_n 2, 1) := by decide +kernel
theorem dX4_beside_50 : decode cX4_beside 50 = .ok (.iconst 0, 1) := by decide +kernel
theorem dX4_beside_51 : decode cX4_beside 51 = .ok (.bipush 9, 2) := by decide +kernel
theorem dX4_beside_53 : decode cX4_beside 53 = .ok (.invokestatic 108, 3) := by decide +kernel
theorem dX4_beside_56 : decode cX4_beside 56 = .ok (.ifCond .eq 22, 3) := by decide +kernel
theorem dX4_beside_59 : decode cX4_beside 59 = .ok (.iload_n 3, 1) := by decide +kernel
theorem dX4_beside_60 : decode cX4_beside 60 = .ok (.iconst 0, 1) := by decide +kernel
theorem dX4_beside_61 : decode cX4_beside 61 = .ok (.bipush 9, 2) := by decide +kernel
theorem dX4_beside_63 : decode cX4_beside 63 = .ok (.invokestatic 108, 3) := by decide +kernel
theorem dX4_beside_66 : decode cX4_beside 66 = .ok (.ifCond .eq 12, 3) := by decide +kernel
theorem dX4_beside_69 : decode cX4_beside 69 = .ok (.bipush 10, 2) := by decide +kernel
theorem dX4_beside_71 : decode cX4_beside 71 = .ok (.iload_n 2, 1) := by decide +kernel
theorem dX4_beside_72 : decode cX4_beside 72 = .ok (.imul, 1) := by decide +kernel
theorem dX4_beside_73 : decode cX4_beside 73 = .ok (.iload_n 3, 1) := by decide +kernel
theorem dX4_beside_74 : decode cX4_beside 74 = .ok (.iadd, 1) := by decide +kernel
theorem dX4_beside_75 : decode cX4_beside 75 = .ok (.goto 4, 3) := by decide +kernel
theorem dX4_beside_78 : decode cX4_beside 78 = .ok (.iconst (-1), 1) := by decide +kernel
theorem dX4_beside_79 : decode cX4_beside 79 = .ok (.ireturn, 1) := by decide +kernel
theorem dX4_seam_0 : decode cX4_seam 0 = .ok (.iload_n 2, 1) := by decide +kernel
theorem dX4_seam_1 : decode cX4_seam 1 = .ok (.iconst 1, 1) := by decide +kernel
theorem dX4_seam_2 : decode cX4_seam 2 = .ok (.sipush 999, 3) := by decide +kernel
theorem dX4_seam_5 : decode cX4_seam 5 = .ok (.invokestatic 108, 3) := by decide +kernel
theorem dX4_seam_8 : decode cX4_seam 8 = .ok (.ifCond .eq 17, 3) := by decide +kernel
theorem dX4_seam_11 : decode cX4_seam 11 = .ok (.iload_n 3, 1) := by decide +kernel
theorem dX4_seam_12 : decode cX4_seam 12 = .ok (.iconst 0, 1) := by decide +kernel
theorem dX4_seam_13 : decode cX4_seam 13 = .ok (.bipush 9, 2) := by decide +kernel
theorem dX4_seam_15 : decode cX4_seam 15 = .ok (.invokestatic 108, 3) := by decide +kernel
theorem dX4_seam_18 : decode cX4_seam 18 = .ok (.ifCond .eq 7, 3) := by decide +kernel
theorem dX4_seam_21 : decode cX4_seam 21 = .ok (.iconst 1, 1) := by decide +kernel
theorem dX4_seam_22 : decode cX4_seam 22 = .ok (.goto 4, 3) := by decide +kernel
theorem dX4_seam_25 : decode cX4_seam 25 = .ok (.iconst 0, 1) := by decide +kernel
theorem dX4_seam_26 : decode cX4_seam 26 = .ok (.istore 4, 2) := by decide +kernel
theorem dX4_seam_28 : decode cX4_seam 28 = .ok (.aload_n 0, 1) := by decide +kernel
theorem dX4_seam_29 : decode cX4_seam 29 = .ok (.iload_n 1, 1) := by decide +kernel
theorem dX4_seam_30 : decode cX4_seam 30 = .ok (.invokestatic 121, 3) := by decide +kernel
theorem dX4_seam_33 : decode cX4_seam 33 = .ok (.ifCond .ne 7, 3) := by decide +kernel
theorem dX4_seam_36 : decode cX4_seam 36 = .ok (.iconst 1, 1) := by decide +kernel
theorem dX4_seam_37 : decode cX4_seam 37 = .ok (.goto 35, 3) := by decide +kernel
theorem dX4_seam_40 : decode cX4_seam 40 = .ok (.iload 4, 2) := by decide +kernel
theorem dX4_seam_42 : decode cX4_seam 42 = .ok (.ifCond .ne 7, 3) := by decide +kernel
theorem dX4_seam_45 : decode cX4_seam 45 = .ok (.iconst 2, 1) := by decide +kernel
theorem dX4_seam_46 : decode cX4_seam 46 = .ok (.goto 26, 3) := by decide +kernel
theorem dX4_seam_49 : decode cX4_seam 49 = .ok (.aload_n 0, 1) := by decide +kernel
theorem dX4_seam_50 : decode cX4_seam 50 = .ok (.getfield 7, 3) := by decide +kernel
theorem dX4_seam_53 : decode cX4_seam 53 = .ok (.iload_n 1, 1) := by decide +kernel
theorem dX4_seam_54 : decode cX4_seam 54 = .ok (.iaload, 1) := by decide +kernel
theorem dX4_seam_55 : decode cX4_seam 55 = .ok (.ifCond .ne 12, 3) := by decide +kernel
theorem dX4_seam_58 : decode cX4_seam 58 = .ok (.aload_n 0, 1) := by decide +kernel
theorem dX4_seam_59 : decode cX4_seam 59 = .ok (.getfield 19, 3) := by decide +kernel
theorem dX4_seam_62 : decode cX4_seam 62 = .ok (.iload_n 1, 1) := by decide +kernel
theorem dX4_seam_63 : decode cX4_seam 63 = .ok (.baload, 1) := by decide +kernel
theorem dX4_seam_64 : decode cX4_seam 64 = .ok (.ifCond .eq 7, 3) := by decide +kernel
theorem dX4_seam_67 : decode cX4_seam 67 = .ok (.iconst 3, 1) := by decide +kernel
theorem dX4_seam_68 : decode cX4_seam 68 = .ok (.goto 4, 3) := by decide +kernel
theorem dX4_seam_71 : decode cX4_seam 71 = .ok (.iconst 0, 1) := by decide +kernel
theorem dX4_seam_72 : decode cX4_seam 72 = .ok (.putfield 104, 3) := by decide +kernel
theorem dX4_seam_75 : decode cX4_seam 75 = .ok (.aload_n 0, 1) := by decide +kernel
theorem dX4_seam_76 : decode cX4_seam 76 = .ok (.getfield 104, 3) := by decide +kernel
theorem dX4_seam_79 : decode cX4_seam 79 = .ok (.ifCond .ne 34, 3) := by decide +kernel
theorem dX4_seam_82 : decode cX4_seam 82 = .ok (.aload_n 0, 1) := by decide +kernel
theorem dX4_seam_83 : decode cX4_seam 83 = .ok (.getfield 19, 3) := by decide +kernel
theorem dX4_seam_86 : decode cX4_seam 86 = .ok (.iload_n 1, 1) := by decide +kernel
theorem dX4_seam_87 : decode cX4_seam 87 = .ok (.iconst 1, 1) := by decide +kernel
theorem dX4_seam_88 : decode cX4_seam 88 = .ok (.bastore, 1) := by decide +kernel
theorem dX4_seam_89 : decode cX4_seam 89 = .ok (.aload_n 0, 1) := by decide +kernel
theorem dX4_seam_90 : decode cX4_seam 90 = .ok (.getfield 13, 3) := by decide +kernel
theorem dX4_seam_93 : decode cX4_seam 93 = .ok (.iload_n 1, 1) := by decide +kernel
theorem dX4_seam_94 : decode cX4_seam 94 = .ok (.iload_n 2, 1) := by decide +kernel
theorem dX4_seam_95 : decode cX4_seam 95 = .ok (.iastore, 1) := by decide +kernel
theorem dX4_seam_96 : decode cX4_seam 96 = .ok (.aload_n 0, 1) := by decide +kernel
theorem dX4_seam_97 : decode cX4_seam 97 = .ok (.getfield 16, 3) := by decide +kernel
theorem dX4_seam_100 : decode cX4_seam 100 = .ok (.iload_n 1, 1) := by decide +kernel
theorem dX4_seam_101 : decode cX4_seam 101 = .ok (.iload_n 3, 1) := by decide +kernel
theorem dX4_seam_102 : decode cX4_seam 102 = .ok (.iastore, 1) := by decide +kernel
theorem dX4_seam_103 : decode cX4_seam 103 = .ok (.aload_n 0, 1) := by decide +kernel
theorem dX4_seam_104 : decode cX4_seam 104 = .ok (.dup, 1) := by decide +kernel
theorem dX4_seam_105 : decode cX4_seam 105 = .ok (.getfield 125, 3) := by decide +kernel
theorem dX4_seam_108 : decode cX4_seam 108 = .ok (.iload_n 2, 1) := by decide +kernel
theorem dX4_seam_109 : decode cX4_seam 109 = .ok (.iadd, 1) := by decide +kernel
theorem dX4_seam_110 : decode cX4_seam 110 = .ok (.putfield 125, 3) := by decide +kernel
theorem dX4_seam_113 : decode cX4_seam 113 = .ok (.return_, 1) := by decide +kernel
theorem dX4_pass_0 : decode cX4_pass 0 = .ok (.aload_n 0, 1) := by decide +kernel
theorem dX4_pass_1 : decode cX4_pass 1 = .ok (.iload_n 1, 1) := by decide +kernel
theorem dX4_pass_2 : decode cX4_pass 2 = .ok (.iconst 1, 1) := by decide +kernel
theorem dX4_pass_3 : decode cX4_pass 3 = .ok (.bipush 99, 2) := by decide +kernel
theorem dX4_pass_5 : decode cX4_pass 5 = .ok (.invokestatic 108, 3) := by decide +kernel
theorem dX4_pass_8 : decode cX4_pass 8 = .ok (.ifCond .ne 7, 3) := by decide +kernel
theorem dX4_pass_11 : decode cX4_pass 11 = .ok (.iconst 1, 1) := by decide +kernel
theorem dX4_pass_12 : decode cX4_pass 12 = .ok (.goto 20, 3) := by decide +kernel
theorem dX4_pass_15 : decode cX4_pass 15 = .ok (.aload_n 0, 1) := by decide +kernel
theorem dX4_pass_16 : decode cX4_pass 16 = .ok (.getfield 118, 3) := by decide +kernel
theorem dX4_pass_19 : decode cX4_pass 19 = .ok (.iload_n 1, 1) := by decide +kernel
theorem dX4_pass_20 : decode cX4_pass 20 = .ok (.iadd, 1) := by decide +kernel
theorem dX4_pass_21 : decode cX4_pass 21 = .ok (.sipush 5000, 3) := by decide +kernel
theorem dX4_pass_24 : decode cX4_pass 24 = .ok (.if_icmp .le 7, 3) := by decide +kernel
theorem dX4_pass_27 : decode cX4_pass 27 = .ok (.iconst 2, 1) := by decide +kernel
theorem dX4_pass_28 : decode cX4_pass 28 = .ok (.goto 4, 3) := by decide +kernel
theorem dX4_pass_31 : decode cX4_pass 31 = .ok (.iconst 0, 1) := by decide +kernel
theorem dX4_pass_32 : decode cX4_pass 32 = .ok (.putfield 104, 3) := by decide +kernel
theorem dX4_pass_35 : decode cX4_pass 35 = .ok (.aload_n 0, 1) := by decide +kernel
theorem dX4_pass_36 : decode cX4_pass 36 = .ok (.getfield 104, 3) := by decide +kernel
theorem dX4_pass_39 : decode cX4_pass 39 = .ok (.ifCond .le 5, 3) := by decide +kernel
theorem dX4_pass_42 : decode cX4_pass 42 = .ok (.iconst 0, 1) := by decide +kernel
theorem dX4_pass_43 : decode cX4_pass 43 = .ok (.ireturn, 1) := by decide +kernel
theorem dX4_pass_44 : decode cX4_pass 44 = .ok (.aload_n 0, 1) := by decide +kernel
theorem dX4_pass_45 : decode cX4_pass 45 = .ok (.dup, 1) := by decide +kernel
theorem dX4_pass_46 : decode cX4_pass 46 = .ok (.getfield 118, 3) := by decide +kernel
theorem dX4_pass_49 : decode cX4_pass 49 = .ok (.iload_n 1, 1) := by decide +kernel
theorem dX4_pass_50 : decode cX4_pass 50 = .ok (.iadd, 1) := by decide +kernel
theorem dX4_pass_51 : decode cX4_pass 51 = .ok (.putfield 118, 3) := by decide +kernel
theorem dX4_pass_54 : decode cX4_pass 54 = .ok (.aload_n 0, 1) := by decide +kernel
theorem dX4_pass_55 : decode cX4_pass 55 = .ok (.getfield 118, 3) := by decide +kernel
theorem dX4_pass_58 : decode cX4_pass 58 = .ok (.ireturn, 1) := by decide +kernel
theorem dX4_peg_0 : decode cX4_peg 0 = .ok (.iload_n 3, 1) := by decide +kernel
theorem dX4_peg_1 : decode cX4_peg 1 = .ok (.iconst 1, 1) := by decide +kernel
theorem dX4_peg_2 : decode cX4_peg 2 = .ok (.iconst 4, 1) := by decide +kernel
theorem dX4_peg_3 : decode cX4_peg 3 = .ok (.invokestatic 108, 3) := by decide +kernel
theorem dX4_peg_6 : decode cX4_peg 6 = .ok (.ifCond .eq 17, 3) := by decide +kernel
theorem dX4_peg_9 : decode cX4_peg 9 = .ok (.iload 4, 2) := by decide +kernel
theorem dX4_peg_11 : decode cX4_peg 11 = .ok (.iconst 1, 1) := by decide +kernel
theorem dX4_peg_12 : decode cX4_peg 12 = .ok (.iconst 4, 1) := by decide +kernel
theorem dX4_peg_13 : decode cX4_peg 13 = .ok (.invokestatic 108, 3) := by decide +kernel
theorem dX4_peg_16 : decode cX4_peg 16 = .ok (.ifCond .eq 7, 3) := by decide +kernel
theorem dX4_peg_19 : decode cX4_peg 19 = .ok (.iconst 1, 1) := by decide +kernel
theorem dX4_peg_20 : decode cX4_peg 20 = .ok (.goto 4, 3) := by decide +kernel
theorem dX4_peg_23 : decode cX4_peg 23 = .ok (.iconst 0, 1) := by decide +kernel
theorem dX4_peg_24 : decode cX4_peg 24 = .ok (.istore 5, 2) := by decide +kernel
theorem dX4_peg_26 : decode cX4_peg 26 = .ok (.aload_n 0, 1) := by decide +kernel
theorem dX4_peg_27 : decode cX4_peg 27 = .ok (.iload_n 1, 1) := by decide +kernel
theorem dX4_peg_28 : decode cX4_peg 28 = .ok (.invokestatic 128, 3) := by decide +kernel
theorem dX4_peg_31 : decode cX4_peg 31 = .ok (.ifCond .eq 10, 3) := by decide +kernel
theorem dX4_peg_34 : decode cX4_peg 34 = .ok (.iload_n 2, 1) := by decide +kernel
theorem dX4_peg_35 : decode cX4_peg 35 = .ok (.invokestatic 121, 3) := by decide +kernel
theorem dX4_peg_38 : decode cX4_peg 38 = .ok (.ifCond .ne 7, 3) := by decide +kernel
theorem dX4_peg_41 : decode cX4_peg 41 = .ok (.iconst 1, 1) := by decide +kernel
theorem dX4_peg_42 : decode cX4_peg 42 = .ok (.goto 4, 3) := by decide +kernel
theorem dX4_peg_45 : decode cX4_peg 45 = .ok (.iconst 0, 1) := by decide +kernel
theorem dX4_peg_46 : decode cX4_peg 46 = .ok (.putfield 104, 3) := by decide +kernel
theorem dX4_peg_49 : decode cX4_peg 49 = .ok (.aload_n 0, 1) := by decide +kernel
theorem dX4_peg_50 : decode cX4_peg 50 = .ok (.getfield 104, 3) := by decide +kernel
theorem dX4_peg_53 : decode cX4_peg 53 = .ok (.ifCond .ne 36, 3) := by decide +kernel
theorem dX4_peg_56 : decode cX4_peg 56 = .ok (.iload 5, 2) := by decide +kernel
theorem dX4_peg_58 : decode cX4_peg 58 = .ok (.ifCond .eq 26, 3) := by decide +kernel
theorem dX4_peg_61 : decode cX4_peg 61 = .ok (.iload_n 2, 1) := by decide +kernel
theorem dX4_peg_62 : decode cX4_peg 62 = .ok (.bipush 10, 2) := by decide +kernel
theorem dX4_peg_64 : decode cX4_peg 64 = .ok (.idiv, 1) := by decide +kernel
theorem dX4_peg_65 : decode cX4_peg 65 = .ok (.iload_n 3, 1) := by decide +kernel
theorem dX4_peg_66 : decode cX4_peg 66 = .ok (.iadd, 1) := by decide +kernel
theorem dX4_peg_67 : decode cX4_peg 67 = .ok (.bipush 10, 2) := by decide +kernel
theorem dX4_peg_69 : decode cX4_peg 69 = .ok (.if_icmp .gt 15, 3) := by decide +kernel
theorem dX4_peg_72 : decode cX4_peg 72 = .ok (.iload_n 2, 1) := by decide +kernel
theorem dX4_peg_73 : decode cX4_peg 73 = .ok (.bipush 10, 2) := by decide +kernel
theorem dX4_peg_75 : decode cX4_peg 75 = .ok (.irem, 1) := by decide +kernel
theorem dX4_peg_76 : decode cX4_peg 76 = .ok (.iload 4, 2) := by decide +kernel
theorem dX4_peg_78 : decode cX4_peg 78 = .ok (.iadd, 1) := by decide +kernel
theorem dX4_peg_79 : decode cX4_peg 79 = .ok (.bipush 10, 2) := by decide +kernel
theorem dX4_peg_81 : decode cX4_peg 81 = .ok (.if_icmp .le 8, 3) := by decide +kernel
theorem dX4_peg_84 : decode cX4_peg 84 = .ok (.aload_n 0, 1) := by decide +kernel
theorem dX4_peg_85 : decode cX4_peg 85 = .ok (.iconst 2, 1) := by decide +kernel
theorem dX4_peg_86 : decode cX4_peg 86 = .ok (.putfield 104, 3) := by decide +kernel
theorem dX4_peg_89 : decode cX4_peg 89 = .ok (.aload_n 0, 1) := by decide +kernel
theorem dX4_peg_90 : decode cX4_peg 90 = .ok (.getfield 104, 3) := by decide +kernel
theorem dX4_peg_93 : decode cX4_peg 93 = .ok (.ifCond .ne 25, 3) := by decide +kernel
theorem dX4_peg_96 : decode cX4_peg 96 = .ok (.aload_n 0, 1) := by decide +kernel
theorem dX4_peg_97 : decode cX4_peg 97 = .ok (.getfield 112, 3) := by decide +kernel
theorem dX4_peg_100 : decode cX4_peg 100 = .ok (.bipush 12, 2) := by decide +kernel
theorem dX4_peg_102 : decode cX4_peg 102 = .ok (.if_icmp .eq 11, 3) := by decide +kernel
theorem dX4_peg_105 : decode cX4_peg 105 = .ok (.aload_n 0, 1) := by decide +kernel
theorem dX4_peg_106 : decode cX4_peg 106 = .ok (.iload_n 1, 1) := by decide +kernel
theorem dX4_peg_107 : decode cX4_peg 107 = .ok (.invokevirtual 131, 3) := by decide +kernel
theorem dX4_peg_110 : decode cX4_peg 110 = .ok (.ifCond .eq 8, 3) := by decide +kernel
theorem dX4_peg_113 : decode cX4_peg 113 = .ok (.aload_n 0, 1) := by decide +kernel
theorem dX4_peg_114 : decode cX4_peg 114 = .ok (.iconst 3, 1) := by decide +kernel
theorem dX4_peg_115 : decode cX4_peg 115 = .ok (.putfield 104, 3) := by decide +kernel
theorem dX4_peg_118 : decode cX4_peg 118 = .ok (.aload_n 0, 1) := by decide +kernel
theorem dX4_peg_119 : decode cX4_peg 119 = .ok (.getfield 104, 3) := by decide +kernel
theorem dX4_peg_122 : decode cX4_peg 122 = .ok (.ifCond .le 5, 3) := by decide +kernel
theorem dX4_peg_125 : decode cX4_peg 125 = .ok (.iconst 0, 1) := by decide +kernel
theorem dX4_peg_126 : decode cX4_peg 126 = .ok (.ireturn, 1) := by decide +kernel
theorem dX4_peg_127 : decode cX4_peg 127 = .ok (.aload_n 0, 1) := by decide +kernel
theorem dX4_peg_128 : decode cX4_peg 128 = .ok (.getfield 32, 3) := by decide +kernel
theorem dX4_peg_131 : decode cX4_peg 131 = .ok (.aload_n 0, 1) := by decide +kernel
theorem dX4_peg_132 : decode cX4_peg 132 = .ok (.getfield 112, 3) := by decide +kernel
theorem dX4_peg_135 : decode cX4_peg 135 = .ok (.iload_n 1, 1) := by decide +kernel
theorem dX4_peg_136 : decode cX4_peg 136 = .ok (.iastore, 1) := by decide +kernel
theorem dX4_peg_137 : decode cX4_peg 137 = .ok (.aload_n 0, 1) := by decide +kernel
theorem dX4_peg_138 : decode cX4_peg 138 = .ok (.getfield 35, 3) := by decide +kernel
theorem dX4_peg_141 : decode cX4_peg 141 = .ok (.aload_n 0, 1) := by decide +kernel
theorem dX4_peg_142 : decode cX4_peg 142 = .ok (.getfield 112, 3) := by decide +kernel
theorem dX4_peg_145 : decode cX4_peg 145 = .ok (.iload_n 2, 1) := by decide +kernel
theorem dX4_peg_146 : decode cX4_peg 146 = .ok (.iastore, 1) := by decide +kernel
theorem dX4_peg_147 : decode cX4_peg 147 = .ok (.aload_n 0, 1) := by decide +kernel
theorem dX4_peg_148 : decode cX4_peg 148 = .ok (.getfield 38, 3) := by decide +kernel
theorem dX4_peg_151 : decode cX4_peg 151 = .ok (.aload_n 0, 1) := by decide +kernel
theorem dX4_peg_152 : decode cX4_peg 152 = .ok (.getfield 112, 3) := by decide +kernel
theorem dX4_peg_155 : decode cX4_peg 155 = .ok (.iload_n 3, 1) := by decide +kernel
theorem dX4_peg_156 : decode cX4_peg 156 = .ok (.iastore, 1) := by decide +kernel
theorem dX4_peg_157 : decode cX4_peg 157 = .ok (.aload_n 0, 1) := by decide +kernel
theorem dX4_peg_158 : decode cX4_peg 158 = .ok (.getfield 41, 3) := by decide +kernel
theorem dX4_peg_161 : decode cX4_peg 161 = .ok (.aload_n 0, 1) := by decide +kernel
theorem dX4_peg_162 : decode cX4_peg 162 = .ok (.getfield 112, 3) := by decide +kernel
theorem dX4_peg_165 : decode cX4_peg 165 = .ok (.iload 4, 2) := by decide +kernel
theorem dX4_peg_167 : decode cX4_peg 167 = .ok (.iastore, 1) := by decide +kernel
theorem dX4_peg_168 : decode cX4_peg 168 = .ok (.aload_n 0, 1) := by decide +kernel
theorem dX4_peg_169 : decode cX4_peg 169 = .ok (.getfield 44, 3) := by decide +kernel
theorem dX4_peg_172 : decode cX4_peg 172 = .ok (.aload_n 0, 1) := by decide +kernel
theorem dX4_peg_173 : decode cX4_peg 173 = .ok (.getfield 112, 3) := by decide +kernel
theorem dX4_peg_176 : decode cX4_peg 176 = .ok (.aload_n 0, 1) := by decide +kernel
theorem dX4_peg_177 : decode cX4_peg 177 = .ok (.getfield 118, 3) := by decide +kernel
theorem dX4_peg_180 : decode cX4_peg 180 = .ok (.iastore, 1) := by decide +kernel
theorem dX4_peg_181 : decode cX4_peg 181 = .ok (.aload_n 0, 1) := by decide +kernel
theorem dX4_peg_182 : decode cX4_peg 182 = .ok (.getfield 47, 3) := by decide +kernel
theorem dX4_peg_185 : decode cX4_peg 185 = .ok (.aload_n 0, 1) := by decide +kernel
theorem dX4_peg_186 : decode cX4_peg 186 = .ok (.getfield 112, 3) := by decide +kernel
theorem dX4_peg_189 : decode cX4_peg 189 = .ok (.aload_n 0, 1) := by decide +kernel
theorem dX4_peg_190 : decode cX4_peg 190 = .ok (.getfield 118, 3) := by decide +kernel
theorem dX4_peg_193 : decode cX4_peg 193 = .ok (.iastore, 1) := by decide +kernel
theorem dX4_peg_194 : decode cX4_peg 194 = .ok (.iconst 0, 1) := by decide +kernel
theorem dX4_peg_195 : decode cX4_peg 195 = .ok (.istore 6, 2) := by decide +kernel
theorem dX4_peg_197 : decode cX4_peg 197 = .ok (.iload 6, 2) := by decide +kernel
theorem dX4_peg_199 : decode cX4_peg 199 = .ok (.bipush 8, 2) := by decide +kernel
theorem dX4_peg_201 : decode cX4_peg 201 = .ok (.if_icmp .ge 25, 3) := by decide +kernel
theorem dX4_peg_204 : decode cX4_peg 204 = .ok (.aload_n 0, 1) := by decide +kernel
theorem dX4_peg_205 : decode cX4_peg 205 = .ok (.getfield 56, 3) := by decide +kernel
theorem dX4_peg_208 : decode cX4_peg 208 = .ok (.bipush 8, 2) := by decide +kernel
theorem dX4_peg_210 : decode cX4_peg 210 = .ok (.aload_n 0, 1) := by decide +kernel
theorem dX4_peg_211 : decode cX4_peg 211 = .ok (.getfield 112, 3) := by decide +kernel
theorem dX4_peg_214 : decode cX4_peg 214 = .ok (.imul, 1) := by decide +kernel
theorem dX4_peg_215 : decode cX4_peg 215 = .ok (.iload 6, 2) := by decide +kernel
theorem dX4_peg_217 : decode cX4_peg 217 = .ok (.iadd, 1) := by decide +kernel
theorem dX4_peg_218 : decode cX4_peg 218 = .ok (.iconst (-1), 1) := by decide +kernel
theorem dX4_peg_219 : decode cX4_peg 219 = .ok (.iastore, 1) := by decide +kernel
theorem dX4_peg_220 : decode cX4_peg 220 = .ok (.iinc 6 1, 3) := by decide +kernel
theorem dX4_peg_223 : decode cX4_peg 223 = .ok (.goto (-26), 3) := by decide +kernel
theorem dX4_peg_226 : decode cX4_peg 226 = .ok (.aload_n 0, 1) := by decide +kernel
theorem dX4_peg_227 : decode cX4_peg 227 = .ok (.dup, 1) := by decide +kernel
theorem dX4_peg_228 : decode cX4_peg 228 = .ok (.getfield 112, 3) := by decide +kernel
theorem dX4_peg_231 : decode cX4_peg 231 = .ok (.iconst 1, 1) := by decide +kernel
theorem dX4_peg_232 : decode cX4_peg 232 = .ok (.iadd, 1) := by decide +kernel
theorem dX4_peg_233 : decode cX4_peg 233 = .ok (.putfield 112, 3) := by decide +kernel
theorem dX4_peg_236 : decode cX4_peg 236 = .ok (.aload_n 0, 1) := by decide +kernel
theorem dX4_peg_237 : decode cX4_peg 237 = .ok (.getfield 112, 3) := by decide +kernel
theorem dX4_peg_240 : decode cX4_peg 240 = .ok (.iconst 1, 1) := by decide +kernel
theorem dX4_peg_241 : decode cX4_peg 241 = .ok (.isub, 1) := by decide +kernel
theorem dX4_peg_242 : decode cX4_peg 242 = .ok (.ireturn, 1) := by decide +kernel
theorem dX4_ownersShare_0 : decode cX4_ownersShare 0 = .ok (.bipush 12, 2) := by decide +kernel
theorem dX4_ownersShare_2 : decode cX4_ownersShare 2 = .ok (.istore_n 2, 1) := by decide +kernel
theorem dX4_ownersShare_3 : decode cX4_ownersShare 3 = .ok (.iconst 0, 1) := by decide +kernel
theorem dX4_ownersShare_4 : decode cX4_ownersShare 4 = .ok (.istore_n 3, 1) := by decide +kernel
theorem dX4_ownersShare_5 : decode cX4_ownersShare 5 = .ok (.iload_n 3, 1) := by decide +kernel
theorem dX4_ownersShare_6 : decode cX4_ownersShare 6 = .ok (.bipush 8, 2) := by decide +kernel
theorem dX4_ownersShare_8 : decode cX4_ownersShare 8 = .ok (.if_icmp .ge 23, 3) := by decide +kernel
theorem dX4_ownersShare_11 : decode cX4_ownersShare 11 = .ok (.iload_n 2, 1) := by decide +kernel
theorem dX4_ownersShare_12 : decode cX4_ownersShare 12 = .ok (.aload_n 0, 1) := by decide +kernel
theorem dX4_ownersShare_13 : decode cX4_ownersShare 13 = .ok (.getfield 53, 3) := by decide +kernel
theorem dX4_ownersShare_16 : decode cX4_ownersShare 16 = .ok (.bipush 8, 2) := by decide +kernel
theorem dX4_ownersShare_18 : decode cX4_ownersShare 18 = .ok (.iload_n 1, 1) := by decide +kernel
theorem dX4_ownersShare_19 : decode cX4_ownersShare 19 = .ok (.imul, 1) := by decide +kernel
theorem dX4_ownersShare_20 : decode cX4_ownersShare 20 = .ok (.iload_n 3, 1) := by decide +kernel
theorem dX4_ownersShare_21 : decode cX4_ownersShare 21 = .ok (.iadd, 1) := by decide +kernel
theorem dX4_ownersShare_22 : decode cX4_ownersShare 22 = .ok (.iaload, 1) := by decide +kernel
theorem dX4_ownersShare_23 : decode cX4_ownersShare 23 = .ok (.isub, 1) := by decide +kernel
theorem dX4_ownersShare_24 : decode cX4_ownersShare 24 = .ok (.istore_n 2, 1) := by decide +kernel
theorem dX4_ownersShare_25 : decode cX4_ownersShare 25 = .ok (.iinc 3 1, 3) := by decide +kernel
theorem dX4_ownersShare_28 : decode cX4_ownersShare 28 = .ok (.goto (-23), 3) := by decide +kernel
theorem dX4_ownersShare_31 : decode cX4_ownersShare 31 = .ok (.iload_n 2, 1) := by decide +kernel
theorem dX4_ownersShare_32 : decode cX4_ownersShare 32 = .ok (.ireturn, 1) := by decide +kernel
theorem dX4_shareOf_0 : decode cX4_shareOf 0 = .ok (.iload_n 2, 1) := by decide +kernel
theorem dX4_shareOf_1 : decode cX4_shareOf 1 = .ok (.aload_n 0, 1) := by decide +kernel
theorem dX4_shareOf_2 : decode cX4_shareOf 2 = .ok (.getfield 32, 3) := by decide +kernel
theorem dX4_shareOf_5 : decode cX4_shareOf 5 = .ok (.iload_n 1, 1) := by decide +kernel
theorem dX4_shareOf_6 : decode cX4_shareOf 6 = .ok (.iaload, 1) := by decide +kernel
theorem dX4_shareOf_7 : decode cX4_shareOf 7 = .ok (.if_icmp .ne 11, 3) := by decide +kernel
theorem dX4_shareOf_10 : decode cX4_shareOf 10 = .ok (.aload_n 0, 1) := by decide +kernel
theorem dX4_shareOf_11 : decode cX4_shareOf 11 = .ok (.iload_n 1, 1) := by decide +kernel
theorem dX4_shareOf_12 : decode cX4_shareOf 12 = .ok (.invokevirtual 134, 3) := by decide +kernel
theorem dX4_shareOf_15 : decode cX4_shareOf 15 = .ok (.goto 14, 3) := by decide +kernel
theorem dX4_shareOf_18 : decode cX4_shareOf 18 = .ok (.aload_n 0, 1) := by decide +kernel
theorem dX4_shareOf_19 : decode cX4_shareOf 19 = .ok (.getfield 53, 3) := by decide +kernel
theorem dX4_shareOf_22 : decode cX4_shareOf 22 = .ok (.bipush 8, 2) := by decide +kernel
theorem dX4_shareOf_24 : decode cX4_shareOf 24 = .ok (.iload_n 1, 1) := by decide +kernel
theorem dX4_shareOf_25 : decode cX4_shareOf 25 = .ok (.imul, 1) := by decide +kernel
theorem dX4_shareOf_26 : decode cX4_shareOf 26 = .ok (.iload_n 2, 1) := by decide +kernel
theorem dX4_shareOf_27 : decode cX4_shareOf 27 = .ok (.iadd, 1) := by decide +kernel
theorem dX4_shareOf_28 : decode cX4_shareOf 28 = .ok (.iaload, 1) := by decide +kernel
theorem dX4_shareOf_29 : decode cX4_shareOf 29 = .ok (.ireturn, 1) := by decide +kernel
theorem dX4_isLive_0 : decode cX4_isLive 0 = .ok (.aload_n 0, 1) := by decide +kernel
theorem dX4_isLive_1 : decode cX4_isLive 1 = .ok (.getfield 118, 3) := by decide +kernel
theorem dX4_isLive_4 : decode cX4_isLive 4 = .ok (.aload_n 0, 1) := by decide +kernel
theorem dX4_isLive_5 : decode cX4_isLive 5 = .ok (.getfield 47, 3) := by decide +kernel
theorem dX4_isLive_8 : decode cX4_isLive 8 = .ok (.iload_n 1, 1) := by decide +kernel
theorem dX4_isLive_9 : decode cX4_isLive 9 = .ok (.iaload, 1) := by decide +kernel
theorem dX4_isLive_10 : decode cX4_isLive 10 = .ok (.isub, 1) := by decide +kernel
theorem dX4_isLive_11 : decode cX4_isLive 11 = .ok (.bipush 72, 2) := by decide +kernel
theorem dX4_isLive_13 : decode cX4_isLive 13 = .ok (.if_icmp .ge 7, 3) := by decide +kernel
theorem dX4_isLive_16 : decode cX4_isLive 16 = .ok (.iconst 1, 1) := by decide +kernel
theorem dX4_isLive_17 : decode cX4_isLive 17 = .ok (.goto 4, 3) := by decide +kernel
theorem dX4_isLive_20 : decode cX4_isLive 20 = .ok (.iconst 0, 1) := by decide +kernel
theorem dX4_isLive_21 : decode cX4_isLive 21 = .ok (.ireturn, 1) := by decide +kernel
theorem dX4_upTo_0 : decode cX4_upTo 0 = .ok (.iconst 0, 1) := by decide +kernel
theorem dX4_upTo_1 : decode cX4_upTo 1 = .ok (.istore_n 3, 1) := by decide +kernel
theorem dX4_upTo_2 : decode cX4_upTo 2 = .ok (.iconst 0, 1) := by decide +kernel
theorem dX4_upTo_3 : decode cX4_upTo 3 = .ok (.istore 4, 2) := by decide +kernel
theorem dX4_upTo_5 : decode cX4_upTo 5 = .ok (.iload 4, 2) := by decide +kernel
theorem dX4_upTo_7 : decode cX4_upTo 7 = .ok (.bipush 8, 2) := by decide +kernel
theorem dX4_upTo_9 : decode cX4_upTo 9 = .ok (.if_icmp .ge 43, 3) := by decide +kernel
theorem dX4_upTo_12 : decode cX4_upTo 12 = .ok (.aload_n 0, 1) := by decide +kernel
theorem dX4_upTo_13 : decode cX4_upTo 13 = .ok (.getfield 56, 3) := by decide +kernel
theorem dX4_upTo_16 : decode cX4_upTo 16 = .ok (.bipush 8, 2) := by decide +kernel
theorem dX4_upTo_18 : decode cX4_upTo 18 = .ok (.iload_n 1, 1) := by decide +kernel
theorem dX4_upTo_19 : decode cX4_upTo 19 = .ok (.imul, 1) := by decide +kernel
theorem dX4_upTo_20 : decode cX4_upTo 20 = .ok (.iload 4, 2) := by decide +kernel
theorem dX4_upTo_22 : decode cX4_upTo 22 = .ok (.iadd, 1) := by decide +kernel
theorem dX4_upTo_23 : decode cX4_upTo 23 = .ok (.iaload, 1) := by decide +kernel
theorem dX4_upTo_24 : decode cX4_upTo 24 = .ok (.istore 5, 2) := by decide +kernel
theorem dX4_upTo_26 : decode cX4_upTo 26 = .ok (.iload_n 3, 1) := by decide +kernel
theorem dX4_upTo_27 : decode cX4_upTo 27 = .ok (.iload 5, 2) := by decide +kernel
theorem dX4_upTo_29 : decode cX4_upTo 29 = .ok (.iconst (-1), 1) := by decide +kernel
theorem dX4_upTo_30 : decode cX4_upTo 30 = .ok (.if_icmp .eq 13, 3) := by decide +kernel
theorem dX4_upTo_33 : decode cX4_upTo 33 = .ok (.iload 5, 2) := by decide +kernel
theorem dX4_upTo_35 : decode cX4_upTo 35 = .ok (.iload_n 2, 1) := by decide +kernel
theorem dX4_upTo_36 : decode cX4_upTo 36 = .ok (.if_icmp .gt 7, 3) := by decide +kernel
theorem dX4_upTo_39 : decode cX4_upTo 39 = .ok (.iconst 1, 1) := by decide +kernel
theorem dX4_upTo_40 : decode cX4_upTo 40 = .ok (.goto 4, 3) := by decide +kernel
theorem dX4_upTo_43 : decode cX4_upTo 43 = .ok (.iconst 0, 1) := by decide +kernel
theorem dX4_upTo_44 : decode cX4_upTo 44 = .ok (.iadd, 1) := by decide +kernel
theorem dX4_upTo_45 : decode cX4_upTo 45 = .ok (.istore_n 3, 1) := by decide +kernel
theorem dX4_upTo_46 : decode cX4_upTo 46 = .ok (.iinc 4 1, 3) := by decide +kernel
theorem dX4_upTo_49 : decode cX4_upTo 49 = .ok (.goto (-44), 3) := by decide +kernel
theorem dX4_upTo_52 : decode cX4_upTo 52 = .ok (.iload_n 3, 1) := by decide +kernel
theorem dX4_upTo_53 : decode cX4_upTo 53 = .ok (.ireturn, 1) := by decide +kernel
theorem dX4_hourOf_0 : decode cX4_hourOf 0 = .ok (.aload_n 0, 1) := by decide +kernel
theorem dX4_hourOf_1 : decode cX4_hourOf 1 = .ok (.iload_n 1, 1) := by decide +kernel
theorem dX4_hourOf_2 : decode cX4_hourOf 2 = .ok (.sipush 5000, 3) := by decide +kernel
theorem dX4_hourOf_5 : decode cX4_hourOf 5 = .ok (.invokevirtual 138, 3) := by decide +kernel
theorem dX4_hourOf_8 : decode cX4_hourOf 8 = .ok (.istore_n 2, 1) := by decide +kernel
theorem dX4_hourOf_9 : decode cX4_hourOf 9 = .ok (.iload_n 2, 1) := by decide +kernel
theorem dX4_hourOf_10 : decode cX4_hourOf 10 = .ok (.ifCond .ne 10, 3) := by decide +kernel
theorem dX4_hourOf_13 : decode cX4_hourOf 13 = .ok (.aload_n 0, 1) := by decide +kernel
theorem dX4_hourOf_14 : decode cX4_hourOf 14 = .ok (.getfield 44, 3) := by decide +kernel
theorem dX4_hourOf_17 : decode cX4_hourOf 17 = .ok (.iload_n 1, 1) := by decide +kernel
theorem dX4_hourOf_18 : decode cX4_hourOf 18 = .ok (.iaload, 1) := by decide +kernel
theorem dX4_hourOf_19 : decode cX4_hourOf 19 = .ok (.ireturn, 1) := by decide +kernel
theorem dX4_hourOf_20 : decode cX4_hourOf 20 = .ok (.iconst (-1), 1) := by decide +kernel
theorem dX4_hourOf_21 : decode cX4_hourOf 21 = .ok (.istore_n 3, 1) := by decide +kernel
theorem dX4_hourOf_22 : decode cX4_hourOf 22 = .ok (.iconst 0, 1) := by decide +kernel
theorem dX4_hourOf_23 : decode cX4_hourOf 23 = .ok (.istore 4, 2) := by decide +kernel
theorem dX4_hourOf_25 : decode cX4_hourOf 25 = .ok (.iload 4, 2) := by decide +kernel
theorem dX4_hourOf_27 : decode cX4_hourOf 27 = .ok (.bipush 8, 2) := by decide +kernel
theorem dX4_hourOf_29 : decode cX4_hourOf 29 = .ok (.if_icmp .ge 74, 3) := by decide +kernel
theorem dX4_hourOf_32 : decode cX4_hourOf 32 = .ok (.aload_n 0, 1) := by decide +kernel
theorem dX4_hourOf_33 : decode cX4_hourOf 33 = .ok (.getfield 56, 3) := by decide +kernel
theorem dX4_hourOf_36 : decode cX4_hourOf 36 = .ok (.bipush 8, 2) := by decide +kernel
theorem dX4_hourOf_38 : decode cX4_hourOf 38 = .ok (.iload_n 1, 1) := by decide +kernel
theorem dX4_hourOf_39 : decode cX4_hourOf 39 = .ok (.imul, 1) := by decide +kernel
theorem dX4_hourOf_40 : decode cX4_hourOf 40 = .ok (.iload 4, 2) := by decide +kernel
theorem dX4_hourOf_42 : decode cX4_hourOf 42 = .ok (.iadd, 1) := by decide +kernel
theorem dX4_hourOf_43 : decode cX4_hourOf 43 = .ok (.iaload, 1) := by decide +kernel
theorem dX4_hourOf_44 : decode cX4_hourOf 44 = .ok (.istore 5, 2) := by decide +kernel
theorem dX4_hourOf_46 : decode cX4_hourOf 46 = .ok (.iload 5, 2) := by decide +kernel
theorem dX4_hourOf_48 : decode cX4_hourOf 48 = .ok (.iconst (-1), 1) := by decide +kernel
theorem dX4_hourOf_49 : decode cX4_hourOf 49 = .ok (.if_icmp .eq 22, 3) := by decide +kernel
theorem dX4_hourOf_52 : decode cX4_hourOf 52 = .ok (.aload_n 0, 1) := by decide +kernel
theorem dX4_hourOf_53 : decode cX4_hourOf 53 = .ok (.iload_n 1, 1) := by decide +kernel
theorem dX4_hourOf_54 : decode cX4_hourOf 54 = .ok (.iload 5, 2) := by decide +kernel
theorem dX4_hourOf_56 : decode cX4_hourOf 56 = .ok (.invokevirtual 138, 3) := by decide +kernel
theorem dX4_hourOf_59 : decode cX4_hourOf 59 = .ok (.iload_n 2, 1) := by decide +kernel
theorem dX4_hourOf_60 : decode cX4_hourOf 60 = .ok (.iconst 1, 1) := by decide +kernel
theorem dX4_hourOf_61 : decode cX4_hourOf 61 = .ok (.isub, 1) := by decide +kernel
theorem dX4_hourOf_62 : decode cX4_hourOf 62 = .ok (.iconst 2, 1) := by decide +kernel
theorem dX4_hourOf_63 : decode cX4_hourOf 63 = .ok (.idiv, 1) := by decide +kernel
theorem dX4_hourOf_64 : decode cX4_hourOf 64 = .ok (.if_icmp .le 7, 3) := by decide +kernel
theorem dX4_hourOf_67 : decode cX4_hourOf 67 = .ok (.iconst 1, 1) := by decide +kernel
theorem dX4_hourOf_68 : decode cX4_hourOf 68 = .ok (.goto 4, 3) := by decide +kernel
theorem dX4_hourOf_71 : decode cX4_hourOf 71 = .ok (.iconst 0, 1) := by decide +kernel
theorem dX4_hourOf_72 : decode cX4_hourOf 72 = .ok (.istore 6, 2) := by decide +kernel
theorem dX4_hourOf_74 : decode cX4_hourOf 74 = .ok (.iload 6, 2) := by decide +kernel
theorem dX4_hourOf_76 : decode cX4_hourOf 76 = .ok (.ifCond .eq 19, 3) := by decide +kernel
theorem dX4_hourOf_79 : decode cX4_hourOf 79 = .ok (.iload_n 3, 1) := by decide +kernel
theorem dX4_hourOf_80 : decode cX4_hourOf 80 = .ok (.iconst (-1), 1) := by decide +kernel
theorem dX4_hourOf_81 : decode cX4_hourOf 81 = .ok (.if_icmp .eq 9, 3) := by decide +kernel
theorem dX4_hourOf_84 : decode cX4_hourOf 84 = .ok (.iload 5, 2) := by decide +kernel
theorem dX4_hourOf_86 : decode cX4_hourOf 86 = .ok (.iload_n 3, 1) := by decide +kernel
theorem dX4_hourOf_87 : decode cX4_hourOf 87 = .ok (.if_icmp .ge 8, 3) := by decide +kernel
theorem dX4_hourOf_90 : decode cX4_hourOf 90 = .ok (.iload 5, 2) := by decide +kernel
theorem dX4_hourOf_92 : decode cX4_hourOf 92 = .ok (.goto 4, 3) := by decide +kernel
theorem dX4_hourOf_95 : decode cX4_hourOf 95 = .ok (.iload_n 3, 1) := by decide +kernel
theorem dX4_hourOf_96 : decode cX4_hourOf 96 = .ok (.istore_n 3, 1) := by decide +kernel
theorem dX4_hourOf_97 : decode cX4_hourOf 97 = .ok (.iinc 4 1, 3) := by decide +kernel
theorem dX4_hourOf_100 : decode cX4_hourOf 100 = .ok (.goto (-75), 3) := by decide +kernel
theorem dX4_hourOf_103 : decode cX4_hourOf 103 = .ok (.iload_n 3, 1) := by decide +kernel
theorem dX4_hourOf_104 : decode cX4_hourOf 104 = .ok (.ireturn, 1) := by decide +kernel
theorem dX4_witness_0 : decode cX4_witness 0 = .ok (.aload_n 0, 1) := by decide +kernel
theorem dX4_witness_1 : decode cX4_witness 1 = .ok (.aload_n 0, 1) := by decide +kernel
theorem dX4_witness_2 : decode cX4_witness 2 = .ok (.iload_n 1, 1) := by decide +kernel
theorem dX4_witness_3 : decode cX4_witness 3 = .ok (.invokevirtual 142, 3) := by decide +kernel
theorem dX4_witness_6 : decode cX4_witness 6 = .ok (.ifCond .eq 10, 3) := by decide +kernel
theorem dX4_witness_9 : decode cX4_witness 9 = .ok (.iload_n 2, 1) := by decide +kernel
theorem dX4_witness_10 : decode cX4_witness 10 = .ok (.invokestatic 128, 3) := by decide +kernel
theorem dX4_witness_13 : decode cX4_witness 13 = .ok (.ifCond .ne 7, 3) := by decide +kernel
theorem dX4_witness_16 : decode cX4_witness 16 = .ok (.iconst 1, 1) := by decide +kernel
theorem dX4_witness_17 : decode cX4_witness 17 = .ok (.goto 20, 3) := by decide +kernel
theorem dX4_witness_20 : decode cX4_witness 20 = .ok (.iload_n 3, 1) := by decide +kernel
theorem dX4_witness_21 : decode cX4_witness 21 = .ok (.iconst 0, 1) := by decide +kernel
theorem dX4_witness_22 : decode cX4_witness 22 = .ok (.aload_n 0, 1) := by decide +kernel
theorem dX4_witness_23 : decode cX4_witness 23 = .ok (.getfield 118, 3) := by decide +kernel
theorem dX4_witness_26 : decode cX4_witness 26 = .ok (.invokestatic 108, 3) := by decide +kernel
theorem dX4_witness_29 : decode cX4_witness 29 = .ok (.ifCond .ne 7, 3) := by decide +kernel
theorem dX4_witness_32 : decode cX4_witness 32 = .ok (.iconst 2, 1) := by decide +kernel
theorem dX4_witness_33 : decode cX4_witness 33 = .ok (.goto 4, 3) := by decide +kernel
theorem dX4_witness_36 : decode cX4_witness 36 = .ok (.iconst 0, 1) := by decide +kernel
theorem dX4_witness_37 : decode cX4_witness 37 = .ok (.putfield 104, 3) := by decide +kernel
theorem dX4_witness_40 : decode cX4_witness 40 = .ok (.aload_n 0, 1) := by decide +kernel
theorem dX4_witness_41 : decode cX4_witness 41 = .ok (.getfield 104, 3) := by decide +kernel
theorem dX4_witness_44 : decode cX4_witness 44 = .ok (.ifCond .ne 32, 3) := by decide +kernel
theorem dX4_witness_47 : decode cX4_witness 47 = .ok (.aload_n 0, 1) := by decide +kernel
theorem dX4_witness_48 : decode cX4_witness 48 = .ok (.iload_n 1, 1) := by decide +kernel
theorem dX4_witness_49 : decode cX4_witness 49 = .ok (.iload_n 2, 1) := by decide +kernel
theorem dX4_witness_50 : decode cX4_witness 50 = .ok (.invokevirtual 145, 3) := by decide +kernel
theorem dX4_witness_53 : decode cX4_witness 53 = .ok (.ifCond .gt 18, 3) := by decide +kernel
theorem dX4_witness_56 : decode cX4_witness 56 = .ok (.aload_n 0, 1) := by decide +kernel
theorem dX4_witness_57 : decode cX4_witness 57 = .ok (.getfield 56, 3) := by decide +kernel
theorem dX4_witness_60 : decode cX4_witness 60 = .ok (.bipush 8, 2) := by decide +kernel
theorem dX4_witness_62 : decode cX4_witness 62 = .ok (.iload_n 1, 1) := by decide +kernel
theorem dX4_witness_63 : decode cX4_witness 63 = .ok (.imul, 1) := by decide +kernel
theorem dX4_witness_64 : decode cX4_witness 64 = .ok (.iload_n 2, 1) := by decide +kernel
theorem dX4_witness_65 : decode cX4_witness 65 = .ok (.iadd, 1) := by decide +kernel
theorem dX4_witness_66 : decode cX4_witness 66 = .ok (.iaload, 1) := by decide +kernel
theorem dX4_witness_67 : decode cX4_witness 67 = .ok (.iconst (-1), 1) := by decide +kernel
theorem dX4_witness_68 : decode cX4_witness 68 = .ok (.if_icmp .eq 8, 3) := by decide +kernel
theorem dX4_witness_71 : decode cX4_witness 71 = .ok (.aload_n 0, 1) := by decide +kernel
theorem dX4_witness_72 : decode cX4_witness 72 = .ok (.iconst 3, 1) := by decide +kernel
theorem dX4_witness_73 : decode cX4_witness 73 = .ok (.putfield 104, 3) := by decide +kernel
theorem dX4_witness_76 : decode cX4_witness 76 = .ok (.aload_n 0, 1) := by decide +kernel
theorem dX4_witness_77 : decode cX4_witness 77 = .ok (.getfield 104, 3) := by decide +kernel
theorem dX4_witness_80 : decode cX4_witness 80 = .ok (.ifCond .le 5, 3) := by decide +kernel
theorem dX4_witness_83 : decode cX4_witness 83 = .ok (.iconst 0, 1) := by decide +kernel
theorem dX4_witness_84 : decode cX4_witness 84 = .ok (.ireturn, 1) := by decide +kernel
theorem dX4_witness_85 : decode cX4_witness 85 = .ok (.aload_n 0, 1) := by decide +kernel
theorem dX4_witness_86 : decode cX4_witness 86 = .ok (.getfield 56, 3) := by decide +kernel
theorem dX4_witness_89 : decode cX4_witness 89 = .ok (.bipush 8, 2) := by decide +kernel
theorem dX4_witness_91 : decode cX4_witness 91 = .ok (.iload_n 1, 1) := by decide +kernel
theorem dX4_witness_92 : decode cX4_witness 92 = .ok (.imul, 1) := by decide +kernel
theorem dX4_witness_93 : decode cX4_witness 93 = .ok (.iload_n 2, 1) := by decide +kernel
theorem dX4_witness_94 : decode cX4_witness 94 = .ok (.iadd, 1) := by decide +kernel
theorem dX4_witness_95 : decode cX4_witness 95 = .ok (.iload_n 3, 1) := by decide +kernel
theorem dX4_witness_96 : decode cX4_witness 96 = .ok (.iastore, 1) := by decide +kernel
theorem dX4_witness_97 : decode cX4_witness 97 = .ok (.aload_n 0, 1) := by decide +kernel
theorem dX4_witness_98 : decode cX4_witness 98 = .ok (.iload_n 1, 1) := by decide +kernel
theorem dX4_witness_99 : decode cX4_witness 99 = .ok (.invokevirtual 148, 3) := by decide +kernel
theorem dX4_witness_102 : decode cX4_witness 102 = .ok (.ireturn, 1) := by decide +kernel
theorem dX4_partner_0 : decode cX4_partner 0 = .ok (.aload_n 0, 1) := by decide +kernel
theorem dX4_partner_1 : decode cX4_partner 1 = .ok (.aload_n 0, 1) := by decide +kernel
theorem dX4_partner_2 : decode cX4_partner 2 = .ok (.iload_n 1, 1) := by decide +kernel
theorem dX4_partner_3 : decode cX4_partner 3 = .ok (.invokevirtual 142, 3) := by decide +kernel
theorem dX4_partner_6 : decode cX4_partner 6 = .ok (.ifCond .eq 10, 3) := by decide +kernel
theorem dX4_partner_9 : decode cX4_partner 9 = .ok (.iload_n 2, 1) := by decide +kernel
theorem dX4_partner_10 : decode cX4_partner 10 = .ok (.invokestatic 128, 3) := by decide +kernel
theorem dX4_partner_13 : decode cX4_partner 13 = .ok (.ifCond .ne 7, 3) := by decide +kernel
theorem dX4_partner_16 : decode cX4_partner 16 = .ok (.iconst 1, 1) := by decide +kernel
theorem dX4_partner_17 : decode cX4_partner 17 = .ok (.goto 18, 3) := by decide +kernel
theorem dX4_partner_20 : decode cX4_partner 20 = .ok (.iload_n 3, 1) := by decide +kernel
theorem dX4_partner_21 : decode cX4_partner 21 = .ok (.iconst 1, 1) := by decide +kernel
theorem dX4_partner_22 : decode cX4_partner 22 = .ok (.bipush 11, 2) := by decide +kernel
theorem dX4_partner_24 : decode cX4_partner 24 = .ok (.invokestatic 108, 3) := by decide +kernel
theorem dX4_partner_27 : decode cX4_partner 27 = .ok (.ifCond .ne 7, 3) := by decide +kernel
theorem dX4_partner_30 : decode cX4_partner 30 = .ok (.iconst 2, 1) := by decide +kernel
theorem dX4_partner_31 : decode cX4_partner 31 = .ok (.goto 4, 3) := by decide +kernel
theorem dX4_partner_34 : decode cX4_partner 34 = .ok (.iconst 0, 1) := by decide +kernel
theorem dX4_partner_35 : decode cX4_partner 35 = .ok (.putfield 104, 3) := by decide +kernel
theorem dX4_partner_38 : decode cX4_partner 38 = .ok (.aload_n 0, 1) := by decide +kernel
theorem dX4_partner_39 : decode cX4_partner 39 = .ok (.getfield 104, 3) := by decide +kernel
theorem dX4_partner_42 : decode cX4_partner 42 = .ok (.ifCond .ne 28, 3) := by decide +kernel
theorem dX4_partner_45 : decode cX4_partner 45 = .ok (.aload_n 0, 1) := by decide +kernel
theorem dX4_partner_46 : decode cX4_partner 46 = .ok (.iload_n 1, 1) := by decide +kernel
theorem dX4_partner_47 : decode cX4_partner 47 = .ok (.iload_n 2, 1) := by decide +kernel
theorem dX4_partner_48 : decode cX4_partner 48 = .ok (.invokevirtual 145, 3) := by decide +kernel
theorem dX4_partner_51 : decode cX4_partner 51 = .ok (.ifCond .gt 14, 3) := by decide +kernel
theorem dX4_partner_54 : decode cX4_partner 54 = .ok (.aload_n 0, 1) := by decide +kernel
theorem dX4_partner_55 : decode cX4_partner 55 = .ok (.iload_n 1, 1) := by decide +kernel
theorem dX4_partner_56 : decode cX4_partner 56 = .ok (.invokevirtual 134, 3) := by decide +kernel
theorem dX4_partner_59 : decode cX4_partner 59 = .ok (.iload_n 3, 1) := by decide +kernel
theorem dX4_partner_60 : decode cX4_partner 60 = .ok (.isub, 1) := by decide +kernel
theorem dX4_partner_61 : decode cX4_partner 61 = .ok (.iconst 1, 1) := by decide +kernel
theorem dX4_partner_62 : decode cX4_partner 62 = .ok (.if_icmp .ge 8, 3) := by decide +kernel
theorem dX4_partner_65 : decode cX4_partner 65 = .ok (.aload_n 0, 1) := by decide +kernel
theorem dX4_partner_66 : decode cX4_partner 66 = .ok (.iconst 3, 1) := by decide +kernel
theorem dX4_partner_67 : decode cX4_partner 67 = .ok (.putfield 104, 3) := by decide +kernel
theorem dX4_partner_70 : decode cX4_partner 70 = .ok (.aload_n 0, 1) := by decide +kernel
theorem dX4_partner_71 : decode cX4_partner 71 = .ok (.getfield 104, 3) := by decide +kernel
theorem dX4_partner_74 : decode cX4_partner 74 = .ok (.ifCond .le 5, 3) := by decide +kernel
theorem dX4_partner_77 : decode cX4_partner 77 = .ok (.iconst 0, 1) := by decide +kernel
theorem dX4_partner_78 : decode cX4_partner 78 = .ok (.ireturn, 1) := by decide +kernel
theorem dX4_partner_79 : decode cX4_partner 79 = .ok (.aload_n 0, 1) := by decide +kernel
theorem dX4_partner_80 : decode cX4_partner 80 = .ok (.getfield 53, 3) := by decide +kernel
theorem dX4_partner_83 : decode cX4_partner 83 = .ok (.bipush 8, 2) := by decide +kernel
theorem dX4_partner_85 : decode cX4_partner 85 = .ok (.iload_n 1, 1) := by decide +kernel
theorem dX4_partner_86 : decode cX4_partner 86 = .ok (.imul, 1) := by decide +kernel
theorem dX4_partner_87 : decode cX4_partner 87 = .ok (.iload_n 2, 1) := by decide +kernel
theorem dX4_partner_88 : decode cX4_partner 88 = .ok (.iadd, 1) := by decide +kernel
theorem dX4_partner_89 : decode cX4_partner 89 = .ok (.iload_n 3, 1) := by decide +kernel
theorem dX4_partner_90 : decode cX4_partner 90 = .ok (.iastore, 1) := by decide +kernel
theorem dX4_partner_91 : decode cX4_partner 91 = .ok (.aload_n 0, 1) := by decide +kernel
theorem dX4_partner_92 : decode cX4_partner 92 = .ok (.iload_n 1, 1) := by decide +kernel
theorem dX4_partner_93 : decode cX4_partner 93 = .ok (.invokevirtual 134, 3) := by decide +kernel
theorem dX4_partner_96 : decode cX4_partner 96 = .ok (.ireturn, 1) := by decide +kernel
theorem dX4_covers_0 : decode cX4_covers 0 = .ok (.iload_n 2, 1) := by decide +kernel
theorem dX4_covers_1 : decode cX4_covers 1 = .ok (.bipush 10, 2) := by decide +kernel
theorem dX4_covers_3 : decode cX4_covers 3 = .ok (.idiv, 1) := by decide +kernel
theorem dX4_covers_4 : decode cX4_covers 4 = .ok (.aload_n 0, 1) := by decide +kernel
theorem dX4_covers_5 : decode cX4_covers 5 = .ok (.getfield 35, 3) := by decide +kernel
theorem dX4_covers_8 : decode cX4_covers 8 = .ok (.iload_n 1, 1) := by decide +kernel
theorem dX4_covers_9 : decode cX4_covers 9 = .ok (.iaload, 1) := by decide +kernel
theorem dX4_covers_10 : decode cX4_covers 10 = .ok (.bipush 10, 2) := by decide +kernel
theorem dX4_covers_12 : decode cX4_covers 12 = .ok (.idiv, 1) := by decide +kernel
theorem dX4_covers_13 : decode cX4_covers 13 = .ok (.isub, 1) := by decide +kernel
theorem dX4_covers_14 : decode cX4_covers 14 = .ok (.istore_n 3, 1) := by decide +kernel
theorem dX4_covers_15 : decode cX4_covers 15 = .ok (.iload_n 2, 1) := by decide +kernel
theorem dX4_covers_16 : decode cX4_covers 16 = .ok (.bipush 10, 2) := by decide +kernel
theorem dX4_covers_18 : decode cX4_covers 18 = .ok (.irem, 1) := by decide +kernel
theorem dX4_covers_19 : decode cX4_covers 19 = .ok (.aload_n 0, 1) := by decide +kernel
theorem dX4_covers_20 : decode cX4_covers 20 = .ok (.getfield 35, 3) := by decide +kernel
theorem dX4_covers_23 : decode cX4_covers 23 = .ok (.iload_n 1, 1) := by decide +kernel
theorem dX4_covers_24 : decode cX4_covers 24 = .ok (.iaload, 1) := by decide +kernel
theorem dX4_covers_25 : decode cX4_covers 25 = .ok (.bipush 10, 2) := by decide +kernel
theorem dX4_covers_27 : decode cX4_covers 27 = .ok (.irem, 1) := by decide +kernel
theorem dX4_covers_28 : decode cX4_covers 28 = .ok (.isub, 1) := by decide +kernel
theorem dX4_covers_29 : decode cX4_covers 29 = .ok (.istore 4, 2) := by decide +kernel
theorem dX4_covers_31 : decode cX4_covers 31 = .ok (.iload_n 3, 1) := by decide +kernel
theorem dX4_covers_32 : decode cX4_covers 32 = .ok (.iconst 0, 1) := by decide +kernel
theorem dX4_covers_33 : decode cX4_covers 33 = .ok (.aload_n 0, 1) := by decide +kernel
theorem dX4_covers_34 : decode cX4_covers 34 = .ok (.getfield 38, 3) := by decide +kernel
theorem dX4_covers_37 : decode cX4_covers 37 = .ok (.iload_n 1, 1) := by decide +kernel
theorem dX4_covers_38 : decode cX4_covers 38 = .ok (.iaload, 1) := by decide +kernel
theorem dX4_covers_39 : decode cX4_covers 39 = .ok (.iconst 1, 1) := by decide +kernel
theorem dX4_covers_40 : decode cX4_covers 40 = .ok (.isub, 1) := by decide +kernel
theorem dX4_covers_41 : decode cX4_covers 41 = .ok (.invokestatic 108, 3) := by decide +kernel
theorem dX4_covers_44 : decode cX4_covers 44 = .ok (.ifCond .eq 24, 3) := by decide +kernel
theorem dX4_covers_47 : decode cX4_covers 47 = .ok (.iload 4, 2) := by decide +kernel
theorem dX4_covers_49 : decode cX4_covers 49 = .ok (.iconst 0, 1) := by decide +kernel
theorem dX4_covers_50 : decode cX4_covers 50 = .ok (.aload_n 0, 1) := by decide +kernel
theorem dX4_covers_51 : decode cX4_covers 51 = .ok (.getfield 41, 3) := by decide +kernel
theorem dX4_covers_54 : decode cX4_covers 54 = .ok (.iload_n 1, 1) := by decide +kernel
theorem dX4_covers_55 : decode cX4_covers 55 = .ok (.iaload, 1) := by decide +kernel
theorem dX4_covers_56 : decode cX4_covers 56 = .ok (.iconst 1, 1) := by decide +kernel
theorem dX4_covers_57 : decode cX4_covers 57 = .ok (.isub, 1) := by decide +kernel
theorem dX4_covers_58 : decode cX4_covers 58 = .ok (.invokestatic 108, 3) := by decide +kernel
theorem dX4_covers_61 : decode cX4_covers 61 = .ok (.ifCond .eq 7, 3) := by decide +kernel
theorem dX4_covers_64 : decode cX4_covers 64 = .ok (.iconst 1, 1) := by decide +kernel
theorem dX4_covers_65 : decode cX4_covers 65 = .ok (.goto 4, 3) := by decide +kernel
theorem dX4_covers_68 : decode cX4_covers 68 = .ok (.iconst 0, 1) := by decide +kernel
theorem dX4_covers_69 : decode cX4_covers 69 = .ok (.ireturn, 1) := by decide +kernel
theorem dX4_holder_0 : decode cX4_holder 0 = .ok (.iconst (-1), 1) := by decide +kernel
theorem dX4_holder_1 : decode cX4_holder 1 = .ok (.istore_n 2, 1) := by decide +kernel
theorem dX4_holder_2 : decode cX4_holder 2 = .ok (.iconst 0, 1) := by decide +kernel
theorem dX4_holder_3 : decode cX4_holder 3 = .ok (.istore_n 3, 1) := by decide +kernel
theorem dX4_holder_4 : decode cX4_holder 4 = .ok (.iload_n 3, 1) := by decide +kernel
theorem dX4_holder_5 : decode cX4_holder 5 = .ok (.aload_n 0, 1) := by decide +kernel
theorem dX4_holder_6 : decode cX4_holder 6 = .ok (.getfield 112, 3) := by decide +kernel
theorem dX4_holder_9 : decode cX4_holder 9 = .ok (.if_icmp .ge 46, 3) := by decide +kernel
theorem dX4_holder_12 : decode cX4_holder 12 = .ok (.aload_n 0, 1) := by decide +kernel
theorem dX4_holder_13 : decode cX4_holder 13 = .ok (.iload_n 3, 1) := by decide +kernel
theorem dX4_holder_14 : decode cX4_holder 14 = .ok (.invokevirtual 151, 3) := by decide +kernel
theorem dX4_holder_17 : decode cX4_holder 17 = .ok (.ifCond .eq 32, 3) := by decide +kernel
theorem dX4_holder_20 : decode cX4_holder 20 = .ok (.aload_n 0, 1) := by decide +kernel
theorem dX4_holder_21 : decode cX4_holder 21 = .ok (.iload_n 3, 1) := by decide +kernel
theorem dX4_holder_22 : decode cX4_holder 22 = .ok (.iload_n 1, 1) := by decide +kernel
theorem dX4_holder_23 : decode cX4_holder 23 = .ok (.invokevirtual 154, 3) := by decide +kernel
theorem dX4_holder_26 : decode cX4_holder 26 = .ok (.ifCond .eq 23, 3) := by decide +kernel
theorem dX4_holder_29 : decode cX4_holder 29 = .ok (.iload_n 2, 1) := by decide +kernel
theorem dX4_holder_30 : decode cX4_holder 30 = .ok (.iconst (-1), 1) := by decide +kernel
theorem dX4_holder_31 : decode cX4_holder 31 = .ok (.if_icmp .eq 16, 3) := by decide +kernel
theorem dX4_holder_34 : decode cX4_holder 34 = .ok (.aload_n 0, 1) := by decide +kernel
theorem dX4_holder_35 : decode cX4_holder 35 = .ok (.iload_n 3, 1) := by decide +kernel
theorem dX4_holder_36 : decode cX4_holder 36 = .ok (.invokevirtual 148, 3) := by decide +kernel
theorem dX4_holder_39 : decode cX4_holder 39 = .ok (.aload_n 0, 1) := by decide +kernel
theorem dX4_holder_40 : decode cX4_holder 40 = .ok (.iload_n 2, 1) := by decide +kernel
theorem dX4_holder_41 : decode cX4_holder 41 = .ok (.invokevirtual 148, 3) := by decide +kernel
theorem dX4_holder_44 : decode cX4_holder 44 = .ok (.if_icmp .ge 5, 3) := by decide +kernel
theorem dX4_holder_47 : decode cX4_holder 47 = .ok (.iload_n 3, 1) := by decide +kernel
theorem dX4_holder_48 : decode cX4_holder 48 = .ok (.istore_n 2, 1) := by decide +kernel
theorem dX4_holder_49 : decode cX4_holder 49 = .ok (.iinc 3 1, 3) := by decide +kernel
theorem dX4_holder_52 : decode cX4_holder 52 = .ok (.goto (-48), 3) := by decide +kernel
theorem dX4_holder_55 : decode cX4_holder 55 = .ok (.iload_n 2, 1) := by decide +kernel
theorem dX4_holder_56 : decode cX4_holder 56 = .ok (.ireturn, 1) := by decide +kernel
theorem dX4_isBesideOpen_0 : decode cX4_isBesideOpen 0 = .ok (.iconst 0, 1) := by decide +kernel
theorem dX4_isBesideOpen_1 : decode cX4_isBesideOpen 1 = .ok (.istore_n 2, 1) := by decide +kernel
theorem dX4_isBesideOpen_2 : decode cX4_isBesideOpen 2 = .ok (.iconst 0, 1) := by decide +kernel
theorem dX4_isBesideOpen_3 : decode cX4_isBesideOpen 3 = .ok (.istore_n 3, 1) := by decide +kernel
theorem dX4_isBesideOpen_4 : decode cX4_isBesideOpen 4 = .ok (.iload_n 3, 1) := by decide +kernel
theorem dX4_isBesideOpen_5 : decode cX4_isBesideOpen 5 = .ok (.iconst 4, 1) := by decide +kernel
theorem dX4_isBesideOpen_6 : decode cX4_isBesideOpen 6 = .ok (.if_icmp .ge 43, 3) := by decide +kernel
theorem dX4_isBesideOpen_9 : decode cX4_isBesideOpen 9 = .ok (.iload_n 1, 1) := by decide +kernel
theorem dX4_isBesideOpen_10 : decode cX4_isBesideOpen 10 = .ok (.iload_n 3, 1) := by decide +kernel
theorem dX4_isBesideOpen_11 : decode cX4_isBesideOpen 11 = .ok (.invokestatic 158, 3) := by decide +kernel
theorem dX4_isBesideOpen_14 : decode cX4_isBesideOpen 14 = .ok (.istore 4, 2) := by decide +kernel
theorem dX4_isBesideOpen_16 : decode cX4_isBesideOpen 16 = .ok (.iload_n 2, 1) := by decide +kernel
theorem dX4_isBesideOpen_17 : decode cX4_isBesideOpen 17 = .ok (.ifCond .ne 20, 3) := by decide +kernel
theorem dX4_isBesideOpen_20 : decode cX4_isBesideOpen 20 = .ok (.iload 4, 2) := by decide +kernel
theorem dX4_isBesideOpen_22 : decode cX4_isBesideOpen 22 = .ok (.iconst (-1), 1) := by decide +kernel
theorem dX4_isBesideOpen_23 : decode cX4_isBesideOpen 23 = .ok (.if_icmp .eq 18, 3) := by decide +kernel
theorem dX4_isBesideOpen_26 : decode cX4_isBesideOpen 26 = .ok (.aload_n 0, 1) := by decide +kernel
theorem dX4_isBesideOpen_27 : decode cX4_isBesideOpen 27 = .ok (.getfield 7, 3) := by decide +kernel
theorem dX4_isBesideOpen_30 : decode cX4_isBesideOpen 30 = .ok (.iload 4, 2) := by decide +kernel
theorem dX4_isBesideOpen_32 : decode cX4_isBesideOpen 32 = .ok (.iaload, 1) := by decide +kernel
theorem dX4_isBesideOpen_33 : decode cX4_isBesideOpen 33 = .ok (.iconst 1, 1) := by decide +kernel
theorem dX4_isBesideOpen_34 : decode cX4_isBesideOpen 34 = .ok (.if_icmp .ne 7, 3) := by decide +kernel
theorem dX4_isBesideOpen_37 : decode cX4_isBesideOpen 37 = .ok (.iconst 1, 1) := by decide +kernel
theorem dX4_isBesideOpen_38 : decode cX4_isBesideOpen 38 = .ok (.goto 4, 3) := by decide +kernel
theorem dX4_isBesideOpen_41 : decode cX4_isBesideOpen 41 = .ok (.iconst 0, 1) := by decide +kernel
theorem dX4_isBesideOpen_42 : decode cX4_isBesideOpen 42 = .ok (.istore_n 2, 1) := by decide +kernel
theorem dX4_isBesideOpen_43 : decode cX4_isBesideOpen 43 = .ok (.iinc 3 1, 3) := by decide +kernel
theorem dX4_isBesideOpen_46 : decode cX4_isBesideOpen 46 = .ok (.goto (-42), 3) := by decide +kernel
theorem dX4_isBesideOpen_49 : decode cX4_isBesideOpen 49 = .ok (.iload_n 2, 1) := by decide +kernel
theorem dX4_isBesideOpen_50 : decode cX4_isBesideOpen 50 = .ok (.ireturn, 1) := by decide +kernel
theorem dX4_isLoose_0 : decode cX4_isLoose 0 = .ok (.iload_n 1, 1) := by decide +kernel
theorem dX4_isLoose_1 : decode cX4_isLoose 1 = .ok (.iconst (-1), 1) := by decide +kernel
theorem dX4_isLoose_2 : decode cX4_isLoose 2 = .ok (.if_icmp .eq 26, 3) := by decide +kernel
theorem dX4_isLoose_5 : decode cX4_isLoose 5 = .ok (.aload_n 0, 1) := by decide +kernel
theorem dX4_isLoose_6 : decode cX4_isLoose 6 = .ok (.getfield 7, 3) := by decide +kernel
theorem dX4_isLoose_9 : decode cX4_isLoose 9 = .ok (.iload_n 1, 1) := by decide +kernel
theorem dX4_isLoose_10 : decode cX4_isLoose 10 = .ok (.iaload, 1) := by decide +kernel
theorem dX4_isLoose_11 : decode cX4_isLoose 11 = .ok (.iconst 1, 1) := by decide +kernel
theorem dX4_isLoose_12 : decode cX4_isLoose 12 = .ok (.if_icmp .ne 16, 3) := by decide +kernel
theorem dX4_isLoose_15 : decode cX4_isLoose 15 = .ok (.aload_n 0, 1) := by decide +kernel
theorem dX4_isLoose_16 : decode cX4_isLoose 16 = .ok (.getfield 23, 3) := by decide +kernel
theorem dX4_isLoose_19 : decode cX4_isLoose 19 = .ok (.iload_n 1, 1) := by decide +kernel
theorem dX4_isLoose_20 : decode cX4_isLoose 20 = .ok (.baload, 1) := by decide +kernel
theorem dX4_isLoose_21 : decode cX4_isLoose 21 = .ok (.ifCond .ne 7, 3) := by decide +kernel
theorem dX4_isLoose_24 : decode cX4_isLoose 24 = .ok (.iconst 1, 1) := by decide +kernel
theorem dX4_isLoose_25 : decode cX4_isLoose 25 = .ok (.goto 4, 3) := by decide +kernel
theorem dX4_isLoose_28 : decode cX4_isLoose 28 = .ok (.iconst 0, 1) := by decide +kernel
theorem dX4_isLoose_29 : decode cX4_isLoose 29 = .ok (.ireturn, 1) := by decide +kernel
theorem dX4_run_0 : decode cX4_run 0 = .ok (.iconst 1, 1) := by decide +kernel
theorem dX4_run_1 : decode cX4_run 1 = .ok (.istore_n 3, 1) := by decide +kernel
theorem dX4_run_2 : decode cX4_run 2 = .ok (.iload_n 1, 1) := by decide +kernel
theorem dX4_run_3 : decode cX4_run 3 = .ok (.iload_n 2, 1) := by decide +kernel
theorem dX4_run_4 : decode cX4_run 4 = .ok (.invokestatic 158, 3) := by decide +kernel
theorem dX4_run_7 : decode cX4_run 7 = .ok (.istore 4, 2) := by decide +kernel
theorem dX4_run_9 : decode cX4_run 9 = .ok (.aload_n 0, 1) := by decide +kernel
theorem dX4_run_10 : decode cX4_run 10 = .ok (.iload 4, 2) := by decide +kernel
theorem dX4_run_12 : decode cX4_run 12 = .ok (.invokevirtual 161, 3) := by decide +kernel
theorem dX4_run_15 : decode cX4_run 15 = .ok (.ifCond .eq 17, 3) := by decide +kernel
theorem dX4_run_18 : decode cX4_run 18 = .ok (.iinc 3 1, 3) := by decide +kernel
theorem dX4_run_21 : decode cX4_run 21 = .ok (.iload 4, 2) := by decide +kernel
theorem dX4_run_23 : decode cX4_run 23 = .ok (.iload_n 2, 1) := by decide +kernel
theorem dX4_run_24 : decode cX4_run 24 = .ok (.invokestatic 158, 3) := by decide +kernel
theorem dX4_run_27 : decode cX4_run 27 = .ok (.istore 4, 2) := by decide +kernel
theorem dX4_run_29 : decode cX4_run 29 = .ok (.goto (-20), 3) := by decide +kernel
theorem dX4_run_32 : decode cX4_run 32 = .ok (.iload_n 1, 1) := by decide +kernel
theorem dX4_run_33 : decode cX4_run 33 = .ok (.iload_n 2, 1) := by decide +kernel
theorem dX4_run_34 : decode cX4_run 34 = .ok (.iconst 1, 1) := by decide +kernel
theorem dX4_run_35 : decode cX4_run 35 = .ok (.iadd, 1) := by decide +kernel
theorem dX4_run_36 : decode cX4_run 36 = .ok (.invokestatic 158, 3) := by decide +kernel
theorem dX4_run_39 : decode cX4_run 39 = .ok (.istore 4, 2) := by decide +kernel
theorem dX4_run_41 : decode cX4_run 41 = .ok (.aload_n 0, 1) := by decide +kernel
theorem dX4_run_42 : decode cX4_run 42 = .ok (.iload 4, 2) := by decide +kernel
theorem dX4_run_44 : decode cX4_run 44 = .ok (.invokevirtual 161, 3) := by decide +kernel
theorem dX4_run_47 : decode cX4_run 47 = .ok (.ifCond .eq 19, 3) := by decide +kernel
theorem dX4_run_50 : decode cX4_run 50 = .ok (.iinc 3 1, 3) := by decide +kernel
theorem dX4_run_53 : decode cX4_run 53 = .ok (.iload 4, 2) := by decide +kernel
theorem dX4_run_55 : decode cX4_run 55 = .ok (.iload_n 2, 1) := by decide +kernel
theorem dX4_run_56 : decode cX4_run 56 = .ok (.iconst 1, 1) := by decide +kernel
theorem dX4_run_57 : decode cX4_run 57 = .ok (.iadd, 1) := by decide +kernel
theorem dX4_run_58 : decode cX4_run 58 = .ok (.invokestatic 158, 3) := by decide +kernel
theorem dX4_run_61 : decode cX4_run 61 = .ok (.istore 4, 2) := by decide +kernel
theorem dX4_run_63 : decode cX4_run 63 = .ok (.goto (-22), 3) := by decide +kernel
theorem dX4_run_66 : decode cX4_run 66 = .ok (.iload_n 3, 1) := by decide +kernel
theorem dX4_run_67 : decode cX4_run 67 = .ok (.ireturn, 1) := by decide +kernel
theorem dX4_marks_0 : decode cX4_marks 0 = .ok (.iload_n 1, 1) := by decide +kernel
theorem dX4_marks_1 : decode cX4_marks 1 = .ok (.istore_n 3, 1) := by decide +kernel
theorem dX4_marks_2 : decode cX4_marks 2 = .ok (.aload_n 0, 1) := by decide +kernel
theorem dX4_marks_3 : decode cX4_marks 3 = .ok (.iload_n 3, 1) := by decide +kernel
theorem dX4_marks_4 : decode cX4_marks 4 = .ok (.invokevirtual 161, 3) := by decide +kernel
theorem dX4_marks_7 : decode cX4_marks 7 = .ok (.ifCond .eq 19, 3) := by decide +kernel
theorem dX4_marks_10 : decode cX4_marks 10 = .ok (.aload_n 0, 1) := by decide +kernel
theorem dX4_marks_11 : decode cX4_marks 11 = .ok (.getfield 29, 3) := by decide +kernel
theorem dX4_marks_14 : decode cX4_marks 14 = .ok (.iload_n 3, 1) := by decide +kernel
theorem dX4_marks_15 : decode cX4_marks 15 = .ok (.iconst 1, 1) := by decide +kernel
theorem dX4_marks_16 : decode cX4_marks 16 = .ok (.bastore, 1) := by decide +kernel
theorem dX4_marks_17 : decode cX4_marks 17 = .ok (.iload_n 3, 1) := by decide +kernel
theorem dX4_marks_18 : decode cX4_marks 18 = .ok (.iload_n 2, 1) := by decide +kernel
theorem dX4_marks_19 : decode cX4_marks 19 = .ok (.invokestatic 158, 3) := by decide +kernel
theorem dX4_marks_22 : decode cX4_marks 22 = .ok (.istore_n 3, 1) := by decide +kernel
theorem dX4_marks_23 : decode cX4_marks 23 = .ok (.goto (-21), 3) := by decide +kernel
theorem dX4_marks_26 : decode cX4_marks 26 = .ok (.iload_n 1, 1) := by decide +kernel
theorem dX4_marks_27 : decode cX4_marks 27 = .ok (.istore_n 3, 1) := by decide +kernel
theorem dX4_marks_28 : decode cX4_marks 28 = .ok (.aload_n 0, 1) := by decide +kernel
theorem dX4_marks_29 : decode cX4_marks 29 = .ok (.iload_n 3, 1) := by decide +kernel
theorem dX4_marks_30 : decode cX4_marks 30 = .ok (.invokevirtual 161, 3) := by decide +kernel
theorem dX4_marks_33 : decode cX4_marks 33 = .ok (.ifCond .eq 21, 3) := by decide +kernel
theorem dX4_marks_36 : decode cX4_marks 36 = .ok (.aload_n 0, 1) := by decide +kernel
theorem dX4_marks_37 : decode cX4_marks 37 = .ok (.getfield 29, 3) := by decide +kernel
theorem dX4_marks_40 : decode cX4_marks 40 = .ok (.iload_n 3, 1) := by decide +kernel
theorem dX4_marks_41 : decode cX4_marks 41 = .ok (.iconst 1, 1) := by decide +kernel
theorem dX4_marks_42 : decode cX4_marks 42 = .ok (.bastore, 1) := by decide +kernel
theorem dX4_marks_43 : decode cX4_marks 43 = .ok (.iload_n 3, 1) := by decide +kernel
theorem dX4_marks_44 : decode cX4_marks 44 = .ok (.iload_n 2, 1) := by decide +kernel
theorem dX4_marks_45 : decode cX4_marks 45 = .ok (.iconst 1, 1) := by decide +kernel
theorem dX4_marks_46 : decode cX4_marks 46 = .ok (.iadd, 1) := by decide +kernel
theorem dX4_marks_47 : decode cX4_marks 47 = .ok (.invokestatic 158, 3) := by decide +kernel
theorem dX4_marks_50 : decode cX4_marks 50 = .ok (.istore_n 3, 1) := by decide +kernel
theorem dX4_marks_51 : decode cX4_marks 51 = .ok (.goto (-23), 3) := by decide +kernel
theorem dX4_marks_54 : decode cX4_marks 54 = .ok (.return_, 1) := by decide +kernel
theorem dX4_isFall_0 : decode cX4_isFall 0 = .ok (.aload_n 0, 1) := by decide +kernel
theorem dX4_isFall_1 : decode cX4_isFall 1 = .ok (.iload_n 1, 1) := by decide +kernel
theorem dX4_isFall_2 : decode cX4_isFall 2 = .ok (.iconst 0, 1) := by decide +kernel
theorem dX4_isFall_3 : decode cX4_isFall 3 = .ok (.invokevirtual 164, 3) := by decide +kernel
theorem dX4_isFall_6 : decode cX4_isFall 6 = .ok (.iconst 3, 1) := by decide +kernel
theorem dX4_isFall_7 : decode cX4_isFall 7 = .ok (.if_icmp .gt 13, 3) := by decide +kernel
theorem dX4_isFall_10 : decode cX4_isFall 10 = .ok (.aload_n 0, 1) := by decide +kernel
theorem dX4_isFall_11 : decode cX4_isFall 11 = .ok (.iload_n 1, 1) := by decide +kernel
theorem dX4_isFall_12 : decode cX4_isFall 12 = .ok (.iconst 2, 1) := by decide +kernel
theorem dX4_isFall_13 : decode cX4_isFall 13 = .ok (.invokevirtual 164, 3) := by decide +kernel
theorem dX4_isFall_16 : decode cX4_isFall 16 = .ok (.iconst 3, 1) := by decide +kernel
theorem dX4_isFall_17 : decode cX4_isFall 17 = .ok (.if_icmp .le 7, 3) := by decide +kernel
theorem dX4_isFall_20 : decode cX4_isFall 20 = .ok (.iconst 1, 1) := by decide +kernel
theorem dX4_isFall_21 : decode cX4_isFall 21 = .ok (.goto 4, 3) := by decide +kernel
theorem dX4_isFall_24 : decode cX4_isFall 24 = .ok (.iconst 0, 1) := by decide +kernel
theorem dX4_isFall_25 : decode cX4_isFall 25 = .ok (.ireturn, 1) := by decide +kernel
theorem dX4_mayFall_0 : decode cX4_mayFall 0 = .ok (.iconst 0, 1) := by decide +kernel
theorem dX4_mayFall_1 : decode cX4_mayFall 1 = .ok (.istore_n 2, 1) := by decide +kernel
theorem dX4_mayFall_2 : decode cX4_mayFall 2 = .ok (.iload_n 2, 1) := by decide +kernel
theorem dX4_mayFall_3 : decode cX4_mayFall 3 = .ok (.bipush 100, 2) := by decide +kernel
theorem dX4_mayFall_5 : decode cX4_mayFall 5 = .ok (.if_icmp .ge 16, 3) := by decide +kernel
theorem dX4_mayFall_8 : decode cX4_mayFall 8 = .ok (.aload_n 0, 1) := by decide +kernel
theorem dX4_mayFall_9 : decode cX4_mayFall 9 = .ok (.getfield 29, 3) := by decide +kernel
theorem dX4_mayFall_12 : decode cX4_mayFall 12 = .ok (.iload_n 2, 1) := by decide +kernel
theorem dX4_mayFall_13 : decode cX4_mayFall 13 = .ok (.iconst 0, 1) := by decide +kernel
theorem dX4_mayFall_14 : decode cX4_mayFall 14 = .ok (.bastore, 1) := by decide +kernel
theorem dX4_mayFall_15 : decode cX4_mayFall 15 = .ok (.iinc 2 1, 3) := by decide +kernel
theorem dX4_mayFall_18 : decode cX4_mayFall 18 = .ok (.goto (-16), 3) := by decide +kernel
theorem dX4_mayFall_21 : decode cX4_mayFall 21 = .ok (.aload_n 0, 1) := by decide +kernel
theorem dX4_mayFall_22 : decode cX4_mayFall 22 = .ok (.iload_n 1, 1) := by decide +kernel
theorem dX4_mayFall_23 : decode cX4_mayFall 23 = .ok (.iconst 2, 1) := by decide +kernel
theorem dX4_mayFall_24 : decode cX4_mayFall 24 = .ok (.invokevirtual 164, 3) := by decide +kernel
theorem dX4_mayFall_27 : decode cX4_mayFall 27 = .ok (.iconst 3, 1) := by decide +kernel
theorem dX4_mayFall_28 : decode cX4_mayFall 28 = .ok (.if_icmp .le 9, 3) := by decide +kernel
theorem dX4_mayFall_31 : decode cX4_mayFall 31 = .ok (.aload_n 0, 1) := by decide +kernel
theorem dX4_mayFall_32 : decode cX4_mayFall 32 = .ok (.iload_n 1, 1) := by decide +kernel
theorem dX4_mayFall_33 : decode cX4_mayFall 33 = .ok (.iconst 2, 1) := by decide +kernel
theorem dX4_mayFall_34 : decode cX4_mayFall 34 = .ok (.invokevirtual 167, 3) := by decide +kernel
theorem dX4_mayFall_37 : decode cX4_mayFall 37 = .ok (.aload_n 0, 1) := by decide +kernel
theorem dX4_mayFall_38 : decode cX4_mayFall 38 = .ok (.iload_n 1, 1) := by decide +kernel
theorem dX4_mayFall_39 : decode cX4_mayFall 39 = .ok (.iconst 0, 1) := by decide +kernel
theorem dX4_mayFall_40 : decode cX4_mayFall 40 = .ok (.invokevirtual 164, 3) := by decide +kernel
theorem dX4_mayFall_43 : decode cX4_mayFall 43 = .ok (.iconst 3, 1) := by decide +kernel
theorem dX4_mayFall_44 : decode cX4_mayFall 44 = .ok (.if_icmp .le 9, 3) := by decide +kernel
theorem dX4_mayFall_47 : decode cX4_mayFall 47 = .ok (.aload_n 0, 1) := by decide +kernel
theorem dX4_mayFall_48 : decode cX4_mayFall 48 = .ok (.iload_n 1, 1) := by decide +kernel
theorem dX4_mayFall_49 : decode cX4_mayFall 49 = .ok (.iconst 0, 1) := by decide +kernel
theorem dX4_mayFall_50 : decode cX4_mayFall 50 = .ok (.invokevirtual 167, 3) := by decide +kernel
theorem dX4_mayFall_53 : decode cX4_mayFall 53 = .ok (.iconst 0, 1) := by decide +kernel
theorem dX4_mayFall_54 : decode cX4_mayFall 54 = .ok (.istore_n 2, 1) := by decide +kernel
theorem dX4_mayFall_55 : decode cX4_mayFall 55 = .ok (.iload_n 2, 1) := by decide +kernel
theorem dX4_mayFall_56 : decode cX4_mayFall 56 = .ok (.bipush 100, 2) := by decide +kernel
theorem dX4_mayFall_58 : decode cX4_mayFall 58 = .ok (.if_icmp .ge 34, 3) := by decide +kernel
theorem dX4_mayFall_61 : decode cX4_mayFall 61 = .ok (.aload_n 0, 1) := by decide +kernel
theorem dX4_mayFall_62 : decode cX4_mayFall 62 = .ok (.getfield 7, 3) := by decide +kernel
theorem dX4_mayFall_65 : decode cX4_mayFall 65 = .ok (.iload_n 2, 1) := by decide +kernel
theorem dX4_mayFall_66 : decode cX4_mayFall 66 = .ok (.aload_n 0, 1) := by decide +kernel
theorem dX4_mayFall_67 : decode cX4_mayFall 67 = .ok (.getfield 29, 3) := by decide +kernel
theorem dX4_mayFall_70 : decode cX4_mayFall 70 = .ok (.iload_n 2, 1) := by decide +kernel
theorem dX4_mayFall_71 : decode cX4_mayFall 71 = .ok (.baload, 1) := by decide +kernel
theorem dX4_mayFall_72 : decode cX4_mayFall 72 = .ok (.ifCond .eq 7, 3) := by decide +kernel
theorem dX4_mayFall_75 : decode cX4_mayFall 75 = .ok (.iconst 2, 1) := by decide +kernel
theorem dX4_mayFall_76 : decode cX4_mayFall 76 = .ok (.goto 9, 3) := by decide +kernel
theorem dX4_mayFall_79 : decode cX4_mayFall 79 = .ok (.aload_n 0, 1) := by decide +kernel
theorem dX4_mayFall_80 : decode cX4_mayFall 80 = .ok (.getfield 7, 3) := by decide +kernel
theorem dX4_mayFall_83 : decode cX4_mayFall 83 = .ok (.iload_n 2, 1) := by decide +kernel
theorem dX4_mayFall_84 : decode cX4_mayFall 84 = .ok (.iaload, 1) := by decide +kernel
theorem dX4_mayFall_85 : decode cX4_mayFall 85 = .ok (.iastore, 1) := by decide +kernel
theorem dX4_mayFall_86 : decode cX4_mayFall 86 = .ok (.iinc 2 1, 3) := by decide +kernel
theorem dX4_mayFall_89 : decode cX4_mayFall 89 = .ok (.goto (-34), 3) := by decide +kernel
theorem dX4_mayFall_92 : decode cX4_mayFall 92 = .ok (.return_, 1) := by decide +kernel
theorem dX4_opens_0 : decode cX4_opens 0 = .ok (.aload_n 0, 1) := by decide +kernel
theorem dX4_opens_1 : decode cX4_opens 1 = .ok (.getfield 13, 3) := by decide +kernel
theorem dX4_opens_4 : decode cX4_opens 4 = .ok (.iload_n 1, 1) := by decide +kernel
theorem dX4_opens_5 : decode cX4_opens 5 = .ok (.iaload, 1) := by decide +kernel
theorem dX4_opens_6 : decode cX4_opens 6 = .ok (.istore 4, 2) := by decide +kernel
theorem dX4_opens_8 : decode cX4_opens 8 = .ok (.aload_n 0, 1) := by decide +kernel
theorem dX4_opens_9 : decode cX4_opens 9 = .ok (.getfield 7, 3) := by decide +kernel
theorem dX4_opens_12 : decode cX4_opens 12 = .ok (.iload_n 1, 1) := by decide +kernel
theorem dX4_opens_13 : decode cX4_opens 13 = .ok (.iconst 1, 1) := by decide +kernel
theorem dX4_opens_14 : decode cX4_opens 14 = .ok (.iastore, 1) := by decide +kernel
theorem dX4_opens_15 : decode cX4_opens 15 = .ok (.aload_n 0, 1) := by decide +kernel
theorem dX4_opens_16 : decode cX4_opens 16 = .ok (.getfield 26, 3) := by decide +kernel
theorem dX4_opens_19 : decode cX4_opens 19 = .ok (.iload_n 1, 1) := by decide +kernel
theorem dX4_opens_20 : decode cX4_opens 20 = .ok (.iconst (-1), 1) := by decide +kernel
theorem dX4_opens_21 : decode cX4_opens 21 = .ok (.iastore, 1) := by decide +kernel
theorem dX4_opens_22 : decode cX4_opens 22 = .ok (.iload 4, 2) := by decide +kernel
theorem dX4_opens_24 : decode cX4_opens 24 = .ok (.ifCond .le 79, 3) := by decide +kernel
theorem dX4_opens_27 : decode cX4_opens 27 = .ok (.aload_n 0, 1) := by decide +kernel
theorem dX4_opens_28 : decode cX4_opens 28 = .ok (.getfield 71, 3) := by decide +kernel
theorem dX4_opens_31 : decode cX4_opens 31 = .ok (.aload_n 0, 1) := by decide +kernel
theorem dX4_opens_32 : decode cX4_opens 32 = .ok (.getfield 115, 3) := by decide +kernel
theorem dX4_opens_35 : decode cX4_opens 35 = .ok (.iload 4, 2) := by decide +kernel
theorem dX4_opens_37 : decode cX4_opens 37 = .ok (.iastore, 1) := by decide +kernel
theorem dX4_opens_38 : decode cX4_opens 38 = .ok (.aload_n 0, 1) := by decide +kernel
theorem dX4_opens_39 : decode cX4_opens 39 = .ok (.getfield 74, 3) := by decide +kernel
theorem dX4_opens_42 : decode cX4_opens 42 = .ok (.aload_n 0, 1) := by decide +kernel
theorem dX4_opens_43 : decode cX4_opens 43 = .ok (.getfield 115, 3) := by decide +kernel
theorem dX4_opens_46 : decode cX4_opens 46 = .ok (.aload_n 0, 1) := by decide +kernel
theorem dX4_opens_47 : decode cX4_opens 47 = .ok (.getfield 16, 3) := by decide +kernel
theorem dX4_opens_50 : decode cX4_opens 50 = .ok (.iload_n 1, 1) := by decide +kernel
theorem dX4_opens_51 : decode cX4_opens 51 = .ok (.iaload, 1) := by decide +kernel
theorem dX4_opens_52 : decode cX4_opens 52 = .ok (.iastore, 1) := by decide +kernel
theorem dX4_opens_53 : decode cX4_opens 53 = .ok (.aload_n 0, 1) := by decide +kernel
theorem dX4_opens_54 : decode cX4_opens 54 = .ok (.getfield 80, 3) := by decide +kernel
theorem dX4_opens_57 : decode cX4_opens 57 = .ok (.aload_n 0, 1) := by decide +kernel
theorem dX4_opens_58 : decode cX4_opens 58 = .ok (.getfield 115, 3) := by decide +kernel
theorem dX4_opens_61 : decode cX4_opens 61 = .ok (.iload_n 2, 1) := by decide +kernel
theorem dX4_opens_62 : decode cX4_opens 62 = .ok (.iastore, 1) := by decide +kernel
theorem dX4_opens_63 : decode cX4_opens 63 = .ok (.aload_n 0, 1) := by decide +kernel
theorem dX4_opens_64 : decode cX4_opens 64 = .ok (.getfield 83, 3) := by decide +kernel
theorem dX4_opens_67 : decode cX4_opens 67 = .ok (.aload_n 0, 1) := by decide +kernel
theorem dX4_opens_68 : decode cX4_opens 68 = .ok (.getfield 115, 3) := by decide +kernel
theorem dX4_opens_71 : decode cX4_opens 71 = .ok (.iload_n 3, 1) := by decide +kernel
theorem dX4_opens_72 : decode cX4_opens 72 = .ok (.iastore, 1) := by decide +kernel
theorem dX4_opens_73 : decode cX4_opens 73 = .ok (.aload_n 0, 1) := by decide +kernel
theorem dX4_opens_74 : decode cX4_opens 74 = .ok (.getfield 86, 3) := by decide +kernel
theorem dX4_opens_77 : decode cX4_opens 77 = .ok (.aload_n 0, 1) := by decide +kernel
theorem dX4_opens_78 : decode cX4_opens 78 = .ok (.getfield 115, 3) := by decide +kernel
theorem dX4_opens_81 : decode cX4_opens 81 = .ok (.iload_n 1, 1) := by decide +kernel
theorem dX4_opens_82 : decode cX4_opens 82 = .ok (.iastore, 1) := by decide +kernel
theorem dX4_opens_83 : decode cX4_opens 83 = .ok (.aload_n 0, 1) := by decide +kernel
theorem dX4_opens_84 : decode cX4_opens 84 = .ok (.getfield 89, 3) := by decide +kernel
theorem dX4_opens_87 : decode cX4_opens 87 = .ok (.aload_n 0, 1) := by decide +kernel
theorem dX4_opens_88 : decode cX4_opens 88 = .ok (.getfield 115, 3) := by decide +kernel
theorem dX4_opens_91 : decode cX4_opens 91 = .ok (.iconst (-1), 1) := by decide +kernel
theorem dX4_opens_92 : decode cX4_opens 92 = .ok (.iastore, 1) := by decide +kernel
theorem dX4_opens_93 : decode cX4_opens 93 = .ok (.aload_n 0, 1) := by decide +kernel
theorem dX4_opens_94 : decode cX4_opens 94 = .ok (.dup, 1) := by decide +kernel
theorem dX4_opens_95 : decode cX4_opens 95 = .ok (.getfield 115, 3) := by decide +kernel
theorem dX4_opens_98 : decode cX4_opens 98 = .ok (.iconst 1, 1) := by decide +kernel
theorem dX4_opens_99 : decode cX4_opens 99 = .ok (.iadd, 1) := by decide +kernel
theorem dX4_opens_100 : decode cX4_opens 100 = .ok (.putfield 115, 3) := by decide +kernel
theorem dX4_opens_103 : decode cX4_opens 103 = .ok (.aload_n 0, 1) := by decide +kernel
theorem dX4_opens_104 : decode cX4_opens 104 = .ok (.getfield 13, 3) := by decide +kernel
