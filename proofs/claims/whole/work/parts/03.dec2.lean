theorem dX8_as_0 : decode cX8_as 0 = .ok (.aload_n 0, 1) := by decide +kernel
theorem dX8_as_1 : decode cX8_as 1 = .ok (.iload_n 1, 1) := by decide +kernel
theorem dX8_as_2 : decode cX8_as 2 = .ok (.iconst 1, 1) := by decide +kernel
theorem dX8_as_3 : decode cX8_as 3 = .ok (.invokevirtual 83, 3) := by decide +kernel
theorem dX8_as_6 : decode cX8_as 6 = .ok (.ifCond .eq 13, 3) := by decide +kernel
theorem dX8_as_9 : decode cX8_as 9 = .ok (.iload_n 2, 1) := by decide +kernel
theorem dX8_as_10 : decode cX8_as 10 = .ok (.iconst 0, 1) := by decide +kernel
theorem dX8_as_11 : decode cX8_as 11 = .ok (.bipush 7, 2) := by decide +kernel
theorem dX8_as_13 : decode cX8_as 13 = .ok (.invokestatic 68, 3) := by decide +kernel
theorem dX8_as_16 : decode cX8_as 16 = .ok (.ifCond .ne 10, 3) := by decide +kernel
theorem dX8_as_19 : decode cX8_as 19 = .ok (.aload_n 0, 1) := by decide +kernel
theorem dX8_as_20 : decode cX8_as 20 = .ok (.ldc 76, 2) := by decide +kernel
theorem dX8_as_22 : decode cX8_as 22 = .ok (.invokevirtual 77, 3) := by decide +kernel
theorem dX8_as_25 : decode cX8_as 25 = .ok (.ireturn, 1) := by decide +kernel
theorem dX8_as_26 : decode cX8_as 26 = .ok (.aload_n 0, 1) := by decide +kernel
theorem dX8_as_27 : decode cX8_as 27 = .ok (.iload_n 1, 1) := by decide +kernel
theorem dX8_as_28 : decode cX8_as 28 = .ok (.iconst 0, 1) := by decide +kernel
theorem dX8_as_29 : decode cX8_as 29 = .ok (.invokevirtual 87, 3) := by decide +kernel
theorem dX8_as_32 : decode cX8_as 32 = .ok (.istore_n 3, 1) := by decide +kernel
theorem dX8_as_33 : decode cX8_as 33 = .ok (.iload_n 3, 1) := by decide +kernel
theorem dX8_as_34 : decode cX8_as 34 = .ok (.ifCond .lt 16, 3) := by decide +kernel
theorem dX8_as_37 : decode cX8_as 37 = .ok (.iload_n 3, 1) := by decide +kernel
theorem dX8_as_38 : decode cX8_as 38 = .ok (.iload_n 2, 1) := by decide +kernel
theorem dX8_as_39 : decode cX8_as 39 = .ok (.if_icmp .eq 11, 3) := by decide +kernel
theorem dX8_as_42 : decode cX8_as 42 = .ok (.iload_n 3, 1) := by decide +kernel
theorem dX8_as_43 : decode cX8_as 43 = .ok (.invokestatic 143, 3) := by decide +kernel
theorem dX8_as_46 : decode cX8_as 46 = .ok (.istore_n 3, 1) := by decide +kernel
theorem dX8_as_47 : decode cX8_as 47 = .ok (.goto (-14), 3) := by decide +kernel
theorem dX8_as_50 : decode cX8_as 50 = .ok (.iload_n 3, 1) := by decide +kernel
theorem dX8_as_51 : decode cX8_as 51 = .ok (.ifCond .ge 12, 3) := by decide +kernel
theorem dX8_as_54 : decode cX8_as 54 = .ok (.aload_n 0, 1) := by decide +kernel
theorem dX8_as_55 : decode cX8_as 55 = .ok (.ldc 146, 2) := by decide +kernel
theorem dX8_as_57 : decode cX8_as 57 = .ok (.invokevirtual 77, 3) := by decide +kernel
theorem dX8_as_60 : decode cX8_as 60 = .ok (.goto 8, 3) := by decide +kernel
theorem dX8_as_63 : decode cX8_as 63 = .ok (.aload_n 0, 1) := by decide +kernel
theorem dX8_as_64 : decode cX8_as 64 = .ok (.iload_n 1, 1) := by decide +kernel
theorem dX8_as_65 : decode cX8_as 65 = .ok (.invokevirtual 134, 3) := by decide +kernel
theorem dX8_as_68 : decode cX8_as 68 = .ok (.ireturn, 1) := by decide +kernel
theorem dX8_point_0 : decode cX8_point 0 = .ok (.aload_n 0, 1) := by decide +kernel
theorem dX8_point_1 : decode cX8_point 1 = .ok (.iload_n 1, 1) := by decide +kernel
theorem dX8_point_2 : decode cX8_point 2 = .ok (.iconst 1, 1) := by decide +kernel
theorem dX8_point_3 : decode cX8_point 3 = .ok (.invokevirtual 83, 3) := by decide +kernel
theorem dX8_point_6 : decode cX8_point 6 = .ok (.ifCond .eq 27, 3) := by decide +kernel
theorem dX8_point_9 : decode cX8_point 9 = .ok (.iload_n 2, 1) := by decide +kernel
theorem dX8_point_10 : decode cX8_point 10 = .ok (.iconst 0, 1) := by decide +kernel
theorem dX8_point_11 : decode cX8_point 11 = .ok (.aload_n 0, 1) := by decide +kernel
theorem dX8_point_12 : decode cX8_point 12 = .ok (.iload_n 1, 1) := by decide +kernel
theorem dX8_point_13 : decode cX8_point 13 = .ok (.invokevirtual 134, 3) := by decide +kernel
theorem dX8_point_16 : decode cX8_point 16 = .ok (.iconst 1, 1) := by decide +kernel
theorem dX8_point_17 : decode cX8_point 17 = .ok (.isub, 1) := by decide +kernel
theorem dX8_point_18 : decode cX8_point 18 = .ok (.invokestatic 68, 3) := by decide +kernel
theorem dX8_point_21 : decode cX8_point 21 = .ok (.ifCond .eq 12, 3) := by decide +kernel
theorem dX8_point_24 : decode cX8_point 24 = .ok (.aload_n 0, 1) := by decide +kernel
theorem dX8_point_25 : decode cX8_point 25 = .ok (.iload_n 1, 1) := by decide +kernel
theorem dX8_point_26 : decode cX8_point 26 = .ok (.iload_n 2, 1) := by decide +kernel
theorem dX8_point_27 : decode cX8_point 27 = .ok (.invokevirtual 140, 3) := by decide +kernel
theorem dX8_point_30 : decode cX8_point 30 = .ok (.goto 9, 3) := by decide +kernel
theorem dX8_point_33 : decode cX8_point 33 = .ok (.aload_n 0, 1) := by decide +kernel
theorem dX8_point_34 : decode cX8_point 34 = .ok (.ldc 76, 2) := by decide +kernel
theorem dX8_point_36 : decode cX8_point 36 = .ok (.invokevirtual 77, 3) := by decide +kernel
theorem dX8_point_39 : decode cX8_point 39 = .ok (.ireturn, 1) := by decide +kernel
theorem dX8_hairOf_0 : decode cX8_hairOf 0 = .ok (.aload_n 0, 1) := by decide +kernel
theorem dX8_hairOf_1 : decode cX8_hairOf 1 = .ok (.iload_n 1, 1) := by decide +kernel
theorem dX8_hairOf_2 : decode cX8_hairOf 2 = .ok (.iload_n 2, 1) := by decide +kernel
theorem dX8_hairOf_3 : decode cX8_hairOf 3 = .ok (.iconst 1, 1) := by decide +kernel
theorem dX8_hairOf_4 : decode cX8_hairOf 4 = .ok (.isub, 1) := by decide +kernel
theorem dX8_hairOf_5 : decode cX8_hairOf 5 = .ok (.invokevirtual 140, 3) := by decide +kernel
theorem dX8_hairOf_8 : decode cX8_hairOf 8 = .ok (.aload_n 0, 1) := by decide +kernel
theorem dX8_hairOf_9 : decode cX8_hairOf 9 = .ok (.iload_n 1, 1) := by decide +kernel
theorem dX8_hairOf_10 : decode cX8_hairOf 10 = .ok (.iload_n 2, 1) := by decide +kernel
theorem dX8_hairOf_11 : decode cX8_hairOf 11 = .ok (.iconst 1, 1) := by decide +kernel
theorem dX8_hairOf_12 : decode cX8_hairOf 12 = .ok (.iadd, 1) := by decide +kernel
theorem dX8_hairOf_13 : decode cX8_hairOf 13 = .ok (.invokevirtual 140, 3) := by decide +kernel
theorem dX8_hairOf_16 : decode cX8_hairOf 16 = .ok (.iadd, 1) := by decide +kernel
theorem dX8_hairOf_17 : decode cX8_hairOf 17 = .ok (.iconst 2, 1) := by decide +kernel
theorem dX8_hairOf_18 : decode cX8_hairOf 18 = .ok (.aload_n 0, 1) := by decide +kernel
theorem dX8_hairOf_19 : decode cX8_hairOf 19 = .ok (.iload_n 1, 1) := by decide +kernel
theorem dX8_hairOf_20 : decode cX8_hairOf 20 = .ok (.iload_n 2, 1) := by decide +kernel
theorem dX8_hairOf_21 : decode cX8_hairOf 21 = .ok (.invokevirtual 140, 3) := by decide +kernel
theorem dX8_hairOf_24 : decode cX8_hairOf 24 = .ok (.imul, 1) := by decide +kernel
theorem dX8_hairOf_25 : decode cX8_hairOf 25 = .ok (.isub, 1) := by decide +kernel
theorem dX8_hairOf_26 : decode cX8_hairOf 26 = .ok (.ireturn, 1) := by decide +kernel
theorem dX8_hair_0 : decode cX8_hair 0 = .ok (.aload_n 0, 1) := by decide +kernel
theorem dX8_hair_1 : decode cX8_hair 1 = .ok (.iload_n 1, 1) := by decide +kernel
theorem dX8_hair_2 : decode cX8_hair 2 = .ok (.iconst 1, 1) := by decide +kernel
theorem dX8_hair_3 : decode cX8_hair 3 = .ok (.invokevirtual 83, 3) := by decide +kernel
theorem dX8_hair_6 : decode cX8_hair 6 = .ok (.ifCond .eq 27, 3) := by decide +kernel
theorem dX8_hair_9 : decode cX8_hair 9 = .ok (.iload_n 2, 1) := by decide +kernel
theorem dX8_hair_10 : decode cX8_hair 10 = .ok (.iconst 1, 1) := by decide +kernel
theorem dX8_hair_11 : decode cX8_hair 11 = .ok (.aload_n 0, 1) := by decide +kernel
theorem dX8_hair_12 : decode cX8_hair 12 = .ok (.iload_n 1, 1) := by decide +kernel
theorem dX8_hair_13 : decode cX8_hair 13 = .ok (.invokevirtual 134, 3) := by decide +kernel
theorem dX8_hair_16 : decode cX8_hair 16 = .ok (.iconst 2, 1) := by decide +kernel
theorem dX8_hair_17 : decode cX8_hair 17 = .ok (.isub, 1) := by decide +kernel
theorem dX8_hair_18 : decode cX8_hair 18 = .ok (.invokestatic 68, 3) := by decide +kernel
theorem dX8_hair_21 : decode cX8_hair 21 = .ok (.ifCond .eq 12, 3) := by decide +kernel
theorem dX8_hair_24 : decode cX8_hair 24 = .ok (.aload_n 0, 1) := by decide +kernel
theorem dX8_hair_25 : decode cX8_hair 25 = .ok (.iload_n 1, 1) := by decide +kernel
theorem dX8_hair_26 : decode cX8_hair 26 = .ok (.iload_n 2, 1) := by decide +kernel
theorem dX8_hair_27 : decode cX8_hair 27 = .ok (.invokevirtual 147, 3) := by decide +kernel
theorem dX8_hair_30 : decode cX8_hair 30 = .ok (.goto 9, 3) := by decide +kernel
theorem dX8_hair_33 : decode cX8_hair 33 = .ok (.aload_n 0, 1) := by decide +kernel
theorem dX8_hair_34 : decode cX8_hair 34 = .ok (.ldc 76, 2) := by decide +kernel
theorem dX8_hair_36 : decode cX8_hair 36 = .ok (.invokevirtual 77, 3) := by decide +kernel
theorem dX8_hair_39 : decode cX8_hair 39 = .ok (.ireturn, 1) := by decide +kernel
theorem dX8_feed_0 : decode cX8_feed 0 = .ok (.iload_n 3, 1) := by decide +kernel
theorem dX8_feed_1 : decode cX8_feed 1 = .ok (.iconst 1, 1) := by decide +kernel
theorem dX8_feed_2 : decode cX8_feed 2 = .ok (.bipush 8, 2) := by decide +kernel
theorem dX8_feed_4 : decode cX8_feed 4 = .ok (.invokestatic 68, 3) := by decide +kernel
theorem dX8_feed_7 : decode cX8_feed 7 = .ok (.ifCond .ne 10, 3) := by decide +kernel
theorem dX8_feed_10 : decode cX8_feed 10 = .ok (.aload_n 0, 1) := by decide +kernel
theorem dX8_feed_11 : decode cX8_feed 11 = .ok (.ldc 76, 2) := by decide +kernel
theorem dX8_feed_13 : decode cX8_feed 13 = .ok (.invokevirtual 77, 3) := by decide +kernel
theorem dX8_feed_16 : decode cX8_feed 16 = .ok (.ireturn, 1) := by decide +kernel
theorem dX8_feed_17 : decode cX8_feed 17 = .ok (.aload_n 0, 1) := by decide +kernel
theorem dX8_feed_18 : decode cX8_feed 18 = .ok (.getfield 9, 3) := by decide +kernel
theorem dX8_feed_21 : decode cX8_feed 21 = .ok (.iconst 5, 1) := by decide +kernel
theorem dX8_feed_22 : decode cX8_feed 22 = .ok (.iaload, 1) := by decide +kernel
theorem dX8_feed_23 : decode cX8_feed 23 = .ok (.iload_n 3, 1) := by decide +kernel
theorem dX8_feed_24 : decode cX8_feed 24 = .ok (.iadd, 1) := by decide +kernel
theorem dX8_feed_25 : decode cX8_feed 25 = .ok (.bipush 56, 2) := by decide +kernel
theorem dX8_feed_27 : decode cX8_feed 27 = .ok (.if_icmp .le 10, 3) := by decide +kernel
theorem dX8_feed_30 : decode cX8_feed 30 = .ok (.aload_n 0, 1) := by decide +kernel
theorem dX8_feed_31 : decode cX8_feed 31 = .ok (.ldc 82, 2) := by decide +kernel
theorem dX8_feed_33 : decode cX8_feed 33 = .ok (.invokevirtual 77, 3) := by decide +kernel
theorem dX8_feed_36 : decode cX8_feed 36 = .ok (.ireturn, 1) := by decide +kernel
theorem dX8_feed_37 : decode cX8_feed 37 = .ok (.iconst 0, 1) := by decide +kernel
theorem dX8_feed_38 : decode cX8_feed 38 = .ok (.istore 4, 2) := by decide +kernel
theorem dX8_feed_40 : decode cX8_feed 40 = .ok (.iload 4, 2) := by decide +kernel
theorem dX8_feed_42 : decode cX8_feed 42 = .ok (.iload_n 3, 1) := by decide +kernel
theorem dX8_feed_43 : decode cX8_feed 43 = .ok (.if_icmp .ge 46, 3) := by decide +kernel
theorem dX8_feed_46 : decode cX8_feed 46 = .ok (.aload_n 0, 1) := by decide +kernel
theorem dX8_feed_47 : decode cX8_feed 47 = .ok (.getfield 9, 3) := by decide +kernel
theorem dX8_feed_50 : decode cX8_feed 50 = .ok (.sipush 974, 3) := by decide +kernel
theorem dX8_feed_53 : decode cX8_feed 53 = .ok (.aload_n 0, 1) := by decide +kernel
theorem dX8_feed_54 : decode cX8_feed 54 = .ok (.getfield 9, 3) := by decide +kernel
theorem dX8_feed_57 : decode cX8_feed 57 = .ok (.iconst 5, 1) := by decide +kernel
theorem dX8_feed_58 : decode cX8_feed 58 = .ok (.iaload, 1) := by decide +kernel
theorem dX8_feed_59 : decode cX8_feed 59 = .ok (.iadd, 1) := by decide +kernel
theorem dX8_feed_60 : decode cX8_feed 60 = .ok (.lload_n 1, 1) := by decide +kernel
theorem dX8_feed_61 : decode cX8_feed 61 = .ok (.bipush 8, 2) := by decide +kernel
theorem dX8_feed_63 : decode cX8_feed 63 = .ok (.iload 4, 2) := by decide +kernel
theorem dX8_feed_65 : decode cX8_feed 65 = .ok (.imul, 1) := by decide +kernel
theorem dX8_feed_66 : decode cX8_feed 66 = .ok (.lshr, 1) := by decide +kernel
theorem dX8_feed_67 : decode cX8_feed 67 = .ok (.ldc2_w 150, 3) := by decide +kernel
theorem dX8_feed_70 : decode cX8_feed 70 = .ok (.land, 1) := by decide +kernel
theorem dX8_feed_71 : decode cX8_feed 71 = .ok (.l2i, 1) := by decide +kernel
theorem dX8_feed_72 : decode cX8_feed 72 = .ok (.iastore, 1) := by decide +kernel
theorem dX8_feed_73 : decode cX8_feed 73 = .ok (.aload_n 0, 1) := by decide +kernel
theorem dX8_feed_74 : decode cX8_feed 74 = .ok (.getfield 9, 3) := by decide +kernel
theorem dX8_feed_77 : decode cX8_feed 77 = .ok (.iconst 5, 1) := by decide +kernel
theorem dX8_feed_78 : decode cX8_feed 78 = .ok (.dup2, 1) := by decide +kernel
theorem dX8_feed_79 : decode cX8_feed 79 = .ok (.iaload, 1) := by decide +kernel
theorem dX8_feed_80 : decode cX8_feed 80 = .ok (.iconst 1, 1) := by decide +kernel
theorem dX8_feed_81 : decode cX8_feed 81 = .ok (.iadd, 1) := by decide +kernel
theorem dX8_feed_82 : decode cX8_feed 82 = .ok (.iastore, 1) := by decide +kernel
theorem dX8_feed_83 : decode cX8_feed 83 = .ok (.iinc 4 1, 3) := by decide +kernel
theorem dX8_feed_86 : decode cX8_feed 86 = .ok (.goto (-46), 3) := by decide +kernel
theorem dX8_feed_89 : decode cX8_feed 89 = .ok (.aload_n 0, 1) := by decide +kernel
theorem dX8_feed_90 : decode cX8_feed 90 = .ok (.getfield 9, 3) := by decide +kernel
theorem dX8_feed_93 : decode cX8_feed 93 = .ok (.iconst 5, 1) := by decide +kernel
theorem dX8_feed_94 : decode cX8_feed 94 = .ok (.iaload, 1) := by decide +kernel
theorem dX8_feed_95 : decode cX8_feed 95 = .ok (.ireturn, 1) := by decide +kernel
theorem dX8_here_0 : decode cX8_here 0 = .ok (.aload_n 0, 1) := by decide +kernel
theorem dX8_here_1 : decode cX8_here 1 = .ok (.getfield 152, 3) := by decide +kernel
theorem dX8_here_4 : decode cX8_here 4 = .ok (.ifCond .ne 32, 3) := by decide +kernel
theorem dX8_here_7 : decode cX8_here 7 = .ok (.aload_n 0, 1) := by decide +kernel
theorem dX8_here_8 : decode cX8_here 8 = .ok (.getfield 156, 3) := by decide +kernel
theorem dX8_here_11 : decode cX8_here 11 = .ok (.aload_n 0, 1) := by decide +kernel
theorem dX8_here_12 : decode cX8_here 12 = .ok (.getfield 9, 3) := by decide +kernel
theorem dX8_here_15 : decode cX8_here 15 = .ok (.iconst 5, 1) := by decide +kernel
theorem dX8_here_16 : decode cX8_here 16 = .ok (.iaload, 1) := by decide +kernel
theorem dX8_here_17 : decode cX8_here 17 = .ok (.if_icmp .ge 19, 3) := by decide +kernel
theorem dX8_here_20 : decode cX8_here 20 = .ok (.aload_n 0, 1) := by decide +kernel
theorem dX8_here_21 : decode cX8_here 21 = .ok (.getfield 9, 3) := by decide +kernel
theorem dX8_here_24 : decode cX8_here 24 = .ok (.sipush 974, 3) := by decide +kernel
theorem dX8_here_27 : decode cX8_here 27 = .ok (.aload_n 0, 1) := by decide +kernel
theorem dX8_here_28 : decode cX8_here 28 = .ok (.getfield 156, 3) := by decide +kernel
theorem dX8_here_31 : decode cX8_here 31 = .ok (.iadd, 1) := by decide +kernel
theorem dX8_here_32 : decode cX8_here 32 = .ok (.iaload, 1) := by decide +kernel
theorem dX8_here_33 : decode cX8_here 33 = .ok (.goto 4, 3) := by decide +kernel
theorem dX8_here_36 : decode cX8_here 36 = .ok (.iconst (-1), 1) := by decide +kernel
theorem dX8_here_37 : decode cX8_here 37 = .ok (.ireturn, 1) := by decide +kernel
theorem dX8_takes_0 : decode cX8_takes 0 = .ok (.aload_n 0, 1) := by decide +kernel
theorem dX8_takes_1 : decode cX8_takes 1 = .ok (.invokevirtual 160, 3) := by decide +kernel
theorem dX8_takes_4 : decode cX8_takes 4 = .ok (.iload_n 1, 1) := by decide +kernel
theorem dX8_takes_5 : decode cX8_takes 5 = .ok (.if_icmp .ne 7, 3) := by decide +kernel
theorem dX8_takes_8 : decode cX8_takes 8 = .ok (.iconst 1, 1) := by decide +kernel
theorem dX8_takes_9 : decode cX8_takes 9 = .ok (.goto 4, 3) := by decide +kernel
theorem dX8_takes_12 : decode cX8_takes 12 = .ok (.iconst 0, 1) := by decide +kernel
theorem dX8_takes_13 : decode cX8_takes 13 = .ok (.istore_n 2, 1) := by decide +kernel
theorem dX8_takes_14 : decode cX8_takes 14 = .ok (.aload_n 0, 1) := by decide +kernel
theorem dX8_takes_15 : decode cX8_takes 15 = .ok (.dup, 1) := by decide +kernel
theorem dX8_takes_16 : decode cX8_takes 16 = .ok (.getfield 156, 3) := by decide +kernel
theorem dX8_takes_19 : decode cX8_takes 19 = .ok (.iload_n 2, 1) := by decide +kernel
theorem dX8_takes_20 : decode cX8_takes 20 = .ok (.ifCond .eq 7, 3) := by decide +kernel
theorem dX8_takes_23 : decode cX8_takes 23 = .ok (.iconst 1, 1) := by decide +kernel
theorem dX8_takes_24 : decode cX8_takes 24 = .ok (.goto 4, 3) := by decide +kernel
theorem dX8_takes_27 : decode cX8_takes 27 = .ok (.iconst 0, 1) := by decide +kernel
theorem dX8_takes_28 : decode cX8_takes 28 = .ok (.iadd, 1) := by decide +kernel
theorem dX8_takes_29 : decode cX8_takes 29 = .ok (.putfield 156, 3) := by decide +kernel
theorem dX8_takes_32 : decode cX8_takes 32 = .ok (.iload_n 2, 1) := by decide +kernel
theorem dX8_takes_33 : decode cX8_takes 33 = .ok (.ireturn, 1) := by decide +kernel
theorem dX8_codes_0 : decode cX8_codes 0 = .ok (.aload_n 0, 1) := by decide +kernel
theorem dX8_codes_1 : decode cX8_codes 1 = .ok (.getfield 152, 3) := by decide +kernel
theorem dX8_codes_4 : decode cX8_codes 4 = .ok (.ifCond .ne 44, 3) := by decide +kernel
theorem dX8_codes_7 : decode cX8_codes 7 = .ok (.aload_n 0, 1) := by decide +kernel
theorem dX8_codes_8 : decode cX8_codes 8 = .ok (.getfield 31, 3) := by decide +kernel
theorem dX8_codes_11 : decode cX8_codes 11 = .ok (.aload_n 0, 1) := by decide +kernel
theorem dX8_codes_12 : decode cX8_codes 12 = .ok (.getfield 164, 3) := by decide +kernel
theorem dX8_codes_15 : decode cX8_codes 15 = .ok (.iload_n 1, 1) := by decide +kernel
theorem dX8_codes_16 : decode cX8_codes 16 = .ok (.iastore, 1) := by decide +kernel
theorem dX8_codes_17 : decode cX8_codes 17 = .ok (.aload_n 0, 1) := by decide +kernel
theorem dX8_codes_18 : decode cX8_codes 18 = .ok (.dup, 1) := by decide +kernel
theorem dX8_codes_19 : decode cX8_codes 19 = .ok (.getfield 164, 3) := by decide +kernel
theorem dX8_codes_22 : decode cX8_codes 22 = .ok (.iconst 1, 1) := by decide +kernel
theorem dX8_codes_23 : decode cX8_codes 23 = .ok (.iadd, 1) := by decide +kernel
theorem dX8_codes_24 : decode cX8_codes 24 = .ok (.putfield 164, 3) := by decide +kernel
theorem dX8_codes_27 : decode cX8_codes 27 = .ok (.aload_n 0, 1) := by decide +kernel
theorem dX8_codes_28 : decode cX8_codes 28 = .ok (.dup, 1) := by decide +kernel
theorem dX8_codes_29 : decode cX8_codes 29 = .ok (.getfield 167, 3) := by decide +kernel
theorem dX8_codes_32 : decode cX8_codes 32 = .ok (.iload_n 1, 1) := by decide +kernel
theorem dX8_codes_33 : decode cX8_codes 33 = .ok (.sipush 20000, 3) := by decide +kernel
theorem dX8_codes_36 : decode cX8_codes 36 = .ok (.if_icmp .lt 7, 3) := by decide +kernel
theorem dX8_codes_39 : decode cX8_codes 39 = .ok (.iconst 1, 1) := by decide +kernel
theorem dX8_codes_40 : decode cX8_codes 40 = .ok (.goto 4, 3) := by decide +kernel
theorem dX8_codes_43 : decode cX8_codes 43 = .ok (.iconst 0, 1) := by decide +kernel
theorem dX8_codes_44 : decode cX8_codes 44 = .ok (.iadd, 1) := by decide +kernel
theorem dX8_codes_45 : decode cX8_codes 45 = .ok (.putfield 167, 3) := by decide +kernel
theorem dX8_codes_48 : decode cX8_codes 48 = .ok (.return_, 1) := by decide +kernel
theorem dX8_must_0 : decode cX8_must 0 = .ok (.aload_n 0, 1) := by decide +kernel
theorem dX8_must_1 : decode cX8_must 1 = .ok (.aload_n 0, 1) := by decide +kernel
theorem dX8_must_2 : decode cX8_must 2 = .ok (.iload_n 1, 1) := by decide +kernel
theorem dX8_must_3 : decode cX8_must 3 = .ok (.invokevirtual 170, 3) := by decide +kernel
theorem dX8_must_6 : decode cX8_must 6 = .ok (.ifCond .ne 7, 3) := by decide +kernel
theorem dX8_must_9 : decode cX8_must 9 = .ok (.iconst 1, 1) := by decide +kernel
theorem dX8_must_10 : decode cX8_must 10 = .ok (.goto 4, 3) := by decide +kernel
theorem dX8_must_13 : decode cX8_must 13 = .ok (.iconst 0, 1) := by decide +kernel
theorem dX8_must_14 : decode cX8_must 14 = .ok (.putfield 152, 3) := by decide +kernel
theorem dX8_must_17 : decode cX8_must 17 = .ok (.return_, 1) := by decide +kernel
theorem dX8_text_0 : decode cX8_text 0 = .ok (.aload_n 0, 1) := by decide +kernel
theorem dX8_text_1 : decode cX8_text 1 = .ok (.invokevirtual 173, 3) := by decide +kernel
theorem dX8_text_4 : decode cX8_text 4 = .ok (.aload_n 0, 1) := by decide +kernel
theorem dX8_text_5 : decode cX8_text 5 = .ok (.bipush 63, 2) := by decide +kernel
theorem dX8_text_7 : decode cX8_text 7 = .ok (.invokevirtual 170, 3) := by decide +kernel
theorem dX8_text_10 : decode cX8_text 10 = .ok (.ifCond .eq 24, 3) := by decide +kernel
theorem dX8_text_13 : decode cX8_text 13 = .ok (.aload_n 0, 1) := by decide +kernel
theorem dX8_text_14 : decode cX8_text 14 = .ok (.invokevirtual 173, 3) := by decide +kernel
theorem dX8_text_17 : decode cX8_text 17 = .ok (.aload_n 0, 1) := by decide +kernel
theorem dX8_text_18 : decode cX8_text 18 = .ok (.bipush 58, 2) := by decide +kernel
theorem dX8_text_20 : decode cX8_text 20 = .ok (.invokevirtual 176, 3) := by decide +kernel
theorem dX8_text_23 : decode cX8_text 23 = .ok (.aload_n 0, 1) := by decide +kernel
theorem dX8_text_24 : decode cX8_text 24 = .ok (.invokevirtual 173, 3) := by decide +kernel
theorem dX8_text_27 : decode cX8_text 27 = .ok (.aload_n 0, 1) := by decide +kernel
theorem dX8_text_28 : decode cX8_text 28 = .ok (.sipush 20011, 3) := by decide +kernel
theorem dX8_text_31 : decode cX8_text 31 = .ok (.invokevirtual 180, 3) := by decide +kernel
theorem dX8_text_34 : decode cX8_text 34 = .ok (.return_, 1) := by decide +kernel
theorem dX8_either_0 : decode cX8_either 0 = .ok (.aload_n 0, 1) := by decide +kernel
theorem dX8_either_1 : decode cX8_either 1 = .ok (.invokevirtual 183, 3) := by decide +kernel
theorem dX8_either_4 : decode cX8_either 4 = .ok (.aload_n 0, 1) := by decide +kernel
theorem dX8_either_5 : decode cX8_either 5 = .ok (.bipush 38, 2) := by decide +kernel
theorem dX8_either_7 : decode cX8_either 7 = .ok (.invokevirtual 170, 3) := by decide +kernel
theorem dX8_either_10 : decode cX8_either 10 = .ok (.ifCond .eq 9, 3) := by decide +kernel
theorem dX8_either_13 : decode cX8_either 13 = .ok (.sipush 20000, 3) := by decide +kernel
theorem dX8_either_16 : decode cX8_either 16 = .ok (.goto 19, 3) := by decide +kernel
theorem dX8_either_19 : decode cX8_either 19 = .ok (.aload_n 0, 1) := by decide +kernel
theorem dX8_either_20 : decode cX8_either 20 = .ok (.bipush 124, 2) := by decide +kernel
theorem dX8_either_22 : decode cX8_either 22 = .ok (.invokevirtual 170, 3) := by decide +kernel
theorem dX8_either_25 : decode cX8_either 25 = .ok (.ifCond .eq 9, 3) := by decide +kernel
theorem dX8_either_28 : decode cX8_either 28 = .ok (.sipush 20001, 3) := by decide +kernel
theorem dX8_either_31 : decode cX8_either 31 = .ok (.goto 4, 3) := by decide +kernel
theorem dX8_either_34 : decode cX8_either 34 = .ok (.iconst 0, 1) := by decide +kernel
theorem dX8_either_35 : decode cX8_either 35 = .ok (.istore_n 1, 1) := by decide +kernel
theorem dX8_either_36 : decode cX8_either 36 = .ok (.iload_n 1, 1) := by decide +kernel
theorem dX8_either_37 : decode cX8_either 37 = .ok (.ifCond .le 47, 3) := by decide +kernel
theorem dX8_either_40 : decode cX8_either 40 = .ok (.aload_n 0, 1) := by decide +kernel
theorem dX8_either_41 : decode cX8_either 41 = .ok (.invokevirtual 183, 3) := by decide +kernel
theorem dX8_either_44 : decode cX8_either 44 = .ok (.aload_n 0, 1) := by decide +kernel
theorem dX8_either_45 : decode cX8_either 45 = .ok (.iload_n 1, 1) := by decide +kernel
theorem dX8_either_46 : decode cX8_either 46 = .ok (.invokevirtual 180, 3) := by decide +kernel
theorem dX8_either_49 : decode cX8_either 49 = .ok (.aload_n 0, 1) := by decide +kernel
theorem dX8_either_50 : decode cX8_either 50 = .ok (.bipush 38, 2) := by decide +kernel
theorem dX8_either_52 : decode cX8_either 52 = .ok (.invokevirtual 170, 3) := by decide +kernel
theorem dX8_either_55 : decode cX8_either 55 = .ok (.ifCond .eq 9, 3) := by decide +kernel
theorem dX8_either_58 : decode cX8_either 58 = .ok (.sipush 20000, 3) := by decide +kernel
theorem dX8_either_61 : decode cX8_either 61 = .ok (.goto 19, 3) := by decide +kernel
theorem dX8_either_64 : decode cX8_either 64 = .ok (.aload_n 0, 1) := by decide +kernel
theorem dX8_either_65 : decode cX8_either 65 = .ok (.bipush 124, 2) := by decide +kernel
theorem dX8_either_67 : decode cX8_either 67 = .ok (.invokevirtual 170, 3) := by decide +kernel
theorem dX8_either_70 : decode cX8_either 70 = .ok (.ifCond .eq 9, 3) := by decide +kernel
theorem dX8_either_73 : decode cX8_either 73 = .ok (.sipush 20001, 3) := by decide +kernel
theorem dX8_either_76 : decode cX8_either 76 = .ok (.goto 4, 3) := by decide +kernel
theorem dX8_either_79 : decode cX8_either 79 = .ok (.iconst 0, 1) := by decide +kernel
theorem dX8_either_80 : decode cX8_either 80 = .ok (.istore_n 1, 1) := by decide +kernel
theorem dX8_either_81 : decode cX8_either 81 = .ok (.goto (-45), 3) := by decide +kernel
theorem dX8_either_84 : decode cX8_either 84 = .ok (.return_, 1) := by decide +kernel
theorem dX8_compared_0 : decode cX8_compared 0 = .ok (.aload_n 0, 1) := by decide +kernel
theorem dX8_compared_1 : decode cX8_compared 1 = .ok (.invokevirtual 186, 3) := by decide +kernel
theorem dX8_compared_4 : decode cX8_compared 4 = .ok (.aload_n 0, 1) := by decide +kernel
theorem dX8_compared_5 : decode cX8_compared 5 = .ok (.bipush 60, 2) := by decide +kernel
theorem dX8_compared_7 : decode cX8_compared 7 = .ok (.invokevirtual 170, 3) := by decide +kernel
theorem dX8_compared_10 : decode cX8_compared 10 = .ok (.ifCond .eq 9, 3) := by decide +kernel
theorem dX8_compared_13 : decode cX8_compared 13 = .ok (.sipush 20002, 3) := by decide +kernel
theorem dX8_compared_16 : decode cX8_compared 16 = .ok (.goto 34, 3) := by decide +kernel
theorem dX8_compared_19 : decode cX8_compared 19 = .ok (.aload_n 0, 1) := by decide +kernel
theorem dX8_compared_20 : decode cX8_compared 20 = .ok (.bipush 61, 2) := by decide +kernel
theorem dX8_compared_22 : decode cX8_compared 22 = .ok (.invokevirtual 170, 3) := by decide +kernel
theorem dX8_compared_25 : decode cX8_compared 25 = .ok (.ifCond .eq 9, 3) := by decide +kernel
theorem dX8_compared_28 : decode cX8_compared 28 = .ok (.sipush 20003, 3) := by decide +kernel
theorem dX8_compared_31 : decode cX8_compared 31 = .ok (.goto 19, 3) := by decide +kernel
theorem dX8_compared_34 : decode cX8_compared 34 = .ok (.aload_n 0, 1) := by decide +kernel
theorem dX8_compared_35 : decode cX8_compared 35 = .ok (.bipush 62, 2) := by decide +kernel
theorem dX8_compared_37 : decode cX8_compared 37 = .ok (.invokevirtual 170, 3) := by decide +kernel
theorem dX8_compared_40 : decode cX8_compared 40 = .ok (.ifCond .eq 9, 3) := by decide +kernel
theorem dX8_compared_43 : decode cX8_compared 43 = .ok (.sipush 20004, 3) := by decide +kernel
theorem dX8_compared_46 : decode cX8_compared 46 = .ok (.goto 4, 3) := by decide +kernel
theorem dX8_compared_49 : decode cX8_compared 49 = .ok (.iconst 0, 1) := by decide +kernel
theorem dX8_compared_50 : decode cX8_compared 50 = .ok (.istore_n 1, 1) := by decide +kernel
theorem dX8_compared_51 : decode cX8_compared 51 = .ok (.iload_n 1, 1) := by decide +kernel
theorem dX8_compared_52 : decode cX8_compared 52 = .ok (.ifCond .le 12, 3) := by decide +kernel
theorem dX8_compared_55 : decode cX8_compared 55 = .ok (.aload_n 0, 1) := by decide +kernel
theorem dX8_compared_56 : decode cX8_compared 56 = .ok (.invokevirtual 186, 3) := by decide +kernel
theorem dX8_compared_59 : decode cX8_compared 59 = .ok (.aload_n 0, 1) := by decide +kernel
theorem dX8_compared_60 : decode cX8_compared 60 = .ok (.iload_n 1, 1) := by decide +kernel
theorem dX8_compared_61 : decode cX8_compared 61 = .ok (.invokevirtual 180, 3) := by decide +kernel
theorem dX8_compared_64 : decode cX8_compared 64 = .ok (.return_, 1) := by decide +kernel
theorem dX8_sum_0 : decode cX8_sum 0 = .ok (.aload_n 0, 1) := by decide +kernel
theorem dX8_sum_1 : decode cX8_sum 1 = .ok (.invokevirtual 189, 3) := by decide +kernel
theorem dX8_sum_4 : decode cX8_sum 4 = .ok (.aload_n 0, 1) := by decide +kernel
theorem dX8_sum_5 : decode cX8_sum 5 = .ok (.bipush 43, 2) := by decide +kernel
theorem dX8_sum_7 : decode cX8_sum 7 = .ok (.invokevirtual 170, 3) := by decide +kernel
theorem dX8_sum_10 : decode cX8_sum 10 = .ok (.ifCond .eq 9, 3) := by decide +kernel
theorem dX8_sum_13 : decode cX8_sum 13 = .ok (.sipush 20005, 3) := by decide +kernel
theorem dX8_sum_16 : decode cX8_sum 16 = .ok (.goto 19, 3) := by decide +kernel
theorem dX8_sum_19 : decode cX8_sum 19 = .ok (.aload_n 0, 1) := by decide +kernel
theorem dX8_sum_20 : decode cX8_sum 20 = .ok (.bipush 45, 2) := by decide +kernel
theorem dX8_sum_22 : decode cX8_sum 22 = .ok (.invokevirtual 170, 3) := by decide +kernel
theorem dX8_sum_25 : decode cX8_sum 25 = .ok (.ifCond .eq 9, 3) := by decide +kernel
theorem dX8_sum_28 : decode cX8_sum 28 = .ok (.sipush 20006, 3) := by decide +kernel
theorem dX8_sum_31 : decode cX8_sum 31 = .ok (.goto 4, 3) := by decide +kernel
theorem dX8_sum_34 : decode cX8_sum 34 = .ok (.iconst 0, 1) := by decide +kernel
theorem dX8_sum_35 : decode cX8_sum 35 = .ok (.istore_n 1, 1) := by decide +kernel
theorem dX8_sum_36 : decode cX8_sum 36 = .ok (.iload_n 1, 1) := by decide +kernel
theorem dX8_sum_37 : decode cX8_sum 37 = .ok (.ifCond .le 47, 3) := by decide +kernel
theorem dX8_sum_40 : decode cX8_sum 40 = .ok (.aload_n 0, 1) := by decide +kernel
theorem dX8_sum_41 : decode cX8_sum 41 = .ok (.invokevirtual 189, 3) := by decide +kernel
theorem dX8_sum_44 : decode cX8_sum 44 = .ok (.aload_n 0, 1) := by decide +kernel
theorem dX8_sum_45 : decode cX8_sum 45 = .ok (.iload_n 1, 1) := by decide +kernel
theorem dX8_sum_46 : decode cX8_sum 46 = .ok (.invokevirtual 180, 3) := by decide +kernel
theorem dX8_sum_49 : decode cX8_sum 49 = .ok (.aload_n 0, 1) := by decide +kernel
theorem dX8_sum_50 : decode cX8_sum 50 = .ok (.bipush 43, 2) := by decide +kernel
theorem dX8_sum_52 : decode cX8_sum 52 = .ok (.invokevirtual 170, 3) := by decide +kernel
theorem dX8_sum_55 : decode cX8_sum 55 = .ok (.ifCond .eq 9, 3) := by decide +kernel
theorem dX8_sum_58 : decode cX8_sum 58 = .ok (.sipush 20005, 3) := by decide +kernel
theorem dX8_sum_61 : decode cX8_sum 61 = .ok (.goto 19, 3) := by decide +kernel
theorem dX8_sum_64 : decode cX8_sum 64 = .ok (.aload_n 0, 1) := by decide +kernel
theorem dX8_sum_65 : decode cX8_sum 65 = .ok (.bipush 45, 2) := by decide +kernel
theorem dX8_sum_67 : decode cX8_sum 67 = .ok (.invokevirtual 170, 3) := by decide +kernel
theorem dX8_sum_70 : decode cX8_sum 70 = .ok (.ifCond .eq 9, 3) := by decide +kernel
theorem dX8_sum_73 : decode cX8_sum 73 = .ok (.sipush 20006, 3) := by decide +kernel
theorem dX8_sum_76 : decode cX8_sum 76 = .ok (.goto 4, 3) := by decide +kernel
theorem dX8_sum_79 : decode cX8_sum 79 = .ok (.iconst 0, 1) := by decide +kernel
theorem dX8_sum_80 : decode cX8_sum 80 = .ok (.istore_n 1, 1) := by decide +kernel
theorem dX8_sum_81 : decode cX8_sum 81 = .ok (.goto (-45), 3) := by decide +kernel
theorem dX8_sum_84 : decode cX8_sum 84 = .ok (.return_, 1) := by decide +kernel
theorem dX8_product_0 : decode cX8_product 0 = .ok (.aload_n 0, 1) := by decide +kernel
theorem dX8_product_1 : decode cX8_product 1 = .ok (.invokevirtual 192, 3) := by decide +kernel
theorem dX8_product_4 : decode cX8_product 4 = .ok (.aload_n 0, 1) := by decide +kernel
theorem dX8_product_5 : decode cX8_product 5 = .ok (.bipush 42, 2) := by decide +kernel
theorem dX8_product_7 : decode cX8_product 7 = .ok (.invokevirtual 170, 3) := by decide +kernel
theorem dX8_product_10 : decode cX8_product 10 = .ok (.ifCond .eq 9, 3) := by decide +kernel
theorem dX8_product_13 : decode cX8_product 13 = .ok (.sipush 20007, 3) := by decide +kernel
theorem dX8_product_16 : decode cX8_product 16 = .ok (.goto 34, 3) := by decide +kernel
theorem dX8_product_19 : decode cX8_product 19 = .ok (.aload_n 0, 1) := by decide +kernel
theorem dX8_product_20 : decode cX8_product 20 = .ok (.bipush 47, 2) := by decide +kernel
theorem dX8_product_22 : decode cX8_product 22 = .ok (.invokevirtual 170, 3) := by decide +kernel
theorem dX8_product_25 : decode cX8_product 25 = .ok (.ifCond .eq 9, 3) := by decide +kernel
theorem dX8_product_28 : decode cX8_product 28 = .ok (.sipush 20008, 3) := by decide +kernel
theorem dX8_product_31 : decode cX8_product 31 = .ok (.goto 19, 3) := by decide +kernel
theorem dX8_product_34 : decode cX8_product 34 = .ok (.aload_n 0, 1) := by decide +kernel
theorem dX8_product_35 : decode cX8_product 35 = .ok (.bipush 37, 2) := by decide +kernel
theorem dX8_product_37 : decode cX8_product 37 = .ok (.invokevirtual 170, 3) := by decide +kernel
theorem dX8_product_40 : decode cX8_product 40 = .ok (.ifCond .eq 9, 3) := by decide +kernel
theorem dX8_product_43 : decode cX8_product 43 = .ok (.sipush 20009, 3) := by decide +kernel
theorem dX8_product_46 : decode cX8_product 46 = .ok (.goto 4, 3) := by decide +kernel
theorem dX8_product_49 : decode cX8_product 49 = .ok (.iconst 0, 1) := by decide +kernel
theorem dX8_product_50 : decode cX8_product 50 = .ok (.istore_n 1, 1) := by decide +kernel
theorem dX8_product_51 : decode cX8_product 51 = .ok (.iload_n 1, 1) := by decide +kernel
theorem dX8_product_52 : decode cX8_product 52 = .ok (.ifCond .le 62, 3) := by decide +kernel
theorem dX8_product_55 : decode cX8_product 55 = .ok (.aload_n 0, 1) := by decide +kernel
theorem dX8_product_56 : decode cX8_product 56 = .ok (.invokevirtual 192, 3) := by decide +kernel
theorem dX8_product_59 : decode cX8_product 59 = .ok (.aload_n 0, 1) := by decide +kernel
theorem dX8_product_60 : decode cX8_product 60 = .ok (.iload_n 1, 1) := by decide +kernel
theorem dX8_product_61 : decode cX8_product 61 = .ok (.invokevirtual 180, 3) := by decide +kernel
theorem dX8_product_64 : decode cX8_product 64 = .ok (.aload_n 0, 1) := by decide +kernel
theorem dX8_product_65 : decode cX8_product 65 = .ok (.bipush 42, 2) := by decide +kernel
theorem dX8_product_67 : decode cX8_product 67 = .ok (.invokevirtual 170, 3) := by decide +kernel
theorem dX8_product_70 : decode cX8_product 70 = .ok (.ifCond .eq 9, 3) := by decide +kernel
theorem dX8_product_73 : decode cX8_product 73 = .ok (.sipush 20007, 3) := by decide +kernel
theorem dX8_product_76 : decode cX8_product 76 = .ok (.goto 34, 3) := by decide +kernel
theorem dX8_product_79 : decode cX8_product 79 = .ok (.aload_n 0, 1) := by decide +kernel
theorem dX8_product_80 : decode cX8_product 80 = .ok (.bipush 47, 2) := by decide +kernel
theorem dX8_product_82 : decode cX8_product 82 = .ok (.invokevirtual 170, 3) := by decide +kernel
theorem dX8_product_85 : decode cX8_product 85 = .ok (.ifCond .eq 9, 3) := by decide +kernel
theorem dX8_product_88 : decode cX8_product 88 = .ok (.sipush 20008, 3) := by decide +kernel
theorem dX8_product_91 : decode cX8_product 91 = .ok (.goto 19, 3) := by decide +kernel
theorem dX8_product_94 : decode cX8_product 94 = .ok (.aload_n 0, 1) := by decide +kernel
theorem dX8_product_95 : decode cX8_product 95 = .ok (.bipush 37, 2) := by decide +kernel
theorem dX8_product_97 : decode cX8_product 97 = .ok (.invokevirtual 170, 3) := by decide +kernel
theorem dX8_product_100 : decode cX8_product 100 = .ok (.ifCond .eq 9, 3) := by decide +kernel
theorem dX8_product_103 : decode cX8_product 103 = .ok (.sipush 20009, 3) := by decide +kernel
theorem dX8_product_106 : decode cX8_product 106 = .ok (.goto 4, 3) := by decide +kernel
theorem dX8_product_109 : decode cX8_product 109 = .ok (.iconst 0, 1) := by decide +kernel
theorem dX8_product_110 : decode cX8_product 110 = .ok (.istore_n 1, 1) := by decide +kernel
theorem dX8_product_111 : decode cX8_product 111 = .ok (.goto (-60), 3) := by decide +kernel
theorem dX8_product_114 : decode cX8_product 114 = .ok (.return_, 1) := by decide +kernel
theorem dX8_nameOf_0 : decode cX8_nameOf 0 = .ok (.iconst (-1), 1) := by decide +kernel
theorem dX8_nameOf_1 : decode cX8_nameOf 1 = .ok (.istore_n 2, 1) := by decide +kernel
theorem dX8_nameOf_2 : decode cX8_nameOf 2 = .ok (.iconst 0, 1) := by decide +kernel
theorem dX8_nameOf_3 : decode cX8_nameOf 3 = .ok (.istore_n 3, 1) := by decide +kernel
theorem dX8_nameOf_4 : decode cX8_nameOf 4 = .ok (.iload_n 3, 1) := by decide +kernel
theorem dX8_nameOf_5 : decode cX8_nameOf 5 = .ok (.aload_n 0, 1) := by decide +kernel
theorem dX8_nameOf_6 : decode cX8_nameOf 6 = .ok (.getfield 27, 3) := by decide +kernel
theorem dX8_nameOf_9 : decode cX8_nameOf 9 = .ok (.aload_n 0, 1) := by decide +kernel
theorem dX8_nameOf_10 : decode cX8_nameOf 10 = .ok (.getfield 195, 3) := by decide +kernel
theorem dX8_nameOf_13 : decode cX8_nameOf 13 = .ok (.aaload, 1) := by decide +kernel
theorem dX8_nameOf_14 : decode cX8_nameOf 14 = .ok (.invokevirtual 198, 3) := by decide +kernel
theorem dX8_nameOf_17 : decode cX8_nameOf 17 = .ok (.if_icmp .ge 32, 3) := by decide +kernel
theorem dX8_nameOf_20 : decode cX8_nameOf 20 = .ok (.aload_n 0, 1) := by decide +kernel
theorem dX8_nameOf_21 : decode cX8_nameOf 21 = .ok (.getfield 27, 3) := by decide +kernel
theorem dX8_nameOf_24 : decode cX8_nameOf 24 = .ok (.aload_n 0, 1) := by decide +kernel
theorem dX8_nameOf_25 : decode cX8_nameOf 25 = .ok (.getfield 195, 3) := by decide +kernel
theorem dX8_nameOf_28 : decode cX8_nameOf 28 = .ok (.aaload, 1) := by decide +kernel
theorem dX8_nameOf_29 : decode cX8_nameOf 29 = .ok (.iload_n 3, 1) := by decide +kernel
theorem dX8_nameOf_30 : decode cX8_nameOf 30 = .ok (.invokevirtual 201, 3) := by decide +kernel
theorem dX8_nameOf_33 : decode cX8_nameOf 33 = .ok (.iload_n 1, 1) := by decide +kernel
theorem dX8_nameOf_34 : decode cX8_nameOf 34 = .ok (.if_icmp .ne 7, 3) := by decide +kernel
theorem dX8_nameOf_37 : decode cX8_nameOf 37 = .ok (.iload_n 3, 1) := by decide +kernel
theorem dX8_nameOf_38 : decode cX8_nameOf 38 = .ok (.goto 4, 3) := by decide +kernel
theorem dX8_nameOf_41 : decode cX8_nameOf 41 = .ok (.iload_n 2, 1) := by decide +kernel
theorem dX8_nameOf_42 : decode cX8_nameOf 42 = .ok (.istore_n 2, 1) := by decide +kernel
theorem dX8_nameOf_43 : decode cX8_nameOf 43 = .ok (.iinc 3 1, 3) := by decide +kernel
theorem dX8_nameOf_46 : decode cX8_nameOf 46 = .ok (.goto (-42), 3) := by decide +kernel
theorem dX8_nameOf_49 : decode cX8_nameOf 49 = .ok (.iload_n 2, 1) := by decide +kernel
theorem dX8_nameOf_50 : decode cX8_nameOf 50 = .ok (.ireturn, 1) := by decide +kernel
theorem dX8_one_0 : decode cX8_one 0 = .ok (.aload_n 0, 1) := by decide +kernel
theorem dX8_one_1 : decode cX8_one 1 = .ok (.invokevirtual 160, 3) := by decide +kernel
theorem dX8_one_4 : decode cX8_one 4 = .ok (.istore_n 1, 1) := by decide +kernel
theorem dX8_one_5 : decode cX8_one 5 = .ok (.iload_n 1, 1) := by decide +kernel
theorem dX8_one_6 : decode cX8_one 6 = .ok (.bipush 45, 2) := by decide +kernel
theorem dX8_one_8 : decode cX8_one 8 = .ok (.if_icmp .eq 9, 3) := by decide +kernel
theorem dX8_one_11 : decode cX8_one 11 = .ok (.iload_n 1, 1) := by decide +kernel
theorem dX8_one_12 : decode cX8_one 12 = .ok (.bipush 40, 2) := by decide +kernel
theorem dX8_one_14 : decode cX8_one 14 = .ok (.if_icmp .ne 90, 3) := by decide +kernel
theorem dX8_one_17 : decode cX8_one 17 = .ok (.aload_n 0, 1) := by decide +kernel
theorem dX8_one_18 : decode cX8_one 18 = .ok (.aload_n 0, 1) := by decide +kernel
theorem dX8_one_19 : decode cX8_one 19 = .ok (.getfield 205, 3) := by decide +kernel
theorem dX8_one_22 : decode cX8_one 22 = .ok (.iconst 5, 1) := by decide +kernel
theorem dX8_one_23 : decode cX8_one 23 = .ok (.if_icmp .ne 7, 3) := by decide +kernel
theorem dX8_one_26 : decode cX8_one 26 = .ok (.iconst 1, 1) := by decide +kernel
theorem dX8_one_27 : decode cX8_one 27 = .ok (.goto 4, 3) := by decide +kernel
theorem dX8_one_30 : decode cX8_one 30 = .ok (.iconst 0, 1) := by decide +kernel
theorem dX8_one_31 : decode cX8_one 31 = .ok (.putfield 152, 3) := by decide +kernel
theorem dX8_one_34 : decode cX8_one 34 = .ok (.aload_n 0, 1) := by decide +kernel
theorem dX8_one_35 : decode cX8_one 35 = .ok (.getfield 152, 3) := by decide +kernel
theorem dX8_one_38 : decode cX8_one 38 = .ok (.ifCond .ne 197, 3) := by decide +kernel
theorem dX8_one_41 : decode cX8_one 41 = .ok (.aload_n 0, 1) := by decide +kernel
theorem dX8_one_42 : decode cX8_one 42 = .ok (.dup, 1) := by decide +kernel
theorem dX8_one_43 : decode cX8_one 43 = .ok (.getfield 205, 3) := by decide +kernel
theorem dX8_one_46 : decode cX8_one 46 = .ok (.iconst 1, 1) := by decide +kernel
theorem dX8_one_47 : decode cX8_one 47 = .ok (.iadd, 1) := by decide +kernel
theorem dX8_one_48 : decode cX8_one 48 = .ok (.putfield 205, 3) := by decide +kernel
theorem dX8_one_51 : decode cX8_one 51 = .ok (.aload_n 0, 1) := by decide +kernel
theorem dX8_one_52 : decode cX8_one 52 = .ok (.dup, 1) := by decide +kernel
theorem dX8_one_53 : decode cX8_one 53 = .ok (.getfield 156, 3) := by decide +kernel
theorem dX8_one_56 : decode cX8_one 56 = .ok (.iconst 1, 1) := by decide +kernel
theorem dX8_one_57 : decode cX8_one 57 = .ok (.iadd, 1) := by decide +kernel
theorem dX8_one_58 : decode cX8_one 58 = .ok (.putfield 156, 3) := by decide +kernel
theorem dX8_one_61 : decode cX8_one 61 = .ok (.iload_n 1, 1) := by decide +kernel
theorem dX8_one_62 : decode cX8_one 62 = .ok (.bipush 45, 2) := by decide +kernel
theorem dX8_one_64 : decode cX8_one 64 = .ok (.if_icmp .ne 17, 3) := by decide +kernel
theorem dX8_one_67 : decode cX8_one 67 = .ok (.aload_n 0, 1) := by decide +kernel
theorem dX8_one_68 : decode cX8_one 68 = .ok (.invokevirtual 192, 3) := by decide +kernel
theorem dX8_one_71 : decode cX8_one 71 = .ok (.aload_n 0, 1) := by decide +kernel
theorem dX8_one_72 : decode cX8_one 72 = .ok (.sipush 20010, 3) := by decide +kernel
theorem dX8_one_75 : decode cX8_one 75 = .ok (.invokevirtual 180, 3) := by decide +kernel
theorem dX8_one_78 : decode cX8_one 78 = .ok (.goto 13, 3) := by decide +kernel
theorem dX8_one_81 : decode cX8_one 81 = .ok (.aload_n 0, 1) := by decide +kernel
theorem dX8_one_82 : decode cX8_one 82 = .ok (.invokevirtual 208, 3) := by decide +kernel
theorem dX8_one_85 : decode cX8_one 85 = .ok (.aload_n 0, 1) := by decide +kernel
theorem dX8_one_86 : decode cX8_one 86 = .ok (.bipush 41, 2) := by decide +kernel
theorem dX8_one_88 : decode cX8_one 88 = .ok (.invokevirtual 176, 3) := by decide +kernel
theorem dX8_one_91 : decode cX8_one 91 = .ok (.aload_n 0, 1) := by decide +kernel
theorem dX8_one_92 : decode cX8_one 92 = .ok (.dup, 1) := by decide +kernel
theorem dX8_one_93 : decode cX8_one 93 = .ok (.getfield 205, 3) := by decide +kernel
theorem dX8_one_96 : decode cX8_one 96 = .ok (.iconst 1, 1) := by decide +kernel
theorem dX8_one_97 : decode cX8_one 97 = .ok (.isub, 1) := by decide +kernel
theorem dX8_one_98 : decode cX8_one 98 = .ok (.putfield 205, 3) := by decide +kernel
theorem dX8_one_101 : decode cX8_one 101 = .ok (.goto 134, 3) := by decide +kernel
theorem dX8_one_104 : decode cX8_one 104 = .ok (.iload_n 1, 1) := by decide +kernel
theorem dX8_one_105 : decode cX8_one 105 = .ok (.bipush 48, 2) := by decide +kernel
theorem dX8_one_107 : decode cX8_one 107 = .ok (.bipush 57, 2) := by decide +kernel
theorem dX8_one_109 : decode cX8_one 109 = .ok (.invokestatic 68, 3) := by decide +kernel
theorem dX8_one_112 : decode cX8_one 112 = .ok (.ifCond .eq 63, 3) := by decide +kernel
theorem dX8_one_115 : decode cX8_one 115 = .ok (.iconst 0, 1) := by decide +kernel
theorem dX8_one_116 : decode cX8_one 116 = .ok (.istore_n 2, 1) := by decide +kernel
theorem dX8_one_117 : decode cX8_one 117 = .ok (.iconst 0, 1) := by decide +kernel
theorem dX8_one_118 : decode cX8_one 118 = .ok (.istore_n 3, 1) := by decide +kernel
theorem dX8_one_119 : decode cX8_one 119 = .ok (.iload_n 3, 1) := by decide +kernel
theorem dX8_one_120 : decode cX8_one 120 = .ok (.iconst 4, 1) := by decide +kernel
theorem dX8_one_121 : decode cX8_one 121 = .ok (.if_icmp .ge 46, 3) := by decide +kernel
theorem dX8_one_124 : decode cX8_one 124 = .ok (.aload_n 0, 1) := by decide +kernel
theorem dX8_one_125 : decode cX8_one 125 = .ok (.invokevirtual 160, 3) := by decide +kernel
theorem dX8_one_128 : decode cX8_one 128 = .ok (.bipush 48, 2) := by decide +kernel
theorem dX8_one_130 : decode cX8_one 130 = .ok (.bipush 57, 2) := by decide +kernel
theorem dX8_one_132 : decode cX8_one 132 = .ok (.invokestatic 68, 3) := by decide +kernel
theorem dX8_one_135 : decode cX8_one 135 = .ok (.ifCond .eq 32, 3) := by decide +kernel
theorem dX8_one_138 : decode cX8_one 138 = .ok (.bipush 10, 2) := by decide +kernel
theorem dX8_one_140 : decode cX8_one 140 = .ok (.iload_n 2, 1) := by decide +kernel
theorem dX8_one_141 : decode cX8_one 141 = .ok (.imul, 1) := by decide +kernel
theorem dX8_one_142 : decode cX8_one 142 = .ok (.aload_n 0, 1) := by decide +kernel
theorem dX8_one_143 : decode cX8_one 143 = .ok (.invokevirtual 160, 3) := by decide +kernel
theorem dX8_one_146 : decode cX8_one 146 = .ok (.iadd, 1) := by decide +kernel
theorem dX8_one_147 : decode cX8_one 147 = .ok (.bipush 48, 2) := by decide +kernel
theorem dX8_one_149 : decode cX8_one 149 = .ok (.isub, 1) := by decide +kernel
theorem dX8_one_150 : decode cX8_one 150 = .ok (.istore_n 2, 1) := by decide +kernel
theorem dX8_one_151 : decode cX8_one 151 = .ok (.aload_n 0, 1) := by decide +kernel
theorem dX8_one_152 : decode cX8_one 152 = .ok (.dup, 1) := by decide +kernel
theorem dX8_one_153 : decode cX8_one 153 = .ok (.getfield 156, 3) := by decide +kernel
theorem dX8_one_156 : decode cX8_one 156 = .ok (.iconst 1, 1) := by decide +kernel
theorem dX8_one_157 : decode cX8_one 157 = .ok (.iadd, 1) := by decide +kernel
theorem dX8_one_158 : decode cX8_one 158 = .ok (.putfield 156, 3) := by decide +kernel
theorem dX8_one_161 : decode cX8_one 161 = .ok (.iinc 3 1, 3) := by decide +kernel
theorem dX8_one_164 : decode cX8_one 164 = .ok (.goto (-45), 3) := by decide +kernel
theorem dX8_one_167 : decode cX8_one 167 = .ok (.aload_n 0, 1) := by decide +kernel
theorem dX8_one_168 : decode cX8_one 168 = .ok (.iload_n 2, 1) := by decide +kernel
theorem dX8_one_169 : decode cX8_one 169 = .ok (.invokevirtual 180, 3) := by decide +kernel
theorem dX8_one_172 : decode cX8_one 172 = .ok (.goto 63, 3) := by decide +kernel
theorem dX8_one_175 : decode cX8_one 175 = .ok (.iload_n 1, 1) := by decide +kernel
theorem dX8_one_176 : decode cX8_one 176 = .ok (.ifCond .ge 7, 3) := by decide +kernel
theorem dX8_one_179 : decode cX8_one 179 = .ok (.iconst (-1), 1) := by decide +kernel
theorem dX8_one_180 : decode cX8_one 180 = .ok (.goto 8, 3) := by decide +kernel
theorem dX8_one_183 : decode cX8_one 183 = .ok (.aload_n 0, 1) := by decide +kernel
theorem dX8_one_184 : decode cX8_one 184 = .ok (.iload_n 1, 1) := by decide +kernel
theorem dX8_one_185 : decode cX8_one 185 = .ok (.invokevirtual 211, 3) := by decide +kernel
theorem dX8_one_188 : decode cX8_one 188 = .ok (.istore_n 2, 1) := by decide +kernel
theorem dX8_one_189 : decode cX8_one 189 = .ok (.aload_n 0, 1) := by decide +kernel
theorem dX8_one_190 : decode cX8_one 190 = .ok (.aload_n 0, 1) := by decide +kernel
theorem dX8_one_191 : decode cX8_one 191 = .ok (.getfield 152, 3) := by decide +kernel
theorem dX8_one_194 : decode cX8_one 194 = .ok (.ifCond .ne 7, 3) := by decide +kernel
theorem dX8_one_197 : decode cX8_one 197 = .ok (.iload_n 2, 1) := by decide +kernel
theorem dX8_one_198 : decode cX8_one 198 = .ok (.ifCond .ge 7, 3) := by decide +kernel
theorem dX8_one_201 : decode cX8_one 201 = .ok (.iconst 1, 1) := by decide +kernel
theorem dX8_one_202 : decode cX8_one 202 = .ok (.goto 4, 3) := by decide +kernel
theorem dX8_one_205 : decode cX8_one 205 = .ok (.iconst 0, 1) := by decide +kernel
theorem dX8_one_206 : decode cX8_one 206 = .ok (.putfield 152, 3) := by decide +kernel
theorem dX8_one_209 : decode cX8_one 209 = .ok (.aload_n 0, 1) := by decide +kernel
theorem dX8_one_210 : decode cX8_one 210 = .ok (.getfield 152, 3) := by decide +kernel
theorem dX8_one_213 : decode cX8_one 213 = .ok (.ifCond .ne 22, 3) := by decide +kernel
theorem dX8_one_216 : decode cX8_one 216 = .ok (.aload_n 0, 1) := by decide +kernel
theorem dX8_one_217 : decode cX8_one 217 = .ok (.sipush 10000, 3) := by decide +kernel
theorem dX8_one_220 : decode cX8_one 220 = .ok (.iload_n 2, 1) := by decide +kernel
theorem dX8_one_221 : decode cX8_one 221 = .ok (.iadd, 1) := by decide +kernel
theorem dX8_one_222 : decode cX8_one 222 = .ok (.invokevirtual 180, 3) := by decide +kernel
theorem dX8_one_225 : decode cX8_one 225 = .ok (.aload_n 0, 1) := by decide +kernel
theorem dX8_one_226 : decode cX8_one 226 = .ok (.dup, 1) := by decide +kernel
theorem dX8_one_227 : decode cX8_one 227 = .ok (.getfield 156, 3) := by decide +kernel
theorem dX8_one_230 : decode cX8_one 230 = .ok (.iconst 1, 1) := by decide +kernel
theorem dX8_one_231 : decode cX8_one 231 = .ok (.iadd, 1) := by decide +kernel
theorem dX8_one_232 : decode cX8_one 232 = .ok (.putfield 156, 3) := by decide +kernel
theorem dX8_one_235 : decode cX8_one 235 = .ok (.return_, 1) := by decide +kernel
theorem dX8_text__0 : decode cX8_text_ 0 = .ok (.iload_n 1, 1) := by decide +kernel
theorem dX8_text__1 : decode cX8_text_ 1 = .ok (.iconst 0, 1) := by decide +kernel
theorem dX8_text__2 : decode cX8_text_ 2 = .ok (.iconst 2, 1) := by decide +kernel
theorem dX8_text__3 : decode cX8_text_ 3 = .ok (.invokestatic 68, 3) := by decide +kernel
theorem dX8_text__6 : decode cX8_text_ 6 = .ok (.ifCond .ne 10, 3) := by decide +kernel
theorem dX8_text__9 : decode cX8_text_ 9 = .ok (.aload_n 0, 1) := by decide +kernel
theorem dX8_text__10 : decode cX8_text_ 10 = .ok (.ldc 76, 2) := by decide +kernel
theorem dX8_text__12 : decode cX8_text_ 12 = .ok (.invokevirtual 77, 3) := by decide +kernel
theorem dX8_text__15 : decode cX8_text_ 15 = .ok (.ireturn, 1) := by decide +kernel
theorem dX8_text__16 : decode cX8_text_ 16 = .ok (.aload_n 0, 1) := by decide +kernel
theorem dX8_text__17 : decode cX8_text_ 17 = .ok (.iload_n 1, 1) := by decide +kernel
theorem dX8_text__18 : decode cX8_text_ 18 = .ok (.putfield 195, 3) := by decide +kernel
theorem dX8_text__21 : decode cX8_text_ 21 = .ok (.aload_n 0, 1) := by decide +kernel
theorem dX8_text__22 : decode cX8_text_ 22 = .ok (.iconst 0, 1) := by decide +kernel
theorem dX8_text__23 : decode cX8_text_ 23 = .ok (.putfield 156, 3) := by decide +kernel
theorem dX8_text__26 : decode cX8_text_ 26 = .ok (.aload_n 0, 1) := by decide +kernel
theorem dX8_text__27 : decode cX8_text_ 27 = .ok (.iconst 0, 1) := by decide +kernel
theorem dX8_text__28 : decode cX8_text_ 28 = .ok (.putfield 205, 3) := by decide +kernel
theorem dX8_text__31 : decode cX8_text_ 31 = .ok (.aload_n 0, 1) := by decide +kernel
theorem dX8_text__32 : decode cX8_text_ 32 = .ok (.iconst 0, 1) := by decide +kernel
theorem dX8_text__33 : decode cX8_text_ 33 = .ok (.putfield 167, 3) := by decide +kernel
theorem dX8_text__36 : decode cX8_text_ 36 = .ok (.aload_n 0, 1) := by decide +kernel
theorem dX8_text__37 : decode cX8_text_ 37 = .ok (.iconst 0, 1) := by decide +kernel
theorem dX8_text__38 : decode cX8_text_ 38 = .ok (.putfield 152, 3) := by decide +kernel
theorem dX8_text__41 : decode cX8_text_ 41 = .ok (.aload_n 0, 1) := by decide +kernel
theorem dX8_text__42 : decode cX8_text_ 42 = .ok (.iconst 0, 1) := by decide +kernel
theorem dX8_text__43 : decode cX8_text_ 43 = .ok (.putfield 164, 3) := by decide +kernel
theorem dX8_text__46 : decode cX8_text_ 46 = .ok (.aload_n 0, 1) := by decide +kernel
theorem dX8_text__47 : decode cX8_text_ 47 = .ok (.invokevirtual 208, 3) := by decide +kernel
theorem dX8_text__50 : decode cX8_text_ 50 = .ok (.aload_n 0, 1) := by decide +kernel
theorem dX8_text__51 : decode cX8_text_ 51 = .ok (.aload_n 0, 1) := by decide +kernel
theorem dX8_text__52 : decode cX8_text_ 52 = .ok (.getfield 152, 3) := by decide +kernel
theorem dX8_text__55 : decode cX8_text_ 55 = .ok (.ifCond .ne 16, 3) := by decide +kernel
theorem dX8_text__58 : decode cX8_text_ 58 = .ok (.aload_n 0, 1) := by decide +kernel
theorem dX8_text__59 : decode cX8_text_ 59 = .ok (.getfield 156, 3) := by decide +kernel
theorem dX8_text__62 : decode cX8_text_ 62 = .ok (.aload_n 0, 1) := by decide +kernel
theorem dX8_text__63 : decode cX8_text_ 63 = .ok (.getfield 9, 3) := by decide +kernel
theorem dX8_text__66 : decode cX8_text_ 66 = .ok (.iconst 5, 1) := by decide +kernel
theorem dX8_text__67 : decode cX8_text_ 67 = .ok (.iaload, 1) := by decide +kernel
theorem dX8_text__68 : decode cX8_text_ 68 = .ok (.if_icmp .ge 7, 3) := by decide +kernel
theorem dX8_text__71 : decode cX8_text_ 71 = .ok (.iconst 1, 1) := by decide +kernel
theorem dX8_text__72 : decode cX8_text_ 72 = .ok (.goto 4, 3) := by decide +kernel
theorem dX8_text__75 : decode cX8_text_ 75 = .ok (.iconst 0, 1) := by decide +kernel
theorem dX8_text__76 : decode cX8_text_ 76 = .ok (.putfield 152, 3) := by decide +kernel
theorem dX8_text__79 : decode cX8_text_ 79 = .ok (.aload_n 0, 1) := by decide +kernel
theorem dX8_text__80 : decode cX8_text_ 80 = .ok (.getfield 9, 3) := by decide +kernel
theorem dX8_text__83 : decode cX8_text_ 83 = .ok (.iconst 5, 1) := by decide +kernel
theorem dX8_text__84 : decode cX8_text_ 84 = .ok (.iconst 0, 1) := by decide +kernel
theorem dX8_text__85 : decode cX8_text_ 85 = .ok (.iastore, 1) := by decide +kernel
theorem dX8_text__86 : decode cX8_text_ 86 = .ok (.aload_n 0, 1) := by decide +kernel
theorem dX8_text__87 : decode cX8_text_ 87 = .ok (.getfield 152, 3) := by decide +kernel
theorem dX8_text__90 : decode cX8_text_ 90 = .ok (.ifCond .eq 11, 3) := by decide +kernel
theorem dX8_text__93 : decode cX8_text_ 93 = .ok (.bipush (-10), 2) := by decide +kernel
theorem dX8_text__95 : decode cX8_text_ 95 = .ok (.aload_n 0, 1) := by decide +kernel
theorem dX8_text__96 : decode cX8_text_ 96 = .ok (.getfield 156, 3) := by decide +kernel
theorem dX8_text__99 : decode cX8_text_ 99 = .ok (.isub, 1) := by decide +kernel
theorem dX8_text__100 : decode cX8_text_ 100 = .ok (.ireturn, 1) := by decide +kernel
theorem dX8_text__101 : decode cX8_text_ 101 = .ok (.aload_n 0, 1) := by decide +kernel
theorem dX8_text__102 : decode cX8_text_ 102 = .ok (.getfield 9, 3) := by decide +kernel
theorem dX8_text__105 : decode cX8_text_ 105 = .ok (.sipush 1054, 3) := by decide +kernel
theorem dX8_text__108 : decode cX8_text_ 108 = .ok (.bipush 60, 2) := by decide +kernel
theorem dX8_text__110 : decode cX8_text_ 110 = .ok (.aload_n 0, 1) := by decide +kernel
theorem dX8_text__111 : decode cX8_text_ 111 = .ok (.getfield 195, 3) := by decide +kernel
theorem dX8_text__114 : decode cX8_text_ 114 = .ok (.imul, 1) := by decide +kernel
theorem dX8_text__115 : decode cX8_text_ 115 = .ok (.iadd, 1) := by decide +kernel
theorem dX8_text__116 : decode cX8_text_ 116 = .ok (.aload_n 0, 1) := by decide +kernel
theorem dX8_text__117 : decode cX8_text_ 117 = .ok (.getfield 164, 3) := by decide +kernel
theorem dX8_text__120 : decode cX8_text_ 120 = .ok (.iastore, 1) := by decide +kernel
theorem dX8_text__121 : decode cX8_text_ 121 = .ok (.iconst 0, 1) := by decide +kernel
theorem dX8_text__122 : decode cX8_text_ 122 = .ok (.istore_n 2, 1) := by decide +kernel
theorem dX8_text__123 : decode cX8_text_ 123 = .ok (.iload_n 2, 1) := by decide +kernel
theorem dX8_text__124 : decode cX8_text_ 124 = .ok (.aload_n 0, 1) := by decide +kernel
theorem dX8_text__125 : decode cX8_text_ 125 = .ok (.getfield 164, 3) := by decide +kernel
theorem dX8_text__128 : decode cX8_text_ 128 = .ok (.if_icmp .ge 35, 3) := by decide +kernel
theorem dX8_text__131 : decode cX8_text_ 131 = .ok (.aload_n 0, 1) := by decide +kernel
theorem dX8_text__132 : decode cX8_text_ 132 = .ok (.getfield 9, 3) := by decide +kernel
theorem dX8_text__135 : decode cX8_text_ 135 = .ok (.sipush 1054, 3) := by decide +kernel
theorem dX8_text__138 : decode cX8_text_ 138 = .ok (.bipush 60, 2) := by decide +kernel
theorem dX8_text__140 : decode cX8_text_ 140 = .ok (.aload_n 0, 1) := by decide +kernel
theorem dX8_text__141 : decode cX8_text_ 141 = .ok (.getfield 195, 3) := by decide +kernel
theorem dX8_text__144 : decode cX8_text_ 144 = .ok (.imul, 1) := by decide +kernel
theorem dX8_text__145 : decode cX8_text_ 145 = .ok (.iadd, 1) := by decide +kernel
theorem dX8_text__146 : decode cX8_text_ 146 = .ok (.iconst 1, 1) := by decide +kernel
theorem dX8_text__147 : decode cX8_text_ 147 = .ok (.iadd, 1) := by decide +kernel
theorem dX8_text__148 : decode cX8_text_ 148 = .ok (.iload_n 2, 1) := by decide +kernel
theorem dX8_text__149 : decode cX8_text_ 149 = .ok (.iadd, 1) := by decide +kernel
theorem dX8_text__150 : decode cX8_text_ 150 = .ok (.aload_n 0, 1) := by decide +kernel
theorem dX8_text__151 : decode cX8_text_ 151 = .ok (.getfield 31, 3) := by decide +kernel
theorem dX8_text__154 : decode cX8_text_ 154 = .ok (.iload_n 2, 1) := by decide +kernel
theorem dX8_text__155 : decode cX8_text_ 155 = .ok (.iaload, 1) := by decide +kernel
theorem dX8_text__156 : decode cX8_text_ 156 = .ok (.iastore, 1) := by decide +kernel
theorem dX8_text__157 : decode cX8_text_ 157 = .ok (.iinc 2 1, 3) := by decide +kernel
theorem dX8_text__160 : decode cX8_text_ 160 = .ok (.goto (-37), 3) := by decide +kernel
theorem dX8_text__163 : decode cX8_text_ 163 = .ok (.aload_n 0, 1) := by decide +kernel
theorem dX8_text__164 : decode cX8_text_ 164 = .ok (.getfield 167, 3) := by decide +kernel
theorem dX8_text__167 : decode cX8_text_ 167 = .ok (.ireturn, 1) := by decide +kernel
theorem dX8_done_0 : decode cX8_done 0 = .ok (.iload_n 0, 1) := by decide +kernel
theorem dX8_done_1 : decode cX8_done 1 = .ok (.tableswitch 136 20000 20008 #[51, 65, 79, 90, 101, 112, 116, 120, 124], 51) := by decide +kernel
theorem dX8_done_52 : decode cX8_done 52 = .ok (.iload_n 1, 1) := by decide +kernel
theorem dX8_done_53 : decode cX8_done 53 = .ok (.ifCond .eq 11, 3) := by decide +kernel
theorem dX8_done_56 : decode cX8_done 56 = .ok (.iload_n 2, 1) := by decide +kernel
theorem dX8_done_57 : decode cX8_done 57 = .ok (.ifCond .eq 7, 3) := by decide +kernel
theorem dX8_done_60 : decode cX8_done 60 = .ok (.iconst 1, 1) := by decide +kernel
theorem dX8_done_61 : decode cX8_done 61 = .ok (.goto 4, 3) := by decide +kernel
theorem dX8_done_64 : decode cX8_done 64 = .ok (.iconst 0, 1) := by decide +kernel
theorem dX8_done_65 : decode cX8_done 65 = .ok (.ireturn, 1) := by decide +kernel
theorem dX8_done_66 : decode cX8_done 66 = .ok (.iload_n 1, 1) := by decide +kernel
theorem dX8_done_67 : decode cX8_done 67 = .ok (.ifCond .ne 7, 3) := by decide +kernel
theorem dX8_done_70 : decode cX8_done 70 = .ok (.iload_n 2, 1) := by decide +kernel
theorem dX8_done_71 : decode cX8_done 71 = .ok (.ifCond .eq 7, 3) := by decide +kernel
theorem dX8_done_74 : decode cX8_done 74 = .ok (.iconst 1, 1) := by decide +kernel
theorem dX8_done_75 : decode cX8_done 75 = .ok (.goto 4, 3) := by decide +kernel
theorem dX8_done_78 : decode cX8_done 78 = .ok (.iconst 0, 1) := by decide +kernel
theorem dX8_done_79 : decode cX8_done 79 = .ok (.ireturn, 1) := by decide +kernel
theorem dX8_done_80 : decode cX8_done 80 = .ok (.iload_n 1, 1) := by decide +kernel
theorem dX8_done_81 : decode cX8_done 81 = .ok (.iload_n 2, 1) := by decide +kernel
theorem dX8_done_82 : decode cX8_done 82 = .ok (.if_icmp .ge 7, 3) := by decide +kernel
theorem dX8_done_85 : decode cX8_done 85 = .ok (.iconst 1, 1) := by decide +kernel
theorem dX8_done_86 : decode cX8_done 86 = .ok (.goto 4, 3) := by decide +kernel
theorem dX8_done_89 : decode cX8_done 89 = .ok (.iconst 0, 1) := by decide +kernel
theorem dX8_done_90 : decode cX8_done 90 = .ok (.ireturn, 1) := by decide +kernel
theorem dX8_done_91 : decode cX8_done 91 = .ok (.iload_n 1, 1) := by decide +kernel
theorem dX8_done_92 : decode cX8_done 92 = .ok (.iload_n 2, 1) := by decide +kernel
theorem dX8_done_93 : decode cX8_done 93 = .ok (.if_icmp .ne 7, 3) := by decide +kernel
theorem dX8_done_96 : decode cX8_done 96 = .ok (.iconst 1, 1) := by decide +kernel
theorem dX8_done_97 : decode cX8_done 97 = .ok (.goto 4, 3) := by decide +kernel
theorem dX8_done_100 : decode cX8_done 100 = .ok (.iconst 0, 1) := by decide +kernel
theorem dX8_done_101 : decode cX8_done 101 = .ok (.ireturn, 1) := by decide +kernel
theorem dX8_done_102 : decode cX8_done 102 = .ok (.iload_n 1, 1) := by decide +kernel
theorem dX8_done_103 : decode cX8_done 103 = .ok (.iload_n 2, 1) := by decide +kernel
theorem dX8_done_104 : decode cX8_done 104 = .ok (.if_icmp .le 7, 3) := by decide +kernel
theorem dX8_done_107 : decode cX8_done 107 = .ok (.iconst 1, 1) := by decide +kernel
theorem dX8_done_108 : decode cX8_done 108 = .ok (.goto 4, 3) := by decide +kernel
theorem dX8_done_111 : decode cX8_done 111 = .ok (.iconst 0, 1) := by decide +kernel
theorem dX8_done_112 : decode cX8_done 112 = .ok (.ireturn, 1) := by decide +kernel
theorem dX8_done_113 : decode cX8_done 113 = .ok (.iload_n 1, 1) := by decide +kernel
theorem dX8_done_114 : decode cX8_done 114 = .ok (.iload_n 2, 1) := by decide +kernel
theorem dX8_done_115 : decode cX8_done 115 = .ok (.iadd, 1) := by decide +kernel
theorem dX8_done_116 : decode cX8_done 116 = .ok (.ireturn, 1) := by decide +kernel
theorem dX8_done_117 : decode cX8_done 117 = .ok (.iload_n 1, 1) := by decide +kernel
theorem dX8_done_118 : decode cX8_done 118 = .ok (.iload_n 2, 1) := by decide +kernel
theorem dX8_done_119 : decode cX8_done 119 = .ok (.isub, 1) := by decide +kernel
theorem dX8_done_120 : decode cX8_done 120 = .ok (.ireturn, 1) := by decide +kernel
theorem dX8_done_121 : decode cX8_done 121 = .ok (.iload_n 1, 1) := by decide +kernel
theorem dX8_done_122 : decode cX8_done 122 = .ok (.iload_n 2, 1) := by decide +kernel
theorem dX8_done_123 : decode cX8_done 123 = .ok (.imul, 1) := by decide +kernel
theorem dX8_done_124 : decode cX8_done 124 = .ok (.ireturn, 1) := by decide +kernel
theorem dX8_done_125 : decode cX8_done 125 = .ok (.iload_n 2, 1) := by decide +kernel
theorem dX8_done_126 : decode cX8_done 126 = .ok (.ifCond .ne 7, 3) := by decide +kernel
theorem dX8_done_129 : decode cX8_done 129 = .ok (.iconst 0, 1) := by decide +kernel
theorem dX8_done_130 : decode cX8_done 130 = .ok (.goto 6, 3) := by decide +kernel
theorem dX8_done_133 : decode cX8_done 133 = .ok (.iload_n 1, 1) := by decide +kernel
theorem dX8_done_134 : decode cX8_done 134 = .ok (.iload_n 2, 1) := by decide +kernel
theorem dX8_done_135 : decode cX8_done 135 = .ok (.idiv, 1) := by decide +kernel
theorem dX8_done_136 : decode cX8_done 136 = .ok (.ireturn, 1) := by decide +kernel
theorem dX8_done_137 : decode cX8_done 137 = .ok (.iload_n 2, 1) := by decide +kernel
theorem dX8_done_138 : decode cX8_done 138 = .ok (.ifCond .ne 7, 3) := by decide +kernel
theorem dX8_done_141 : decode cX8_done 141 = .ok (.iconst 0, 1) := by decide +kernel
theorem dX8_done_142 : decode cX8_done 142 = .ok (.goto 6, 3) := by decide +kernel
theorem dX8_done_145 : decode cX8_done 145 = .ok (.iload_n 1, 1) := by decide +kernel
theorem dX8_done_146 : decode cX8_done 146 = .ok (.iload_n 2, 1) := by decide +kernel
theorem dX8_done_147 : decode cX8_done 147 = .ok (.irem, 1) := by decide +kernel
theorem dX8_done_148 : decode cX8_done 148 = .ok (.ireturn, 1) := by decide +kernel
theorem dX8_given_0 : decode cX8_given 0 = .ok (.sipush 1054, 3) := by decide +kernel
theorem dX8_given_3 : decode cX8_given 3 = .ok (.bipush 60, 2) := by decide +kernel
theorem dX8_given_5 : decode cX8_given 5 = .ok (.iload_n 1, 1) := by decide +kernel
theorem dX8_given_6 : decode cX8_given 6 = .ok (.imul, 1) := by decide +kernel
theorem dX8_given_7 : decode cX8_given 7 = .ok (.iadd, 1) := by decide +kernel
theorem dX8_given_8 : decode cX8_given 8 = .ok (.iconst 1, 1) := by decide +kernel
theorem dX8_given_9 : decode cX8_given 9 = .ok (.iadd, 1) := by decide +kernel
theorem dX8_given_10 : decode cX8_given 10 = .ok (.istore 5, 2) := by decide +kernel
theorem dX8_given_12 : decode cX8_given 12 = .ok (.aload_n 0, 1) := by decide +kernel
theorem dX8_given_13 : decode cX8_given 13 = .ok (.getfield 9, 3) := by decide +kernel
theorem dX8_given_16 : decode cX8_given 16 = .ok (.iload 5, 2) := by decide +kernel
theorem dX8_given_18 : decode cX8_given 18 = .ok (.iconst 1, 1) := by decide +kernel
theorem dX8_given_19 : decode cX8_given 19 = .ok (.isub, 1) := by decide +kernel
theorem dX8_given_20 : decode cX8_given 20 = .ok (.iaload, 1) := by decide +kernel
theorem dX8_given_21 : decode cX8_given 21 = .ok (.ifCond .ne 34, 3) := by decide +kernel
theorem dX8_given_24 : decode cX8_given 24 = .ok (.iload_n 1, 1) := by decide +kernel
theorem dX8_given_25 : decode cX8_given 25 = .ok (.ifCond .ne 10, 3) := by decide +kernel
theorem dX8_given_28 : decode cX8_given 28 = .ok (.bipush 10, 2) := by decide +kernel
theorem dX8_given_30 : decode cX8_given 30 = .ok (.iload_n 2, 1) := by decide +kernel
theorem dX8_given_31 : decode cX8_given 31 = .ok (.imul, 1) := by decide +kernel
theorem dX8_given_32 : decode cX8_given 32 = .ok (.goto 22, 3) := by decide +kernel
theorem dX8_given_35 : decode cX8_given 35 = .ok (.iload_n 1, 1) := by decide +kernel
theorem dX8_given_36 : decode cX8_given 36 = .ok (.iconst 2, 1) := by decide +kernel
theorem dX8_given_37 : decode cX8_given 37 = .ok (.if_icmp .eq 12, 3) := by decide +kernel
theorem dX8_given_40 : decode cX8_given 40 = .ok (.iload_n 3, 1) := by decide +kernel
theorem dX8_given_41 : decode cX8_given 41 = .ok (.bipush 30, 2) := by decide +kernel
theorem dX8_given_43 : decode cX8_given 43 = .ok (.irem, 1) := by decide +kernel
theorem dX8_given_44 : decode cX8_given 44 = .ok (.bipush 7, 2) := by decide +kernel
theorem dX8_given_46 : decode cX8_given 46 = .ok (.if_icmp .ne 7, 3) := by decide +kernel
theorem dX8_given_49 : decode cX8_given 49 = .ok (.iconst 1, 1) := by decide +kernel
theorem dX8_given_50 : decode cX8_given 50 = .ok (.goto 4, 3) := by decide +kernel
theorem dX8_given_53 : decode cX8_given 53 = .ok (.iconst 0, 1) := by decide +kernel
theorem dX8_given_54 : decode cX8_given 54 = .ok (.ireturn, 1) := by decide +kernel
theorem dX8_given_55 : decode cX8_given 55 = .ok (.aload_n 0, 1) := by decide +kernel
theorem dX8_given_56 : decode cX8_given 56 = .ok (.getfield 34, 3) := by decide +kernel
theorem dX8_given_59 : decode cX8_given 59 = .ok (.iconst 0, 1) := by decide +kernel
theorem dX8_given_60 : decode cX8_given 60 = .ok (.iload_n 2, 1) := by decide +kernel
theorem dX8_given_61 : decode cX8_given 61 = .ok (.iastore, 1) := by decide +kernel
theorem dX8_given_62 : decode cX8_given 62 = .ok (.aload_n 0, 1) := by decide +kernel
theorem dX8_given_63 : decode cX8_given 63 = .ok (.getfield 34, 3) := by decide +kernel
theorem dX8_given_66 : decode cX8_given 66 = .ok (.iconst 1, 1) := by decide +kernel
theorem dX8_given_67 : decode cX8_given 67 = .ok (.iload_n 3, 1) := by decide +kernel
theorem dX8_given_68 : decode cX8_given 68 = .ok (.iastore, 1) := by decide +kernel
theorem dX8_given_69 : decode cX8_given 69 = .ok (.aload_n 0, 1) := by decide +kernel
theorem dX8_given_70 : decode cX8_given 70 = .ok (.getfield 34, 3) := by decide +kernel
theorem dX8_given_73 : decode cX8_given 73 = .ok (.iconst 2, 1) := by decide +kernel
theorem dX8_given_74 : decode cX8_given 74 = .ok (.iload 4, 2) := by decide +kernel
theorem dX8_given_76 : decode cX8_given 76 = .ok (.iastore, 1) := by decide +kernel
theorem dX8_given_77 : decode cX8_given 77 = .ok (.iconst 0, 1) := by decide +kernel
theorem dX8_given_78 : decode cX8_given 78 = .ok (.istore 6, 2) := by decide +kernel
theorem dX8_given_80 : decode cX8_given 80 = .ok (.iload 5, 2) := by decide +kernel
theorem dX8_given_82 : decode cX8_given 82 = .ok (.istore 7, 2) := by decide +kernel
theorem dX8_given_84 : decode cX8_given 84 = .ok (.iload 7, 2) := by decide +kernel
theorem dX8_given_86 : decode cX8_given 86 = .ok (.iload 5, 2) := by decide +kernel
theorem dX8_given_88 : decode cX8_given 88 = .ok (.aload_n 0, 1) := by decide +kernel
theorem dX8_given_89 : decode cX8_given 89 = .ok (.getfield 9, 3) := by decide +kernel
theorem dX8_given_92 : decode cX8_given 92 = .ok (.iload 5, 2) := by decide +kernel
theorem dX8_given_94 : decode cX8_given 94 = .ok (.iconst 1, 1) := by decide +kernel
theorem dX8_given_95 : decode cX8_given 95 = .ok (.isub, 1) := by decide +kernel
theorem dX8_given_96 : decode cX8_given 96 = .ok (.iaload, 1) := by decide +kernel
theorem dX8_given_97 : decode cX8_given 97 = .ok (.iadd, 1) := by decide +kernel
theorem dX8_given_98 : decode cX8_given 98 = .ok (.if_icmp .ge 180, 3) := by decide +kernel
theorem dX8_given_101 : decode cX8_given 101 = .ok (.aload_n 0, 1) := by decide +kernel
theorem dX8_given_102 : decode cX8_given 102 = .ok (.getfield 9, 3) := by decide +kernel
theorem dX8_given_105 : decode cX8_given 105 = .ok (.iload 7, 2) := by decide +kernel
theorem dX8_given_107 : decode cX8_given 107 = .ok (.iaload, 1) := by decide +kernel
theorem dX8_given_108 : decode cX8_given 108 = .ok (.istore 8, 2) := by decide +kernel
theorem dX8_given_110 : decode cX8_given 110 = .ok (.iload 8, 2) := by decide +kernel
theorem dX8_given_112 : decode cX8_given 112 = .ok (.sipush 20000, 3) := by decide +kernel
theorem dX8_given_115 : decode cX8_given 115 = .ok (.if_icmp .ge 40, 3) := by decide +kernel
theorem dX8_given_118 : decode cX8_given 118 = .ok (.aload_n 0, 1) := by decide +kernel
theorem dX8_given_119 : decode cX8_given 119 = .ok (.getfield 37, 3) := by decide +kernel
theorem dX8_given_122 : decode cX8_given 122 = .ok (.iload 6, 2) := by decide +kernel
theorem dX8_given_124 : decode cX8_given 124 = .ok (.iload 8, 2) := by decide +kernel
theorem dX8_given_126 : decode cX8_given 126 = .ok (.sipush 10000, 3) := by decide +kernel
theorem dX8_given_129 : decode cX8_given 129 = .ok (.if_icmp .ge 8, 3) := by decide +kernel
theorem dX8_given_132 : decode cX8_given 132 = .ok (.iload 8, 2) := by decide +kernel
theorem dX8_given_134 : decode cX8_given 134 = .ok (.goto 14, 3) := by decide +kernel
theorem dX8_given_137 : decode cX8_given 137 = .ok (.aload_n 0, 1) := by decide +kernel
theorem dX8_given_138 : decode cX8_given 138 = .ok (.getfield 34, 3) := by decide +kernel
theorem dX8_given_141 : decode cX8_given 141 = .ok (.iload 8, 2) := by decide +kernel
theorem dX8_given_143 : decode cX8_given 143 = .ok (.sipush 10000, 3) := by decide +kernel
theorem dX8_given_146 : decode cX8_given 146 = .ok (.isub, 1) := by decide +kernel
theorem dX8_given_147 : decode cX8_given 147 = .ok (.iaload, 1) := by decide +kernel
theorem dX8_given_148 : decode cX8_given 148 = .ok (.iastore, 1) := by decide +kernel
theorem dX8_given_149 : decode cX8_given 149 = .ok (.iinc 6 1, 3) := by decide +kernel
theorem dX8_given_152 : decode cX8_given 152 = .ok (.goto 120, 3) := by decide +kernel
theorem dX8_given_155 : decode cX8_given 155 = .ok (.iload 8, 2) := by decide +kernel
theorem dX8_given_157 : decode cX8_given 157 = .ok (.sipush 20010, 3) := by decide +kernel
theorem dX8_given_160 : decode cX8_given 160 = .ok (.if_icmp .ne 25, 3) := by decide +kernel
theorem dX8_given_163 : decode cX8_given 163 = .ok (.aload_n 0, 1) := by decide +kernel
theorem dX8_given_164 : decode cX8_given 164 = .ok (.getfield 37, 3) := by decide +kernel
theorem dX8_given_167 : decode cX8_given 167 = .ok (.iload 6, 2) := by decide +kernel
theorem dX8_given_169 : decode cX8_given 169 = .ok (.iconst 1, 1) := by decide +kernel
theorem dX8_given_170 : decode cX8_given 170 = .ok (.isub, 1) := by decide +kernel
theorem dX8_given_171 : decode cX8_given 171 = .ok (.aload_n 0, 1) := by decide +kernel
theorem dX8_given_172 : decode cX8_given 172 = .ok (.getfield 37, 3) := by decide +kernel
theorem dX8_given_175 : decode cX8_given 175 = .ok (.iload 6, 2) := by decide +kernel
theorem dX8_given_177 : decode cX8_given 177 = .ok (.iconst 1, 1) := by decide +kernel
theorem dX8_given_178 : decode cX8_given 178 = .ok (.isub, 1) := by decide +kernel
theorem dX8_given_179 : decode cX8_given 179 = .ok (.iaload, 1) := by decide +kernel
theorem dX8_given_180 : decode cX8_given 180 = .ok (.ineg, 1) := by decide +kernel
theorem dX8_given_181 : decode cX8_given 181 = .ok (.iastore, 1) := by decide +kernel
theorem dX8_given_182 : decode cX8_given 182 = .ok (.goto 90, 3) := by decide +kernel
theorem dX8_given_185 : decode cX8_given 185 = .ok (.iload 8, 2) := by decide +kernel
theorem dX8_given_187 : decode cX8_given 187 = .ok (.sipush 20011, 3) := by decide +kernel
theorem dX8_given_190 : decode cX8_given 190 = .ok (.if_icmp .ne 49, 3) := by decide +kernel
theorem dX8_given_193 : decode cX8_given 193 = .ok (.iinc 6 (-2), 3) := by decide +kernel
theorem dX8_given_196 : decode cX8_given 196 = .ok (.aload_n 0, 1) := by decide +kernel
theorem dX8_given_197 : decode cX8_given 197 = .ok (.getfield 37, 3) := by decide +kernel
theorem dX8_given_200 : decode cX8_given 200 = .ok (.iload 6, 2) := by decide +kernel
theorem dX8_given_202 : decode cX8_given 202 = .ok (.iconst 1, 1) := by decide +kernel
theorem dX8_given_203 : decode cX8_given 203 = .ok (.isub, 1) := by decide +kernel
theorem dX8_given_204 : decode cX8_given 204 = .ok (.aload_n 0, 1) := by decide +kernel
theorem dX8_given_205 : decode cX8_given 205 = .ok (.getfield 37, 3) := by decide +kernel
theorem dX8_given_208 : decode cX8_given 208 = .ok (.iload 6, 2) := by decide +kernel
theorem dX8_given_210 : decode cX8_given 210 = .ok (.iconst 1, 1) := by decide +kernel
theorem dX8_given_211 : decode cX8_given 211 = .ok (.isub, 1) := by decide +kernel
theorem dX8_given_212 : decode cX8_given 212 = .ok (.iaload, 1) := by decide +kernel
theorem dX8_given_213 : decode cX8_given 213 = .ok (.ifCond .eq 13, 3) := by decide +kernel
theorem dX8_given_216 : decode cX8_given 216 = .ok (.aload_n 0, 1) := by decide +kernel
theorem dX8_given_217 : decode cX8_given 217 = .ok (.getfield 37, 3) := by decide +kernel
theorem dX8_given_220 : decode cX8_given 220 = .ok (.iload 6, 2) := by decide +kernel
theorem dX8_given_222 : decode cX8_given 222 = .ok (.iaload, 1) := by decide +kernel
theorem dX8_given_223 : decode cX8_given 223 = .ok (.goto 12, 3) := by decide +kernel
theorem dX8_given_226 : decode cX8_given 226 = .ok (.aload_n 0, 1) := by decide +kernel
theorem dX8_given_227 : decode cX8_given 227 = .ok (.getfield 37, 3) := by decide +kernel
theorem dX8_given_230 : decode cX8_given 230 = .ok (.iload 6, 2) := by decide +kernel
theorem dX8_given_232 : decode cX8_given 232 = .ok (.iconst 1, 1) := by decide +kernel
theorem dX8_given_233 : decode cX8_given 233 = .ok (.iadd, 1) := by decide +kernel
theorem dX8_given_234 : decode cX8_given 234 = .ok (.iaload, 1) := by decide +kernel
theorem dX8_given_235 : decode cX8_given 235 = .ok (.iastore, 1) := by decide +kernel
theorem dX8_given_236 : decode cX8_given 236 = .ok (.goto 36, 3) := by decide +kernel
theorem dX8_given_239 : decode cX8_given 239 = .ok (.iinc 6 (-1), 3) := by decide +kernel
theorem dX8_given_242 : decode cX8_given 242 = .ok (.aload_n 0, 1) := by decide +kernel
theorem dX8_given_243 : decode cX8_given 243 = .ok (.getfield 37, 3) := by decide +kernel
theorem dX8_given_246 : decode cX8_given 246 = .ok (.iload 6, 2) := by decide +kernel
theorem dX8_given_248 : decode cX8_given 248 = .ok (.iconst 1, 1) := by decide +kernel
theorem dX8_given_249 : decode cX8_given 249 = .ok (.isub, 1) := by decide +kernel
theorem dX8_given_250 : decode cX8_given 250 = .ok (.iload 8, 2) := by decide +kernel
theorem dX8_given_252 : decode cX8_given 252 = .ok (.aload_n 0, 1) := by decide +kernel
theorem dX8_given_253 : decode cX8_given 253 = .ok (.getfield 37, 3) := by decide +kernel
theorem dX8_given_256 : decode cX8_given 256 = .ok (.iload 6, 2) := by decide +kernel
theorem dX8_given_258 : decode cX8_given 258 = .ok (.iconst 1, 1) := by decide +kernel
theorem dX8_given_259 : decode cX8_given 259 = .ok (.isub, 1) := by decide +kernel
theorem dX8_given_260 : decode cX8_given 260 = .ok (.iaload, 1) := by decide +kernel
theorem dX8_given_261 : decode cX8_given 261 = .ok (.aload_n 0, 1) := by decide +kernel
theorem dX8_given_262 : decode cX8_given 262 = .ok (.getfield 37, 3) := by decide +kernel
theorem dX8_given_265 : decode cX8_given 265 = .ok (.iload 6, 2) := by decide +kernel
theorem dX8_given_267 : decode cX8_given 267 = .ok (.iaload, 1) := by decide +kernel
theorem dX8_given_268 : decode cX8_given 268 = .ok (.invokestatic 214, 3) := by decide +kernel
theorem dX8_given_271 : decode cX8_given 271 = .ok (.iastore, 1) := by decide +kernel
theorem dX8_given_272 : decode cX8_given 272 = .ok (.iinc 7 1, 3) := by decide +kernel
theorem dX8_given_275 : decode cX8_given 275 = .ok (.goto (-191), 3) := by decide +kernel
theorem dX8_given_278 : decode cX8_given 278 = .ok (.aload_n 0, 1) := by decide +kernel
theorem dX8_given_279 : decode cX8_given 279 = .ok (.getfield 37, 3) := by decide +kernel
theorem dX8_given_282 : decode cX8_given 282 = .ok (.iconst 0, 1) := by decide +kernel
theorem dX8_given_283 : decode cX8_given 283 = .ok (.iaload, 1) := by decide +kernel
theorem dX8_given_284 : decode cX8_given 284 = .ok (.ireturn, 1) := by decide +kernel
theorem dX8_law_0 : decode cX8_law 0 = .ok (.iload_n 1, 1) := by decide +kernel
theorem dX8_law_1 : decode cX8_law 1 = .ok (.iconst 0, 1) := by decide +kernel
theorem dX8_law_2 : decode cX8_law 2 = .ok (.iconst 2, 1) := by decide +kernel
theorem dX8_law_3 : decode cX8_law 3 = .ok (.invokestatic 68, 3) := by decide +kernel
theorem dX8_law_6 : decode cX8_law 6 = .ok (.ifCond .eq 15, 3) := by decide +kernel
theorem dX8_law_9 : decode cX8_law 9 = .ok (.aload_n 0, 1) := by decide +kernel
theorem dX8_law_10 : decode cX8_law 10 = .ok (.iload_n 1, 1) := by decide +kernel
theorem dX8_law_11 : decode cX8_law 11 = .ok (.iload_n 2, 1) := by decide +kernel
theorem dX8_law_12 : decode cX8_law 12 = .ok (.iload_n 3, 1) := by decide +kernel
theorem dX8_law_13 : decode cX8_law 13 = .ok (.iload 4, 2) := by decide +kernel
theorem dX8_law_15 : decode cX8_law 15 = .ok (.invokevirtual 218, 3) := by decide +kernel
theorem dX8_law_18 : decode cX8_law 18 = .ok (.goto 9, 3) := by decide +kernel
theorem dX8_law_21 : decode cX8_law 21 = .ok (.aload_n 0, 1) := by decide +kernel
theorem dX8_law_22 : decode cX8_law 22 = .ok (.ldc 76, 2) := by decide +kernel
theorem dX8_law_24 : decode cX8_law 24 = .ok (.invokevirtual 77, 3) := by decide +kernel
theorem dX8_law_27 : decode cX8_law 27 = .ok (.ireturn, 1) := by decide +kernel
theorem dX8_lawAt_0 : decode cX8_lawAt 0 = .ok (.aload_n 0, 1) := by decide +kernel
theorem dX8_lawAt_1 : decode cX8_lawAt 1 = .ok (.iconst 0, 1) := by decide +kernel
theorem dX8_lawAt_2 : decode cX8_lawAt 2 = .ok (.iload_n 2, 1) := by decide +kernel
theorem dX8_lawAt_3 : decode cX8_lawAt 3 = .ok (.aload_n 0, 1) := by decide +kernel
theorem dX8_lawAt_4 : decode cX8_lawAt 4 = .ok (.iload_n 1, 1) := by decide +kernel
theorem dX8_lawAt_5 : decode cX8_lawAt 5 = .ok (.iconst 2, 1) := by decide +kernel
theorem dX8_lawAt_6 : decode cX8_lawAt 6 = .ok (.invokevirtual 87, 3) := by decide +kernel
theorem dX8_lawAt_9 : decode cX8_lawAt 9 = .ok (.aload_n 0, 1) := by decide +kernel
theorem dX8_lawAt_10 : decode cX8_lawAt 10 = .ok (.iload_n 1, 1) := by decide +kernel
theorem dX8_lawAt_11 : decode cX8_lawAt 11 = .ok (.invokevirtual 222, 3) := by decide +kernel
theorem dX8_lawAt_14 : decode cX8_lawAt 14 = .ok (.invokevirtual 218, 3) := by decide +kernel
theorem dX8_lawAt_17 : decode cX8_lawAt 17 = .ok (.ireturn, 1) := by decide +kernel
theorem dX8_areTwo_0 : decode cX8_areTwo 0 = .ok (.aload_n 0, 1) := by decide +kernel
theorem dX8_areTwo_1 : decode cX8_areTwo 1 = .ok (.iload_n 1, 1) := by decide +kernel
theorem dX8_areTwo_2 : decode cX8_areTwo 2 = .ok (.iconst 1, 1) := by decide +kernel
theorem dX8_areTwo_3 : decode cX8_areTwo 3 = .ok (.invokevirtual 83, 3) := by decide +kernel
theorem dX8_areTwo_6 : decode cX8_areTwo 6 = .ok (.ifCond .eq 21, 3) := by decide +kernel
theorem dX8_areTwo_9 : decode cX8_areTwo 9 = .ok (.aload_n 0, 1) := by decide +kernel
theorem dX8_areTwo_10 : decode cX8_areTwo 10 = .ok (.iload_n 2, 1) := by decide +kernel
theorem dX8_areTwo_11 : decode cX8_areTwo 11 = .ok (.iconst 1, 1) := by decide +kernel
theorem dX8_areTwo_12 : decode cX8_areTwo 12 = .ok (.invokevirtual 83, 3) := by decide +kernel
theorem dX8_areTwo_15 : decode cX8_areTwo 15 = .ok (.ifCond .eq 12, 3) := by decide +kernel
theorem dX8_areTwo_18 : decode cX8_areTwo 18 = .ok (.iload_n 1, 1) := by decide +kernel
theorem dX8_areTwo_19 : decode cX8_areTwo 19 = .ok (.iload_n 2, 1) := by decide +kernel
theorem dX8_areTwo_20 : decode cX8_areTwo 20 = .ok (.if_icmp .eq 7, 3) := by decide +kernel
theorem dX8_areTwo_23 : decode cX8_areTwo 23 = .ok (.iconst 1, 1) := by decide +kernel
theorem dX8_areTwo_24 : decode cX8_areTwo 24 = .ok (.goto 4, 3) := by decide +kernel
theorem dX8_areTwo_27 : decode cX8_areTwo 27 = .ok (.iconst 0, 1) := by decide +kernel
theorem dX8_areTwo_28 : decode cX8_areTwo 28 = .ok (.ireturn, 1) := by decide +kernel
theorem dX8_same_0 : decode cX8_same 0 = .ok (.aload_n 0, 1) := by decide +kernel
theorem dX8_same_1 : decode cX8_same 1 = .ok (.iload_n 1, 1) := by decide +kernel
theorem dX8_same_2 : decode cX8_same 2 = .ok (.iload_n 2, 1) := by decide +kernel
theorem dX8_same_3 : decode cX8_same 3 = .ok (.invokevirtual 225, 3) := by decide +kernel
theorem dX8_same_6 : decode cX8_same 6 = .ok (.ifCond .eq 12, 3) := by decide +kernel
theorem dX8_same_9 : decode cX8_same 9 = .ok (.iload_n 3, 1) := by decide +kernel
theorem dX8_same_10 : decode cX8_same 10 = .ok (.iconst 0, 1) := by decide +kernel
theorem dX8_same_11 : decode cX8_same 11 = .ok (.iconst 2, 1) := by decide +kernel
theorem dX8_same_12 : decode cX8_same 12 = .ok (.invokestatic 68, 3) := by decide +kernel
theorem dX8_same_15 : decode cX8_same 15 = .ok (.ifCond .ne 10, 3) := by decide +kernel
theorem dX8_same_18 : decode cX8_same 18 = .ok (.aload_n 0, 1) := by decide +kernel
theorem dX8_same_19 : decode cX8_same 19 = .ok (.ldc 76, 2) := by decide +kernel
theorem dX8_same_21 : decode cX8_same 21 = .ok (.invokevirtual 77, 3) := by decide +kernel
theorem dX8_same_24 : decode cX8_same 24 = .ok (.ireturn, 1) := by decide +kernel
theorem dX8_same_25 : decode cX8_same 25 = .ok (.iconst 0, 1) := by decide +kernel
theorem dX8_same_26 : decode cX8_same 26 = .ok (.istore 4, 2) := by decide +kernel
theorem dX8_same_28 : decode cX8_same 28 = .ok (.iconst 0, 1) := by decide +kernel
theorem dX8_same_29 : decode cX8_same 29 = .ok (.istore 5, 2) := by decide +kernel
theorem dX8_same_31 : decode cX8_same 31 = .ok (.iconst 0, 1) := by decide +kernel
theorem dX8_same_32 : decode cX8_same 32 = .ok (.istore 6, 2) := by decide +kernel
theorem dX8_same_34 : decode cX8_same 34 = .ok (.iconst 1, 1) := by decide +kernel
theorem dX8_same_35 : decode cX8_same 35 = .ok (.istore 7, 2) := by decide +kernel
theorem dX8_same_37 : decode cX8_same 37 = .ok (.iload 7, 2) := by decide +kernel
theorem dX8_same_39 : decode cX8_same 39 = .ok (.aload_n 0, 1) := by decide +kernel
theorem dX8_same_40 : decode cX8_same 40 = .ok (.iload_n 1, 1) := by decide +kernel
theorem dX8_same_41 : decode cX8_same 41 = .ok (.invokevirtual 134, 3) := by decide +kernel
theorem dX8_same_44 : decode cX8_same 44 = .ok (.iconst 1, 1) := by decide +kernel
theorem dX8_same_45 : decode cX8_same 45 = .ok (.isub, 1) := by decide +kernel
theorem dX8_same_46 : decode cX8_same 46 = .ok (.if_icmp .ge 111, 3) := by decide +kernel
theorem dX8_same_49 : decode cX8_same 49 = .ok (.iconst 1, 1) := by decide +kernel
theorem dX8_same_50 : decode cX8_same 50 = .ok (.istore 8, 2) := by decide +kernel
theorem dX8_same_52 : decode cX8_same 52 = .ok (.iload 8, 2) := by decide +kernel
theorem dX8_same_54 : decode cX8_same 54 = .ok (.aload_n 0, 1) := by decide +kernel
theorem dX8_same_55 : decode cX8_same 55 = .ok (.iload_n 2, 1) := by decide +kernel
theorem dX8_same_56 : decode cX8_same 56 = .ok (.invokevirtual 134, 3) := by decide +kernel
theorem dX8_same_59 : decode cX8_same 59 = .ok (.iconst 1, 1) := by decide +kernel
theorem dX8_same_60 : decode cX8_same 60 = .ok (.isub, 1) := by decide +kernel
theorem dX8_same_61 : decode cX8_same 61 = .ok (.if_icmp .ge 90, 3) := by decide +kernel
theorem dX8_same_64 : decode cX8_same 64 = .ok (.iconst 0, 1) := by decide +kernel
theorem dX8_same_65 : decode cX8_same 65 = .ok (.istore 9, 2) := by decide +kernel
theorem dX8_same_67 : decode cX8_same 67 = .ok (.iload 7, 2) := by decide +kernel
theorem dX8_same_69 : decode cX8_same 69 = .ok (.iload 9, 2) := by decide +kernel
theorem dX8_same_71 : decode cX8_same 71 = .ok (.iadd, 1) := by decide +kernel
theorem dX8_same_72 : decode cX8_same 72 = .ok (.aload_n 0, 1) := by decide +kernel
theorem dX8_same_73 : decode cX8_same 73 = .ok (.iload_n 1, 1) := by decide +kernel
theorem dX8_same_74 : decode cX8_same 74 = .ok (.invokevirtual 134, 3) := by decide +kernel
theorem dX8_same_77 : decode cX8_same 77 = .ok (.iconst 1, 1) := by decide +kernel
theorem dX8_same_78 : decode cX8_same 78 = .ok (.isub, 1) := by decide +kernel
theorem dX8_same_79 : decode cX8_same 79 = .ok (.if_icmp .ge 47, 3) := by decide +kernel
theorem dX8_same_82 : decode cX8_same 82 = .ok (.iload 8, 2) := by decide +kernel
theorem dX8_same_84 : decode cX8_same 84 = .ok (.iload 9, 2) := by decide +kernel
theorem dX8_same_86 : decode cX8_same 86 = .ok (.iadd, 1) := by decide +kernel
theorem dX8_same_87 : decode cX8_same 87 = .ok (.aload_n 0, 1) := by decide +kernel
theorem dX8_same_88 : decode cX8_same 88 = .ok (.iload_n 2, 1) := by decide +kernel
theorem dX8_same_89 : decode cX8_same 89 = .ok (.invokevirtual 134, 3) := by decide +kernel
theorem dX8_same_92 : decode cX8_same 92 = .ok (.iconst 1, 1) := by decide +kernel
theorem dX8_same_93 : decode cX8_same 93 = .ok (.isub, 1) := by decide +kernel
theorem dX8_same_94 : decode cX8_same 94 = .ok (.if_icmp .ge 32, 3) := by decide +kernel
theorem dX8_same_97 : decode cX8_same 97 = .ok (.aload_n 0, 1) := by decide +kernel
theorem dX8_same_98 : decode cX8_same 98 = .ok (.iload_n 1, 1) := by decide +kernel
theorem dX8_same_99 : decode cX8_same 99 = .ok (.iload 7, 2) := by decide +kernel
theorem dX8_same_101 : decode cX8_same 101 = .ok (.iload 9, 2) := by decide +kernel
theorem dX8_same_103 : decode cX8_same 103 = .ok (.iadd, 1) := by decide +kernel
theorem dX8_same_104 : decode cX8_same 104 = .ok (.invokevirtual 147, 3) := by decide +kernel
theorem dX8_same_107 : decode cX8_same 107 = .ok (.aload_n 0, 1) := by decide +kernel
theorem dX8_same_108 : decode cX8_same 108 = .ok (.iload_n 2, 1) := by decide +kernel
theorem dX8_same_109 : decode cX8_same 109 = .ok (.iload 8, 2) := by decide +kernel
theorem dX8_same_111 : decode cX8_same 111 = .ok (.iload 9, 2) := by decide +kernel
theorem dX8_same_113 : decode cX8_same 113 = .ok (.iadd, 1) := by decide +kernel
theorem dX8_same_114 : decode cX8_same 114 = .ok (.invokevirtual 147, 3) := by decide +kernel
theorem dX8_same_117 : decode cX8_same 117 = .ok (.if_icmp .ne 9, 3) := by decide +kernel
theorem dX8_same_120 : decode cX8_same 120 = .ok (.iinc 9 1, 3) := by decide +kernel
theorem dX8_same_123 : decode cX8_same 123 = .ok (.goto (-56), 3) := by decide +kernel
theorem dX8_same_126 : decode cX8_same 126 = .ok (.iload 9, 2) := by decide +kernel
theorem dX8_same_128 : decode cX8_same 128 = .ok (.iload 4, 2) := by decide +kernel
theorem dX8_same_130 : decode cX8_same 130 = .ok (.if_icmp .le 15, 3) := by decide +kernel
theorem dX8_same_133 : decode cX8_same 133 = .ok (.iload 9, 2) := by decide +kernel
theorem dX8_same_135 : decode cX8_same 135 = .ok (.istore 4, 2) := by decide +kernel
theorem dX8_same_137 : decode cX8_same 137 = .ok (.iload 7, 2) := by decide +kernel
theorem dX8_same_139 : decode cX8_same 139 = .ok (.istore 5, 2) := by decide +kernel
theorem dX8_same_141 : decode cX8_same 141 = .ok (.iload 8, 2) := by decide +kernel
theorem dX8_same_143 : decode cX8_same 143 = .ok (.istore 6, 2) := by decide +kernel
theorem dX8_same_145 : decode cX8_same 145 = .ok (.iinc 8 1, 3) := by decide +kernel
theorem dX8_same_148 : decode cX8_same 148 = .ok (.goto (-96), 3) := by decide +kernel
theorem dX8_same_151 : decode cX8_same 151 = .ok (.iinc 7 1, 3) := by decide +kernel
theorem dX8_same_154 : decode cX8_same 154 = .ok (.goto (-117), 3) := by decide +kernel
theorem dX8_same_157 : decode cX8_same 157 = .ok (.iload_n 3, 1) := by decide +kernel
theorem dX8_same_158 : decode cX8_same 158 = .ok (.ifCond .ne 8, 3) := by decide +kernel
theorem dX8_same_161 : decode cX8_same 161 = .ok (.iload 4, 2) := by decide +kernel
theorem dX8_same_163 : decode cX8_same 163 = .ok (.goto 15, 3) := by decide +kernel
theorem dX8_same_166 : decode cX8_same 166 = .ok (.iload_n 3, 1) := by decide +kernel
theorem dX8_same_167 : decode cX8_same 167 = .ok (.iconst 1, 1) := by decide +kernel
theorem dX8_same_168 : decode cX8_same 168 = .ok (.if_icmp .ne 8, 3) := by decide +kernel
theorem dX8_same_171 : decode cX8_same 171 = .ok (.iload 5, 2) := by decide +kernel
theorem dX8_same_173 : decode cX8_same 173 = .ok (.goto 5, 3) := by decide +kernel
theorem dX8_same_176 : decode cX8_same 176 = .ok (.iload 6, 2) := by decide +kernel
theorem dX8_same_178 : decode cX8_same 178 = .ok (.ireturn, 1) := by decide +kernel
theorem dX8_divisor_0 : decode cX8_divisor 0 = .ok (.iload_n 1, 1) := by decide +kernel
theorem dX8_divisor_1 : decode cX8_divisor 1 = .ok (.ifCond .ne 7, 3) := by decide +kernel
theorem dX8_divisor_4 : decode cX8_divisor 4 = .ok (.iload_n 0, 1) := by decide +kernel
theorem dX8_divisor_5 : decode cX8_divisor 5 = .ok (.goto 10, 3) := by decide +kernel
theorem dX8_divisor_8 : decode cX8_divisor 8 = .ok (.iload_n 1, 1) := by decide +kernel
theorem dX8_divisor_9 : decode cX8_divisor 9 = .ok (.iload_n 0, 1) := by decide +kernel
theorem dX8_divisor_10 : decode cX8_divisor 10 = .ok (.iload_n 1, 1) := by decide +kernel
theorem dX8_divisor_11 : decode cX8_divisor 11 = .ok (.irem, 1) := by decide +kernel
theorem dX8_divisor_12 : decode cX8_divisor 12 = .ok (.invokestatic 228, 3) := by decide +kernel
theorem dX8_divisor_15 : decode cX8_divisor 15 = .ok (.ireturn, 1) := by decide +kernel
theorem dX8_isBending_0 : decode cX8_isBending 0 = .ok (.iload_n 3, 1) := by decide +kernel
theorem dX8_isBending_1 : decode cX8_isBending 1 = .ok (.iconst 1, 1) := by decide +kernel
theorem dX8_isBending_2 : decode cX8_isBending 2 = .ok (.invokestatic 137, 3) := by decide +kernel
theorem dX8_isBending_5 : decode cX8_isBending 5 = .ok (.ifCond .eq 7, 3) := by decide +kernel
theorem dX8_isBending_8 : decode cX8_isBending 8 = .ok (.iconst (-1), 1) := by decide +kernel
theorem dX8_isBending_9 : decode cX8_isBending 9 = .ok (.goto 4, 3) := by decide +kernel
theorem dX8_isBending_12 : decode cX8_isBending 12 = .ok (.iconst 1, 1) := by decide +kernel
theorem dX8_isBending_13 : decode cX8_isBending 13 = .ok (.istore 7, 2) := by decide +kernel
theorem dX8_isBending_15 : decode cX8_isBending 15 = .ok (.iload_n 3, 1) := by decide +kernel
theorem dX8_isBending_16 : decode cX8_isBending 16 = .ok (.iconst 1, 1) := by decide +kernel
theorem dX8_isBending_17 : decode cX8_isBending 17 = .ok (.invokestatic 137, 3) := by decide +kernel
theorem dX8_isBending_20 : decode cX8_isBending 20 = .ok (.ifCond .eq 18, 3) := by decide +kernel
theorem dX8_isBending_23 : decode cX8_isBending 23 = .ok (.iload 6, 2) := by decide +kernel
theorem dX8_isBending_25 : decode cX8_isBending 25 = .ok (.aload_n 0, 1) := by decide +kernel
theorem dX8_isBending_26 : decode cX8_isBending 26 = .ok (.iload_n 2, 1) := by decide +kernel
theorem dX8_isBending_27 : decode cX8_isBending 27 = .ok (.invokevirtual 134, 3) := by decide +kernel
theorem dX8_isBending_30 : decode cX8_isBending 30 = .ok (.iconst 1, 1) := by decide +kernel
theorem dX8_isBending_31 : decode cX8_isBending 31 = .ok (.isub, 1) := by decide +kernel
theorem dX8_isBending_32 : decode cX8_isBending 32 = .ok (.if_icmp .ge 24, 3) := by decide +kernel
theorem dX8_isBending_35 : decode cX8_isBending 35 = .ok (.goto 19, 3) := by decide +kernel
theorem dX8_isBending_38 : decode cX8_isBending 38 = .ok (.iload 6, 2) := by decide +kernel
theorem dX8_isBending_40 : decode cX8_isBending 40 = .ok (.aload_n 0, 1) := by decide +kernel
theorem dX8_isBending_41 : decode cX8_isBending 41 = .ok (.iload_n 1, 1) := by decide +kernel
theorem dX8_isBending_42 : decode cX8_isBending 42 = .ok (.invokevirtual 134, 3) := by decide +kernel
theorem dX8_isBending_45 : decode cX8_isBending 45 = .ok (.aload_n 0, 1) := by decide +kernel
theorem dX8_isBending_46 : decode cX8_isBending 46 = .ok (.iload_n 2, 1) := by decide +kernel
theorem dX8_isBending_47 : decode cX8_isBending 47 = .ok (.invokevirtual 134, 3) := by decide +kernel
theorem dX8_isBending_50 : decode cX8_isBending 50 = .ok (.isub, 1) := by decide +kernel
theorem dX8_isBending_51 : decode cX8_isBending 51 = .ok (.if_icmp .le 5, 3) := by decide +kernel
theorem dX8_isBending_54 : decode cX8_isBending 54 = .ok (.iconst 0, 1) := by decide +kernel
theorem dX8_isBending_55 : decode cX8_isBending 55 = .ok (.ireturn, 1) := by decide +kernel
theorem dX8_isBending_56 : decode cX8_isBending 56 = .ok (.iload_n 3, 1) := by decide +kernel
theorem dX8_isBending_57 : decode cX8_isBending 57 = .ok (.iconst 0, 1) := by decide +kernel
theorem dX8_isBending_58 : decode cX8_isBending 58 = .ok (.invokestatic 137, 3) := by decide +kernel
theorem dX8_isBending_61 : decode cX8_isBending 61 = .ok (.ifCond .eq 9, 3) := by decide +kernel
theorem dX8_isBending_64 : decode cX8_isBending 64 = .ok (.iload 4, 2) := by decide +kernel
theorem dX8_isBending_66 : decode cX8_isBending 66 = .ok (.ineg, 1) := by decide +kernel
theorem dX8_isBending_67 : decode cX8_isBending 67 = .ok (.goto 5, 3) := by decide +kernel
theorem dX8_isBending_70 : decode cX8_isBending 70 = .ok (.iload 4, 2) := by decide +kernel
theorem dX8_isBending_72 : decode cX8_isBending 72 = .ok (.istore 8, 2) := by decide +kernel
theorem dX8_isBending_74 : decode cX8_isBending 74 = .ok (.iconst 1, 1) := by decide +kernel
theorem dX8_isBending_75 : decode cX8_isBending 75 = .ok (.istore 9, 2) := by decide +kernel
theorem dX8_isBending_77 : decode cX8_isBending 77 = .ok (.iconst 0, 1) := by decide +kernel
theorem dX8_isBending_78 : decode cX8_isBending 78 = .ok (.istore 10, 2) := by decide +kernel
theorem dX8_isBending_80 : decode cX8_isBending 80 = .ok (.iload 10, 2) := by decide +kernel
theorem dX8_isBending_82 : decode cX8_isBending 82 = .ok (.aload_n 0, 1) := by decide +kernel
theorem dX8_isBending_83 : decode cX8_isBending 83 = .ok (.iload_n 2, 1) := by decide +kernel
theorem dX8_isBending_84 : decode cX8_isBending 84 = .ok (.invokevirtual 134, 3) := by decide +kernel
theorem dX8_isBending_87 : decode cX8_isBending 87 = .ok (.if_icmp .ge 76, 3) := by decide +kernel
theorem dX8_isBending_90 : decode cX8_isBending 90 = .ok (.aload_n 0, 1) := by decide +kernel
theorem dX8_isBending_91 : decode cX8_isBending 91 = .ok (.iload_n 1, 1) := by decide +kernel
theorem dX8_isBending_92 : decode cX8_isBending 92 = .ok (.iload 6, 2) := by decide +kernel
theorem dX8_isBending_94 : decode cX8_isBending 94 = .ok (.iload 7, 2) := by decide +kernel
theorem dX8_isBending_96 : decode cX8_isBending 96 = .ok (.iload 10, 2) := by decide +kernel
theorem dX8_isBending_98 : decode cX8_isBending 98 = .ok (.imul, 1) := by decide +kernel
theorem dX8_isBending_99 : decode cX8_isBending 99 = .ok (.iadd, 1) := by decide +kernel
theorem dX8_isBending_100 : decode cX8_isBending 100 = .ok (.invokevirtual 140, 3) := by decide +kernel
theorem dX8_isBending_103 : decode cX8_isBending 103 = .ok (.aload_n 0, 1) := by decide +kernel
theorem dX8_isBending_104 : decode cX8_isBending 104 = .ok (.iload_n 1, 1) := by decide +kernel
theorem dX8_isBending_105 : decode cX8_isBending 105 = .ok (.iload 6, 2) := by decide +kernel
theorem dX8_isBending_107 : decode cX8_isBending 107 = .ok (.invokevirtual 140, 3) := by decide +kernel
theorem dX8_isBending_110 : decode cX8_isBending 110 = .ok (.isub, 1) := by decide +kernel
theorem dX8_isBending_111 : decode cX8_isBending 111 = .ok (.istore 11, 2) := by decide +kernel
theorem dX8_isBending_113 : decode cX8_isBending 113 = .ok (.iload 9, 2) := by decide +kernel
theorem dX8_isBending_115 : decode cX8_isBending 115 = .ok (.ifCond .eq 12, 3) := by decide +kernel
theorem dX8_isBending_118 : decode cX8_isBending 118 = .ok (.iload 11, 2) := by decide +kernel
theorem dX8_isBending_120 : decode cX8_isBending 120 = .ok (.ifCond .ne 7, 3) := by decide +kernel
theorem dX8_isBending_123 : decode cX8_isBending 123 = .ok (.iconst 1, 1) := by decide +kernel
theorem dX8_isBending_124 : decode cX8_isBending 124 = .ok (.goto 4, 3) := by decide +kernel
theorem dX8_isBending_127 : decode cX8_isBending 127 = .ok (.iconst 0, 1) := by decide +kernel
theorem dX8_isBending_128 : decode cX8_isBending 128 = .ok (.istore 9, 2) := by decide +kernel
theorem dX8_isBending_130 : decode cX8_isBending 130 = .ok (.iload 5, 2) := by decide +kernel
theorem dX8_isBending_132 : decode cX8_isBending 132 = .ok (.aload_n 0, 1) := by decide +kernel
theorem dX8_isBending_133 : decode cX8_isBending 133 = .ok (.iload_n 2, 1) := by decide +kernel
theorem dX8_isBending_134 : decode cX8_isBending 134 = .ok (.iload 10, 2) := by decide +kernel
theorem dX8_isBending_136 : decode cX8_isBending 136 = .ok (.invokevirtual 140, 3) := by decide +kernel
theorem dX8_isBending_139 : decode cX8_isBending 139 = .ok (.aload_n 0, 1) := by decide +kernel
theorem dX8_isBending_140 : decode cX8_isBending 140 = .ok (.iload_n 2, 1) := by decide +kernel
theorem dX8_isBending_141 : decode cX8_isBending 141 = .ok (.iconst 0, 1) := by decide +kernel
theorem dX8_isBending_142 : decode cX8_isBending 142 = .ok (.invokevirtual 140, 3) := by decide +kernel
theorem dX8_isBending_145 : decode cX8_isBending 145 = .ok (.isub, 1) := by decide +kernel
theorem dX8_isBending_146 : decode cX8_isBending 146 = .ok (.imul, 1) := by decide +kernel
theorem dX8_isBending_147 : decode cX8_isBending 147 = .ok (.iload 8, 2) := by decide +kernel
theorem dX8_isBending_149 : decode cX8_isBending 149 = .ok (.iload 11, 2) := by decide +kernel
theorem dX8_isBending_151 : decode cX8_isBending 151 = .ok (.imul, 1) := by decide +kernel
theorem dX8_isBending_152 : decode cX8_isBending 152 = .ok (.if_icmp .eq 5, 3) := by decide +kernel
theorem dX8_isBending_155 : decode cX8_isBending 155 = .ok (.iconst 0, 1) := by decide +kernel
theorem dX8_isBending_156 : decode cX8_isBending 156 = .ok (.ireturn, 1) := by decide +kernel
theorem dX8_isBending_157 : decode cX8_isBending 157 = .ok (.iinc 10 1, 3) := by decide +kernel
theorem dX8_isBending_160 : decode cX8_isBending 160 = .ok (.goto (-80), 3) := by decide +kernel
theorem dX8_isBending_163 : decode cX8_isBending 163 = .ok (.iload 9, 2) := by decide +kernel
theorem dX8_isBending_165 : decode cX8_isBending 165 = .ok (.ifCond .ne 7, 3) := by decide +kernel
theorem dX8_isBending_168 : decode cX8_isBending 168 = .ok (.iconst 1, 1) := by decide +kernel
theorem dX8_isBending_169 : decode cX8_isBending 169 = .ok (.goto 4, 3) := by decide +kernel
theorem dX8_isBending_172 : decode cX8_isBending 172 = .ok (.iconst 0, 1) := by decide +kernel
theorem dX8_isBending_173 : decode cX8_isBending 173 = .ok (.ireturn, 1) := by decide +kernel
theorem dX8_findBendings_0 : decode cX8_findBendings 0 = .ok (.aload_n 0, 1) := by decide +kernel
theorem dX8_findBendings_1 : decode cX8_findBendings 1 = .ok (.iconst 0, 1) := by decide +kernel
theorem dX8_findBendings_2 : decode cX8_findBendings 2 = .ok (.putfield 231, 3) := by decide +kernel
theorem dX8_findBendings_5 : decode cX8_findBendings 5 = .ok (.iconst 0, 1) := by decide +kernel
theorem dX8_findBendings_6 : decode cX8_findBendings 6 = .ok (.istore 5, 2) := by decide +kernel
theorem dX8_findBendings_8 : decode cX8_findBendings 8 = .ok (.iload 5, 2) := by decide +kernel
theorem dX8_findBendings_10 : decode cX8_findBendings 10 = .ok (.iconst 4, 1) := by decide +kernel
theorem dX8_findBendings_11 : decode cX8_findBendings 11 = .ok (.if_icmp .ge 153, 3) := by decide +kernel
theorem dX8_findBendings_14 : decode cX8_findBendings 14 = .ok (.iconst 1, 1) := by decide +kernel
theorem dX8_findBendings_15 : decode cX8_findBendings 15 = .ok (.istore 6, 2) := by decide +kernel
theorem dX8_findBendings_17 : decode cX8_findBendings 17 = .ok (.iload 6, 2) := by decide +kernel
theorem dX8_findBendings_19 : decode cX8_findBendings 19 = .ok (.iload_n 3, 1) := by decide +kernel
theorem dX8_findBendings_20 : decode cX8_findBendings 20 = .ok (.if_icmp .gt 138, 3) := by decide +kernel
theorem dX8_findBendings_23 : decode cX8_findBendings 23 = .ok (.iconst 1, 1) := by decide +kernel
theorem dX8_findBendings_24 : decode cX8_findBendings 24 = .ok (.istore 7, 2) := by decide +kernel
theorem dX8_findBendings_26 : decode cX8_findBendings 26 = .ok (.iload 7, 2) := by decide +kernel
theorem dX8_findBendings_28 : decode cX8_findBendings 28 = .ok (.iload_n 3, 1) := by decide +kernel
theorem dX8_findBendings_29 : decode cX8_findBendings 29 = .ok (.if_icmp .gt 123, 3) := by decide +kernel
theorem dX8_findBendings_32 : decode cX8_findBendings 32 = .ok (.iconst 0, 1) := by decide +kernel
theorem dX8_findBendings_33 : decode cX8_findBendings 33 = .ok (.istore 8, 2) := by decide +kernel
theorem dX8_findBendings_35 : decode cX8_findBendings 35 = .ok (.iload 8, 2) := by decide +kernel
theorem dX8_findBendings_37 : decode cX8_findBendings 37 = .ok (.aload_n 0, 1) := by decide +kernel
theorem dX8_findBendings_38 : decode cX8_findBendings 38 = .ok (.iload_n 1, 1) := by decide +kernel
theorem dX8_findBendings_39 : decode cX8_findBendings 39 = .ok (.invokevirtual 134, 3) := by decide +kernel
theorem dX8_findBendings_42 : decode cX8_findBendings 42 = .ok (.if_icmp .ge 104, 3) := by decide +kernel
theorem dX8_findBendings_45 : decode cX8_findBendings 45 = .ok (.iload 6, 2) := by decide +kernel
theorem dX8_findBendings_47 : decode cX8_findBendings 47 = .ok (.iload 7, 2) := by decide +kernel
theorem dX8_findBendings_49 : decode cX8_findBendings 49 = .ok (.invokestatic 228, 3) := by decide +kernel
theorem dX8_findBendings_52 : decode cX8_findBendings 52 = .ok (.iconst 1, 1) := by decide +kernel
theorem dX8_findBendings_53 : decode cX8_findBendings 53 = .ok (.if_icmp .ne 93, 3) := by decide +kernel
theorem dX8_findBendings_56 : decode cX8_findBendings 56 = .ok (.aload_n 0, 1) := by decide +kernel
theorem dX8_findBendings_57 : decode cX8_findBendings 57 = .ok (.iload_n 1, 1) := by decide +kernel
theorem dX8_findBendings_58 : decode cX8_findBendings 58 = .ok (.iload_n 2, 1) := by decide +kernel
theorem dX8_findBendings_59 : decode cX8_findBendings 59 = .ok (.iload 5, 2) := by decide +kernel
theorem dX8_findBendings_61 : decode cX8_findBendings 61 = .ok (.iload 6, 2) := by decide +kernel
theorem dX8_findBendings_63 : decode cX8_findBendings 63 = .ok (.iload 7, 2) := by decide +kernel
theorem dX8_findBendings_65 : decode cX8_findBendings 65 = .ok (.iload 8, 2) := by decide +kernel
theorem dX8_findBendings_67 : decode cX8_findBendings 67 = .ok (.invokevirtual 234, 3) := by decide +kernel
theorem dX8_findBendings_70 : decode cX8_findBendings 70 = .ok (.ifCond .eq 70, 3) := by decide +kernel
theorem dX8_findBendings_73 : decode cX8_findBendings 73 = .ok (.aload_n 0, 1) := by decide +kernel
theorem dX8_findBendings_74 : decode cX8_findBendings 74 = .ok (.getfield 231, 3) := by decide +kernel
theorem dX8_findBendings_77 : decode cX8_findBendings 77 = .ok (.ifCond .ne 47, 3) := by decide +kernel
theorem dX8_findBendings_80 : decode cX8_findBendings 80 = .ok (.aload_n 0, 1) := by decide +kernel
theorem dX8_findBendings_81 : decode cX8_findBendings 81 = .ok (.getfield 40, 3) := by decide +kernel
theorem dX8_findBendings_84 : decode cX8_findBendings 84 = .ok (.iconst 0, 1) := by decide +kernel
theorem dX8_findBendings_85 : decode cX8_findBendings 85 = .ok (.iload 5, 2) := by decide +kernel
theorem dX8_findBendings_87 : decode cX8_findBendings 87 = .ok (.iconst 2, 1) := by decide +kernel
theorem dX8_findBendings_88 : decode cX8_findBendings 88 = .ok (.idiv, 1) := by decide +kernel
theorem dX8_findBendings_89 : decode cX8_findBendings 89 = .ok (.iastore, 1) := by decide +kernel
theorem dX8_findBendings_90 : decode cX8_findBendings 90 = .ok (.aload_n 0, 1) := by decide +kernel
theorem dX8_findBendings_91 : decode cX8_findBendings 91 = .ok (.getfield 40, 3) := by decide +kernel
theorem dX8_findBendings_94 : decode cX8_findBendings 94 = .ok (.iconst 1, 1) := by decide +kernel
theorem dX8_findBendings_95 : decode cX8_findBendings 95 = .ok (.iload 5, 2) := by decide +kernel
theorem dX8_findBendings_97 : decode cX8_findBendings 97 = .ok (.iconst 2, 1) := by decide +kernel
theorem dX8_findBendings_98 : decode cX8_findBendings 98 = .ok (.irem, 1) := by decide +kernel
theorem dX8_findBendings_99 : decode cX8_findBendings 99 = .ok (.iastore, 1) := by decide +kernel
theorem dX8_findBendings_100 : decode cX8_findBendings 100 = .ok (.aload_n 0, 1) := by decide +kernel
theorem dX8_findBendings_101 : decode cX8_findBendings 101 = .ok (.getfield 40, 3) := by decide +kernel
theorem dX8_findBendings_104 : decode cX8_findBendings 104 = .ok (.iconst 2, 1) := by decide +kernel
theorem dX8_findBendings_105 : decode cX8_findBendings 105 = .ok (.iload 6, 2) := by decide +kernel
theorem dX8_findBendings_107 : decode cX8_findBendings 107 = .ok (.iastore, 1) := by decide +kernel
theorem dX8_findBendings_108 : decode cX8_findBendings 108 = .ok (.aload_n 0, 1) := by decide +kernel
theorem dX8_findBendings_109 : decode cX8_findBendings 109 = .ok (.getfield 40, 3) := by decide +kernel
theorem dX8_findBendings_112 : decode cX8_findBendings 112 = .ok (.iconst 3, 1) := by decide +kernel
theorem dX8_findBendings_113 : decode cX8_findBendings 113 = .ok (.iload 7, 2) := by decide +kernel
theorem dX8_findBendings_115 : decode cX8_findBendings 115 = .ok (.iastore, 1) := by decide +kernel
theorem dX8_findBendings_116 : decode cX8_findBendings 116 = .ok (.aload_n 0, 1) := by decide +kernel
theorem dX8_findBendings_117 : decode cX8_findBendings 117 = .ok (.getfield 40, 3) := by decide +kernel
theorem dX8_findBendings_120 : decode cX8_findBendings 120 = .ok (.iconst 4, 1) := by decide +kernel
theorem dX8_findBendings_121 : decode cX8_findBendings 121 = .ok (.iload 8, 2) := by decide +kernel
theorem dX8_findBendings_123 : decode cX8_findBendings 123 = .ok (.iastore, 1) := by decide +kernel
theorem dX8_findBendings_124 : decode cX8_findBendings 124 = .ok (.aload_n 0, 1) := by decide +kernel
theorem dX8_findBendings_125 : decode cX8_findBendings 125 = .ok (.dup, 1) := by decide +kernel
theorem dX8_findBendings_126 : decode cX8_findBendings 126 = .ok (.getfield 231, 3) := by decide +kernel
theorem dX8_findBendings_129 : decode cX8_findBendings 129 = .ok (.iconst 1, 1) := by decide +kernel
theorem dX8_findBendings_130 : decode cX8_findBendings 130 = .ok (.iadd, 1) := by decide +kernel
theorem dX8_findBendings_131 : decode cX8_findBendings 131 = .ok (.putfield 231, 3) := by decide +kernel
theorem dX8_findBendings_134 : decode cX8_findBendings 134 = .ok (.iload 4, 2) := by decide +kernel
theorem dX8_findBendings_136 : decode cX8_findBendings 136 = .ok (.ifCond .eq 4, 3) := by decide +kernel
theorem dX8_findBendings_139 : decode cX8_findBendings 139 = .ok (.return_, 1) := by decide +kernel
theorem dX8_findBendings_140 : decode cX8_findBendings 140 = .ok (.iinc 8 1, 3) := by decide +kernel
theorem dX8_findBendings_143 : decode cX8_findBendings 143 = .ok (.goto (-108), 3) := by decide +kernel
theorem dX8_findBendings_146 : decode cX8_findBendings 146 = .ok (.iinc 7 1, 3) := by decide +kernel
theorem dX8_findBendings_149 : decode cX8_findBendings 149 = .ok (.goto (-123), 3) := by decide +kernel
theorem dX8_findBendings_152 : decode cX8_findBendings 152 = .ok (.iinc 6 1, 3) := by decide +kernel
theorem dX8_findBendings_155 : decode cX8_findBendings 155 = .ok (.goto (-138), 3) := by decide +kernel
theorem dX8_findBendings_158 : decode cX8_findBendings 158 = .ok (.iinc 5 1, 3) := by decide +kernel
theorem dX8_findBendings_161 : decode cX8_findBendings 161 = .ok (.goto (-153), 3) := by decide +kernel
theorem dX8_findBendings_164 : decode cX8_findBendings 164 = .ok (.return_, 1) := by decide +kernel
theorem dX8_bends_0 : decode cX8_bends 0 = .ok (.aload_n 0, 1) := by decide +kernel
theorem dX8_bends_1 : decode cX8_bends 1 = .ok (.iload_n 1, 1) := by decide +kernel
theorem dX8_bends_2 : decode cX8_bends 2 = .ok (.iload_n 2, 1) := by decide +kernel
theorem dX8_bends_3 : decode cX8_bends 3 = .ok (.iload_n 3, 1) := by decide +kernel
theorem dX8_bends_4 : decode cX8_bends 4 = .ok (.iconst 1, 1) := by decide +kernel
theorem dX8_bends_5 : decode cX8_bends 5 = .ok (.invokevirtual 238, 3) := by decide +kernel
theorem dX8_bends_8 : decode cX8_bends 8 = .ok (.aload_n 0, 1) := by decide +kernel
theorem dX8_bends_9 : decode cX8_bends 9 = .ok (.getfield 231, 3) := by decide +kernel
theorem dX8_bends_12 : decode cX8_bends 12 = .ok (.ifCond .le 7, 3) := by decide +kernel
theorem dX8_bends_15 : decode cX8_bends 15 = .ok (.iconst 1, 1) := by decide +kernel
theorem dX8_bends_16 : decode cX8_bends 16 = .ok (.goto 4, 3) := by decide +kernel
theorem dX8_bends_19 : decode cX8_bends 19 = .ok (.iconst 0, 1) := by decide +kernel
theorem dX8_bends_20 : decode cX8_bends 20 = .ok (.ireturn, 1) := by decide +kernel
theorem dX8_isFactor_0 : decode cX8_isFactor 0 = .ok (.iload_n 0, 1) := by decide +kernel
theorem dX8_isFactor_1 : decode cX8_isFactor 1 = .ok (.iconst 1, 1) := by decide +kernel
theorem dX8_isFactor_2 : decode cX8_isFactor 2 = .ok (.iconst 5, 1) := by decide +kernel
theorem dX8_isFactor_3 : decode cX8_isFactor 3 = .ok (.invokestatic 68, 3) := by decide +kernel
theorem dX8_isFactor_6 : decode cX8_isFactor 6 = .ok (.ireturn, 1) := by decide +kernel
theorem dX8_bent_0 : decode cX8_bent 0 = .ok (.aload_n 0, 1) := by decide +kernel
theorem dX8_bent_1 : decode cX8_bent 1 = .ok (.iload_n 1, 1) := by decide +kernel
theorem dX8_bent_2 : decode cX8_bent 2 = .ok (.iload_n 2, 1) := by decide +kernel
theorem dX8_bent_3 : decode cX8_bent 3 = .ok (.invokevirtual 225, 3) := by decide +kernel
theorem dX8_bent_6 : decode cX8_bent 6 = .ok (.ifCond .eq 20, 3) := by decide +kernel
theorem dX8_bent_9 : decode cX8_bent 9 = .ok (.iload_n 3, 1) := by decide +kernel
theorem dX8_bent_10 : decode cX8_bent 10 = .ok (.invokestatic 242, 3) := by decide +kernel
theorem dX8_bent_13 : decode cX8_bent 13 = .ok (.ifCond .eq 13, 3) := by decide +kernel
theorem dX8_bent_16 : decode cX8_bent 16 = .ok (.iload 4, 2) := by decide +kernel
theorem dX8_bent_18 : decode cX8_bent 18 = .ok (.iconst 0, 1) := by decide +kernel
theorem dX8_bent_19 : decode cX8_bent 19 = .ok (.iconst 5, 1) := by decide +kernel
theorem dX8_bent_20 : decode cX8_bent 20 = .ok (.invokestatic 68, 3) := by decide +kernel
theorem dX8_bent_23 : decode cX8_bent 23 = .ok (.ifCond .ne 10, 3) := by decide +kernel
theorem dX8_bent_26 : decode cX8_bent 26 = .ok (.aload_n 0, 1) := by decide +kernel
theorem dX8_bent_27 : decode cX8_bent 27 = .ok (.ldc 76, 2) := by decide +kernel
theorem dX8_bent_29 : decode cX8_bent 29 = .ok (.invokevirtual 77, 3) := by decide +kernel
theorem dX8_bent_32 : decode cX8_bent 32 = .ok (.ireturn, 1) := by decide +kernel
theorem dX8_bent_33 : decode cX8_bent 33 = .ok (.aload_n 0, 1) := by decide +kernel
theorem dX8_bent_34 : decode cX8_bent 34 = .ok (.iload_n 1, 1) := by decide +kernel
theorem dX8_bent_35 : decode cX8_bent 35 = .ok (.iload_n 2, 1) := by decide +kernel
theorem dX8_bent_36 : decode cX8_bent 36 = .ok (.iload_n 3, 1) := by decide +kernel
theorem dX8_bent_37 : decode cX8_bent 37 = .ok (.iload 4, 2) := by decide +kernel
theorem dX8_bent_39 : decode cX8_bent 39 = .ok (.ifCond .le 7, 3) := by decide +kernel
theorem dX8_bent_42 : decode cX8_bent 42 = .ok (.iconst 1, 1) := by decide +kernel
theorem dX8_bent_43 : decode cX8_bent 43 = .ok (.goto 4, 3) := by decide +kernel
theorem dX8_bent_46 : decode cX8_bent 46 = .ok (.iconst 0, 1) := by decide +kernel
theorem dX8_bent_47 : decode cX8_bent 47 = .ok (.invokevirtual 238, 3) := by decide +kernel
theorem dX8_bent_50 : decode cX8_bent 50 = .ok (.iload 4, 2) := by decide +kernel
theorem dX8_bent_52 : decode cX8_bent 52 = .ok (.ifCond .ne 8, 3) := by decide +kernel
theorem dX8_bent_55 : decode cX8_bent 55 = .ok (.aload_n 0, 1) := by decide +kernel
theorem dX8_bent_56 : decode cX8_bent 56 = .ok (.getfield 231, 3) := by decide +kernel
theorem dX8_bent_59 : decode cX8_bent 59 = .ok (.ireturn, 1) := by decide +kernel
theorem dX8_bent_60 : decode cX8_bent 60 = .ok (.aload_n 0, 1) := by decide +kernel
theorem dX8_bent_61 : decode cX8_bent 61 = .ok (.getfield 231, 3) := by decide +kernel
theorem dX8_bent_64 : decode cX8_bent 64 = .ok (.ifCond .ne 12, 3) := by decide +kernel
theorem dX8_bent_67 : decode cX8_bent 67 = .ok (.aload_n 0, 1) := by decide +kernel
theorem dX8_bent_68 : decode cX8_bent 68 = .ok (.ldc 113, 2) := by decide +kernel
theorem dX8_bent_70 : decode cX8_bent 70 = .ok (.invokevirtual 77, 3) := by decide +kernel
theorem dX8_bent_73 : decode cX8_bent 73 = .ok (.goto 12, 3) := by decide +kernel
theorem dX8_bent_76 : decode cX8_bent 76 = .ok (.aload_n 0, 1) := by decide +kernel
theorem dX8_bent_77 : decode cX8_bent 77 = .ok (.getfield 40, 3) := by decide +kernel
theorem dX8_bent_80 : decode cX8_bent 80 = .ok (.iload 4, 2) := by decide +kernel
theorem dX8_bent_82 : decode cX8_bent 82 = .ok (.iconst 1, 1) := by decide +kernel
theorem dX8_bent_83 : decode cX8_bent 83 = .ok (.isub, 1) := by decide +kernel
theorem dX8_bent_84 : decode cX8_bent 84 = .ok (.iaload, 1) := by decide +kernel
theorem dX8_bent_85 : decode cX8_bent 85 = .ok (.ireturn, 1) := by decide +kernel
theorem dX8_pairs_0 : decode cX8_pairs 0 = .ok (.iload_n 1, 1) := by decide +kernel
theorem dX8_pairs_1 : decode cX8_pairs 1 = .ok (.invokestatic 242, 3) := by decide +kernel
theorem dX8_pairs_4 : decode cX8_pairs 4 = .ok (.ifCond .ne 10, 3) := by decide +kernel
theorem dX8_pairs_7 : decode cX8_pairs 7 = .ok (.aload_n 0, 1) := by decide +kernel
theorem dX8_pairs_8 : decode cX8_pairs 8 = .ok (.ldc 76, 2) := by decide +kernel
theorem dX8_pairs_10 : decode cX8_pairs 10 = .ok (.invokevirtual 77, 3) := by decide +kernel
theorem dX8_pairs_13 : decode cX8_pairs 13 = .ok (.ireturn, 1) := by decide +kernel
theorem dX8_pairs_14 : decode cX8_pairs 14 = .ok (.iconst 0, 1) := by decide +kernel
theorem dX8_pairs_15 : decode cX8_pairs 15 = .ok (.istore_n 2, 1) := by decide +kernel
theorem dX8_pairs_16 : decode cX8_pairs 16 = .ok (.iconst 0, 1) := by decide +kernel
theorem dX8_pairs_17 : decode cX8_pairs 17 = .ok (.istore_n 3, 1) := by decide +kernel
theorem dX8_pairs_18 : decode cX8_pairs 18 = .ok (.iload_n 3, 1) := by decide +kernel
theorem dX8_pairs_19 : decode cX8_pairs 19 = .ok (.aload_n 0, 1) := by decide +kernel
theorem dX8_pairs_20 : decode cX8_pairs 20 = .ok (.getfield 9, 3) := by decide +kernel
theorem dX8_pairs_23 : decode cX8_pairs 23 = .ok (.iconst 1, 1) := by decide +kernel
theorem dX8_pairs_24 : decode cX8_pairs 24 = .ok (.iaload, 1) := by decide +kernel
theorem dX8_pairs_25 : decode cX8_pairs 25 = .ok (.if_icmp .ge 54, 3) := by decide +kernel
theorem dX8_pairs_28 : decode cX8_pairs 28 = .ok (.iconst 0, 1) := by decide +kernel
theorem dX8_pairs_29 : decode cX8_pairs 29 = .ok (.istore 4, 2) := by decide +kernel
theorem dX8_pairs_31 : decode cX8_pairs 31 = .ok (.iload 4, 2) := by decide +kernel
theorem dX8_pairs_33 : decode cX8_pairs 33 = .ok (.aload_n 0, 1) := by decide +kernel
theorem dX8_pairs_34 : decode cX8_pairs 34 = .ok (.getfield 9, 3) := by decide +kernel
theorem dX8_pairs_37 : decode cX8_pairs 37 = .ok (.iconst 1, 1) := by decide +kernel
theorem dX8_pairs_38 : decode cX8_pairs 38 = .ok (.iaload, 1) := by decide +kernel
theorem dX8_pairs_39 : decode cX8_pairs 39 = .ok (.if_icmp .ge 34, 3) := by decide +kernel
theorem dX8_pairs_42 : decode cX8_pairs 42 = .ok (.iload_n 2, 1) := by decide +kernel
theorem dX8_pairs_43 : decode cX8_pairs 43 = .ok (.iload_n 3, 1) := by decide +kernel
theorem dX8_pairs_44 : decode cX8_pairs 44 = .ok (.iload 4, 2) := by decide +kernel
theorem dX8_pairs_46 : decode cX8_pairs 46 = .ok (.if_icmp .eq 18, 3) := by decide +kernel
theorem dX8_pairs_49 : decode cX8_pairs 49 = .ok (.aload_n 0, 1) := by decide +kernel
theorem dX8_pairs_50 : decode cX8_pairs 50 = .ok (.iload_n 3, 1) := by decide +kernel
theorem dX8_pairs_51 : decode cX8_pairs 51 = .ok (.iload 4, 2) := by decide +kernel
theorem dX8_pairs_53 : decode cX8_pairs 53 = .ok (.iload_n 1, 1) := by decide +kernel
theorem dX8_pairs_54 : decode cX8_pairs 54 = .ok (.invokevirtual 245, 3) := by decide +kernel
theorem dX8_pairs_57 : decode cX8_pairs 57 = .ok (.ifCond .eq 7, 3) := by decide +kernel
theorem dX8_pairs_60 : decode cX8_pairs 60 = .ok (.iconst 1, 1) := by decide +kernel
theorem dX8_pairs_61 : decode cX8_pairs 61 = .ok (.goto 4, 3) := by decide +kernel
theorem dX8_pairs_64 : decode cX8_pairs 64 = .ok (.iconst 0, 1) := by decide +kernel
theorem dX8_pairs_65 : decode cX8_pairs 65 = .ok (.iadd, 1) := by decide +kernel
theorem dX8_pairs_66 : decode cX8_pairs 66 = .ok (.istore_n 2, 1) := by decide +kernel
theorem dX8_pairs_67 : decode cX8_pairs 67 = .ok (.iinc 4 1, 3) := by decide +kernel
theorem dX8_pairs_70 : decode cX8_pairs 70 = .ok (.goto (-39), 3) := by decide +kernel
theorem dX8_pairs_73 : decode cX8_pairs 73 = .ok (.iinc 3 1, 3) := by decide +kernel
theorem dX8_pairs_76 : decode cX8_pairs 76 = .ok (.goto (-58), 3) := by decide +kernel
theorem dX8_pairs_79 : decode cX8_pairs 79 = .ok (.iload_n 2, 1) := by decide +kernel
theorem dX8_pairs_80 : decode cX8_pairs 80 = .ok (.ireturn, 1) := by decide +kernel
theorem dX8_prints_0 : decode cX8_prints 0 = .ok (.aload_n 0, 1) := by decide +kernel
theorem dX8_prints_1 : decode cX8_prints 1 = .ok (.iload_n 1, 1) := by decide +kernel
theorem dX8_prints_2 : decode cX8_prints 2 = .ok (.iload_n 2, 1) := by decide +kernel
theorem dX8_prints_3 : decode cX8_prints 3 = .ok (.invokevirtual 225, 3) := by decide +kernel
theorem dX8_prints_6 : decode cX8_prints 6 = .ok (.ifCond .eq 14, 3) := by decide +kernel
theorem dX8_prints_9 : decode cX8_prints 9 = .ok (.iload_n 3, 1) := by decide +kernel
theorem dX8_prints_10 : decode cX8_prints 10 = .ok (.iconst 1, 1) := by decide +kernel
theorem dX8_prints_11 : decode cX8_prints 11 = .ok (.sipush 9999, 3) := by decide +kernel
theorem dX8_prints_14 : decode cX8_prints 14 = .ok (.invokestatic 68, 3) := by decide +kernel
theorem dX8_prints_17 : decode cX8_prints 17 = .ok (.ifCond .ne 10, 3) := by decide +kernel
theorem dX8_prints_20 : decode cX8_prints 20 = .ok (.aload_n 0, 1) := by decide +kernel
theorem dX8_prints_21 : decode cX8_prints 21 = .ok (.ldc 76, 2) := by decide +kernel
theorem dX8_prints_23 : decode cX8_prints 23 = .ok (.invokevirtual 77, 3) := by decide +kernel
theorem dX8_prints_26 : decode cX8_prints 26 = .ok (.ireturn, 1) := by decide +kernel
theorem dX8_prints_27 : decode cX8_prints 27 = .ok (.iconst 0, 1) := by decide +kernel
theorem dX8_prints_28 : decode cX8_prints 28 = .ok (.istore 4, 2) := by decide +kernel
theorem dX8_prints_30 : decode cX8_prints 30 = .ok (.iconst 0, 1) := by decide +kernel
theorem dX8_prints_31 : decode cX8_prints 31 = .ok (.istore 5, 2) := by decide +kernel
theorem dX8_prints_33 : decode cX8_prints 33 = .ok (.iload 5, 2) := by decide +kernel
theorem dX8_prints_35 : decode cX8_prints 35 = .ok (.aload_n 0, 1) := by decide +kernel
theorem dX8_prints_36 : decode cX8_prints 36 = .ok (.iload_n 1, 1) := by decide +kernel
theorem dX8_prints_37 : decode cX8_prints 37 = .ok (.invokevirtual 134, 3) := by decide +kernel
theorem dX8_prints_40 : decode cX8_prints 40 = .ok (.if_icmp .ge 54, 3) := by decide +kernel
theorem dX8_prints_43 : decode cX8_prints 43 = .ok (.iload 5, 2) := by decide +kernel
theorem dX8_prints_45 : decode cX8_prints 45 = .ok (.aload_n 0, 1) := by decide +kernel
theorem dX8_prints_46 : decode cX8_prints 46 = .ok (.iload_n 2, 1) := by decide +kernel
theorem dX8_prints_47 : decode cX8_prints 47 = .ok (.invokevirtual 134, 3) := by decide +kernel
theorem dX8_prints_50 : decode cX8_prints 50 = .ok (.if_icmp .ge 44, 3) := by decide +kernel
theorem dX8_prints_53 : decode cX8_prints 53 = .ok (.iload 4, 2) := by decide +kernel
theorem dX8_prints_55 : decode cX8_prints 55 = .ok (.aload_n 0, 1) := by decide +kernel
theorem dX8_prints_56 : decode cX8_prints 56 = .ok (.iload_n 1, 1) := by decide +kernel
theorem dX8_prints_57 : decode cX8_prints 57 = .ok (.iload 5, 2) := by decide +kernel
theorem dX8_prints_59 : decode cX8_prints 59 = .ok (.invokevirtual 140, 3) := by decide +kernel
theorem dX8_prints_62 : decode cX8_prints 62 = .ok (.iload_n 3, 1) := by decide +kernel
theorem dX8_prints_63 : decode cX8_prints 63 = .ok (.invokestatic 248, 3) := by decide +kernel
theorem dX8_prints_66 : decode cX8_prints 66 = .ok (.aload_n 0, 1) := by decide +kernel
theorem dX8_prints_67 : decode cX8_prints 67 = .ok (.iload_n 2, 1) := by decide +kernel
theorem dX8_prints_68 : decode cX8_prints 68 = .ok (.iload 5, 2) := by decide +kernel
theorem dX8_prints_70 : decode cX8_prints 70 = .ok (.invokevirtual 140, 3) := by decide +kernel
theorem dX8_prints_73 : decode cX8_prints 73 = .ok (.iload_n 3, 1) := by decide +kernel
theorem dX8_prints_74 : decode cX8_prints 74 = .ok (.invokestatic 248, 3) := by decide +kernel
theorem dX8_prints_77 : decode cX8_prints 77 = .ok (.if_icmp .eq 7, 3) := by decide +kernel
theorem dX8_prints_80 : decode cX8_prints 80 = .ok (.iconst 1, 1) := by decide +kernel
theorem dX8_prints_81 : decode cX8_prints 81 = .ok (.goto 4, 3) := by decide +kernel
theorem dX8_prints_84 : decode cX8_prints 84 = .ok (.iconst 0, 1) := by decide +kernel
theorem dX8_prints_85 : decode cX8_prints 85 = .ok (.iadd, 1) := by decide +kernel
theorem dX8_prints_86 : decode cX8_prints 86 = .ok (.istore 4, 2) := by decide +kernel
theorem dX8_prints_88 : decode cX8_prints 88 = .ok (.iinc 5 1, 3) := by decide +kernel
theorem dX8_prints_91 : decode cX8_prints 91 = .ok (.goto (-58), 3) := by decide +kernel
theorem dX8_prints_94 : decode cX8_prints 94 = .ok (.iload 4, 2) := by decide +kernel
theorem dX8_prints_96 : decode cX8_prints 96 = .ok (.ireturn, 1) := by decide +kernel
theorem dX8_worked_0 : decode cX8_worked 0 = .ok (.aload_n 0, 1) := by decide +kernel
theorem dX8_worked_1 : decode cX8_worked 1 = .ok (.iload_n 1, 1) := by decide +kernel
theorem dX8_worked_2 : decode cX8_worked 2 = .ok (.iconst 1, 1) := by decide +kernel
theorem dX8_worked_3 : decode cX8_worked 3 = .ok (.invokevirtual 83, 3) := by decide +kernel
theorem dX8_worked_6 : decode cX8_worked 6 = .ok (.ifCond .eq 22, 3) := by decide +kernel
theorem dX8_worked_9 : decode cX8_worked 9 = .ok (.iload_n 2, 1) := by decide +kernel
theorem dX8_worked_10 : decode cX8_worked 10 = .ok (.iconst 0, 1) := by decide +kernel
theorem dX8_worked_11 : decode cX8_worked 11 = .ok (.ldc 115, 2) := by decide +kernel
theorem dX8_worked_13 : decode cX8_worked 13 = .ok (.invokestatic 68, 3) := by decide +kernel
theorem dX8_worked_16 : decode cX8_worked 16 = .ok (.ifCond .eq 12, 3) := by decide +kernel
theorem dX8_worked_19 : decode cX8_worked 19 = .ok (.iload_n 3, 1) := by decide +kernel
theorem dX8_worked_20 : decode cX8_worked 20 = .ok (.iconst 0, 1) := by decide +kernel
theorem dX8_worked_21 : decode cX8_worked 21 = .ok (.iconst 2, 1) := by decide +kernel
theorem dX8_worked_22 : decode cX8_worked 22 = .ok (.invokestatic 68, 3) := by decide +kernel
theorem dX8_worked_25 : decode cX8_worked 25 = .ok (.ifCond .ne 10, 3) := by decide +kernel
theorem dX8_worked_28 : decode cX8_worked 28 = .ok (.aload_n 0, 1) := by decide +kernel
theorem dX8_worked_29 : decode cX8_worked 29 = .ok (.ldc 76, 2) := by decide +kernel
theorem dX8_worked_31 : decode cX8_worked 31 = .ok (.invokevirtual 77, 3) := by decide +kernel
theorem dX8_worked_34 : decode cX8_worked 34 = .ok (.ireturn, 1) := by decide +kernel
theorem dX8_worked_35 : decode cX8_worked 35 = .ok (.iconst 0, 1) := by decide +kernel
theorem dX8_worked_36 : decode cX8_worked 36 = .ok (.istore 4, 2) := by decide +kernel
theorem dX8_worked_38 : decode cX8_worked 38 = .ok (.iconst 0, 1) := by decide +kernel
theorem dX8_worked_39 : decode cX8_worked 39 = .ok (.istore 5, 2) := by decide +kernel
theorem dX8_worked_41 : decode cX8_worked 41 = .ok (.lconst 0, 1) := by decide +kernel
theorem dX8_worked_42 : decode cX8_worked 42 = .ok (.lstore 6, 2) := by decide +kernel
theorem dX8_worked_44 : decode cX8_worked 44 = .ok (.iconst 0, 1) := by decide +kernel
theorem dX8_worked_45 : decode cX8_worked 45 = .ok (.istore 8, 2) := by decide +kernel
theorem dX8_worked_47 : decode cX8_worked 47 = .ok (.iload 8, 2) := by decide +kernel
theorem dX8_worked_49 : decode cX8_worked 49 = .ok (.aload_n 0, 1) := by decide +kernel
theorem dX8_worked_50 : decode cX8_worked 50 = .ok (.iload_n 1, 1) := by decide +kernel
theorem dX8_worked_51 : decode cX8_worked 51 = .ok (.invokevirtual 134, 3) := by decide +kernel
theorem dX8_worked_54 : decode cX8_worked 54 = .ok (.if_icmp .ge 93, 3) := by decide +kernel
theorem dX8_worked_57 : decode cX8_worked 57 = .ok (.aload_n 0, 1) := by decide +kernel
theorem dX8_worked_58 : decode cX8_worked 58 = .ok (.iload_n 1, 1) := by decide +kernel
theorem dX8_worked_59 : decode cX8_worked 59 = .ok (.iload 8, 2) := by decide +kernel
theorem dX8_worked_61 : decode cX8_worked 61 = .ok (.invokevirtual 140, 3) := by decide +kernel
theorem dX8_worked_64 : decode cX8_worked 64 = .ok (.i2l, 1) := by decide +kernel
theorem dX8_worked_65 : decode cX8_worked 65 = .ok (.aload_n 0, 1) := by decide +kernel
theorem dX8_worked_66 : decode cX8_worked 66 = .ok (.iload_n 1, 1) := by decide +kernel
theorem dX8_worked_67 : decode cX8_worked 67 = .ok (.iload 8, 2) := by decide +kernel
theorem dX8_worked_69 : decode cX8_worked 69 = .ok (.invokevirtual 124, 3) := by decide +kernel
theorem dX8_worked_72 : decode cX8_worked 72 = .ok (.i2l, 1) := by decide +kernel
theorem dX8_worked_73 : decode cX8_worked 73 = .ok (.lsub, 1) := by decide +kernel
theorem dX8_worked_74 : decode cX8_worked 74 = .ok (.invokestatic 251, 3) := by decide +kernel
theorem dX8_worked_77 : decode cX8_worked 77 = .ok (.lstore 9, 2) := by decide +kernel
theorem dX8_worked_79 : decode cX8_worked 79 = .ok (.iload 4, 2) := by decide +kernel
theorem dX8_worked_81 : decode cX8_worked 81 = .ok (.lload 9, 2) := by decide +kernel
theorem dX8_worked_83 : decode cX8_worked 83 = .ok (.iload_n 2, 1) := by decide +kernel
theorem dX8_worked_84 : decode cX8_worked 84 = .ok (.i2l, 1) := by decide +kernel
theorem dX8_worked_85 : decode cX8_worked 85 = .ok (.lcmp, 1) := by decide +kernel
theorem dX8_worked_86 : decode cX8_worked 86 = .ok (.ifCond .gt 7, 3) := by decide +kernel
theorem dX8_worked_89 : decode cX8_worked 89 = .ok (.iconst 1, 1) := by decide +kernel
theorem dX8_worked_90 : decode cX8_worked 90 = .ok (.goto 4, 3) := by decide +kernel
theorem dX8_worked_93 : decode cX8_worked 93 = .ok (.iconst 0, 1) := by decide +kernel
theorem dX8_worked_94 : decode cX8_worked 94 = .ok (.iadd, 1) := by decide +kernel
theorem dX8_worked_95 : decode cX8_worked 95 = .ok (.istore 4, 2) := by decide +kernel
theorem dX8_worked_97 : decode cX8_worked 97 = .ok (.iload 5, 2) := by decide +kernel
theorem dX8_worked_99 : decode cX8_worked 99 = .ok (.lload 9, 2) := by decide +kernel
theorem dX8_worked_101 : decode cX8_worked 101 = .ok (.aload_n 0, 1) := by decide +kernel
theorem dX8_worked_102 : decode cX8_worked 102 = .ok (.getfield 9, 3) := by decide +kernel
theorem dX8_worked_105 : decode cX8_worked 105 = .ok (.bipush 10, 2) := by decide +kernel
theorem dX8_worked_107 : decode cX8_worked 107 = .ok (.iconst 3, 1) := by decide +kernel
theorem dX8_worked_108 : decode cX8_worked 108 = .ok (.aload_n 0, 1) := by decide +kernel
theorem dX8_worked_109 : decode cX8_worked 109 = .ok (.iload_n 1, 1) := by decide +kernel
theorem dX8_worked_110 : decode cX8_worked 110 = .ok (.iconst 2, 1) := by decide +kernel
theorem dX8_worked_111 : decode cX8_worked 111 = .ok (.invokevirtual 87, 3) := by decide +kernel
theorem dX8_worked_114 : decode cX8_worked 114 = .ok (.imul, 1) := by decide +kernel
theorem dX8_worked_115 : decode cX8_worked 115 = .ok (.iadd, 1) := by decide +kernel
theorem dX8_worked_116 : decode cX8_worked 116 = .ok (.iaload, 1) := by decide +kernel
theorem dX8_worked_117 : decode cX8_worked 117 = .ok (.i2l, 1) := by decide +kernel
theorem dX8_worked_118 : decode cX8_worked 118 = .ok (.lrem, 1) := by decide +kernel
theorem dX8_worked_119 : decode cX8_worked 119 = .ok (.lconst 0, 1) := by decide +kernel
theorem dX8_worked_120 : decode cX8_worked 120 = .ok (.lcmp, 1) := by decide +kernel
theorem dX8_worked_121 : decode cX8_worked 121 = .ok (.ifCond .eq 7, 3) := by decide +kernel
theorem dX8_worked_124 : decode cX8_worked 124 = .ok (.iconst 1, 1) := by decide +kernel
theorem dX8_worked_125 : decode cX8_worked 125 = .ok (.goto 4, 3) := by decide +kernel
theorem dX8_worked_128 : decode cX8_worked 128 = .ok (.iconst 0, 1) := by decide +kernel
theorem dX8_worked_129 : decode cX8_worked 129 = .ok (.iadd, 1) := by decide +kernel
theorem dX8_worked_130 : decode cX8_worked 130 = .ok (.istore 5, 2) := by decide +kernel
theorem dX8_worked_132 : decode cX8_worked 132 = .ok (.lload 6, 2) := by decide +kernel
theorem dX8_worked_134 : decode cX8_worked 134 = .ok (.lload 9, 2) := by decide +kernel
theorem dX8_worked_136 : decode cX8_worked 136 = .ok (.invokestatic 103, 3) := by decide +kernel
theorem dX8_worked_139 : decode cX8_worked 139 = .ok (.lstore 6, 2) := by decide +kernel
theorem dX8_worked_141 : decode cX8_worked 141 = .ok (.iinc 8 1, 3) := by decide +kernel
theorem dX8_worked_144 : decode cX8_worked 144 = .ok (.goto (-97), 3) := by decide +kernel
theorem dX8_worked_147 : decode cX8_worked 147 = .ok (.iload_n 3, 1) := by decide +kernel
theorem dX8_worked_148 : decode cX8_worked 148 = .ok (.ifCond .ne 8, 3) := by decide +kernel
theorem dX8_worked_151 : decode cX8_worked 151 = .ok (.iload 4, 2) := by decide +kernel
theorem dX8_worked_153 : decode cX8_worked 153 = .ok (.goto 22, 3) := by decide +kernel
theorem dX8_worked_156 : decode cX8_worked 156 = .ok (.iload_n 3, 1) := by decide +kernel
theorem dX8_worked_157 : decode cX8_worked 157 = .ok (.iconst 1, 1) := by decide +kernel
theorem dX8_worked_158 : decode cX8_worked 158 = .ok (.if_icmp .ne 15, 3) := by decide +kernel
theorem dX8_worked_161 : decode cX8_worked 161 = .ok (.ldc2_w 255, 3) := by decide +kernel
theorem dX8_worked_164 : decode cX8_worked 164 = .ok (.lload 6, 2) := by decide +kernel
theorem dX8_worked_166 : decode cX8_worked 166 = .ok (.invokestatic 97, 3) := by decide +kernel
theorem dX8_worked_169 : decode cX8_worked 169 = .ok (.l2i, 1) := by decide +kernel
theorem dX8_worked_170 : decode cX8_worked 170 = .ok (.goto 5, 3) := by decide +kernel
theorem dX8_worked_173 : decode cX8_worked 173 = .ok (.iload 5, 2) := by decide +kernel
theorem dX8_worked_175 : decode cX8_worked 175 = .ok (.ireturn, 1) := by decide +kernel
theorem dX8_signOf_0 : decode cX8_signOf 0 = .ok (.aload_n 0, 1) := by decide +kernel
theorem dX8_signOf_1 : decode cX8_signOf 1 = .ok (.iload_n 1, 1) := by decide +kernel
theorem dX8_signOf_2 : decode cX8_signOf 2 = .ok (.iconst 2, 1) := by decide +kernel
theorem dX8_signOf_3 : decode cX8_signOf 3 = .ok (.invokevirtual 87, 3) := by decide +kernel
theorem dX8_signOf_6 : decode cX8_signOf 6 = .ok (.istore_n 2, 1) := by decide +kernel
theorem dX8_signOf_7 : decode cX8_signOf 7 = .ok (.aload_n 0, 1) := by decide +kernel
theorem dX8_signOf_8 : decode cX8_signOf 8 = .ok (.iconst 1, 1) := by decide +kernel
theorem dX8_signOf_9 : decode cX8_signOf 9 = .ok (.iload_n 2, 1) := by decide +kernel
theorem dX8_signOf_10 : decode cX8_signOf 10 = .ok (.aload_n 0, 1) := by decide +kernel
theorem dX8_signOf_11 : decode cX8_signOf 11 = .ok (.iload_n 1, 1) := by decide +kernel
theorem dX8_signOf_12 : decode cX8_signOf 12 = .ok (.invokevirtual 222, 3) := by decide +kernel
theorem dX8_signOf_15 : decode cX8_signOf 15 = .ok (.iconst 0, 1) := by decide +kernel
theorem dX8_signOf_16 : decode cX8_signOf 16 = .ok (.invokevirtual 218, 3) := by decide +kernel
theorem dX8_signOf_19 : decode cX8_signOf 19 = .ok (.ifCond .ne 5, 3) := by decide +kernel
theorem dX8_signOf_22 : decode cX8_signOf 22 = .ok (.iconst 0, 1) := by decide +kernel
theorem dX8_signOf_23 : decode cX8_signOf 23 = .ok (.ireturn, 1) := by decide +kernel
theorem dX8_signOf_24 : decode cX8_signOf 24 = .ok (.aload_n 0, 1) := by decide +kernel
theorem dX8_signOf_25 : decode cX8_signOf 25 = .ok (.getfield 9, 3) := by decide +kernel
theorem dX8_signOf_28 : decode cX8_signOf 28 = .ok (.bipush 10, 2) := by decide +kernel
theorem dX8_signOf_30 : decode cX8_signOf 30 = .ok (.iconst 3, 1) := by decide +kernel
theorem dX8_signOf_31 : decode cX8_signOf 31 = .ok (.iload_n 2, 1) := by decide +kernel
theorem dX8_signOf_32 : decode cX8_signOf 32 = .ok (.imul, 1) := by decide +kernel
theorem dX8_signOf_33 : decode cX8_signOf 33 = .ok (.iadd, 1) := by decide +kernel
theorem dX8_signOf_34 : decode cX8_signOf 34 = .ok (.iconst 2, 1) := by decide +kernel
theorem dX8_signOf_35 : decode cX8_signOf 35 = .ok (.iadd, 1) := by decide +kernel
theorem dX8_signOf_36 : decode cX8_signOf 36 = .ok (.iaload, 1) := by decide +kernel
theorem dX8_signOf_37 : decode cX8_signOf 37 = .ok (.istore_n 3, 1) := by decide +kernel
theorem dX8_signOf_38 : decode cX8_signOf 38 = .ok (.iconst 0, 1) := by decide +kernel
theorem dX8_signOf_39 : decode cX8_signOf 39 = .ok (.istore 4, 2) := by decide +kernel
theorem dX8_signOf_41 : decode cX8_signOf 41 = .ok (.iconst 1, 1) := by decide +kernel
theorem dX8_signOf_42 : decode cX8_signOf 42 = .ok (.istore 5, 2) := by decide +kernel
theorem dX8_signOf_44 : decode cX8_signOf 44 = .ok (.iload 5, 2) := by decide +kernel
theorem dX8_signOf_46 : decode cX8_signOf 46 = .ok (.aload_n 0, 1) := by decide +kernel
theorem dX8_signOf_47 : decode cX8_signOf 47 = .ok (.iload_n 1, 1) := by decide +kernel
theorem dX8_signOf_48 : decode cX8_signOf 48 = .ok (.invokevirtual 134, 3) := by decide +kernel
theorem dX8_signOf_51 : decode cX8_signOf 51 = .ok (.iconst 1, 1) := by decide +kernel
theorem dX8_signOf_52 : decode cX8_signOf 52 = .ok (.isub, 1) := by decide +kernel
theorem dX8_signOf_53 : decode cX8_signOf 53 = .ok (.if_icmp .ge 44, 3) := by decide +kernel
theorem dX8_signOf_56 : decode cX8_signOf 56 = .ok (.iload 4, 2) := by decide +kernel
theorem dX8_signOf_58 : decode cX8_signOf 58 = .ok (.ifCond .ne 26, 3) := by decide +kernel
theorem dX8_signOf_61 : decode cX8_signOf 61 = .ok (.aload_n 0, 1) := by decide +kernel
theorem dX8_signOf_62 : decode cX8_signOf 62 = .ok (.iload_n 1, 1) := by decide +kernel
theorem dX8_signOf_63 : decode cX8_signOf 63 = .ok (.iload 5, 2) := by decide +kernel
theorem dX8_signOf_65 : decode cX8_signOf 65 = .ok (.invokevirtual 147, 3) := by decide +kernel
theorem dX8_signOf_68 : decode cX8_signOf 68 = .ok (.iload_n 3, 1) := by decide +kernel
theorem dX8_signOf_69 : decode cX8_signOf 69 = .ok (.if_icmp .gt 15, 3) := by decide +kernel
theorem dX8_signOf_72 : decode cX8_signOf 72 = .ok (.aload_n 0, 1) := by decide +kernel
theorem dX8_signOf_73 : decode cX8_signOf 73 = .ok (.iload_n 1, 1) := by decide +kernel
theorem dX8_signOf_74 : decode cX8_signOf 74 = .ok (.iload 5, 2) := by decide +kernel
theorem dX8_signOf_76 : decode cX8_signOf 76 = .ok (.invokevirtual 147, 3) := by decide +kernel
theorem dX8_signOf_79 : decode cX8_signOf 79 = .ok (.iload_n 3, 1) := by decide +kernel
theorem dX8_signOf_80 : decode cX8_signOf 80 = .ok (.ineg, 1) := by decide +kernel
theorem dX8_signOf_81 : decode cX8_signOf 81 = .ok (.if_icmp .ge 7, 3) := by decide +kernel
theorem dX8_signOf_84 : decode cX8_signOf 84 = .ok (.iconst 1, 1) := by decide +kernel
theorem dX8_signOf_85 : decode cX8_signOf 85 = .ok (.goto 4, 3) := by decide +kernel
theorem dX8_signOf_88 : decode cX8_signOf 88 = .ok (.iconst 0, 1) := by decide +kernel
theorem dX8_signOf_89 : decode cX8_signOf 89 = .ok (.istore 4, 2) := by decide +kernel
theorem dX8_signOf_91 : decode cX8_signOf 91 = .ok (.iinc 5 1, 3) := by decide +kernel
theorem dX8_signOf_94 : decode cX8_signOf 94 = .ok (.goto (-50), 3) := by decide +kernel
theorem dX8_signOf_97 : decode cX8_signOf 97 = .ok (.iload 4, 2) := by decide +kernel
theorem dX8_signOf_99 : decode cX8_signOf 99 = .ok (.ifCond .eq 7, 3) := by decide +kernel
theorem dX8_signOf_102 : decode cX8_signOf 102 = .ok (.iconst 1, 1) := by decide +kernel
theorem dX8_signOf_103 : decode cX8_signOf 103 = .ok (.goto 4, 3) := by decide +kernel
theorem dX8_signOf_106 : decode cX8_signOf 106 = .ok (.iconst 2, 1) := by decide +kernel
theorem dX8_signOf_107 : decode cX8_signOf 107 = .ok (.ireturn, 1) := by decide +kernel
theorem dX8_sign_0 : decode cX8_sign 0 = .ok (.aload_n 0, 1) := by decide +kernel
theorem dX8_sign_1 : decode cX8_sign 1 = .ok (.iload_n 1, 1) := by decide +kernel
theorem dX8_sign_2 : decode cX8_sign 2 = .ok (.iconst 1, 1) := by decide +kernel
theorem dX8_sign_3 : decode cX8_sign 3 = .ok (.invokevirtual 83, 3) := by decide +kernel
theorem dX8_sign_6 : decode cX8_sign 6 = .ok (.ifCond .eq 11, 3) := by decide +kernel
theorem dX8_sign_9 : decode cX8_sign 9 = .ok (.aload_n 0, 1) := by decide +kernel
theorem dX8_sign_10 : decode cX8_sign 10 = .ok (.iload_n 1, 1) := by decide +kernel
theorem dX8_sign_11 : decode cX8_sign 11 = .ok (.invokevirtual 257, 3) := by decide +kernel
theorem dX8_sign_14 : decode cX8_sign 14 = .ok (.goto 9, 3) := by decide +kernel
theorem dX8_sign_17 : decode cX8_sign 17 = .ok (.aload_n 0, 1) := by decide +kernel
theorem dX8_sign_18 : decode cX8_sign 18 = .ok (.ldc 76, 2) := by decide +kernel
theorem dX8_sign_20 : decode cX8_sign 20 = .ok (.invokevirtual 77, 3) := by decide +kernel
theorem dX8_sign_23 : decode cX8_sign 23 = .ok (.ireturn, 1) := by decide +kernel
theorem dX8_unsigned_0 : decode cX8_unsigned 0 = .ok (.iconst 0, 1) := by decide +kernel
theorem dX8_unsigned_1 : decode cX8_unsigned 1 = .ok (.istore_n 1, 1) := by decide +kernel
theorem dX8_unsigned_2 : decode cX8_unsigned 2 = .ok (.iconst 0, 1) := by decide +kernel
theorem dX8_unsigned_3 : decode cX8_unsigned 3 = .ok (.istore_n 2, 1) := by decide +kernel
theorem dX8_unsigned_4 : decode cX8_unsigned 4 = .ok (.iload_n 2, 1) := by decide +kernel
theorem dX8_unsigned_5 : decode cX8_unsigned 5 = .ok (.aload_n 0, 1) := by decide +kernel
theorem dX8_unsigned_6 : decode cX8_unsigned 6 = .ok (.getfield 9, 3) := by decide +kernel
theorem dX8_unsigned_9 : decode cX8_unsigned 9 = .ok (.iconst 1, 1) := by decide +kernel
theorem dX8_unsigned_10 : decode cX8_unsigned 10 = .ok (.iaload, 1) := by decide +kernel
theorem dX8_unsigned_11 : decode cX8_unsigned 11 = .ok (.if_icmp .ge 28, 3) := by decide +kernel
theorem dX8_unsigned_14 : decode cX8_unsigned 14 = .ok (.iload_n 1, 1) := by decide +kernel
theorem dX8_unsigned_15 : decode cX8_unsigned 15 = .ok (.aload_n 0, 1) := by decide +kernel
theorem dX8_unsigned_16 : decode cX8_unsigned 16 = .ok (.iload_n 2, 1) := by decide +kernel
theorem dX8_unsigned_17 : decode cX8_unsigned 17 = .ok (.invokevirtual 257, 3) := by decide +kernel
theorem dX8_unsigned_20 : decode cX8_unsigned 20 = .ok (.iconst 2, 1) := by decide +kernel
theorem dX8_unsigned_21 : decode cX8_unsigned 21 = .ok (.if_icmp .ne 9, 3) := by decide +kernel
theorem dX8_unsigned_24 : decode cX8_unsigned 24 = .ok (.iconst 1, 1) := by decide +kernel
theorem dX8_unsigned_25 : decode cX8_unsigned 25 = .ok (.iload_n 2, 1) := by decide +kernel
theorem dX8_unsigned_26 : decode cX8_unsigned 26 = .ok (.ishl, 1) := by decide +kernel
theorem dX8_unsigned_27 : decode cX8_unsigned 27 = .ok (.goto 4, 3) := by decide +kernel
theorem dX8_unsigned_30 : decode cX8_unsigned 30 = .ok (.iconst 0, 1) := by decide +kernel
theorem dX8_unsigned_31 : decode cX8_unsigned 31 = .ok (.ior, 1) := by decide +kernel
theorem dX8_unsigned_32 : decode cX8_unsigned 32 = .ok (.istore_n 1, 1) := by decide +kernel
theorem dX8_unsigned_33 : decode cX8_unsigned 33 = .ok (.iinc 2 1, 3) := by decide +kernel
theorem dX8_unsigned_36 : decode cX8_unsigned 36 = .ok (.goto (-32), 3) := by decide +kernel
theorem dX8_unsigned_39 : decode cX8_unsigned 39 = .ok (.iload_n 1, 1) := by decide +kernel
theorem dX8_unsigned_40 : decode cX8_unsigned 40 = .ok (.ireturn, 1) := by decide +kernel
theorem dX8_honest_0 : decode cX8_honest 0 = .ok (.iload_n 1, 1) := by decide +kernel
theorem dX8_honest_1 : decode cX8_honest 1 = .ok (.iconst 1, 1) := by decide +kernel
theorem dX8_honest_2 : decode cX8_honest 2 = .ok (.bipush 8, 2) := by decide +kernel
theorem dX8_honest_4 : decode cX8_honest 4 = .ok (.invokestatic 68, 3) := by decide +kernel
theorem dX8_honest_7 : decode cX8_honest 7 = .ok (.ifCond .eq 32, 3) := by decide +kernel
theorem dX8_honest_10 : decode cX8_honest 10 = .ok (.iload_n 2, 1) := by decide +kernel
theorem dX8_honest_11 : decode cX8_honest 11 = .ok (.iconst 1, 1) := by decide +kernel
theorem dX8_honest_12 : decode cX8_honest 12 = .ok (.bipush 50, 2) := by decide +kernel
theorem dX8_honest_14 : decode cX8_honest 14 = .ok (.invokestatic 68, 3) := by decide +kernel
theorem dX8_honest_17 : decode cX8_honest 17 = .ok (.ifCond .eq 22, 3) := by decide +kernel
theorem dX8_honest_20 : decode cX8_honest 20 = .ok (.iload_n 3, 1) := by decide +kernel
theorem dX8_honest_21 : decode cX8_honest 21 = .ok (.iconst 0, 1) := by decide +kernel
theorem dX8_honest_22 : decode cX8_honest 22 = .ok (.iload_n 2, 1) := by decide +kernel
theorem dX8_honest_23 : decode cX8_honest 23 = .ok (.invokestatic 68, 3) := by decide +kernel
theorem dX8_honest_26 : decode cX8_honest 26 = .ok (.ifCond .eq 13, 3) := by decide +kernel
theorem dX8_honest_29 : decode cX8_honest 29 = .ok (.iload 4, 2) := by decide +kernel
theorem dX8_honest_31 : decode cX8_honest 31 = .ok (.iconst 0, 1) := by decide +kernel
theorem dX8_honest_32 : decode cX8_honest 32 = .ok (.iconst 1, 1) := by decide +kernel
theorem dX8_honest_33 : decode cX8_honest 33 = .ok (.invokestatic 68, 3) := by decide +kernel
theorem dX8_honest_36 : decode cX8_honest 36 = .ok (.ifCond .ne 11, 3) := by decide +kernel
theorem dX8_honest_39 : decode cX8_honest 39 = .ok (.aload_n 0, 1) := by decide +kernel
theorem dX8_honest_40 : decode cX8_honest 40 = .ok (.ldc 76, 2) := by decide +kernel
theorem dX8_honest_42 : decode cX8_honest 42 = .ok (.invokevirtual 77, 3) := by decide +kernel
theorem dX8_honest_45 : decode cX8_honest 45 = .ok (.i2l, 1) := by decide +kernel
theorem dX8_honest_46 : decode cX8_honest 46 = .ok (.lreturn, 1) := by decide +kernel
theorem dX8_honest_47 : decode cX8_honest 47 = .ok (.iconst 2, 1) := by decide +kernel
theorem dX8_honest_48 : decode cX8_honest 48 = .ok (.iload_n 3, 1) := by decide +kernel
theorem dX8_honest_49 : decode cX8_honest 49 = .ok (.imul, 1) := by decide +kernel
theorem dX8_honest_50 : decode cX8_honest 50 = .ok (.iconst 1, 1) := by decide +kernel
theorem dX8_honest_51 : decode cX8_honest 51 = .ok (.iadd, 1) := by decide +kernel
theorem dX8_honest_52 : decode cX8_honest 52 = .ok (.iconst 2, 1) := by decide +kernel
theorem dX8_honest_53 : decode cX8_honest 53 = .ok (.iload_n 2, 1) := by decide +kernel
theorem dX8_honest_54 : decode cX8_honest 54 = .ok (.imul, 1) := by decide +kernel
theorem dX8_honest_55 : decode cX8_honest 55 = .ok (.iconst 1, 1) := by decide +kernel
theorem dX8_honest_56 : decode cX8_honest 56 = .ok (.iadd, 1) := by decide +kernel
theorem dX8_honest_57 : decode cX8_honest 57 = .ok (.invokestatic 228, 3) := by decide +kernel
theorem dX8_honest_60 : decode cX8_honest 60 = .ok (.istore 5, 2) := by decide +kernel
theorem dX8_honest_62 : decode cX8_honest 62 = .ok (.lconst 1, 1) := by decide +kernel
theorem dX8_honest_63 : decode cX8_honest 63 = .ok (.lstore 6, 2) := by decide +kernel
theorem dX8_honest_65 : decode cX8_honest 65 = .ok (.iconst 0, 1) := by decide +kernel
theorem dX8_honest_66 : decode cX8_honest 66 = .ok (.istore 8, 2) := by decide +kernel
theorem dX8_honest_68 : decode cX8_honest 68 = .ok (.iload 8, 2) := by decide +kernel
theorem dX8_honest_70 : decode cX8_honest 70 = .ok (.iload_n 1, 1) := by decide +kernel
theorem dX8_honest_71 : decode cX8_honest 71 = .ok (.if_icmp .ge 36, 3) := by decide +kernel
theorem dX8_honest_74 : decode cX8_honest 74 = .ok (.lload 6, 2) := by decide +kernel
theorem dX8_honest_76 : decode cX8_honest 76 = .ok (.iload 4, 2) := by decide +kernel
theorem dX8_honest_78 : decode cX8_honest 78 = .ok (.ifCond .ne 11, 3) := by decide +kernel
theorem dX8_honest_81 : decode cX8_honest 81 = .ok (.iconst 2, 1) := by decide +kernel
theorem dX8_honest_82 : decode cX8_honest 82 = .ok (.iload_n 3, 1) := by decide +kernel
theorem dX8_honest_83 : decode cX8_honest 83 = .ok (.imul, 1) := by decide +kernel
theorem dX8_honest_84 : decode cX8_honest 84 = .ok (.iconst 1, 1) := by decide +kernel
theorem dX8_honest_85 : decode cX8_honest 85 = .ok (.iadd, 1) := by decide +kernel
theorem dX8_honest_86 : decode cX8_honest 86 = .ok (.goto 8, 3) := by decide +kernel
theorem dX8_honest_89 : decode cX8_honest 89 = .ok (.iconst 2, 1) := by decide +kernel
theorem dX8_honest_90 : decode cX8_honest 90 = .ok (.iload_n 2, 1) := by decide +kernel
theorem dX8_honest_91 : decode cX8_honest 91 = .ok (.imul, 1) := by decide +kernel
theorem dX8_honest_92 : decode cX8_honest 92 = .ok (.iconst 1, 1) := by decide +kernel
theorem dX8_honest_93 : decode cX8_honest 93 = .ok (.iadd, 1) := by decide +kernel
theorem dX8_honest_94 : decode cX8_honest 94 = .ok (.iload 5, 2) := by decide +kernel
theorem dX8_honest_96 : decode cX8_honest 96 = .ok (.idiv, 1) := by decide +kernel
theorem dX8_honest_97 : decode cX8_honest 97 = .ok (.i2l, 1) := by decide +kernel
theorem dX8_honest_98 : decode cX8_honest 98 = .ok (.lmul, 1) := by decide +kernel
theorem dX8_honest_99 : decode cX8_honest 99 = .ok (.lstore 6, 2) := by decide +kernel
theorem dX8_honest_101 : decode cX8_honest 101 = .ok (.iinc 8 1, 3) := by decide +kernel
theorem dX8_honest_104 : decode cX8_honest 104 = .ok (.goto (-36), 3) := by decide +kernel
theorem dX8_honest_107 : decode cX8_honest 107 = .ok (.lload 6, 2) := by decide +kernel
theorem dX8_honest_109 : decode cX8_honest 109 = .ok (.lreturn, 1) := by decide +kernel
theorem dX8_couldOf_0 : decode cX8_couldOf 0 = .ok (.iconst 0, 1) := by decide +kernel
theorem dX8_couldOf_1 : decode cX8_couldOf 1 = .ok (.istore_n 3, 1) := by decide +kernel
theorem dX8_couldOf_2 : decode cX8_couldOf 2 = .ok (.iconst 0, 1) := by decide +kernel
theorem dX8_couldOf_3 : decode cX8_couldOf 3 = .ok (.istore 4, 2) := by decide +kernel
theorem dX8_couldOf_5 : decode cX8_couldOf 5 = .ok (.iload 4, 2) := by decide +kernel
theorem dX8_couldOf_7 : decode cX8_couldOf 7 = .ok (.aload_n 0, 1) := by decide +kernel
theorem dX8_couldOf_8 : decode cX8_couldOf 8 = .ok (.getfield 9, 3) := by decide +kernel
theorem dX8_couldOf_11 : decode cX8_couldOf 11 = .ok (.iconst 1, 1) := by decide +kernel
theorem dX8_couldOf_12 : decode cX8_couldOf 12 = .ok (.iaload, 1) := by decide +kernel
theorem dX8_couldOf_13 : decode cX8_couldOf 13 = .ok (.if_icmp .ge 92, 3) := by decide +kernel
theorem dX8_couldOf_16 : decode cX8_couldOf 16 = .ok (.aload_n 0, 1) := by decide +kernel
theorem dX8_couldOf_17 : decode cX8_couldOf 17 = .ok (.iload 4, 2) := by decide +kernel
theorem dX8_couldOf_19 : decode cX8_couldOf 19 = .ok (.invokevirtual 222, 3) := by decide +kernel
theorem dX8_couldOf_22 : decode cX8_couldOf 22 = .ok (.aload_n 0, 1) := by decide +kernel
theorem dX8_couldOf_23 : decode cX8_couldOf 23 = .ok (.iload_n 1, 1) := by decide +kernel
theorem dX8_couldOf_24 : decode cX8_couldOf 24 = .ok (.invokevirtual 222, 3) := by decide +kernel
theorem dX8_couldOf_27 : decode cX8_couldOf 27 = .ok (.if_icmp .lt 23, 3) := by decide +kernel
theorem dX8_couldOf_30 : decode cX8_couldOf 30 = .ok (.aload_n 0, 1) := by decide +kernel
theorem dX8_couldOf_31 : decode cX8_couldOf 31 = .ok (.iload 4, 2) := by decide +kernel
theorem dX8_couldOf_33 : decode cX8_couldOf 33 = .ok (.invokevirtual 222, 3) := by decide +kernel
theorem dX8_couldOf_36 : decode cX8_couldOf 36 = .ok (.aload_n 0, 1) := by decide +kernel
theorem dX8_couldOf_37 : decode cX8_couldOf 37 = .ok (.iload_n 1, 1) := by decide +kernel
theorem dX8_couldOf_38 : decode cX8_couldOf 38 = .ok (.invokevirtual 222, 3) := by decide +kernel
theorem dX8_couldOf_41 : decode cX8_couldOf 41 = .ok (.if_icmp .ne 13, 3) := by decide +kernel
theorem dX8_couldOf_44 : decode cX8_couldOf 44 = .ok (.iload 4, 2) := by decide +kernel
theorem dX8_couldOf_46 : decode cX8_couldOf 46 = .ok (.iload_n 1, 1) := by decide +kernel
theorem dX8_couldOf_47 : decode cX8_couldOf 47 = .ok (.if_icmp .ge 7, 3) := by decide +kernel
theorem dX8_couldOf_50 : decode cX8_couldOf 50 = .ok (.iconst 1, 1) := by decide +kernel
theorem dX8_couldOf_51 : decode cX8_couldOf 51 = .ok (.goto 4, 3) := by decide +kernel
theorem dX8_couldOf_54 : decode cX8_couldOf 54 = .ok (.iconst 0, 1) := by decide +kernel
theorem dX8_couldOf_55 : decode cX8_couldOf 55 = .ok (.istore 5, 2) := by decide +kernel
theorem dX8_couldOf_57 : decode cX8_couldOf 57 = .ok (.iload_n 3, 1) := by decide +kernel
theorem dX8_couldOf_58 : decode cX8_couldOf 58 = .ok (.iload 5, 2) := by decide +kernel
theorem dX8_couldOf_60 : decode cX8_couldOf 60 = .ok (.ifCond .eq 36, 3) := by decide +kernel
theorem dX8_couldOf_63 : decode cX8_couldOf 63 = .ok (.aload_n 0, 1) := by decide +kernel
theorem dX8_couldOf_64 : decode cX8_couldOf 64 = .ok (.iload 4, 2) := by decide +kernel
theorem dX8_couldOf_66 : decode cX8_couldOf 66 = .ok (.invokevirtual 260, 3) := by decide +kernel
theorem dX8_couldOf_69 : decode cX8_couldOf 69 = .ok (.aload_n 0, 1) := by decide +kernel
theorem dX8_couldOf_70 : decode cX8_couldOf 70 = .ok (.iload_n 1, 1) := by decide +kernel
theorem dX8_couldOf_71 : decode cX8_couldOf 71 = .ok (.invokevirtual 260, 3) := by decide +kernel
theorem dX8_couldOf_74 : decode cX8_couldOf 74 = .ok (.iand, 1) := by decide +kernel
theorem dX8_couldOf_75 : decode cX8_couldOf 75 = .ok (.ifCond .eq 21, 3) := by decide +kernel
theorem dX8_couldOf_78 : decode cX8_couldOf 78 = .ok (.aload_n 0, 1) := by decide +kernel
theorem dX8_couldOf_79 : decode cX8_couldOf 79 = .ok (.iload 4, 2) := by decide +kernel
theorem dX8_couldOf_81 : decode cX8_couldOf 81 = .ok (.iload_n 1, 1) := by decide +kernel
theorem dX8_couldOf_82 : decode cX8_couldOf 82 = .ok (.iload_n 2, 1) := by decide +kernel
theorem dX8_couldOf_83 : decode cX8_couldOf 83 = .ok (.invokevirtual 245, 3) := by decide +kernel
theorem dX8_couldOf_86 : decode cX8_couldOf 86 = .ok (.ifCond .eq 10, 3) := by decide +kernel
theorem dX8_couldOf_89 : decode cX8_couldOf 89 = .ok (.iconst 1, 1) := by decide +kernel
theorem dX8_couldOf_90 : decode cX8_couldOf 90 = .ok (.iload 4, 2) := by decide +kernel
theorem dX8_couldOf_92 : decode cX8_couldOf 92 = .ok (.ishl, 1) := by decide +kernel
theorem dX8_couldOf_93 : decode cX8_couldOf 93 = .ok (.goto 4, 3) := by decide +kernel
theorem dX8_couldOf_96 : decode cX8_couldOf 96 = .ok (.iconst 0, 1) := by decide +kernel
theorem dX8_couldOf_97 : decode cX8_couldOf 97 = .ok (.ior, 1) := by decide +kernel
theorem dX8_couldOf_98 : decode cX8_couldOf 98 = .ok (.istore_n 3, 1) := by decide +kernel
theorem dX8_couldOf_99 : decode cX8_couldOf 99 = .ok (.iinc 4 1, 3) := by decide +kernel
theorem dX8_couldOf_102 : decode cX8_couldOf 102 = .ok (.goto (-97), 3) := by decide +kernel
theorem dX8_couldOf_105 : decode cX8_couldOf 105 = .ok (.iload_n 3, 1) := by decide +kernel
theorem dX8_couldOf_106 : decode cX8_couldOf 106 = .ok (.ireturn, 1) := by decide +kernel
theorem dX8_could_0 : decode cX8_could 0 = .ok (.aload_n 0, 1) := by decide +kernel
theorem dX8_could_1 : decode cX8_could 1 = .ok (.iload_n 1, 1) := by decide +kernel
theorem dX8_could_2 : decode cX8_could 2 = .ok (.iconst 1, 1) := by decide +kernel
theorem dX8_could_3 : decode cX8_could 3 = .ok (.invokevirtual 83, 3) := by decide +kernel
theorem dX8_could_6 : decode cX8_could 6 = .ok (.ifCond .eq 19, 3) := by decide +kernel
theorem dX8_could_9 : decode cX8_could 9 = .ok (.iload_n 2, 1) := by decide +kernel
theorem dX8_could_10 : decode cX8_could 10 = .ok (.invokestatic 242, 3) := by decide +kernel
theorem dX8_could_13 : decode cX8_could 13 = .ok (.ifCond .eq 12, 3) := by decide +kernel
theorem dX8_could_16 : decode cX8_could 16 = .ok (.aload_n 0, 1) := by decide +kernel
theorem dX8_could_17 : decode cX8_could 17 = .ok (.iload_n 1, 1) := by decide +kernel
theorem dX8_could_18 : decode cX8_could 18 = .ok (.iload_n 2, 1) := by decide +kernel
theorem dX8_could_19 : decode cX8_could 19 = .ok (.invokevirtual 263, 3) := by decide +kernel
theorem dX8_could_22 : decode cX8_could 22 = .ok (.goto 9, 3) := by decide +kernel
theorem dX8_could_25 : decode cX8_could 25 = .ok (.aload_n 0, 1) := by decide +kernel
theorem dX8_could_26 : decode cX8_could 26 = .ok (.ldc 76, 2) := by decide +kernel
theorem dX8_could_28 : decode cX8_could 28 = .ok (.invokevirtual 77, 3) := by decide +kernel
theorem dX8_could_31 : decode cX8_could 31 = .ok (.ireturn, 1) := by decide +kernel
theorem dX8_findCould_0 : decode cX8_findCould 0 = .ok (.iconst 0, 1) := by decide +kernel
theorem dX8_findCould_1 : decode cX8_findCould 1 = .ok (.istore_n 2, 1) := by decide +kernel
theorem dX8_findCould_2 : decode cX8_findCould 2 = .ok (.iload_n 2, 1) := by decide +kernel
theorem dX8_findCould_3 : decode cX8_findCould 3 = .ok (.aload_n 0, 1) := by decide +kernel
theorem dX8_findCould_4 : decode cX8_findCould 4 = .ok (.getfield 9, 3) := by decide +kernel
theorem dX8_findCould_7 : decode cX8_findCould 7 = .ok (.iconst 1, 1) := by decide +kernel
theorem dX8_findCould_8 : decode cX8_findCould 8 = .ok (.iaload, 1) := by decide +kernel
theorem dX8_findCould_9 : decode cX8_findCould 9 = .ok (.if_icmp .ge 21, 3) := by decide +kernel
theorem dX8_findCould_12 : decode cX8_findCould 12 = .ok (.aload_n 0, 1) := by decide +kernel
theorem dX8_findCould_13 : decode cX8_findCould 13 = .ok (.getfield 43, 3) := by decide +kernel
theorem dX8_findCould_16 : decode cX8_findCould 16 = .ok (.iload_n 2, 1) := by decide +kernel
theorem dX8_findCould_17 : decode cX8_findCould 17 = .ok (.aload_n 0, 1) := by decide +kernel
theorem dX8_findCould_18 : decode cX8_findCould 18 = .ok (.iload_n 2, 1) := by decide +kernel
theorem dX8_findCould_19 : decode cX8_findCould 19 = .ok (.iload_n 1, 1) := by decide +kernel
theorem dX8_findCould_20 : decode cX8_findCould 20 = .ok (.invokevirtual 263, 3) := by decide +kernel
theorem dX8_findCould_23 : decode cX8_findCould 23 = .ok (.iastore, 1) := by decide +kernel
theorem dX8_findCould_24 : decode cX8_findCould 24 = .ok (.iinc 2 1, 3) := by decide +kernel
theorem dX8_findCould_27 : decode cX8_findCould 27 = .ok (.goto (-25), 3) := by decide +kernel
theorem dX8_findCould_30 : decode cX8_findCould 30 = .ok (.return_, 1) := by decide +kernel
theorem dX8_sources_0 : decode cX8_sources 0 = .ok (.iload_n 1, 1) := by decide +kernel
theorem dX8_sources_1 : decode cX8_sources 1 = .ok (.invokestatic 242, 3) := by decide +kernel
theorem dX8_sources_4 : decode cX8_sources 4 = .ok (.ifCond .ne 10, 3) := by decide +kernel
theorem dX8_sources_7 : decode cX8_sources 7 = .ok (.aload_n 0, 1) := by decide +kernel
theorem dX8_sources_8 : decode cX8_sources 8 = .ok (.ldc 76, 2) := by decide +kernel
theorem dX8_sources_10 : decode cX8_sources 10 = .ok (.invokevirtual 77, 3) := by decide +kernel
theorem dX8_sources_13 : decode cX8_sources 13 = .ok (.ireturn, 1) := by decide +kernel
theorem dX8_sources_14 : decode cX8_sources 14 = .ok (.aload_n 0, 1) := by decide +kernel
theorem dX8_sources_15 : decode cX8_sources 15 = .ok (.iload_n 1, 1) := by decide +kernel
theorem dX8_sources_16 : decode cX8_sources 16 = .ok (.invokevirtual 266, 3) := by decide +kernel
theorem dX8_sources_19 : decode cX8_sources 19 = .ok (.iconst 0, 1) := by decide +kernel
theorem dX8_sources_20 : decode cX8_sources 20 = .ok (.istore_n 2, 1) := by decide +kernel
theorem dX8_sources_21 : decode cX8_sources 21 = .ok (.iconst 0, 1) := by decide +kernel
theorem dX8_sources_22 : decode cX8_sources 22 = .ok (.istore_n 3, 1) := by decide +kernel
theorem dX8_sources_23 : decode cX8_sources 23 = .ok (.iload_n 3, 1) := by decide +kernel
theorem dX8_sources_24 : decode cX8_sources 24 = .ok (.aload_n 0, 1) := by decide +kernel
theorem dX8_sources_25 : decode cX8_sources 25 = .ok (.getfield 9, 3) := by decide +kernel
theorem dX8_sources_28 : decode cX8_sources 28 = .ok (.iconst 1, 1) := by decide +kernel
theorem dX8_sources_29 : decode cX8_sources 29 = .ok (.iaload, 1) := by decide +kernel
theorem dX8_sources_30 : decode cX8_sources 30 = .ok (.if_icmp .ge 28, 3) := by decide +kernel
theorem dX8_sources_33 : decode cX8_sources 33 = .ok (.iload_n 2, 1) := by decide +kernel
theorem dX8_sources_34 : decode cX8_sources 34 = .ok (.aload_n 0, 1) := by decide +kernel
theorem dX8_sources_35 : decode cX8_sources 35 = .ok (.getfield 43, 3) := by decide +kernel
theorem dX8_sources_38 : decode cX8_sources 38 = .ok (.iload_n 3, 1) := by decide +kernel
theorem dX8_sources_39 : decode cX8_sources 39 = .ok (.iaload, 1) := by decide +kernel
theorem dX8_sources_40 : decode cX8_sources 40 = .ok (.ifCond .ne 9, 3) := by decide +kernel
theorem dX8_sources_43 : decode cX8_sources 43 = .ok (.iconst 1, 1) := by decide +kernel
theorem dX8_sources_44 : decode cX8_sources 44 = .ok (.iload_n 3, 1) := by decide +kernel
theorem dX8_sources_45 : decode cX8_sources 45 = .ok (.ishl, 1) := by decide +kernel
theorem dX8_sources_46 : decode cX8_sources 46 = .ok (.goto 4, 3) := by decide +kernel
theorem dX8_sources_49 : decode cX8_sources 49 = .ok (.iconst 0, 1) := by decide +kernel
theorem dX8_sources_50 : decode cX8_sources 50 = .ok (.ior, 1) := by decide +kernel
theorem dX8_sources_51 : decode cX8_sources 51 = .ok (.istore_n 2, 1) := by decide +kernel
theorem dX8_sources_52 : decode cX8_sources 52 = .ok (.iinc 3 1, 3) := by decide +kernel
theorem dX8_sources_55 : decode cX8_sources 55 = .ok (.goto (-32), 3) := by decide +kernel
theorem dX8_sources_58 : decode cX8_sources 58 = .ok (.iload_n 2, 1) := by decide +kernel
theorem dX8_sources_59 : decode cX8_sources 59 = .ok (.ireturn, 1) := by decide +kernel
theorem dX8_both_0 : decode cX8_both 0 = .ok (.iconst 0, 1) := by decide +kernel
theorem dX8_both_1 : decode cX8_both 1 = .ok (.istore_n 2, 1) := by decide +kernel
theorem dX8_both_2 : decode cX8_both 2 = .ok (.iconst 0, 1) := by decide +kernel
theorem dX8_both_3 : decode cX8_both 3 = .ok (.istore_n 3, 1) := by decide +kernel
theorem dX8_both_4 : decode cX8_both 4 = .ok (.iload_n 3, 1) := by decide +kernel
theorem dX8_both_5 : decode cX8_both 5 = .ok (.aload_n 0, 1) := by decide +kernel
theorem dX8_both_6 : decode cX8_both 6 = .ok (.getfield 9, 3) := by decide +kernel
theorem dX8_both_9 : decode cX8_both 9 = .ok (.iconst 1, 1) := by decide +kernel
theorem dX8_both_10 : decode cX8_both 10 = .ok (.iaload, 1) := by decide +kernel
theorem dX8_both_11 : decode cX8_both 11 = .ok (.if_icmp .ge 40, 3) := by decide +kernel
theorem dX8_both_14 : decode cX8_both 14 = .ok (.iload_n 2, 1) := by decide +kernel
theorem dX8_both_15 : decode cX8_both 15 = .ok (.aload_n 0, 1) := by decide +kernel
theorem dX8_both_16 : decode cX8_both 16 = .ok (.getfield 43, 3) := by decide +kernel
theorem dX8_both_19 : decode cX8_both 19 = .ok (.iload_n 1, 1) := by decide +kernel
theorem dX8_both_20 : decode cX8_both 20 = .ok (.iaload, 1) := by decide +kernel
theorem dX8_both_21 : decode cX8_both 21 = .ok (.iload_n 3, 1) := by decide +kernel
theorem dX8_both_22 : decode cX8_both 22 = .ok (.invokestatic 137, 3) := by decide +kernel
theorem dX8_both_25 : decode cX8_both 25 = .ok (.ifCond .eq 17, 3) := by decide +kernel
theorem dX8_both_28 : decode cX8_both 28 = .ok (.aload_n 0, 1) := by decide +kernel
theorem dX8_both_29 : decode cX8_both 29 = .ok (.iload_n 3, 1) := by decide +kernel
theorem dX8_both_30 : decode cX8_both 30 = .ok (.invokevirtual 260, 3) := by decide +kernel
theorem dX8_both_33 : decode cX8_both 33 = .ok (.aload_n 0, 1) := by decide +kernel
theorem dX8_both_34 : decode cX8_both 34 = .ok (.iload_n 1, 1) := by decide +kernel
theorem dX8_both_35 : decode cX8_both 35 = .ok (.invokevirtual 260, 3) := by decide +kernel
theorem dX8_both_38 : decode cX8_both 38 = .ok (.iand, 1) := by decide +kernel
theorem dX8_both_39 : decode cX8_both 39 = .ok (.goto 4, 3) := by decide +kernel
theorem dX8_both_42 : decode cX8_both 42 = .ok (.iconst 0, 1) := by decide +kernel
theorem dX8_both_43 : decode cX8_both 43 = .ok (.ior, 1) := by decide +kernel
theorem dX8_both_44 : decode cX8_both 44 = .ok (.istore_n 2, 1) := by decide +kernel
theorem dX8_both_45 : decode cX8_both 45 = .ok (.iinc 3 1, 3) := by decide +kernel
theorem dX8_both_48 : decode cX8_both 48 = .ok (.goto (-44), 3) := by decide +kernel
theorem dX8_both_51 : decode cX8_both 51 = .ok (.iload_n 2, 1) := by decide +kernel
theorem dX8_both_52 : decode cX8_both 52 = .ok (.ireturn, 1) := by decide +kernel
theorem dX8_hands_0 : decode cX8_hands 0 = .ok (.iload_n 1, 1) := by decide +kernel
theorem dX8_hands_1 : decode cX8_hands 1 = .ok (.invokestatic 242, 3) := by decide +kernel
theorem dX8_hands_4 : decode cX8_hands 4 = .ok (.ifCond .ne 10, 3) := by decide +kernel
theorem dX8_hands_7 : decode cX8_hands 7 = .ok (.aload_n 0, 1) := by decide +kernel
theorem dX8_hands_8 : decode cX8_hands 8 = .ok (.ldc 76, 2) := by decide +kernel
theorem dX8_hands_10 : decode cX8_hands 10 = .ok (.invokevirtual 77, 3) := by decide +kernel
theorem dX8_hands_13 : decode cX8_hands 13 = .ok (.ireturn, 1) := by decide +kernel
theorem dX8_hands_14 : decode cX8_hands 14 = .ok (.aload_n 0, 1) := by decide +kernel
theorem dX8_hands_15 : decode cX8_hands 15 = .ok (.iload_n 1, 1) := by decide +kernel
theorem dX8_hands_16 : decode cX8_hands 16 = .ok (.invokevirtual 266, 3) := by decide +kernel
theorem dX8_hands_19 : decode cX8_hands 19 = .ok (.sipush 255, 3) := by decide +kernel
theorem dX8_hands_22 : decode cX8_hands 22 = .ok (.istore_n 2, 1) := by decide +kernel
theorem dX8_hands_23 : decode cX8_hands 23 = .ok (.iconst 0, 1) := by decide +kernel
theorem dX8_hands_24 : decode cX8_hands 24 = .ok (.istore_n 3, 1) := by decide +kernel
theorem dX8_hands_25 : decode cX8_hands 25 = .ok (.iload_n 3, 1) := by decide +kernel
theorem dX8_hands_26 : decode cX8_hands 26 = .ok (.sipush 256, 3) := by decide +kernel
theorem dX8_hands_29 : decode cX8_hands 29 = .ok (.if_icmp .ge 107, 3) := by decide +kernel
theorem dX8_hands_32 : decode cX8_hands 32 = .ok (.iload_n 3, 1) := by decide +kernel
theorem dX8_hands_33 : decode cX8_hands 33 = .ok (.invokestatic 269, 3) := by decide +kernel
theorem dX8_hands_36 : decode cX8_hands 36 = .ok (.iload_n 2, 1) := by decide +kernel
theorem dX8_hands_37 : decode cX8_hands 37 = .ok (.invokestatic 269, 3) := by decide +kernel
theorem dX8_hands_40 : decode cX8_hands 40 = .ok (.if_icmp .lt 19, 3) := by decide +kernel
theorem dX8_hands_43 : decode cX8_hands 43 = .ok (.iload_n 3, 1) := by decide +kernel
theorem dX8_hands_44 : decode cX8_hands 44 = .ok (.invokestatic 269, 3) := by decide +kernel
theorem dX8_hands_47 : decode cX8_hands 47 = .ok (.iload_n 2, 1) := by decide +kernel
theorem dX8_hands_48 : decode cX8_hands 48 = .ok (.invokestatic 269, 3) := by decide +kernel
theorem dX8_hands_51 : decode cX8_hands 51 = .ok (.if_icmp .ne 12, 3) := by decide +kernel
theorem dX8_hands_54 : decode cX8_hands 54 = .ok (.iload_n 3, 1) := by decide +kernel
theorem dX8_hands_55 : decode cX8_hands 55 = .ok (.iload_n 2, 1) := by decide +kernel
theorem dX8_hands_56 : decode cX8_hands 56 = .ok (.if_icmp .ge 7, 3) := by decide +kernel
theorem dX8_hands_59 : decode cX8_hands 59 = .ok (.iconst 1, 1) := by decide +kernel
theorem dX8_hands_60 : decode cX8_hands 60 = .ok (.goto 4, 3) := by decide +kernel
theorem dX8_hands_63 : decode cX8_hands 63 = .ok (.iconst 0, 1) := by decide +kernel
theorem dX8_hands_64 : decode cX8_hands 64 = .ok (.istore 4, 2) := by decide +kernel
theorem dX8_hands_66 : decode cX8_hands 66 = .ok (.iconst 0, 1) := by decide +kernel
theorem dX8_hands_67 : decode cX8_hands 67 = .ok (.istore 5, 2) := by decide +kernel
theorem dX8_hands_69 : decode cX8_hands 69 = .ok (.iload 5, 2) := by decide +kernel
theorem dX8_hands_71 : decode cX8_hands 71 = .ok (.aload_n 0, 1) := by decide +kernel
theorem dX8_hands_72 : decode cX8_hands 72 = .ok (.getfield 9, 3) := by decide +kernel
theorem dX8_hands_75 : decode cX8_hands 75 = .ok (.iconst 1, 1) := by decide +kernel
theorem dX8_hands_76 : decode cX8_hands 76 = .ok (.iaload, 1) := by decide +kernel
theorem dX8_hands_77 : decode cX8_hands 77 = .ok (.if_icmp .ge 42, 3) := by decide +kernel
theorem dX8_hands_80 : decode cX8_hands 80 = .ok (.iload 4, 2) := by decide +kernel
theorem dX8_hands_82 : decode cX8_hands 82 = .ok (.ifCond .eq 37, 3) := by decide +kernel
theorem dX8_hands_85 : decode cX8_hands 85 = .ok (.aload_n 0, 1) := by decide +kernel
theorem dX8_hands_86 : decode cX8_hands 86 = .ok (.getfield 43, 3) := by decide +kernel
theorem dX8_hands_89 : decode cX8_hands 89 = .ok (.iload 5, 2) := by decide +kernel
theorem dX8_hands_91 : decode cX8_hands 91 = .ok (.iaload, 1) := by decide +kernel
theorem dX8_hands_92 : decode cX8_hands 92 = .ok (.ifCond .eq 14, 3) := by decide +kernel
theorem dX8_hands_95 : decode cX8_hands 95 = .ok (.aload_n 0, 1) := by decide +kernel
theorem dX8_hands_96 : decode cX8_hands 96 = .ok (.iload 5, 2) := by decide +kernel
theorem dX8_hands_98 : decode cX8_hands 98 = .ok (.invokevirtual 272, 3) := by decide +kernel
theorem dX8_hands_101 : decode cX8_hands 101 = .ok (.iload_n 3, 1) := by decide +kernel
theorem dX8_hands_102 : decode cX8_hands 102 = .ok (.iand, 1) := by decide +kernel
theorem dX8_hands_103 : decode cX8_hands 103 = .ok (.ifCond .eq 7, 3) := by decide +kernel
theorem dX8_hands_106 : decode cX8_hands 106 = .ok (.iconst 1, 1) := by decide +kernel
theorem dX8_hands_107 : decode cX8_hands 107 = .ok (.goto 4, 3) := by decide +kernel
theorem dX8_hands_110 : decode cX8_hands 110 = .ok (.iconst 0, 1) := by decide +kernel
theorem dX8_hands_111 : decode cX8_hands 111 = .ok (.istore 4, 2) := by decide +kernel
theorem dX8_hands_113 : decode cX8_hands 113 = .ok (.iinc 5 1, 3) := by decide +kernel
theorem dX8_hands_116 : decode cX8_hands 116 = .ok (.goto (-47), 3) := by decide +kernel
theorem dX8_hands_119 : decode cX8_hands 119 = .ok (.iload 4, 2) := by decide +kernel
theorem dX8_hands_121 : decode cX8_hands 121 = .ok (.ifCond .eq 7, 3) := by decide +kernel
theorem dX8_hands_124 : decode cX8_hands 124 = .ok (.iload_n 3, 1) := by decide +kernel
theorem dX8_hands_125 : decode cX8_hands 125 = .ok (.goto 4, 3) := by decide +kernel
theorem dX8_hands_128 : decode cX8_hands 128 = .ok (.iload_n 2, 1) := by decide +kernel
theorem dX8_hands_129 : decode cX8_hands 129 = .ok (.istore_n 2, 1) := by decide +kernel
theorem dX8_hands_130 : decode cX8_hands 130 = .ok (.iinc 3 1, 3) := by decide +kernel
theorem dX8_hands_133 : decode cX8_hands 133 = .ok (.goto (-108), 3) := by decide +kernel
theorem dX8_hands_136 : decode cX8_hands 136 = .ok (.iload_n 2, 1) := by decide +kernel
theorem dX8_hands_137 : decode cX8_hands 137 = .ok (.ireturn, 1) := by decide +kernel
theorem dX8_saw_0 : decode cX8_saw 0 = .ok (.iload_n 1, 1) := by decide +kernel
theorem dX8_saw_1 : decode cX8_saw 1 = .ok (.iconst 0, 1) := by decide +kernel
theorem dX8_saw_2 : decode cX8_saw 2 = .ok (.bipush 7, 2) := by decide +kernel
theorem dX8_saw_4 : decode cX8_saw 4 = .ok (.invokestatic 68, 3) := by decide +kernel
theorem dX8_saw_7 : decode cX8_saw 7 = .ok (.ifCond .eq 14, 3) := by decide +kernel
theorem dX8_saw_10 : decode cX8_saw 10 = .ok (.iload_n 2, 1) := by decide +kernel
theorem dX8_saw_11 : decode cX8_saw 11 = .ok (.iconst 0, 1) := by decide +kernel
theorem dX8_saw_12 : decode cX8_saw 12 = .ok (.sipush 999, 3) := by decide +kernel
theorem dX8_saw_15 : decode cX8_saw 15 = .ok (.invokestatic 68, 3) := by decide +kernel
theorem dX8_saw_18 : decode cX8_saw 18 = .ok (.ifCond .ne 10, 3) := by decide +kernel
theorem dX8_saw_21 : decode cX8_saw 21 = .ok (.aload_n 0, 1) := by decide +kernel
theorem dX8_saw_22 : decode cX8_saw 22 = .ok (.ldc 76, 2) := by decide +kernel
theorem dX8_saw_24 : decode cX8_saw 24 = .ok (.invokevirtual 77, 3) := by decide +kernel
theorem dX8_saw_27 : decode cX8_saw 27 = .ok (.ireturn, 1) := by decide +kernel
theorem dX8_saw_28 : decode cX8_saw 28 = .ok (.iconst 0, 1) := by decide +kernel
theorem dX8_saw_29 : decode cX8_saw 29 = .ok (.istore_n 3, 1) := by decide +kernel
theorem dX8_saw_30 : decode cX8_saw 30 = .ok (.iconst 0, 1) := by decide +kernel
theorem dX8_saw_31 : decode cX8_saw 31 = .ok (.istore 4, 2) := by decide +kernel
theorem dX8_saw_33 : decode cX8_saw 33 = .ok (.iload 4, 2) := by decide +kernel
theorem dX8_saw_35 : decode cX8_saw 35 = .ok (.aload_n 0, 1) := by decide +kernel
theorem dX8_saw_36 : decode cX8_saw 36 = .ok (.getfield 9, 3) := by decide +kernel
theorem dX8_saw_39 : decode cX8_saw 39 = .ok (.iconst 0, 1) := by decide +kernel
theorem dX8_saw_40 : decode cX8_saw 40 = .ok (.iaload, 1) := by decide +kernel
theorem dX8_saw_41 : decode cX8_saw 41 = .ok (.if_icmp .ge 45, 3) := by decide +kernel
theorem dX8_saw_44 : decode cX8_saw 44 = .ok (.iload_n 3, 1) := by decide +kernel
theorem dX8_saw_45 : decode cX8_saw 45 = .ok (.aload_n 0, 1) := by decide +kernel
theorem dX8_saw_46 : decode cX8_saw 46 = .ok (.iload 4, 2) := by decide +kernel
theorem dX8_saw_48 : decode cX8_saw 48 = .ok (.iconst 0, 1) := by decide +kernel
theorem dX8_saw_49 : decode cX8_saw 49 = .ok (.invokevirtual 90, 3) := by decide +kernel
theorem dX8_saw_52 : decode cX8_saw 52 = .ok (.iload_n 2, 1) := by decide +kernel
theorem dX8_saw_53 : decode cX8_saw 53 = .ok (.if_icmp .gt 24, 3) := by decide +kernel
theorem dX8_saw_56 : decode cX8_saw 56 = .ok (.aload_n 0, 1) := by decide +kernel
theorem dX8_saw_57 : decode cX8_saw 57 = .ok (.iload 4, 2) := by decide +kernel
theorem dX8_saw_59 : decode cX8_saw 59 = .ok (.iconst 1, 1) := by decide +kernel
theorem dX8_saw_60 : decode cX8_saw 60 = .ok (.invokevirtual 90, 3) := by decide +kernel
theorem dX8_saw_63 : decode cX8_saw 63 = .ok (.iload_n 1, 1) := by decide +kernel
theorem dX8_saw_64 : decode cX8_saw 64 = .ok (.invokestatic 137, 3) := by decide +kernel
theorem dX8_saw_67 : decode cX8_saw 67 = .ok (.ifCond .eq 10, 3) := by decide +kernel
theorem dX8_saw_70 : decode cX8_saw 70 = .ok (.iconst 1, 1) := by decide +kernel
theorem dX8_saw_71 : decode cX8_saw 71 = .ok (.iload 4, 2) := by decide +kernel
theorem dX8_saw_73 : decode cX8_saw 73 = .ok (.ishl, 1) := by decide +kernel
theorem dX8_saw_74 : decode cX8_saw 74 = .ok (.goto 4, 3) := by decide +kernel
theorem dX8_saw_77 : decode cX8_saw 77 = .ok (.iconst 0, 1) := by decide +kernel
theorem dX8_saw_78 : decode cX8_saw 78 = .ok (.ior, 1) := by decide +kernel
theorem dX8_saw_79 : decode cX8_saw 79 = .ok (.istore_n 3, 1) := by decide +kernel
theorem dX8_saw_80 : decode cX8_saw 80 = .ok (.iinc 4 1, 3) := by decide +kernel
theorem dX8_saw_83 : decode cX8_saw 83 = .ok (.goto (-50), 3) := by decide +kernel
theorem dX8_saw_86 : decode cX8_saw 86 = .ok (.iload_n 3, 1) := by decide +kernel
theorem dX8_saw_87 : decode cX8_saw 87 = .ok (.ireturn, 1) := by decide +kernel
theorem dX8_rests_0 : decode cX8_rests 0 = .ok (.aload_n 0, 1) := by decide +kernel
theorem dX8_rests_1 : decode cX8_rests 1 = .ok (.iload_n 1, 1) := by decide +kernel
theorem dX8_rests_2 : decode cX8_rests 2 = .ok (.iconst 0, 1) := by decide +kernel
theorem dX8_rests_3 : decode cX8_rests 3 = .ok (.invokevirtual 83, 3) := by decide +kernel
theorem dX8_rests_6 : decode cX8_rests 6 = .ok (.ifCond .eq 12, 3) := by decide +kernel
theorem dX8_rests_9 : decode cX8_rests 9 = .ok (.aload_n 0, 1) := by decide +kernel
theorem dX8_rests_10 : decode cX8_rests 10 = .ok (.iload_n 2, 1) := by decide +kernel
theorem dX8_rests_11 : decode cX8_rests 11 = .ok (.iconst 0, 1) := by decide +kernel
theorem dX8_rests_12 : decode cX8_rests 12 = .ok (.invokevirtual 83, 3) := by decide +kernel
theorem dX8_rests_15 : decode cX8_rests 15 = .ok (.ifCond .ne 10, 3) := by decide +kernel
theorem dX8_rests_18 : decode cX8_rests 18 = .ok (.aload_n 0, 1) := by decide +kernel
theorem dX8_rests_19 : decode cX8_rests 19 = .ok (.ldc 76, 2) := by decide +kernel
theorem dX8_rests_21 : decode cX8_rests 21 = .ok (.invokevirtual 77, 3) := by decide +kernel
theorem dX8_rests_24 : decode cX8_rests 24 = .ok (.ireturn, 1) := by decide +kernel
theorem dX8_rests_25 : decode cX8_rests 25 = .ok (.iload_n 2, 1) := by decide +kernel
theorem dX8_rests_26 : decode cX8_rests 26 = .ok (.iload_n 1, 1) := by decide +kernel
theorem dX8_rests_27 : decode cX8_rests 27 = .ok (.if_icmp .lt 11, 3) := by decide +kernel
theorem dX8_rests_30 : decode cX8_rests 30 = .ok (.aload_n 0, 1) := by decide +kernel
theorem dX8_rests_31 : decode cX8_rests 31 = .ok (.ldc_w 275, 3) := by decide +kernel
theorem dX8_rests_34 : decode cX8_rests 34 = .ok (.invokevirtual 77, 3) := by decide +kernel
theorem dX8_rests_37 : decode cX8_rests 37 = .ok (.ireturn, 1) := by decide +kernel
theorem dX8_rests_38 : decode cX8_rests 38 = .ok (.bipush 22, 2) := by decide +kernel
theorem dX8_rests_40 : decode cX8_rests 40 = .ok (.iconst 5, 1) := by decide +kernel
theorem dX8_rests_41 : decode cX8_rests 41 = .ok (.iload_n 1, 1) := by decide +kernel
theorem dX8_rests_42 : decode cX8_rests 42 = .ok (.imul, 1) := by decide +kernel
theorem dX8_rests_43 : decode cX8_rests 43 = .ok (.iadd, 1) := by decide +kernel
theorem dX8_rests_44 : decode cX8_rests 44 = .ok (.iconst 4, 1) := by decide +kernel
theorem dX8_rests_45 : decode cX8_rests 45 = .ok (.iadd, 1) := by decide +kernel
theorem dX8_rests_46 : decode cX8_rests 46 = .ok (.istore_n 3, 1) := by decide +kernel
theorem dX8_rests_47 : decode cX8_rests 47 = .ok (.aload_n 0, 1) := by decide +kernel
theorem dX8_rests_48 : decode cX8_rests 48 = .ok (.getfield 9, 3) := by decide +kernel
theorem dX8_rests_51 : decode cX8_rests 51 = .ok (.iload_n 3, 1) := by decide +kernel
theorem dX8_rests_52 : decode cX8_rests 52 = .ok (.iaload, 1) := by decide +kernel
theorem dX8_rests_53 : decode cX8_rests 53 = .ok (.iload_n 2, 1) := by decide +kernel
theorem dX8_rests_54 : decode cX8_rests 54 = .ok (.invokestatic 137, 3) := by decide +kernel
theorem dX8_rests_57 : decode cX8_rests 57 = .ok (.istore 4, 2) := by decide +kernel
theorem dX8_rests_59 : decode cX8_rests 59 = .ok (.aload_n 0, 1) := by decide +kernel
theorem dX8_rests_60 : decode cX8_rests 60 = .ok (.getfield 9, 3) := by decide +kernel
theorem dX8_rests_63 : decode cX8_rests 63 = .ok (.iload_n 3, 1) := by decide +kernel
theorem dX8_rests_64 : decode cX8_rests 64 = .ok (.dup2, 1) := by decide +kernel
theorem dX8_rests_65 : decode cX8_rests 65 = .ok (.iaload, 1) := by decide +kernel
theorem dX8_rests_66 : decode cX8_rests 66 = .ok (.iconst 1, 1) := by decide +kernel
theorem dX8_rests_67 : decode cX8_rests 67 = .ok (.iload_n 2, 1) := by decide +kernel
theorem dX8_rests_68 : decode cX8_rests 68 = .ok (.ishl, 1) := by decide +kernel
theorem dX8_rests_69 : decode cX8_rests 69 = .ok (.ior, 1) := by decide +kernel
theorem dX8_rests_70 : decode cX8_rests 70 = .ok (.iastore, 1) := by decide +kernel
theorem dX8_rests_71 : decode cX8_rests 71 = .ok (.iload 4, 2) := by decide +kernel
theorem dX8_rests_73 : decode cX8_rests 73 = .ok (.ifCond .eq 7, 3) := by decide +kernel
theorem dX8_rests_76 : decode cX8_rests 76 = .ok (.iconst 0, 1) := by decide +kernel
theorem dX8_rests_77 : decode cX8_rests 77 = .ok (.goto 4, 3) := by decide +kernel
theorem dX8_rests_80 : decode cX8_rests 80 = .ok (.iconst 1, 1) := by decide +kernel
theorem dX8_rests_81 : decode cX8_rests 81 = .ok (.ireturn, 1) := by decide +kernel
theorem dX8_needs_0 : decode cX8_needs 0 = .ok (.aload_n 0, 1) := by decide +kernel
theorem dX8_needs_1 : decode cX8_needs 1 = .ok (.iload_n 1, 1) := by decide +kernel
theorem dX8_needs_2 : decode cX8_needs 2 = .ok (.iconst 0, 1) := by decide +kernel
theorem dX8_needs_3 : decode cX8_needs 3 = .ok (.invokevirtual 83, 3) := by decide +kernel
theorem dX8_needs_6 : decode cX8_needs 6 = .ok (.ifCond .eq 29, 3) := by decide +kernel
theorem dX8_needs_9 : decode cX8_needs 9 = .ok (.iload_n 2, 1) := by decide +kernel
theorem dX8_needs_10 : decode cX8_needs 10 = .ok (.iconst 0, 1) := by decide +kernel
theorem dX8_needs_11 : decode cX8_needs 11 = .ok (.bipush 11, 2) := by decide +kernel
theorem dX8_needs_13 : decode cX8_needs 13 = .ok (.invokestatic 68, 3) := by decide +kernel
theorem dX8_needs_16 : decode cX8_needs 16 = .ok (.ifCond .eq 19, 3) := by decide +kernel
theorem dX8_needs_19 : decode cX8_needs 19 = .ok (.aload_n 0, 1) := by decide +kernel
theorem dX8_needs_20 : decode cX8_needs 20 = .ok (.bipush 22, 2) := by decide +kernel
theorem dX8_needs_22 : decode cX8_needs 22 = .ok (.iconst 5, 1) := by decide +kernel
theorem dX8_needs_23 : decode cX8_needs 23 = .ok (.iload_n 1, 1) := by decide +kernel
theorem dX8_needs_24 : decode cX8_needs 24 = .ok (.imul, 1) := by decide +kernel
theorem dX8_needs_25 : decode cX8_needs 25 = .ok (.iadd, 1) := by decide +kernel
theorem dX8_needs_26 : decode cX8_needs 26 = .ok (.iconst 3, 1) := by decide +kernel
theorem dX8_needs_27 : decode cX8_needs 27 = .ok (.iadd, 1) := by decide +kernel
theorem dX8_needs_28 : decode cX8_needs 28 = .ok (.iload_n 2, 1) := by decide +kernel
theorem dX8_needs_29 : decode cX8_needs 29 = .ok (.invokevirtual 72, 3) := by decide +kernel
theorem dX8_needs_32 : decode cX8_needs 32 = .ok (.goto 9, 3) := by decide +kernel
theorem dX8_needs_35 : decode cX8_needs 35 = .ok (.aload_n 0, 1) := by decide +kernel
theorem dX8_needs_36 : decode cX8_needs 36 = .ok (.ldc 76, 2) := by decide +kernel
theorem dX8_needs_38 : decode cX8_needs 38 = .ok (.invokevirtual 77, 3) := by decide +kernel
theorem dX8_needs_41 : decode cX8_needs 41 = .ok (.ireturn, 1) := by decide +kernel
theorem dX8_fall_0 : decode cX8_fall 0 = .ok (.iload_n 1, 1) := by decide +kernel
theorem dX8_fall_1 : decode cX8_fall 1 = .ok (.iconst 0, 1) := by decide +kernel
theorem dX8_fall_2 : decode cX8_fall 2 = .ok (.iconst 1, 1) := by decide +kernel
theorem dX8_fall_3 : decode cX8_fall 3 = .ok (.aload_n 0, 1) := by decide +kernel
theorem dX8_fall_4 : decode cX8_fall 4 = .ok (.getfield 9, 3) := by decide +kernel
theorem dX8_fall_7 : decode cX8_fall 7 = .ok (.iconst 0, 1) := by decide +kernel
theorem dX8_fall_8 : decode cX8_fall 8 = .ok (.iaload, 1) := by decide +kernel
theorem dX8_fall_9 : decode cX8_fall 9 = .ok (.ishl, 1) := by decide +kernel
theorem dX8_fall_10 : decode cX8_fall 10 = .ok (.iconst 1, 1) := by decide +kernel
theorem dX8_fall_11 : decode cX8_fall 11 = .ok (.isub, 1) := by decide +kernel
theorem dX8_fall_12 : decode cX8_fall 12 = .ok (.invokestatic 68, 3) := by decide +kernel
theorem dX8_fall_15 : decode cX8_fall 15 = .ok (.ifCond .ne 10, 3) := by decide +kernel
theorem dX8_fall_18 : decode cX8_fall 18 = .ok (.aload_n 0, 1) := by decide +kernel
theorem dX8_fall_19 : decode cX8_fall 19 = .ok (.ldc 76, 2) := by decide +kernel
theorem dX8_fall_21 : decode cX8_fall 21 = .ok (.invokevirtual 77, 3) := by decide +kernel
theorem dX8_fall_24 : decode cX8_fall 24 = .ok (.ireturn, 1) := by decide +kernel
theorem dX8_fall_25 : decode cX8_fall 25 = .ok (.iconst 0, 1) := by decide +kernel
theorem dX8_fall_26 : decode cX8_fall 26 = .ok (.istore_n 2, 1) := by decide +kernel
theorem dX8_fall_27 : decode cX8_fall 27 = .ok (.iconst 0, 1) := by decide +kernel
theorem dX8_fall_28 : decode cX8_fall 28 = .ok (.istore_n 3, 1) := by decide +kernel
theorem dX8_fall_29 : decode cX8_fall 29 = .ok (.iload_n 3, 1) := by decide +kernel
theorem dX8_fall_30 : decode cX8_fall 30 = .ok (.aload_n 0, 1) := by decide +kernel
theorem dX8_fall_31 : decode cX8_fall 31 = .ok (.getfield 9, 3) := by decide +kernel
theorem dX8_fall_34 : decode cX8_fall 34 = .ok (.iconst 0, 1) := by decide +kernel
theorem dX8_fall_35 : decode cX8_fall 35 = .ok (.iaload, 1) := by decide +kernel
theorem dX8_fall_36 : decode cX8_fall 36 = .ok (.if_icmp .ge 61, 3) := by decide +kernel
theorem dX8_fall_39 : decode cX8_fall 39 = .ok (.iload_n 1, 1) := by decide +kernel
theorem dX8_fall_40 : decode cX8_fall 40 = .ok (.iload_n 3, 1) := by decide +kernel
theorem dX8_fall_41 : decode cX8_fall 41 = .ok (.invokestatic 137, 3) := by decide +kernel
theorem dX8_fall_44 : decode cX8_fall 44 = .ok (.ifCond .ne 29, 3) := by decide +kernel
theorem dX8_fall_47 : decode cX8_fall 47 = .ok (.aload_n 0, 1) := by decide +kernel
theorem dX8_fall_48 : decode cX8_fall 48 = .ok (.iload_n 3, 1) := by decide +kernel
theorem dX8_fall_49 : decode cX8_fall 49 = .ok (.iconst 4, 1) := by decide +kernel
theorem dX8_fall_50 : decode cX8_fall 50 = .ok (.invokevirtual 90, 3) := by decide +kernel
theorem dX8_fall_53 : decode cX8_fall 53 = .ok (.iload_n 2, 1) := by decide +kernel
theorem dX8_fall_54 : decode cX8_fall 54 = .ok (.iconst (-1), 1) := by decide +kernel
theorem dX8_fall_55 : decode cX8_fall 55 = .ok (.ixor, 1) := by decide +kernel
theorem dX8_fall_56 : decode cX8_fall 56 = .ok (.iand, 1) := by decide +kernel
theorem dX8_fall_57 : decode cX8_fall 57 = .ok (.invokestatic 269, 3) := by decide +kernel
theorem dX8_fall_60 : decode cX8_fall 60 = .ok (.aload_n 0, 1) := by decide +kernel
theorem dX8_fall_61 : decode cX8_fall 61 = .ok (.iload_n 3, 1) := by decide +kernel
theorem dX8_fall_62 : decode cX8_fall 62 = .ok (.iconst 3, 1) := by decide +kernel
theorem dX8_fall_63 : decode cX8_fall 63 = .ok (.invokevirtual 90, 3) := by decide +kernel
theorem dX8_fall_66 : decode cX8_fall 66 = .ok (.if_icmp .lt 7, 3) := by decide +kernel
theorem dX8_fall_69 : decode cX8_fall 69 = .ok (.iconst 1, 1) := by decide +kernel
theorem dX8_fall_70 : decode cX8_fall 70 = .ok (.goto 4, 3) := by decide +kernel
theorem dX8_fall_73 : decode cX8_fall 73 = .ok (.iconst 0, 1) := by decide +kernel
theorem dX8_fall_74 : decode cX8_fall 74 = .ok (.istore 4, 2) := by decide +kernel
theorem dX8_fall_76 : decode cX8_fall 76 = .ok (.iload_n 2, 1) := by decide +kernel
theorem dX8_fall_77 : decode cX8_fall 77 = .ok (.iload 4, 2) := by decide +kernel
theorem dX8_fall_79 : decode cX8_fall 79 = .ok (.ifCond .eq 7, 3) := by decide +kernel
theorem dX8_fall_82 : decode cX8_fall 82 = .ok (.iconst 0, 1) := by decide +kernel
theorem dX8_fall_83 : decode cX8_fall 83 = .ok (.goto 6, 3) := by decide +kernel
theorem dX8_fall_86 : decode cX8_fall 86 = .ok (.iconst 1, 1) := by decide +kernel
theorem dX8_fall_87 : decode cX8_fall 87 = .ok (.iload_n 3, 1) := by decide +kernel
theorem dX8_fall_88 : decode cX8_fall 88 = .ok (.ishl, 1) := by decide +kernel
theorem dX8_fall_89 : decode cX8_fall 89 = .ok (.ior, 1) := by decide +kernel
theorem dX8_fall_90 : decode cX8_fall 90 = .ok (.istore_n 2, 1) := by decide +kernel
theorem dX8_fall_91 : decode cX8_fall 91 = .ok (.iinc 3 1, 3) := by decide +kernel
theorem dX8_fall_94 : decode cX8_fall 94 = .ok (.goto (-65), 3) := by decide +kernel
theorem dX8_fall_97 : decode cX8_fall 97 = .ok (.iload_n 2, 1) := by decide +kernel
theorem dX8_fall_98 : decode cX8_fall 98 = .ok (.ireturn, 1) := by decide +kernel
theorem dX8_isHouse_0 : decode cX8_isHouse 0 = .ok (.iload_n 0, 1) := by decide +kernel
theorem dX8_isHouse_1 : decode cX8_isHouse 1 = .ok (.iconst 0, 1) := by decide +kernel
theorem dX8_isHouse_2 : decode cX8_isHouse 2 = .ok (.bipush 7, 2) := by decide +kernel
theorem dX8_isHouse_4 : decode cX8_isHouse 4 = .ok (.invokestatic 68, 3) := by decide +kernel
theorem dX8_isHouse_7 : decode cX8_isHouse 7 = .ok (.ireturn, 1) := by decide +kernel
theorem dX8_link_0 : decode cX8_link 0 = .ok (.iload_n 1, 1) := by decide +kernel
theorem dX8_link_1 : decode cX8_link 1 = .ok (.invokestatic 276, 3) := by decide +kernel
theorem dX8_link_4 : decode cX8_link 4 = .ok (.ifCond .eq 25, 3) := by decide +kernel
theorem dX8_link_7 : decode cX8_link 7 = .ok (.iload_n 2, 1) := by decide +kernel
theorem dX8_link_8 : decode cX8_link 8 = .ok (.invokestatic 276, 3) := by decide +kernel
theorem dX8_link_11 : decode cX8_link 11 = .ok (.ifCond .eq 18, 3) := by decide +kernel
theorem dX8_link_14 : decode cX8_link 14 = .ok (.iload_n 1, 1) := by decide +kernel
theorem dX8_link_15 : decode cX8_link 15 = .ok (.iload_n 2, 1) := by decide +kernel
theorem dX8_link_16 : decode cX8_link 16 = .ok (.if_icmp .eq 13, 3) := by decide +kernel
theorem dX8_link_19 : decode cX8_link 19 = .ok (.iload_n 3, 1) := by decide +kernel
theorem dX8_link_20 : decode cX8_link 20 = .ok (.iconst 1, 1) := by decide +kernel
theorem dX8_link_21 : decode cX8_link 21 = .ok (.bipush 60, 2) := by decide +kernel
theorem dX8_link_23 : decode cX8_link 23 = .ok (.invokestatic 68, 3) := by decide +kernel
theorem dX8_link_26 : decode cX8_link 26 = .ok (.ifCond .ne 10, 3) := by decide +kernel
theorem dX8_link_29 : decode cX8_link 29 = .ok (.aload_n 0, 1) := by decide +kernel
theorem dX8_link_30 : decode cX8_link 30 = .ok (.ldc 76, 2) := by decide +kernel
theorem dX8_link_32 : decode cX8_link 32 = .ok (.invokevirtual 77, 3) := by decide +kernel
theorem dX8_link_35 : decode cX8_link 35 = .ok (.ireturn, 1) := by decide +kernel
theorem dX8_link_36 : decode cX8_link 36 = .ok (.aload_n 0, 1) := by decide +kernel
theorem dX8_link_37 : decode cX8_link 37 = .ok (.getfield 9, 3) := by decide +kernel
theorem dX8_link_40 : decode cX8_link 40 = .ok (.iconst 2, 1) := by decide +kernel
theorem dX8_link_41 : decode cX8_link 41 = .ok (.iaload, 1) := by decide +kernel
theorem dX8_link_42 : decode cX8_link 42 = .ok (.istore 4, 2) := by decide +kernel
theorem dX8_link_44 : decode cX8_link 44 = .ok (.iload 4, 2) := by decide +kernel
theorem dX8_link_46 : decode cX8_link 46 = .ok (.bipush 20, 2) := by decide +kernel
theorem dX8_link_48 : decode cX8_link 48 = .ok (.if_icmp .ne 10, 3) := by decide +kernel
theorem dX8_link_51 : decode cX8_link 51 = .ok (.aload_n 0, 1) := by decide +kernel
theorem dX8_link_52 : decode cX8_link 52 = .ok (.ldc 82, 2) := by decide +kernel
theorem dX8_link_54 : decode cX8_link 54 = .ok (.invokevirtual 77, 3) := by decide +kernel
theorem dX8_link_57 : decode cX8_link 57 = .ok (.ireturn, 1) := by decide +kernel
theorem dX8_link_58 : decode cX8_link 58 = .ok (.aload_n 0, 1) := by decide +kernel
theorem dX8_link_59 : decode cX8_link 59 = .ok (.getfield 9, 3) := by decide +kernel
theorem dX8_link_62 : decode cX8_link 62 = .ok (.sipush 778, 3) := by decide +kernel
theorem dX8_link_65 : decode cX8_link 65 = .ok (.iconst 3, 1) := by decide +kernel
theorem dX8_link_66 : decode cX8_link 66 = .ok (.iload 4, 2) := by decide +kernel
theorem dX8_link_68 : decode cX8_link 68 = .ok (.imul, 1) := by decide +kernel
theorem dX8_link_69 : decode cX8_link 69 = .ok (.iadd, 1) := by decide +kernel
theorem dX8_link_70 : decode cX8_link 70 = .ok (.iload_n 1, 1) := by decide +kernel
theorem dX8_link_71 : decode cX8_link 71 = .ok (.iastore, 1) := by decide +kernel
theorem dX8_link_72 : decode cX8_link 72 = .ok (.aload_n 0, 1) := by decide +kernel
theorem dX8_link_73 : decode cX8_link 73 = .ok (.getfield 9, 3) := by decide +kernel
theorem dX8_link_76 : decode cX8_link 76 = .ok (.sipush 778, 3) := by decide +kernel
theorem dX8_link_79 : decode cX8_link 79 = .ok (.iconst 3, 1) := by decide +kernel
theorem dX8_link_80 : decode cX8_link 80 = .ok (.iload 4, 2) := by decide +kernel
theorem dX8_link_82 : decode cX8_link 82 = .ok (.imul, 1) := by decide +kernel
theorem dX8_link_83 : decode cX8_link 83 = .ok (.iadd, 1) := by decide +kernel
theorem dX8_link_84 : decode cX8_link 84 = .ok (.iconst 1, 1) := by decide +kernel
theorem dX8_link_85 : decode cX8_link 85 = .ok (.iadd, 1) := by decide +kernel
theorem dX8_link_86 : decode cX8_link 86 = .ok (.iload_n 2, 1) := by decide +kernel
theorem dX8_link_87 : decode cX8_link 87 = .ok (.iastore, 1) := by decide +kernel
theorem dX8_link_88 : decode cX8_link 88 = .ok (.aload_n 0, 1) := by decide +kernel
theorem dX8_link_89 : decode cX8_link 89 = .ok (.getfield 9, 3) := by decide +kernel
theorem dX8_link_92 : decode cX8_link 92 = .ok (.sipush 778, 3) := by decide +kernel
theorem dX8_link_95 : decode cX8_link 95 = .ok (.iconst 3, 1) := by decide +kernel
theorem dX8_link_96 : decode cX8_link 96 = .ok (.iload 4, 2) := by decide +kernel
theorem dX8_link_98 : decode cX8_link 98 = .ok (.imul, 1) := by decide +kernel
theorem dX8_link_99 : decode cX8_link 99 = .ok (.iadd, 1) := by decide +kernel
theorem dX8_link_100 : decode cX8_link 100 = .ok (.iconst 2, 1) := by decide +kernel
theorem dX8_link_101 : decode cX8_link 101 = .ok (.iadd, 1) := by decide +kernel
theorem dX8_link_102 : decode cX8_link 102 = .ok (.iload_n 3, 1) := by decide +kernel
theorem dX8_link_103 : decode cX8_link 103 = .ok (.iastore, 1) := by decide +kernel
theorem dX8_link_104 : decode cX8_link 104 = .ok (.aload_n 0, 1) := by decide +kernel
theorem dX8_link_105 : decode cX8_link 105 = .ok (.getfield 9, 3) := by decide +kernel
theorem dX8_link_108 : decode cX8_link 108 = .ok (.iconst 2, 1) := by decide +kernel
theorem dX8_link_109 : decode cX8_link 109 = .ok (.dup2, 1) := by decide +kernel
theorem dX8_link_110 : decode cX8_link 110 = .ok (.iaload, 1) := by decide +kernel
theorem dX8_link_111 : decode cX8_link 111 = .ok (.iconst 1, 1) := by decide +kernel
theorem dX8_link_112 : decode cX8_link 112 = .ok (.iadd, 1) := by decide +kernel
theorem dX8_link_113 : decode cX8_link 113 = .ok (.iastore, 1) := by decide +kernel
theorem dX8_link_114 : decode cX8_link 114 = .ok (.aload_n 0, 1) := by decide +kernel
theorem dX8_link_115 : decode cX8_link 115 = .ok (.getfield 9, 3) := by decide +kernel
theorem dX8_link_118 : decode cX8_link 118 = .ok (.iconst 2, 1) := by decide +kernel
theorem dX8_link_119 : decode cX8_link 119 = .ok (.iaload, 1) := by decide +kernel
theorem dX8_link_120 : decode cX8_link 120 = .ok (.ireturn, 1) := by decide +kernel
theorem dX8_tries_0 : decode cX8_tries 0 = .ok (.iload_n 1, 1) := by decide +kernel
theorem dX8_tries_1 : decode cX8_tries 1 = .ok (.invokestatic 276, 3) := by decide +kernel
theorem dX8_tries_4 : decode cX8_tries 4 = .ok (.ifCond .eq 23, 3) := by decide +kernel
theorem dX8_tries_7 : decode cX8_tries 7 = .ok (.aload_n 0, 1) := by decide +kernel
theorem dX8_tries_8 : decode cX8_tries 8 = .ok (.iload_n 2, 1) := by decide +kernel
theorem dX8_tries_9 : decode cX8_tries 9 = .ok (.iconst 0, 1) := by decide +kernel
theorem dX8_tries_10 : decode cX8_tries 10 = .ok (.invokevirtual 83, 3) := by decide +kernel
theorem dX8_tries_13 : decode cX8_tries 13 = .ok (.ifCond .eq 14, 3) := by decide +kernel
theorem dX8_tries_16 : decode cX8_tries 16 = .ok (.iload_n 3, 1) := by decide +kernel
theorem dX8_tries_17 : decode cX8_tries 17 = .ok (.iconst 0, 1) := by decide +kernel
theorem dX8_tries_18 : decode cX8_tries 18 = .ok (.sipush 999, 3) := by decide +kernel
theorem dX8_tries_21 : decode cX8_tries 21 = .ok (.invokestatic 68, 3) := by decide +kernel
theorem dX8_tries_24 : decode cX8_tries 24 = .ok (.ifCond .ne 10, 3) := by decide +kernel
theorem dX8_tries_27 : decode cX8_tries 27 = .ok (.aload_n 0, 1) := by decide +kernel
theorem dX8_tries_28 : decode cX8_tries 28 = .ok (.ldc 76, 2) := by decide +kernel
theorem dX8_tries_30 : decode cX8_tries 30 = .ok (.invokevirtual 77, 3) := by decide +kernel
theorem dX8_tries_33 : decode cX8_tries 33 = .ok (.ireturn, 1) := by decide +kernel
theorem dX8_tries_34 : decode cX8_tries 34 = .ok (.aload_n 0, 1) := by decide +kernel
theorem dX8_tries_35 : decode cX8_tries 35 = .ok (.getfield 9, 3) := by decide +kernel
theorem dX8_tries_38 : decode cX8_tries 38 = .ok (.iconst 3, 1) := by decide +kernel
theorem dX8_tries_39 : decode cX8_tries 39 = .ok (.iaload, 1) := by decide +kernel
theorem dX8_tries_40 : decode cX8_tries 40 = .ok (.istore 5, 2) := by decide +kernel
theorem dX8_tries_42 : decode cX8_tries 42 = .ok (.iload 5, 2) := by decide +kernel
theorem dX8_tries_44 : decode cX8_tries 44 = .ok (.bipush 30, 2) := by decide +kernel
theorem dX8_tries_46 : decode cX8_tries 46 = .ok (.if_icmp .ne 10, 3) := by decide +kernel
theorem dX8_tries_49 : decode cX8_tries 49 = .ok (.aload_n 0, 1) := by decide +kernel
theorem dX8_tries_50 : decode cX8_tries 50 = .ok (.ldc 82, 2) := by decide +kernel
theorem dX8_tries_52 : decode cX8_tries 52 = .ok (.invokevirtual 77, 3) := by decide +kernel
theorem dX8_tries_55 : decode cX8_tries 55 = .ok (.ireturn, 1) := by decide +kernel
theorem dX8_tries_56 : decode cX8_tries 56 = .ok (.aload_n 0, 1) := by decide +kernel
theorem dX8_tries_57 : decode cX8_tries 57 = .ok (.getfield 9, 3) := by decide +kernel
theorem dX8_tries_60 : decode cX8_tries 60 = .ok (.sipush 838, 3) := by decide +kernel
theorem dX8_tries_63 : decode cX8_tries 63 = .ok (.iconst 4, 1) := by decide +kernel
theorem dX8_tries_64 : decode cX8_tries 64 = .ok (.iload 5, 2) := by decide +kernel
theorem dX8_tries_66 : decode cX8_tries 66 = .ok (.imul, 1) := by decide +kernel
theorem dX8_tries_67 : decode cX8_tries 67 = .ok (.iadd, 1) := by decide +kernel
theorem dX8_tries_68 : decode cX8_tries 68 = .ok (.iload_n 1, 1) := by decide +kernel
theorem dX8_tries_69 : decode cX8_tries 69 = .ok (.iastore, 1) := by decide +kernel
theorem dX8_tries_70 : decode cX8_tries 70 = .ok (.aload_n 0, 1) := by decide +kernel
theorem dX8_tries_71 : decode cX8_tries 71 = .ok (.getfield 9, 3) := by decide +kernel
theorem dX8_tries_74 : decode cX8_tries 74 = .ok (.sipush 838, 3) := by decide +kernel
theorem dX8_tries_77 : decode cX8_tries 77 = .ok (.iconst 4, 1) := by decide +kernel
theorem dX8_tries_78 : decode cX8_tries 78 = .ok (.iload 5, 2) := by decide +kernel
theorem dX8_tries_80 : decode cX8_tries 80 = .ok (.imul, 1) := by decide +kernel
theorem dX8_tries_81 : decode cX8_tries 81 = .ok (.iadd, 1) := by decide +kernel
theorem dX8_tries_82 : decode cX8_tries 82 = .ok (.iconst 1, 1) := by decide +kernel
theorem dX8_tries_83 : decode cX8_tries 83 = .ok (.iadd, 1) := by decide +kernel
theorem dX8_tries_84 : decode cX8_tries 84 = .ok (.iload_n 2, 1) := by decide +kernel
theorem dX8_tries_85 : decode cX8_tries 85 = .ok (.iastore, 1) := by decide +kernel
theorem dX8_tries_86 : decode cX8_tries 86 = .ok (.aload_n 0, 1) := by decide +kernel
theorem dX8_tries_87 : decode cX8_tries 87 = .ok (.getfield 9, 3) := by decide +kernel
theorem dX8_tries_90 : decode cX8_tries 90 = .ok (.sipush 838, 3) := by decide +kernel
theorem dX8_tries_93 : decode cX8_tries 93 = .ok (.iconst 4, 1) := by decide +kernel
theorem dX8_tries_94 : decode cX8_tries 94 = .ok (.iload 5, 2) := by decide +kernel
theorem dX8_tries_96 : decode cX8_tries 96 = .ok (.imul, 1) := by decide +kernel
theorem dX8_tries_97 : decode cX8_tries 97 = .ok (.iadd, 1) := by decide +kernel
theorem dX8_tries_98 : decode cX8_tries 98 = .ok (.iconst 2, 1) := by decide +kernel
theorem dX8_tries_99 : decode cX8_tries 99 = .ok (.iadd, 1) := by decide +kernel
theorem dX8_tries_100 : decode cX8_tries 100 = .ok (.iload_n 3, 1) := by decide +kernel
theorem dX8_tries_101 : decode cX8_tries 101 = .ok (.iastore, 1) := by decide +kernel
theorem dX8_tries_102 : decode cX8_tries 102 = .ok (.aload_n 0, 1) := by decide +kernel
theorem dX8_tries_103 : decode cX8_tries 103 = .ok (.getfield 9, 3) := by decide +kernel
theorem dX8_tries_106 : decode cX8_tries 106 = .ok (.sipush 838, 3) := by decide +kernel
theorem dX8_tries_109 : decode cX8_tries 109 = .ok (.iconst 4, 1) := by decide +kernel
theorem dX8_tries_110 : decode cX8_tries 110 = .ok (.iload 5, 2) := by decide +kernel
theorem dX8_tries_112 : decode cX8_tries 112 = .ok (.imul, 1) := by decide +kernel
theorem dX8_tries_113 : decode cX8_tries 113 = .ok (.iadd, 1) := by decide +kernel
theorem dX8_tries_114 : decode cX8_tries 114 = .ok (.iconst 3, 1) := by decide +kernel
theorem dX8_tries_115 : decode cX8_tries 115 = .ok (.iadd, 1) := by decide +kernel
theorem dX8_tries_116 : decode cX8_tries 116 = .ok (.iload 4, 2) := by decide +kernel
theorem dX8_tries_118 : decode cX8_tries 118 = .ok (.ifCond .eq 7, 3) := by decide +kernel
theorem dX8_tries_121 : decode cX8_tries 121 = .ok (.iconst 1, 1) := by decide +kernel
theorem dX8_tries_122 : decode cX8_tries 122 = .ok (.goto 4, 3) := by decide +kernel
theorem dX8_tries_125 : decode cX8_tries 125 = .ok (.iconst 0, 1) := by decide +kernel
theorem dX8_tries_126 : decode cX8_tries 126 = .ok (.iastore, 1) := by decide +kernel
theorem dX8_tries_127 : decode cX8_tries 127 = .ok (.aload_n 0, 1) := by decide +kernel
theorem dX8_tries_128 : decode cX8_tries 128 = .ok (.getfield 9, 3) := by decide +kernel
theorem dX8_tries_131 : decode cX8_tries 131 = .ok (.iconst 3, 1) := by decide +kernel
theorem dX8_tries_132 : decode cX8_tries 132 = .ok (.dup2, 1) := by decide +kernel
theorem dX8_tries_133 : decode cX8_tries 133 = .ok (.iaload, 1) := by decide +kernel
theorem dX8_tries_134 : decode cX8_tries 134 = .ok (.iconst 1, 1) := by decide +kernel
theorem dX8_tries_135 : decode cX8_tries 135 = .ok (.iadd, 1) := by decide +kernel
theorem dX8_tries_136 : decode cX8_tries 136 = .ok (.iastore, 1) := by decide +kernel
theorem dX8_tries_137 : decode cX8_tries 137 = .ok (.aload_n 0, 1) := by decide +kernel
theorem dX8_tries_138 : decode cX8_tries 138 = .ok (.getfield 9, 3) := by decide +kernel
theorem dX8_tries_141 : decode cX8_tries 141 = .ok (.iconst 3, 1) := by decide +kernel
theorem dX8_tries_142 : decode cX8_tries 142 = .ok (.iaload, 1) := by decide +kernel
theorem dX8_tries_143 : decode cX8_tries 143 = .ok (.ireturn, 1) := by decide +kernel
theorem dX8_findFar_0 : decode cX8_findFar 0 = .ok (.iconst 0, 1) := by decide +kernel
theorem dX8_findFar_1 : decode cX8_findFar 1 = .ok (.istore_n 2, 1) := by decide +kernel
theorem dX8_findFar_2 : decode cX8_findFar 2 = .ok (.iload_n 2, 1) := by decide +kernel
theorem dX8_findFar_3 : decode cX8_findFar 3 = .ok (.bipush 8, 2) := by decide +kernel
theorem dX8_findFar_5 : decode cX8_findFar 5 = .ok (.if_icmp .ge 27, 3) := by decide +kernel
theorem dX8_findFar_8 : decode cX8_findFar 8 = .ok (.aload_n 0, 1) := by decide +kernel
theorem dX8_findFar_9 : decode cX8_findFar 9 = .ok (.getfield 46, 3) := by decide +kernel
theorem dX8_findFar_12 : decode cX8_findFar 12 = .ok (.iload_n 2, 1) := by decide +kernel
theorem dX8_findFar_13 : decode cX8_findFar 13 = .ok (.iload_n 2, 1) := by decide +kernel
theorem dX8_findFar_14 : decode cX8_findFar 14 = .ok (.iload_n 1, 1) := by decide +kernel
theorem dX8_findFar_15 : decode cX8_findFar 15 = .ok (.if_icmp .ne 7, 3) := by decide +kernel
theorem dX8_findFar_18 : decode cX8_findFar 18 = .ok (.iconst 0, 1) := by decide +kernel
theorem dX8_findFar_19 : decode cX8_findFar 19 = .ok (.goto 6, 3) := by decide +kernel
theorem dX8_findFar_22 : decode cX8_findFar 22 = .ok (.ldc_w 279, 3) := by decide +kernel
theorem dX8_findFar_25 : decode cX8_findFar 25 = .ok (.iastore, 1) := by decide +kernel
theorem dX8_findFar_26 : decode cX8_findFar 26 = .ok (.iinc 2 1, 3) := by decide +kernel
theorem dX8_findFar_29 : decode cX8_findFar 29 = .ok (.goto (-27), 3) := by decide +kernel
theorem dX8_findFar_32 : decode cX8_findFar 32 = .ok (.iconst 0, 1) := by decide +kernel
theorem dX8_findFar_33 : decode cX8_findFar 33 = .ok (.istore_n 2, 1) := by decide +kernel
theorem dX8_findFar_34 : decode cX8_findFar 34 = .ok (.iload_n 2, 1) := by decide +kernel
theorem dX8_findFar_35 : decode cX8_findFar 35 = .ok (.bipush 8, 2) := by decide +kernel
theorem dX8_findFar_37 : decode cX8_findFar 37 = .ok (.if_icmp .ge 82, 3) := by decide +kernel
theorem dX8_findFar_40 : decode cX8_findFar 40 = .ok (.sipush 778, 3) := by decide +kernel
theorem dX8_findFar_43 : decode cX8_findFar 43 = .ok (.istore_n 3, 1) := by decide +kernel
theorem dX8_findFar_44 : decode cX8_findFar 44 = .ok (.iload_n 3, 1) := by decide +kernel
theorem dX8_findFar_45 : decode cX8_findFar 45 = .ok (.sipush 778, 3) := by decide +kernel
theorem dX8_findFar_48 : decode cX8_findFar 48 = .ok (.iconst 3, 1) := by decide +kernel
theorem dX8_findFar_49 : decode cX8_findFar 49 = .ok (.aload_n 0, 1) := by decide +kernel
theorem dX8_findFar_50 : decode cX8_findFar 50 = .ok (.getfield 9, 3) := by decide +kernel
theorem dX8_findFar_53 : decode cX8_findFar 53 = .ok (.iconst 2, 1) := by decide +kernel
theorem dX8_findFar_54 : decode cX8_findFar 54 = .ok (.iaload, 1) := by decide +kernel
theorem dX8_findFar_55 : decode cX8_findFar 55 = .ok (.imul, 1) := by decide +kernel
theorem dX8_findFar_56 : decode cX8_findFar 56 = .ok (.iadd, 1) := by decide +kernel
theorem dX8_findFar_57 : decode cX8_findFar 57 = .ok (.if_icmp .ge 56, 3) := by decide +kernel
theorem dX8_findFar_60 : decode cX8_findFar 60 = .ok (.aload_n 0, 1) := by decide +kernel
theorem dX8_findFar_61 : decode cX8_findFar 61 = .ok (.getfield 46, 3) := by decide +kernel
theorem dX8_findFar_64 : decode cX8_findFar 64 = .ok (.aload_n 0, 1) := by decide +kernel
theorem dX8_findFar_65 : decode cX8_findFar 65 = .ok (.getfield 9, 3) := by decide +kernel
theorem dX8_findFar_68 : decode cX8_findFar 68 = .ok (.iload_n 3, 1) := by decide +kernel
theorem dX8_findFar_69 : decode cX8_findFar 69 = .ok (.iaload, 1) := by decide +kernel
theorem dX8_findFar_70 : decode cX8_findFar 70 = .ok (.aload_n 0, 1) := by decide +kernel
theorem dX8_findFar_71 : decode cX8_findFar 71 = .ok (.getfield 46, 3) := by decide +kernel
theorem dX8_findFar_74 : decode cX8_findFar 74 = .ok (.aload_n 0, 1) := by decide +kernel
theorem dX8_findFar_75 : decode cX8_findFar 75 = .ok (.getfield 9, 3) := by decide +kernel
theorem dX8_findFar_78 : decode cX8_findFar 78 = .ok (.iload_n 3, 1) := by decide +kernel
theorem dX8_findFar_79 : decode cX8_findFar 79 = .ok (.iaload, 1) := by decide +kernel
theorem dX8_findFar_80 : decode cX8_findFar 80 = .ok (.iaload, 1) := by decide +kernel
theorem dX8_findFar_81 : decode cX8_findFar 81 = .ok (.aload_n 0, 1) := by decide +kernel
theorem dX8_findFar_82 : decode cX8_findFar 82 = .ok (.getfield 46, 3) := by decide +kernel
theorem dX8_findFar_85 : decode cX8_findFar 85 = .ok (.aload_n 0, 1) := by decide +kernel
theorem dX8_findFar_86 : decode cX8_findFar 86 = .ok (.getfield 9, 3) := by decide +kernel
theorem dX8_findFar_89 : decode cX8_findFar 89 = .ok (.iload_n 3, 1) := by decide +kernel
theorem dX8_findFar_90 : decode cX8_findFar 90 = .ok (.iconst 1, 1) := by decide +kernel
theorem dX8_findFar_91 : decode cX8_findFar 91 = .ok (.iadd, 1) := by decide +kernel
theorem dX8_findFar_92 : decode cX8_findFar 92 = .ok (.iaload, 1) := by decide +kernel
theorem dX8_findFar_93 : decode cX8_findFar 93 = .ok (.iaload, 1) := by decide +kernel
theorem dX8_findFar_94 : decode cX8_findFar 94 = .ok (.aload_n 0, 1) := by decide +kernel
theorem dX8_findFar_95 : decode cX8_findFar 95 = .ok (.getfield 9, 3) := by decide +kernel
theorem dX8_findFar_98 : decode cX8_findFar 98 = .ok (.iload_n 3, 1) := by decide +kernel
theorem dX8_findFar_99 : decode cX8_findFar 99 = .ok (.iconst 2, 1) := by decide +kernel
theorem dX8_findFar_100 : decode cX8_findFar 100 = .ok (.iadd, 1) := by decide +kernel
theorem dX8_findFar_101 : decode cX8_findFar 101 = .ok (.iaload, 1) := by decide +kernel
theorem dX8_findFar_102 : decode cX8_findFar 102 = .ok (.iadd, 1) := by decide +kernel
theorem dX8_findFar_103 : decode cX8_findFar 103 = .ok (.invokestatic 280, 3) := by decide +kernel
theorem dX8_findFar_106 : decode cX8_findFar 106 = .ok (.iastore, 1) := by decide +kernel
theorem dX8_findFar_107 : decode cX8_findFar 107 = .ok (.iinc 3 3, 3) := by decide +kernel
theorem dX8_findFar_110 : decode cX8_findFar 110 = .ok (.goto (-66), 3) := by decide +kernel
theorem dX8_findFar_113 : decode cX8_findFar 113 = .ok (.iinc 2 1, 3) := by decide +kernel
theorem dX8_findFar_116 : decode cX8_findFar 116 = .ok (.goto (-82), 3) := by decide +kernel
theorem dX8_findFar_119 : decode cX8_findFar 119 = .ok (.return_, 1) := by decide +kernel
theorem dX8_knows_0 : decode cX8_knows 0 = .ok (.iload_n 1, 1) := by decide +kernel
theorem dX8_knows_1 : decode cX8_knows 1 = .ok (.invokestatic 276, 3) := by decide +kernel
theorem dX8_knows_4 : decode cX8_knows 4 = .ok (.ifCond .eq 22, 3) := by decide +kernel
theorem dX8_knows_7 : decode cX8_knows 7 = .ok (.aload_n 0, 1) := by decide +kernel
theorem dX8_knows_8 : decode cX8_knows 8 = .ok (.iload_n 2, 1) := by decide +kernel
theorem dX8_knows_9 : decode cX8_knows 9 = .ok (.iconst 0, 1) := by decide +kernel
theorem dX8_knows_10 : decode cX8_knows 10 = .ok (.invokevirtual 83, 3) := by decide +kernel
theorem dX8_knows_13 : decode cX8_knows 13 = .ok (.ifCond .eq 13, 3) := by decide +kernel
theorem dX8_knows_16 : decode cX8_knows 16 = .ok (.iload_n 3, 1) := by decide +kernel
theorem dX8_knows_17 : decode cX8_knows 17 = .ok (.iconst 1, 1) := by decide +kernel
theorem dX8_knows_18 : decode cX8_knows 18 = .ok (.bipush 30, 2) := by decide +kernel
theorem dX8_knows_20 : decode cX8_knows 20 = .ok (.invokestatic 68, 3) := by decide +kernel
theorem dX8_knows_23 : decode cX8_knows 23 = .ok (.ifCond .ne 10, 3) := by decide +kernel
theorem dX8_knows_26 : decode cX8_knows 26 = .ok (.aload_n 0, 1) := by decide +kernel
theorem dX8_knows_27 : decode cX8_knows 27 = .ok (.ldc 76, 2) := by decide +kernel
theorem dX8_knows_29 : decode cX8_knows 29 = .ok (.invokevirtual 77, 3) := by decide +kernel
theorem dX8_knows_32 : decode cX8_knows 32 = .ok (.ireturn, 1) := by decide +kernel
theorem dX8_knows_33 : decode cX8_knows 33 = .ok (.aload_n 0, 1) := by decide +kernel
theorem dX8_knows_34 : decode cX8_knows 34 = .ok (.iload_n 1, 1) := by decide +kernel
theorem dX8_knows_35 : decode cX8_knows 35 = .ok (.invokevirtual 282, 3) := by decide +kernel
theorem dX8_knows_38 : decode cX8_knows 38 = .ok (.iconst 0, 1) := by decide +kernel
theorem dX8_knows_39 : decode cX8_knows 39 = .ok (.istore 4, 2) := by decide +kernel
theorem dX8_knows_41 : decode cX8_knows 41 = .ok (.sipush 838, 3) := by decide +kernel
theorem dX8_knows_44 : decode cX8_knows 44 = .ok (.istore 5, 2) := by decide +kernel
theorem dX8_knows_46 : decode cX8_knows 46 = .ok (.iload 5, 2) := by decide +kernel
theorem dX8_knows_48 : decode cX8_knows 48 = .ok (.sipush 838, 3) := by decide +kernel
theorem dX8_knows_51 : decode cX8_knows 51 = .ok (.iconst 4, 1) := by decide +kernel
theorem dX8_knows_52 : decode cX8_knows 52 = .ok (.aload_n 0, 1) := by decide +kernel
theorem dX8_knows_53 : decode cX8_knows 53 = .ok (.getfield 9, 3) := by decide +kernel
theorem dX8_knows_56 : decode cX8_knows 56 = .ok (.iconst 3, 1) := by decide +kernel
theorem dX8_knows_57 : decode cX8_knows 57 = .ok (.iaload, 1) := by decide +kernel
theorem dX8_knows_58 : decode cX8_knows 58 = .ok (.imul, 1) := by decide +kernel
theorem dX8_knows_59 : decode cX8_knows 59 = .ok (.iadd, 1) := by decide +kernel
theorem dX8_knows_60 : decode cX8_knows 60 = .ok (.if_icmp .ge 170, 3) := by decide +kernel
theorem dX8_knows_63 : decode cX8_knows 63 = .ok (.aload_n 0, 1) := by decide +kernel
theorem dX8_knows_64 : decode cX8_knows 64 = .ok (.getfield 9, 3) := by decide +kernel
theorem dX8_knows_67 : decode cX8_knows 67 = .ok (.iload 5, 2) := by decide +kernel
theorem dX8_knows_69 : decode cX8_knows 69 = .ok (.iaload, 1) := by decide +kernel
theorem dX8_knows_70 : decode cX8_knows 70 = .ok (.istore 6, 2) := by decide +kernel
theorem dX8_knows_72 : decode cX8_knows 72 = .ok (.aload_n 0, 1) := by decide +kernel
theorem dX8_knows_73 : decode cX8_knows 73 = .ok (.getfield 9, 3) := by decide +kernel
theorem dX8_knows_76 : decode cX8_knows 76 = .ok (.iload 5, 2) := by decide +kernel
theorem dX8_knows_78 : decode cX8_knows 78 = .ok (.iconst 1, 1) := by decide +kernel
theorem dX8_knows_79 : decode cX8_knows 79 = .ok (.iadd, 1) := by decide +kernel
theorem dX8_knows_80 : decode cX8_knows 80 = .ok (.iaload, 1) := by decide +kernel
theorem dX8_knows_81 : decode cX8_knows 81 = .ok (.iload_n 2, 1) := by decide +kernel
theorem dX8_knows_82 : decode cX8_knows 82 = .ok (.if_icmp .ne 58, 3) := by decide +kernel
theorem dX8_knows_85 : decode cX8_knows 85 = .ok (.aload_n 0, 1) := by decide +kernel
theorem dX8_knows_86 : decode cX8_knows 86 = .ok (.getfield 9, 3) := by decide +kernel
theorem dX8_knows_89 : decode cX8_knows 89 = .ok (.iload 5, 2) := by decide +kernel
theorem dX8_knows_91 : decode cX8_knows 91 = .ok (.iconst 3, 1) := by decide +kernel
theorem dX8_knows_92 : decode cX8_knows 92 = .ok (.iadd, 1) := by decide +kernel
theorem dX8_knows_93 : decode cX8_knows 93 = .ok (.iaload, 1) := by decide +kernel
theorem dX8_knows_94 : decode cX8_knows 94 = .ok (.ifCond .ne 46, 3) := by decide +kernel
theorem dX8_knows_97 : decode cX8_knows 97 = .ok (.aload_n 0, 1) := by decide +kernel
theorem dX8_knows_98 : decode cX8_knows 98 = .ok (.getfield 46, 3) := by decide +kernel
theorem dX8_knows_101 : decode cX8_knows 101 = .ok (.iload 6, 2) := by decide +kernel
theorem dX8_knows_103 : decode cX8_knows 103 = .ok (.iaload, 1) := by decide +kernel
theorem dX8_knows_104 : decode cX8_knows 104 = .ok (.ldc_w 279, 3) := by decide +kernel
theorem dX8_knows_107 : decode cX8_knows 107 = .ok (.if_icmp .ge 33, 3) := by decide +kernel
theorem dX8_knows_110 : decode cX8_knows 110 = .ok (.iload 6, 2) := by decide +kernel
theorem dX8_knows_112 : decode cX8_knows 112 = .ok (.iload_n 1, 1) := by decide +kernel
theorem dX8_knows_113 : decode cX8_knows 113 = .ok (.if_icmp .eq 23, 3) := by decide +kernel
theorem dX8_knows_116 : decode cX8_knows 116 = .ok (.aload_n 0, 1) := by decide +kernel
theorem dX8_knows_117 : decode cX8_knows 117 = .ok (.iconst 2, 1) := by decide +kernel
theorem dX8_knows_118 : decode cX8_knows 118 = .ok (.iload 6, 2) := by decide +kernel
theorem dX8_knows_120 : decode cX8_knows 120 = .ok (.iload_n 2, 1) := by decide +kernel
theorem dX8_knows_121 : decode cX8_knows 121 = .ok (.aload_n 0, 1) := by decide +kernel
theorem dX8_knows_122 : decode cX8_knows 122 = .ok (.getfield 9, 3) := by decide +kernel
theorem dX8_knows_125 : decode cX8_knows 125 = .ok (.iload 5, 2) := by decide +kernel
theorem dX8_knows_127 : decode cX8_knows 127 = .ok (.iconst 2, 1) := by decide +kernel
theorem dX8_knows_128 : decode cX8_knows 128 = .ok (.iadd, 1) := by decide +kernel
theorem dX8_knows_129 : decode cX8_knows 129 = .ok (.iaload, 1) := by decide +kernel
theorem dX8_knows_130 : decode cX8_knows 130 = .ok (.invokevirtual 218, 3) := by decide +kernel
theorem dX8_knows_133 : decode cX8_knows 133 = .ok (.ifCond .eq 7, 3) := by decide +kernel
theorem dX8_knows_136 : decode cX8_knows 136 = .ok (.iconst 1, 1) := by decide +kernel
theorem dX8_knows_137 : decode cX8_knows 137 = .ok (.goto 4, 3) := by decide +kernel
theorem dX8_knows_140 : decode cX8_knows 140 = .ok (.iconst 0, 1) := by decide +kernel
theorem dX8_knows_141 : decode cX8_knows 141 = .ok (.istore 7, 2) := by decide +kernel
theorem dX8_knows_143 : decode cX8_knows 143 = .ok (.iload 7, 2) := by decide +kernel
theorem dX8_knows_145 : decode cX8_knows 145 = .ok (.ifCond .eq 79, 3) := by decide +kernel
theorem dX8_knows_148 : decode cX8_knows 148 = .ok (.aload_n 0, 1) := by decide +kernel
theorem dX8_knows_149 : decode cX8_knows 149 = .ok (.getfield 9, 3) := by decide +kernel
theorem dX8_knows_152 : decode cX8_knows 152 = .ok (.iload 5, 2) := by decide +kernel
theorem dX8_knows_154 : decode cX8_knows 154 = .ok (.iconst 2, 1) := by decide +kernel
theorem dX8_knows_155 : decode cX8_knows 155 = .ok (.iadd, 1) := by decide +kernel
theorem dX8_knows_156 : decode cX8_knows 156 = .ok (.iaload, 1) := by decide +kernel
theorem dX8_knows_157 : decode cX8_knows 157 = .ok (.aload_n 0, 1) := by decide +kernel
theorem dX8_knows_158 : decode cX8_knows 158 = .ok (.getfield 46, 3) := by decide +kernel
theorem dX8_knows_161 : decode cX8_knows 161 = .ok (.iload 6, 2) := by decide +kernel
theorem dX8_knows_163 : decode cX8_knows 163 = .ok (.iaload, 1) := by decide +kernel
theorem dX8_knows_164 : decode cX8_knows 164 = .ok (.iadd, 1) := by decide +kernel
theorem dX8_knows_165 : decode cX8_knows 165 = .ok (.istore 8, 2) := by decide +kernel
theorem dX8_knows_167 : decode cX8_knows 167 = .ok (.iload 4, 2) := by decide +kernel
theorem dX8_knows_169 : decode cX8_knows 169 = .ok (.istore 9, 2) := by decide +kernel
theorem dX8_knows_171 : decode cX8_knows 171 = .ok (.iload 9, 2) := by decide +kernel
theorem dX8_knows_173 : decode cX8_knows 173 = .ok (.ifCond .le 39, 3) := by decide +kernel
theorem dX8_knows_176 : decode cX8_knows 176 = .ok (.aload_n 0, 1) := by decide +kernel
theorem dX8_knows_177 : decode cX8_knows 177 = .ok (.getfield 49, 3) := by decide +kernel
theorem dX8_knows_180 : decode cX8_knows 180 = .ok (.iload 9, 2) := by decide +kernel
theorem dX8_knows_182 : decode cX8_knows 182 = .ok (.iconst 1, 1) := by decide +kernel
theorem dX8_knows_183 : decode cX8_knows 183 = .ok (.isub, 1) := by decide +kernel
theorem dX8_knows_184 : decode cX8_knows 184 = .ok (.iaload, 1) := by decide +kernel
theorem dX8_knows_185 : decode cX8_knows 185 = .ok (.iload 8, 2) := by decide +kernel
theorem dX8_knows_187 : decode cX8_knows 187 = .ok (.if_icmp .le 25, 3) := by decide +kernel
theorem dX8_knows_190 : decode cX8_knows 190 = .ok (.aload_n 0, 1) := by decide +kernel
theorem dX8_knows_191 : decode cX8_knows 191 = .ok (.getfield 49, 3) := by decide +kernel
theorem dX8_knows_194 : decode cX8_knows 194 = .ok (.iload 9, 2) := by decide +kernel
theorem dX8_knows_196 : decode cX8_knows 196 = .ok (.aload_n 0, 1) := by decide +kernel
theorem dX8_knows_197 : decode cX8_knows 197 = .ok (.getfield 49, 3) := by decide +kernel
theorem dX8_knows_200 : decode cX8_knows 200 = .ok (.iload 9, 2) := by decide +kernel
theorem dX8_knows_202 : decode cX8_knows 202 = .ok (.iconst 1, 1) := by decide +kernel
theorem dX8_knows_203 : decode cX8_knows 203 = .ok (.isub, 1) := by decide +kernel
theorem dX8_knows_204 : decode cX8_knows 204 = .ok (.iaload, 1) := by decide +kernel
theorem dX8_knows_205 : decode cX8_knows 205 = .ok (.iastore, 1) := by decide +kernel
theorem dX8_knows_206 : decode cX8_knows 206 = .ok (.iinc 9 (-1), 3) := by decide +kernel
theorem dX8_knows_209 : decode cX8_knows 209 = .ok (.goto (-38), 3) := by decide +kernel
theorem dX8_knows_212 : decode cX8_knows 212 = .ok (.aload_n 0, 1) := by decide +kernel
theorem dX8_knows_213 : decode cX8_knows 213 = .ok (.getfield 49, 3) := by decide +kernel
theorem dX8_knows_216 : decode cX8_knows 216 = .ok (.iload 9, 2) := by decide +kernel
theorem dX8_knows_218 : decode cX8_knows 218 = .ok (.iload 8, 2) := by decide +kernel
theorem dX8_knows_220 : decode cX8_knows 220 = .ok (.iastore, 1) := by decide +kernel
theorem dX8_knows_221 : decode cX8_knows 221 = .ok (.iinc 4 1, 3) := by decide +kernel
theorem dX8_knows_224 : decode cX8_knows 224 = .ok (.iinc 5 4, 3) := by decide +kernel
theorem dX8_knows_227 : decode cX8_knows 227 = .ok (.goto (-181), 3) := by decide +kernel
theorem dX8_knows_230 : decode cX8_knows 230 = .ok (.iload_n 3, 1) := by decide +kernel
theorem dX8_knows_231 : decode cX8_knows 231 = .ok (.iload 4, 2) := by decide +kernel
theorem dX8_knows_233 : decode cX8_knows 233 = .ok (.if_icmp .gt 14, 3) := by decide +kernel
theorem dX8_knows_236 : decode cX8_knows 236 = .ok (.aload_n 0, 1) := by decide +kernel
theorem dX8_knows_237 : decode cX8_knows 237 = .ok (.getfield 49, 3) := by decide +kernel
theorem dX8_knows_240 : decode cX8_knows 240 = .ok (.iload_n 3, 1) := by decide +kernel
theorem dX8_knows_241 : decode cX8_knows 241 = .ok (.iconst 1, 1) := by decide +kernel
theorem dX8_knows_242 : decode cX8_knows 242 = .ok (.isub, 1) := by decide +kernel
theorem dX8_knows_243 : decode cX8_knows 243 = .ok (.iaload, 1) := by decide +kernel
theorem dX8_knows_244 : decode cX8_knows 244 = .ok (.goto 9, 3) := by decide +kernel
theorem dX8_knows_247 : decode cX8_knows 247 = .ok (.aload_n 0, 1) := by decide +kernel
theorem dX8_knows_248 : decode cX8_knows 248 = .ok (.ldc 113, 2) := by decide +kernel
theorem dX8_knows_250 : decode cX8_knows 250 = .ok (.invokevirtual 77, 3) := by decide +kernel
theorem dX8_knows_253 : decode cX8_knows 253 = .ok (.ireturn, 1) := by decide +kernel
theorem dX8_areCurves_0 : decode cX8_areCurves 0 = .ok (.iload_n 1, 1) := by decide +kernel
theorem dX8_areCurves_1 : decode cX8_areCurves 1 = .ok (.iconst 0, 1) := by decide +kernel
theorem dX8_areCurves_2 : decode cX8_areCurves 2 = .ok (.iconst 1, 1) := by decide +kernel
theorem dX8_areCurves_3 : decode cX8_areCurves 3 = .ok (.aload_n 0, 1) := by decide +kernel
theorem dX8_areCurves_4 : decode cX8_areCurves 4 = .ok (.getfield 9, 3) := by decide +kernel
theorem dX8_areCurves_7 : decode cX8_areCurves 7 = .ok (.iconst 1, 1) := by decide +kernel
theorem dX8_areCurves_8 : decode cX8_areCurves 8 = .ok (.iaload, 1) := by decide +kernel
theorem dX8_areCurves_9 : decode cX8_areCurves 9 = .ok (.ishl, 1) := by decide +kernel
theorem dX8_areCurves_10 : decode cX8_areCurves 10 = .ok (.iconst 1, 1) := by decide +kernel
theorem dX8_areCurves_11 : decode cX8_areCurves 11 = .ok (.isub, 1) := by decide +kernel
theorem dX8_areCurves_12 : decode cX8_areCurves 12 = .ok (.invokestatic 68, 3) := by decide +kernel
theorem dX8_areCurves_15 : decode cX8_areCurves 15 = .ok (.ireturn, 1) := by decide +kernel
theorem dX8_rule_0 : decode cX8_rule 0 = .ok (.iload_n 1, 1) := by decide +kernel
theorem dX8_rule_1 : decode cX8_rule 1 = .ok (.iconst 1, 1) := by decide +kernel
theorem dX8_rule_2 : decode cX8_rule 2 = .ok (.bipush 99, 2) := by decide +kernel
theorem dX8_rule_4 : decode cX8_rule 4 = .ok (.invokestatic 68, 3) := by decide +kernel
theorem dX8_rule_7 : decode cX8_rule 7 = .ok (.ifCond .eq 11, 3) := by decide +kernel
theorem dX8_rule_10 : decode cX8_rule 10 = .ok (.aload_n 0, 1) := by decide +kernel
theorem dX8_rule_11 : decode cX8_rule 11 = .ok (.iload_n 2, 1) := by decide +kernel
theorem dX8_rule_12 : decode cX8_rule 12 = .ok (.invokevirtual 285, 3) := by decide +kernel
theorem dX8_rule_15 : decode cX8_rule 15 = .ok (.ifCond .ne 10, 3) := by decide +kernel
theorem dX8_rule_18 : decode cX8_rule 18 = .ok (.aload_n 0, 1) := by decide +kernel
theorem dX8_rule_19 : decode cX8_rule 19 = .ok (.ldc 76, 2) := by decide +kernel
theorem dX8_rule_21 : decode cX8_rule 21 = .ok (.invokevirtual 77, 3) := by decide +kernel
theorem dX8_rule_24 : decode cX8_rule 24 = .ok (.ireturn, 1) := by decide +kernel
theorem dX8_rule_25 : decode cX8_rule 25 = .ok (.aload_n 0, 1) := by decide +kernel
theorem dX8_rule_26 : decode cX8_rule 26 = .ok (.getfield 9, 3) := by decide +kernel
theorem dX8_rule_29 : decode cX8_rule 29 = .ok (.iconst 4, 1) := by decide +kernel
theorem dX8_rule_30 : decode cX8_rule 30 = .ok (.iaload, 1) := by decide +kernel
theorem dX8_rule_31 : decode cX8_rule 31 = .ok (.istore_n 3, 1) := by decide +kernel
theorem dX8_rule_32 : decode cX8_rule 32 = .ok (.iload_n 3, 1) := by decide +kernel
theorem dX8_rule_33 : decode cX8_rule 33 = .ok (.bipush 8, 2) := by decide +kernel
theorem dX8_rule_35 : decode cX8_rule 35 = .ok (.if_icmp .ne 10, 3) := by decide +kernel
theorem dX8_rule_38 : decode cX8_rule 38 = .ok (.aload_n 0, 1) := by decide +kernel
theorem dX8_rule_39 : decode cX8_rule 39 = .ok (.ldc 82, 2) := by decide +kernel
theorem dX8_rule_41 : decode cX8_rule 41 = .ok (.invokevirtual 77, 3) := by decide +kernel
theorem dX8_rule_44 : decode cX8_rule 44 = .ok (.ireturn, 1) := by decide +kernel
theorem dX8_rule_45 : decode cX8_rule 45 = .ok (.aload_n 0, 1) := by decide +kernel
theorem dX8_rule_46 : decode cX8_rule 46 = .ok (.getfield 9, 3) := by decide +kernel
theorem dX8_rule_49 : decode cX8_rule 49 = .ok (.sipush 958, 3) := by decide +kernel
theorem dX8_rule_52 : decode cX8_rule 52 = .ok (.iconst 2, 1) := by decide +kernel
theorem dX8_rule_53 : decode cX8_rule 53 = .ok (.iload_n 3, 1) := by decide +kernel
theorem dX8_rule_54 : decode cX8_rule 54 = .ok (.imul, 1) := by decide +kernel
theorem dX8_rule_55 : decode cX8_rule 55 = .ok (.iadd, 1) := by decide +kernel
theorem dX8_rule_56 : decode cX8_rule 56 = .ok (.iload_n 1, 1) := by decide +kernel
theorem dX8_rule_57 : decode cX8_rule 57 = .ok (.iastore, 1) := by decide +kernel
theorem dX8_rule_58 : decode cX8_rule 58 = .ok (.aload_n 0, 1) := by decide +kernel
theorem dX8_rule_59 : decode cX8_rule 59 = .ok (.getfield 9, 3) := by decide +kernel
theorem dX8_rule_62 : decode cX8_rule 62 = .ok (.sipush 958, 3) := by decide +kernel
theorem dX8_rule_65 : decode cX8_rule 65 = .ok (.iconst 2, 1) := by decide +kernel
theorem dX8_rule_66 : decode cX8_rule 66 = .ok (.iload_n 3, 1) := by decide +kernel
theorem dX8_rule_67 : decode cX8_rule 67 = .ok (.imul, 1) := by decide +kernel
theorem dX8_rule_68 : decode cX8_rule 68 = .ok (.iadd, 1) := by decide +kernel
theorem dX8_rule_69 : decode cX8_rule 69 = .ok (.iconst 1, 1) := by decide +kernel
theorem dX8_rule_70 : decode cX8_rule 70 = .ok (.iadd, 1) := by decide +kernel
theorem dX8_rule_71 : decode cX8_rule 71 = .ok (.iload_n 2, 1) := by decide +kernel
theorem dX8_rule_72 : decode cX8_rule 72 = .ok (.iastore, 1) := by decide +kernel
theorem dX8_rule_73 : decode cX8_rule 73 = .ok (.aload_n 0, 1) := by decide +kernel
theorem dX8_rule_74 : decode cX8_rule 74 = .ok (.getfield 9, 3) := by decide +kernel
theorem dX8_rule_77 : decode cX8_rule 77 = .ok (.iconst 4, 1) := by decide +kernel
theorem dX8_rule_78 : decode cX8_rule 78 = .ok (.dup2, 1) := by decide +kernel
theorem dX8_rule_79 : decode cX8_rule 79 = .ok (.iaload, 1) := by decide +kernel
theorem dX8_rule_80 : decode cX8_rule 80 = .ok (.iconst 1, 1) := by decide +kernel
theorem dX8_rule_81 : decode cX8_rule 81 = .ok (.iadd, 1) := by decide +kernel
theorem dX8_rule_82 : decode cX8_rule 82 = .ok (.iastore, 1) := by decide +kernel
theorem dX8_rule_83 : decode cX8_rule 83 = .ok (.iload_n 3, 1) := by decide +kernel
theorem dX8_rule_84 : decode cX8_rule 84 = .ok (.ireturn, 1) := by decide +kernel
theorem dX8_rules_0 : decode cX8_rules 0 = .ok (.aload_n 0, 1) := by decide +kernel
theorem dX8_rules_1 : decode cX8_rules 1 = .ok (.iload_n 1, 1) := by decide +kernel
theorem dX8_rules_2 : decode cX8_rules 2 = .ok (.invokevirtual 285, 3) := by decide +kernel
theorem dX8_rules_5 : decode cX8_rules 5 = .ok (.ifCond .eq 22, 3) := by decide +kernel
theorem dX8_rules_8 : decode cX8_rules 8 = .ok (.iload_n 2, 1) := by decide +kernel
theorem dX8_rules_9 : decode cX8_rules 9 = .ok (.iconst 1, 1) := by decide +kernel
theorem dX8_rules_10 : decode cX8_rules 10 = .ok (.bipush 24, 2) := by decide +kernel
theorem dX8_rules_12 : decode cX8_rules 12 = .ok (.invokestatic 68, 3) := by decide +kernel
theorem dX8_rules_15 : decode cX8_rules 15 = .ok (.ifCond .eq 12, 3) := by decide +kernel
theorem dX8_rules_18 : decode cX8_rules 18 = .ok (.iload_n 3, 1) := by decide +kernel
theorem dX8_rules_19 : decode cX8_rules 19 = .ok (.iconst 0, 1) := by decide +kernel
theorem dX8_rules_20 : decode cX8_rules 20 = .ok (.iconst 1, 1) := by decide +kernel
theorem dX8_rules_21 : decode cX8_rules 21 = .ok (.invokestatic 68, 3) := by decide +kernel
theorem dX8_rules_24 : decode cX8_rules 24 = .ok (.ifCond .ne 10, 3) := by decide +kernel
theorem dX8_rules_27 : decode cX8_rules 27 = .ok (.aload_n 0, 1) := by decide +kernel
theorem dX8_rules_28 : decode cX8_rules 28 = .ok (.ldc 76, 2) := by decide +kernel
theorem dX8_rules_30 : decode cX8_rules 30 = .ok (.invokevirtual 77, 3) := by decide +kernel
theorem dX8_rules_33 : decode cX8_rules 33 = .ok (.ireturn, 1) := by decide +kernel
theorem dX8_rules_34 : decode cX8_rules 34 = .ok (.iconst (-1), 1) := by decide +kernel
theorem dX8_rules_35 : decode cX8_rules 35 = .ok (.istore 4, 2) := by decide +kernel
theorem dX8_rules_37 : decode cX8_rules 37 = .ok (.iconst 0, 1) := by decide +kernel
theorem dX8_rules_38 : decode cX8_rules 38 = .ok (.istore 5, 2) := by decide +kernel
theorem dX8_rules_40 : decode cX8_rules 40 = .ok (.iconst 0, 1) := by decide +kernel
theorem dX8_rules_41 : decode cX8_rules 41 = .ok (.istore 6, 2) := by decide +kernel
theorem dX8_rules_43 : decode cX8_rules 43 = .ok (.iload 6, 2) := by decide +kernel
theorem dX8_rules_45 : decode cX8_rules 45 = .ok (.iconst 1, 1) := by decide +kernel
theorem dX8_rules_46 : decode cX8_rules 46 = .ok (.aload_n 0, 1) := by decide +kernel
theorem dX8_rules_47 : decode cX8_rules 47 = .ok (.getfield 9, 3) := by decide +kernel
theorem dX8_rules_50 : decode cX8_rules 50 = .ok (.iconst 4, 1) := by decide +kernel
theorem dX8_rules_51 : decode cX8_rules 51 = .ok (.iaload, 1) := by decide +kernel
theorem dX8_rules_52 : decode cX8_rules 52 = .ok (.ishl, 1) := by decide +kernel
theorem dX8_rules_53 : decode cX8_rules 53 = .ok (.if_icmp .ge 152, 3) := by decide +kernel
theorem dX8_rules_56 : decode cX8_rules 56 = .ok (.iconst 0, 1) := by decide +kernel
theorem dX8_rules_57 : decode cX8_rules 57 = .ok (.istore 7, 2) := by decide +kernel
theorem dX8_rules_59 : decode cX8_rules 59 = .ok (.iconst 0, 1) := by decide +kernel
theorem dX8_rules_60 : decode cX8_rules 60 = .ok (.istore 8, 2) := by decide +kernel
theorem dX8_rules_62 : decode cX8_rules 62 = .ok (.iconst 0, 1) := by decide +kernel
theorem dX8_rules_63 : decode cX8_rules 63 = .ok (.istore 9, 2) := by decide +kernel
theorem dX8_rules_65 : decode cX8_rules 65 = .ok (.iload 9, 2) := by decide +kernel
theorem dX8_rules_67 : decode cX8_rules 67 = .ok (.aload_n 0, 1) := by decide +kernel
theorem dX8_rules_68 : decode cX8_rules 68 = .ok (.getfield 9, 3) := by decide +kernel
theorem dX8_rules_71 : decode cX8_rules 71 = .ok (.iconst 4, 1) := by decide +kernel
theorem dX8_rules_72 : decode cX8_rules 72 = .ok (.iaload, 1) := by decide +kernel
theorem dX8_rules_73 : decode cX8_rules 73 = .ok (.if_icmp .ge 75, 3) := by decide +kernel
theorem dX8_rules_76 : decode cX8_rules 76 = .ok (.iload 7, 2) := by decide +kernel
theorem dX8_rules_78 : decode cX8_rules 78 = .ok (.iload 6, 2) := by decide +kernel
theorem dX8_rules_80 : decode cX8_rules 80 = .ok (.iload 9, 2) := by decide +kernel
theorem dX8_rules_82 : decode cX8_rules 82 = .ok (.invokestatic 137, 3) := by decide +kernel
theorem dX8_rules_85 : decode cX8_rules 85 = .ok (.ifCond .eq 21, 3) := by decide +kernel
theorem dX8_rules_88 : decode cX8_rules 88 = .ok (.aload_n 0, 1) := by decide +kernel
theorem dX8_rules_89 : decode cX8_rules 89 = .ok (.getfield 9, 3) := by decide +kernel
theorem dX8_rules_92 : decode cX8_rules 92 = .ok (.sipush 958, 3) := by decide +kernel
theorem dX8_rules_95 : decode cX8_rules 95 = .ok (.iconst 2, 1) := by decide +kernel
theorem dX8_rules_96 : decode cX8_rules 96 = .ok (.iload 9, 2) := by decide +kernel
theorem dX8_rules_98 : decode cX8_rules 98 = .ok (.imul, 1) := by decide +kernel
theorem dX8_rules_99 : decode cX8_rules 99 = .ok (.iadd, 1) := by decide +kernel
theorem dX8_rules_100 : decode cX8_rules 100 = .ok (.iconst 1, 1) := by decide +kernel
theorem dX8_rules_101 : decode cX8_rules 101 = .ok (.iadd, 1) := by decide +kernel
theorem dX8_rules_102 : decode cX8_rules 102 = .ok (.iaload, 1) := by decide +kernel
theorem dX8_rules_103 : decode cX8_rules 103 = .ok (.goto 4, 3) := by decide +kernel
theorem dX8_rules_106 : decode cX8_rules 106 = .ok (.iconst 0, 1) := by decide +kernel
theorem dX8_rules_107 : decode cX8_rules 107 = .ok (.ior, 1) := by decide +kernel
theorem dX8_rules_108 : decode cX8_rules 108 = .ok (.istore 7, 2) := by decide +kernel
theorem dX8_rules_110 : decode cX8_rules 110 = .ok (.iload 8, 2) := by decide +kernel
theorem dX8_rules_112 : decode cX8_rules 112 = .ok (.iload 6, 2) := by decide +kernel
theorem dX8_rules_114 : decode cX8_rules 114 = .ok (.iload 9, 2) := by decide +kernel
theorem dX8_rules_116 : decode cX8_rules 116 = .ok (.invokestatic 137, 3) := by decide +kernel
theorem dX8_rules_119 : decode cX8_rules 119 = .ok (.ifCond .eq 19, 3) := by decide +kernel
theorem dX8_rules_122 : decode cX8_rules 122 = .ok (.aload_n 0, 1) := by decide +kernel
theorem dX8_rules_123 : decode cX8_rules 123 = .ok (.getfield 9, 3) := by decide +kernel
theorem dX8_rules_126 : decode cX8_rules 126 = .ok (.sipush 958, 3) := by decide +kernel
theorem dX8_rules_129 : decode cX8_rules 129 = .ok (.iconst 2, 1) := by decide +kernel
theorem dX8_rules_130 : decode cX8_rules 130 = .ok (.iload 9, 2) := by decide +kernel
theorem dX8_rules_132 : decode cX8_rules 132 = .ok (.imul, 1) := by decide +kernel
theorem dX8_rules_133 : decode cX8_rules 133 = .ok (.iadd, 1) := by decide +kernel
theorem dX8_rules_134 : decode cX8_rules 134 = .ok (.iaload, 1) := by decide +kernel
theorem dX8_rules_135 : decode cX8_rules 135 = .ok (.goto 4, 3) := by decide +kernel
theorem dX8_rules_138 : decode cX8_rules 138 = .ok (.iconst 0, 1) := by decide +kernel
theorem dX8_rules_139 : decode cX8_rules 139 = .ok (.iadd, 1) := by decide +kernel
theorem dX8_rules_140 : decode cX8_rules 140 = .ok (.istore 8, 2) := by decide +kernel
theorem dX8_rules_142 : decode cX8_rules 142 = .ok (.iinc 9 1, 3) := by decide +kernel
theorem dX8_rules_145 : decode cX8_rules 145 = .ok (.goto (-80), 3) := by decide +kernel
theorem dX8_rules_148 : decode cX8_rules 148 = .ok (.iload 7, 2) := by decide +kernel
theorem dX8_rules_150 : decode cX8_rules 150 = .ok (.iload_n 1, 1) := by decide +kernel
theorem dX8_rules_151 : decode cX8_rules 151 = .ok (.iand, 1) := by decide +kernel
theorem dX8_rules_152 : decode cX8_rules 152 = .ok (.invokestatic 269, 3) := by decide +kernel
theorem dX8_rules_155 : decode cX8_rules 155 = .ok (.iload_n 2, 1) := by decide +kernel
theorem dX8_rules_156 : decode cX8_rules 156 = .ok (.if_icmp .lt 43, 3) := by decide +kernel
theorem dX8_rules_159 : decode cX8_rules 159 = .ok (.iload 4, 2) := by decide +kernel
theorem dX8_rules_161 : decode cX8_rules 161 = .ok (.ifCond .lt 30, 3) := by decide +kernel
theorem dX8_rules_164 : decode cX8_rules 164 = .ok (.iload 8, 2) := by decide +kernel
theorem dX8_rules_166 : decode cX8_rules 166 = .ok (.iload 5, 2) := by decide +kernel
theorem dX8_rules_168 : decode cX8_rules 168 = .ok (.if_icmp .lt 23, 3) := by decide +kernel
theorem dX8_rules_171 : decode cX8_rules 171 = .ok (.iload 8, 2) := by decide +kernel
theorem dX8_rules_173 : decode cX8_rules 173 = .ok (.iload 5, 2) := by decide +kernel
theorem dX8_rules_175 : decode cX8_rules 175 = .ok (.if_icmp .ne 24, 3) := by decide +kernel
theorem dX8_rules_178 : decode cX8_rules 178 = .ok (.iload 6, 2) := by decide +kernel
theorem dX8_rules_180 : decode cX8_rules 180 = .ok (.invokestatic 269, 3) := by decide +kernel
theorem dX8_rules_183 : decode cX8_rules 183 = .ok (.iload 4, 2) := by decide +kernel
theorem dX8_rules_185 : decode cX8_rules 185 = .ok (.invokestatic 269, 3) := by decide +kernel
theorem dX8_rules_188 : decode cX8_rules 188 = .ok (.if_icmp .ge 11, 3) := by decide +kernel
theorem dX8_rules_191 : decode cX8_rules 191 = .ok (.iload 6, 2) := by decide +kernel
theorem dX8_rules_193 : decode cX8_rules 193 = .ok (.istore 4, 2) := by decide +kernel
theorem dX8_rules_195 : decode cX8_rules 195 = .ok (.iload 8, 2) := by decide +kernel
theorem dX8_rules_197 : decode cX8_rules 197 = .ok (.istore 5, 2) := by decide +kernel
theorem dX8_rules_199 : decode cX8_rules 199 = .ok (.iinc 6 1, 3) := by decide +kernel
theorem dX8_rules_202 : decode cX8_rules 202 = .ok (.goto (-159), 3) := by decide +kernel
theorem dX8_rules_205 : decode cX8_rules 205 = .ok (.iload 4, 2) := by decide +kernel
theorem dX8_rules_207 : decode cX8_rules 207 = .ok (.ifCond .ge 12, 3) := by decide +kernel
theorem dX8_rules_210 : decode cX8_rules 210 = .ok (.aload_n 0, 1) := by decide +kernel
theorem dX8_rules_211 : decode cX8_rules 211 = .ok (.ldc 113, 2) := by decide +kernel
theorem dX8_rules_213 : decode cX8_rules 213 = .ok (.invokevirtual 77, 3) := by decide +kernel
theorem dX8_rules_216 : decode cX8_rules 216 = .ok (.goto 14, 3) := by decide +kernel
theorem dX8_rules_219 : decode cX8_rules 219 = .ok (.iload_n 3, 1) := by decide +kernel
theorem dX8_rules_220 : decode cX8_rules 220 = .ok (.ifCond .ne 8, 3) := by decide +kernel
theorem dX8_rules_223 : decode cX8_rules 223 = .ok (.iload 5, 2) := by decide +kernel
theorem dX8_rules_225 : decode cX8_rules 225 = .ok (.goto 5, 3) := by decide +kernel
theorem dX8_rules_228 : decode cX8_rules 228 = .ok (.iload 4, 2) := by decide +kernel
theorem dX8_rules_230 : decode cX8_rules 230 = .ok (.ireturn, 1) := by decide +kernel
theorem dX8_began_0 : decode cX8_began 0 = .ok (.aload_n 0, 1) := by decide +kernel
theorem dX8_began_1 : decode cX8_began 1 = .ok (.getfield 288, 3) := by decide +kernel
theorem dX8_began_4 : decode cX8_began 4 = .ok (.bipush 30, 2) := by decide +kernel
theorem dX8_began_6 : decode cX8_began 6 = .ok (.if_icmp .ge 23, 3) := by decide +kernel
theorem dX8_began_9 : decode cX8_began 9 = .ok (.aload_n 0, 1) := by decide +kernel
theorem dX8_began_10 : decode cX8_began 10 = .ok (.getfield 52, 3) := by decide +kernel
theorem dX8_began_13 : decode cX8_began 13 = .ok (.aload_n 0, 1) := by decide +kernel
theorem dX8_began_14 : decode cX8_began 14 = .ok (.getfield 288, 3) := by decide +kernel
theorem dX8_began_17 : decode cX8_began 17 = .ok (.iload_n 1, 1) := by decide +kernel
theorem dX8_began_18 : decode cX8_began 18 = .ok (.iastore, 1) := by decide +kernel
theorem dX8_began_19 : decode cX8_began 19 = .ok (.aload_n 0, 1) := by decide +kernel
theorem dX8_began_20 : decode cX8_began 20 = .ok (.dup, 1) := by decide +kernel
theorem dX8_began_21 : decode cX8_began 21 = .ok (.getfield 288, 3) := by decide +kernel
theorem dX8_began_24 : decode cX8_began 24 = .ok (.iconst 1, 1) := by decide +kernel
theorem dX8_began_25 : decode cX8_began 25 = .ok (.iadd, 1) := by decide +kernel
theorem dX8_began_26 : decode cX8_began 26 = .ok (.putfield 288, 3) := by decide +kernel
theorem dX8_began_29 : decode cX8_began 29 = .ok (.return_, 1) := by decide +kernel
theorem dX8_hasOwn_0 : decode cX8_hasOwn 0 = .ok (.iload_n 0, 1) := by decide +kernel
theorem dX8_hasOwn_1 : decode cX8_hasOwn 1 = .ok (.tableswitch 117 0 7 #[47, 49, 65, 76, 117, 91, 117, 106], 47) := by decide +kernel
theorem dX8_hasOwn_48 : decode cX8_hasOwn 48 = .ok (.iconst 1, 1) := by decide +kernel
theorem dX8_hasOwn_49 : decode cX8_hasOwn 49 = .ok (.ireturn, 1) := by decide +kernel
theorem dX8_hasOwn_50 : decode cX8_hasOwn 50 = .ok (.iload_n 1, 1) := by decide +kernel
theorem dX8_hasOwn_51 : decode cX8_hasOwn 51 = .ok (.iconst 1, 1) := by decide +kernel
theorem dX8_hasOwn_52 : decode cX8_hasOwn 52 = .ok (.if_icmp .eq 8, 3) := by decide +kernel
theorem dX8_hasOwn_55 : decode cX8_hasOwn 55 = .ok (.iload_n 1, 1) := by decide +kernel
theorem dX8_hasOwn_56 : decode cX8_hasOwn 56 = .ok (.iconst 2, 1) := by decide +kernel
theorem dX8_hasOwn_57 : decode cX8_hasOwn 57 = .ok (.if_icmp .ne 7, 3) := by decide +kernel
theorem dX8_hasOwn_60 : decode cX8_hasOwn 60 = .ok (.iconst 1, 1) := by decide +kernel
theorem dX8_hasOwn_61 : decode cX8_hasOwn 61 = .ok (.goto 4, 3) := by decide +kernel
theorem dX8_hasOwn_64 : decode cX8_hasOwn 64 = .ok (.iconst 0, 1) := by decide +kernel
theorem dX8_hasOwn_65 : decode cX8_hasOwn 65 = .ok (.ireturn, 1) := by decide +kernel
theorem dX8_hasOwn_66 : decode cX8_hasOwn 66 = .ok (.iload_n 1, 1) := by decide +kernel
theorem dX8_hasOwn_67 : decode cX8_hasOwn 67 = .ok (.iconst 2, 1) := by decide +kernel
theorem dX8_hasOwn_68 : decode cX8_hasOwn 68 = .ok (.if_icmp .ge 7, 3) := by decide +kernel
theorem dX8_hasOwn_71 : decode cX8_hasOwn 71 = .ok (.iconst 1, 1) := by decide +kernel
theorem dX8_hasOwn_72 : decode cX8_hasOwn 72 = .ok (.goto 4, 3) := by decide +kernel
theorem dX8_hasOwn_75 : decode cX8_hasOwn 75 = .ok (.iconst 0, 1) := by decide +kernel
theorem dX8_hasOwn_76 : decode cX8_hasOwn 76 = .ok (.ireturn, 1) := by decide +kernel
theorem dX8_hasOwn_77 : decode cX8_hasOwn 77 = .ok (.iload_n 1, 1) := by decide +kernel
theorem dX8_hasOwn_78 : decode cX8_hasOwn 78 = .ok (.ifCond .eq 8, 3) := by decide +kernel
theorem dX8_hasOwn_81 : decode cX8_hasOwn 81 = .ok (.iload_n 1, 1) := by decide +kernel
theorem dX8_hasOwn_82 : decode cX8_hasOwn 82 = .ok (.iconst 3, 1) := by decide +kernel
theorem dX8_hasOwn_83 : decode cX8_hasOwn 83 = .ok (.if_icmp .ne 7, 3) := by decide +kernel
theorem dX8_hasOwn_86 : decode cX8_hasOwn 86 = .ok (.iconst 1, 1) := by decide +kernel
theorem dX8_hasOwn_87 : decode cX8_hasOwn 87 = .ok (.goto 4, 3) := by decide +kernel
theorem dX8_hasOwn_90 : decode cX8_hasOwn 90 = .ok (.iconst 0, 1) := by decide +kernel
theorem dX8_hasOwn_91 : decode cX8_hasOwn 91 = .ok (.ireturn, 1) := by decide +kernel
theorem dX8_hasOwn_92 : decode cX8_hasOwn 92 = .ok (.iload_n 1, 1) := by decide +kernel
theorem dX8_hasOwn_93 : decode cX8_hasOwn 93 = .ok (.ifCond .eq 8, 3) := by decide +kernel
theorem dX8_hasOwn_96 : decode cX8_hasOwn 96 = .ok (.iload_n 1, 1) := by decide +kernel
theorem dX8_hasOwn_97 : decode cX8_hasOwn 97 = .ok (.iconst 2, 1) := by decide +kernel
theorem dX8_hasOwn_98 : decode cX8_hasOwn 98 = .ok (.if_icmp .ne 7, 3) := by decide +kernel
theorem dX8_hasOwn_101 : decode cX8_hasOwn 101 = .ok (.iconst 1, 1) := by decide +kernel
theorem dX8_hasOwn_102 : decode cX8_hasOwn 102 = .ok (.goto 4, 3) := by decide +kernel
theorem dX8_hasOwn_105 : decode cX8_hasOwn 105 = .ok (.iconst 0, 1) := by decide +kernel
theorem dX8_hasOwn_106 : decode cX8_hasOwn 106 = .ok (.ireturn, 1) := by decide +kernel
theorem dX8_hasOwn_107 : decode cX8_hasOwn 107 = .ok (.iload_n 1, 1) := by decide +kernel
theorem dX8_hasOwn_108 : decode cX8_hasOwn 108 = .ok (.iconst 3, 1) := by decide +kernel
theorem dX8_hasOwn_109 : decode cX8_hasOwn 109 = .ok (.if_icmp .ne 7, 3) := by decide +kernel
theorem dX8_hasOwn_112 : decode cX8_hasOwn 112 = .ok (.iconst 1, 1) := by decide +kernel
theorem dX8_hasOwn_113 : decode cX8_hasOwn 113 = .ok (.goto 4, 3) := by decide +kernel
theorem dX8_hasOwn_116 : decode cX8_hasOwn 116 = .ok (.iconst 0, 1) := by decide +kernel
theorem dX8_hasOwn_117 : decode cX8_hasOwn 117 = .ok (.ireturn, 1) := by decide +kernel
theorem dX8_hasOwn_118 : decode cX8_hasOwn 118 = .ok (.iload_n 1, 1) := by decide +kernel
theorem dX8_hasOwn_119 : decode cX8_hasOwn 119 = .ok (.iconst 2, 1) := by decide +kernel
theorem dX8_hasOwn_120 : decode cX8_hasOwn 120 = .ok (.if_icmp .ne 7, 3) := by decide +kernel
theorem dX8_hasOwn_123 : decode cX8_hasOwn 123 = .ok (.iconst 1, 1) := by decide +kernel
theorem dX8_hasOwn_124 : decode cX8_hasOwn 124 = .ok (.goto 4, 3) := by decide +kernel
theorem dX8_hasOwn_127 : decode cX8_hasOwn 127 = .ok (.iconst 0, 1) := by decide +kernel
theorem dX8_hasOwn_128 : decode cX8_hasOwn 128 = .ok (.ireturn, 1) := by decide +kernel
theorem dX8_voiced_0 : decode cX8_voiced 0 = .ok (.aload_n 0, 1) := by decide +kernel
theorem dX8_voiced_1 : decode cX8_voiced 1 = .ok (.aload_n 0, 1) := by decide +kernel
theorem dX8_voiced_2 : decode cX8_voiced 2 = .ok (.aload_n 0, 1) := by decide +kernel
theorem dX8_voiced_3 : decode cX8_voiced 3 = .ok (.getfield 291, 3) := by decide +kernel
theorem dX8_voiced_6 : decode cX8_voiced 6 = .ok (.iconst 0, 1) := by decide +kernel
theorem dX8_voiced_7 : decode cX8_voiced 7 = .ok (.invokevirtual 87, 3) := by decide +kernel
theorem dX8_voiced_10 : decode cX8_voiced 10 = .ok (.iload_n 1, 1) := by decide +kernel
theorem dX8_voiced_11 : decode cX8_voiced 11 = .ok (.iload_n 2, 1) := by decide +kernel
theorem dX8_voiced_12 : decode cX8_voiced 12 = .ok (.invokevirtual 294, 3) := by decide +kernel
theorem dX8_voiced_15 : decode cX8_voiced 15 = .ok (.ireturn, 1) := by decide +kernel
theorem dX8_bodyFrom_0 : decode cX8_bodyFrom 0 = .ok (.iload_n 1, 1) := by decide +kernel
theorem dX8_bodyFrom_1 : decode cX8_bodyFrom 1 = .ok (.istore 4, 2) := by decide +kernel
theorem dX8_bodyFrom_3 : decode cX8_bodyFrom 3 = .ok (.iload 4, 2) := by decide +kernel
theorem dX8_bodyFrom_5 : decode cX8_bodyFrom 5 = .ok (.iload_n 2, 1) := by decide +kernel
theorem dX8_bodyFrom_6 : decode cX8_bodyFrom 6 = .ok (.invokestatic 297, 3) := by decide +kernel
theorem dX8_bodyFrom_9 : decode cX8_bodyFrom 9 = .ok (.ifCond .ne 13, 3) := by decide +kernel
theorem dX8_bodyFrom_12 : decode cX8_bodyFrom 12 = .ok (.iload 4, 2) := by decide +kernel
theorem dX8_bodyFrom_14 : decode cX8_bodyFrom 14 = .ok (.invokestatic 143, 3) := by decide +kernel
theorem dX8_bodyFrom_17 : decode cX8_bodyFrom 17 = .ok (.istore 4, 2) := by decide +kernel
theorem dX8_bodyFrom_19 : decode cX8_bodyFrom 19 = .ok (.goto (-16), 3) := by decide +kernel
theorem dX8_bodyFrom_22 : decode cX8_bodyFrom 22 = .ok (.aload_n 0, 1) := by decide +kernel
theorem dX8_bodyFrom_23 : decode cX8_bodyFrom 23 = .ok (.getfield 300, 3) := by decide +kernel
theorem dX8_bodyFrom_26 : decode cX8_bodyFrom 26 = .ok (.ifCond .eq 7, 3) := by decide +kernel
theorem dX8_bodyFrom_29 : decode cX8_bodyFrom 29 = .ok (.iconst 0, 1) := by decide +kernel
theorem dX8_bodyFrom_30 : decode cX8_bodyFrom 30 = .ok (.goto 11, 3) := by decide +kernel
theorem dX8_bodyFrom_33 : decode cX8_bodyFrom 33 = .ok (.aload_n 0, 1) := by decide +kernel
theorem dX8_bodyFrom_34 : decode cX8_bodyFrom 34 = .ok (.iload 4, 2) := by decide +kernel
theorem dX8_bodyFrom_36 : decode cX8_bodyFrom 36 = .ok (.iload_n 2, 1) := by decide +kernel
theorem dX8_bodyFrom_37 : decode cX8_bodyFrom 37 = .ok (.iload_n 3, 1) := by decide +kernel
theorem dX8_bodyFrom_38 : decode cX8_bodyFrom 38 = .ok (.invokevirtual 303, 3) := by decide +kernel
theorem dX8_bodyFrom_41 : decode cX8_bodyFrom 41 = .ok (.ireturn, 1) := by decide +kernel
