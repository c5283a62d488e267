theorem dX4_side_23 : decode cX4_side 23 = .ok (.iload_n 1, 1) := by decide +kernel
theorem dX4_side_24 : decode cX4_side 24 = .ok (.iload_n 2, 1) := by decide +kernel
theorem dX4_side_25 : decode cX4_side 25 = .ok (.iastore, 1) := by decide +kernel
theorem dX4_side_26 : decode cX4_side 26 = .ok (.aload_n 0, 1) := by decide +kernel
theorem dX4_side_27 : decode cX4_side 27 = .ok (.getfield 18, 3) := by decide +kernel
theorem dX4_side_30 : decode cX4_side 30 = .ok (.getfield 142, 3) := by decide +kernel
theorem dX4_side_33 : decode cX4_side 33 = .ok (.iload_n 1, 1) := by decide +kernel
theorem dX4_side_34 : decode cX4_side 34 = .ok (.iload_n 3, 1) := by decide +kernel
theorem dX4_side_35 : decode cX4_side 35 = .ok (.iastore, 1) := by decide +kernel
theorem dX4_side_36 : decode cX4_side 36 = .ok (.iconst 1, 1) := by decide +kernel
theorem dX4_side_37 : decode cX4_side 37 = .ok (.ireturn, 1) := by decide +kernel
theorem dX4_mark_0 : decode cX4_mark 0 = .ok (.iload_n 1, 1) := by decide +kernel
theorem dX4_mark_1 : decode cX4_mark 1 = .ok (.ifCond .lt 9, 3) := by decide +kernel
theorem dX4_mark_4 : decode cX4_mark 4 = .ok (.iload_n 1, 1) := by decide +kernel
theorem dX4_mark_5 : decode cX4_mark 5 = .ok (.bipush 6, 2) := by decide +kernel
theorem dX4_mark_7 : decode cX4_mark 7 = .ok (.if_icmp .lt 9, 3) := by decide +kernel
theorem dX4_mark_10 : decode cX4_mark 10 = .ok (.aload_n 0, 1) := by decide +kernel
theorem dX4_mark_11 : decode cX4_mark 11 = .ok (.iconst (-1), 1) := by decide +kernel
theorem dX4_mark_12 : decode cX4_mark 12 = .ok (.invokevirtual 54, 3) := by decide +kernel
theorem dX4_mark_15 : decode cX4_mark 15 = .ok (.ireturn, 1) := by decide +kernel
theorem dX4_mark_16 : decode cX4_mark 16 = .ok (.aload_n 0, 1) := by decide +kernel
theorem dX4_mark_17 : decode cX4_mark 17 = .ok (.getfield 18, 3) := by decide +kernel
theorem dX4_mark_20 : decode cX4_mark 20 = .ok (.getfield 145, 3) := by decide +kernel
theorem dX4_mark_23 : decode cX4_mark 23 = .ok (.iload_n 1, 1) := by decide +kernel
theorem dX4_mark_24 : decode cX4_mark 24 = .ok (.iaload, 1) := by decide +kernel
theorem dX4_mark_25 : decode cX4_mark 25 = .ok (.istore_n 3, 1) := by decide +kernel
theorem dX4_mark_26 : decode cX4_mark 26 = .ok (.aload_n 0, 1) := by decide +kernel
theorem dX4_mark_27 : decode cX4_mark 27 = .ok (.getfield 18, 3) := by decide +kernel
theorem dX4_mark_30 : decode cX4_mark 30 = .ok (.getfield 145, 3) := by decide +kernel
theorem dX4_mark_33 : decode cX4_mark 33 = .ok (.iload_n 1, 1) := by decide +kernel
theorem dX4_mark_34 : decode cX4_mark 34 = .ok (.iload_n 2, 1) := by decide +kernel
theorem dX4_mark_35 : decode cX4_mark 35 = .ok (.iastore, 1) := by decide +kernel
theorem dX4_mark_36 : decode cX4_mark 36 = .ok (.iload_n 3, 1) := by decide +kernel
theorem dX4_mark_37 : decode cX4_mark 37 = .ok (.ireturn, 1) := by decide +kernel
theorem dX4_count_0 : decode cX4_count 0 = .ok (.aload_n 0, 1) := by decide +kernel
theorem dX4_count_1 : decode cX4_count 1 = .ok (.iload_n 1, 1) := by decide +kernel
theorem dX4_count_2 : decode cX4_count 2 = .ok (.invokevirtual 65, 3) := by decide +kernel
theorem dX4_count_5 : decode cX4_count 5 = .ok (.astore_n 2, 1) := by decide +kernel
theorem dX4_count_6 : decode cX4_count 6 = .ok (.aload_n 2, 1) := by decide +kernel
theorem dX4_count_7 : decode cX4_count 7 = .ok (.ifnonnull 9, 3) := by decide +kernel
theorem dX4_count_10 : decode cX4_count 10 = .ok (.aload_n 0, 1) := by decide +kernel
theorem dX4_count_11 : decode cX4_count 11 = .ok (.iconst (-1), 1) := by decide +kernel
theorem dX4_count_12 : decode cX4_count 12 = .ok (.invokevirtual 54, 3) := by decide +kernel
theorem dX4_count_15 : decode cX4_count 15 = .ok (.ireturn, 1) := by decide +kernel
theorem dX4_count_16 : decode cX4_count 16 = .ok (.iconst 0, 1) := by decide +kernel
theorem dX4_count_17 : decode cX4_count 17 = .ok (.istore_n 3, 1) := by decide +kernel
theorem dX4_count_18 : decode cX4_count 18 = .ok (.iconst 0, 1) := by decide +kernel
theorem dX4_count_19 : decode cX4_count 19 = .ok (.istore 4, 2) := by decide +kernel
theorem dX4_count_21 : decode cX4_count 21 = .ok (.iload 4, 2) := by decide +kernel
theorem dX4_count_23 : decode cX4_count 23 = .ok (.aload_n 2, 1) := by decide +kernel
theorem dX4_count_24 : decode cX4_count 24 = .ok (.getfield 79, 3) := by decide +kernel
theorem dX4_count_27 : decode cX4_count 27 = .ok (.if_icmp .ge 25, 3) := by decide +kernel
theorem dX4_count_30 : decode cX4_count 30 = .ok (.aload_n 0, 1) := by decide +kernel
theorem dX4_count_31 : decode cX4_count 31 = .ok (.getfield 18, 3) := by decide +kernel
theorem dX4_count_34 : decode cX4_count 34 = .ok (.aload_n 2, 1) := by decide +kernel
theorem dX4_count_35 : decode cX4_count 35 = .ok (.iload 4, 2) := by decide +kernel
theorem dX4_count_37 : decode cX4_count 37 = .ok (.invokevirtual 148, 3) := by decide +kernel
theorem dX4_count_40 : decode cX4_count 40 = .ok (.ifCond .eq 6, 3) := by decide +kernel
theorem dX4_count_43 : decode cX4_count 43 = .ok (.iinc 3 1, 3) := by decide +kernel
theorem dX4_count_46 : decode cX4_count 46 = .ok (.iinc 4 1, 3) := by decide +kernel
theorem dX4_count_49 : decode cX4_count 49 = .ok (.goto (-28), 3) := by decide +kernel
theorem dX4_count_52 : decode cX4_count 52 = .ok (.iload_n 3, 1) := by decide +kernel
theorem dX4_count_53 : decode cX4_count 53 = .ok (.ireturn, 1) := by decide +kernel
theorem dX4_back_0 : decode cX4_back 0 = .ok (.aload_n 0, 1) := by decide +kernel
theorem dX4_back_1 : decode cX4_back 1 = .ok (.iload_n 1, 1) := by decide +kernel
theorem dX4_back_2 : decode cX4_back 2 = .ok (.invokevirtual 65, 3) := by decide +kernel
theorem dX4_back_5 : decode cX4_back 5 = .ok (.astore_n 2, 1) := by decide +kernel
theorem dX4_back_6 : decode cX4_back 6 = .ok (.aload_n 2, 1) := by decide +kernel
theorem dX4_back_7 : decode cX4_back 7 = .ok (.ifnonnull 9, 3) := by decide +kernel
theorem dX4_back_10 : decode cX4_back 10 = .ok (.aload_n 0, 1) := by decide +kernel
theorem dX4_back_11 : decode cX4_back 11 = .ok (.iconst (-1), 1) := by decide +kernel
theorem dX4_back_12 : decode cX4_back 12 = .ok (.invokevirtual 54, 3) := by decide +kernel
theorem dX4_back_15 : decode cX4_back 15 = .ok (.ireturn, 1) := by decide +kernel
theorem dX4_back_16 : decode cX4_back 16 = .ok (.iconst 0, 1) := by decide +kernel
theorem dX4_back_17 : decode cX4_back 17 = .ok (.istore_n 3, 1) := by decide +kernel
theorem dX4_back_18 : decode cX4_back 18 = .ok (.iload_n 3, 1) := by decide +kernel
theorem dX4_back_19 : decode cX4_back 19 = .ok (.aload_n 2, 1) := by decide +kernel
theorem dX4_back_20 : decode cX4_back 20 = .ok (.getfield 79, 3) := by decide +kernel
theorem dX4_back_23 : decode cX4_back 23 = .ok (.if_icmp .ge 23, 3) := by decide +kernel
theorem dX4_back_26 : decode cX4_back 26 = .ok (.aload_n 0, 1) := by decide +kernel
theorem dX4_back_27 : decode cX4_back 27 = .ok (.getfield 18, 3) := by decide +kernel
theorem dX4_back_30 : decode cX4_back 30 = .ok (.aload_n 2, 1) := by decide +kernel
theorem dX4_back_31 : decode cX4_back 31 = .ok (.iload_n 3, 1) := by decide +kernel
theorem dX4_back_32 : decode cX4_back 32 = .ok (.invokevirtual 152, 3) := by decide +kernel
theorem dX4_back_35 : decode cX4_back 35 = .ok (.ifCond .eq 5, 3) := by decide +kernel
theorem dX4_back_38 : decode cX4_back 38 = .ok (.iload_n 3, 1) := by decide +kernel
theorem dX4_back_39 : decode cX4_back 39 = .ok (.ireturn, 1) := by decide +kernel
theorem dX4_back_40 : decode cX4_back 40 = .ok (.iinc 3 1, 3) := by decide +kernel
theorem dX4_back_43 : decode cX4_back 43 = .ok (.goto (-25), 3) := by decide +kernel
theorem dX4_back_46 : decode cX4_back 46 = .ok (.bipush (-9), 2) := by decide +kernel
theorem dX4_back_48 : decode cX4_back 48 = .ok (.ireturn, 1) := by decide +kernel
theorem dX4_even_0 : decode cX4_even 0 = .ok (.aload_n 0, 1) := by decide +kernel
theorem dX4_even_1 : decode cX4_even 1 = .ok (.iload_n 1, 1) := by decide +kernel
theorem dX4_even_2 : decode cX4_even 2 = .ok (.invokevirtual 65, 3) := by decide +kernel
theorem dX4_even_5 : decode cX4_even 5 = .ok (.astore_n 2, 1) := by decide +kernel
theorem dX4_even_6 : decode cX4_even 6 = .ok (.aload_n 0, 1) := by decide +kernel
theorem dX4_even_7 : decode cX4_even 7 = .ok (.aload_n 2, 1) := by decide +kernel
theorem dX4_even_8 : decode cX4_even 8 = .ok (.invokevirtual 155, 3) := by decide +kernel
theorem dX4_even_11 : decode cX4_even 11 = .ok (.istore_n 3, 1) := by decide +kernel
theorem dX4_even_12 : decode cX4_even 12 = .ok (.aload_n 2, 1) := by decide +kernel
theorem dX4_even_13 : decode cX4_even 13 = .ok (.ifnull 7, 3) := by decide +kernel
theorem dX4_even_16 : decode cX4_even 16 = .ok (.iload_n 3, 1) := by decide +kernel
theorem dX4_even_17 : decode cX4_even 17 = .ok (.ifCond .eq 9, 3) := by decide +kernel
theorem dX4_even_20 : decode cX4_even 20 = .ok (.aload_n 0, 1) := by decide +kernel
theorem dX4_even_21 : decode cX4_even 21 = .ok (.iload_n 3, 1) := by decide +kernel
theorem dX4_even_22 : decode cX4_even 22 = .ok (.invokevirtual 54, 3) := by decide +kernel
theorem dX4_even_25 : decode cX4_even 25 = .ok (.ireturn, 1) := by decide +kernel
theorem dX4_even_26 : decode cX4_even 26 = .ok (.aload_n 0, 1) := by decide +kernel
theorem dX4_even_27 : decode cX4_even 27 = .ok (.aload_n 2, 1) := by decide +kernel
theorem dX4_even_28 : decode cX4_even 28 = .ok (.invokevirtual 158, 3) := by decide +kernel
theorem dX4_even_31 : decode cX4_even 31 = .ok (.bipush (-9), 2) := by decide +kernel
theorem dX4_even_33 : decode cX4_even 33 = .ok (.if_icmp .ne 7, 3) := by decide +kernel
theorem dX4_even_36 : decode cX4_even 36 = .ok (.iconst 1, 1) := by decide +kernel
theorem dX4_even_37 : decode cX4_even 37 = .ok (.goto 4, 3) := by decide +kernel
theorem dX4_even_40 : decode cX4_even 40 = .ok (.iconst 0, 1) := by decide +kernel
theorem dX4_even_41 : decode cX4_even 41 = .ok (.ireturn, 1) := by decide +kernel
theorem dX4_why_0 : decode cX4_why 0 = .ok (.aload_n 0, 1) := by decide +kernel
theorem dX4_why_1 : decode cX4_why 1 = .ok (.iload_n 1, 1) := by decide +kernel
theorem dX4_why_2 : decode cX4_why 2 = .ok (.invokevirtual 65, 3) := by decide +kernel
theorem dX4_why_5 : decode cX4_why 5 = .ok (.astore_n 2, 1) := by decide +kernel
theorem dX4_why_6 : decode cX4_why 6 = .ok (.aload_n 2, 1) := by decide +kernel
theorem dX4_why_7 : decode cX4_why 7 = .ok (.ifnull 11, 3) := by decide +kernel
theorem dX4_why_10 : decode cX4_why 10 = .ok (.aload_n 0, 1) := by decide +kernel
theorem dX4_why_11 : decode cX4_why 11 = .ok (.aload_n 2, 1) := by decide +kernel
theorem dX4_why_12 : decode cX4_why 12 = .ok (.invokevirtual 155, 3) := by decide +kernel
theorem dX4_why_15 : decode cX4_why 15 = .ok (.ifCond .eq 6, 3) := by decide +kernel
theorem dX4_why_18 : decode cX4_why 18 = .ok (.bipush (-9), 2) := by decide +kernel
theorem dX4_why_20 : decode cX4_why 20 = .ok (.ireturn, 1) := by decide +kernel
theorem dX4_why_21 : decode cX4_why 21 = .ok (.aload_n 0, 1) := by decide +kernel
theorem dX4_why_22 : decode cX4_why 22 = .ok (.aload_n 2, 1) := by decide +kernel
theorem dX4_why_23 : decode cX4_why 23 = .ok (.invokevirtual 158, 3) := by decide +kernel
theorem dX4_why_26 : decode cX4_why 26 = .ok (.ireturn, 1) := by decide +kernel
theorem dX4_grade_0 : decode cX4_grade 0 = .ok (.aload_n 0, 1) := by decide +kernel
theorem dX4_grade_1 : decode cX4_grade 1 = .ok (.iload_n 1, 1) := by decide +kernel
theorem dX4_grade_2 : decode cX4_grade 2 = .ok (.invokevirtual 65, 3) := by decide +kernel
theorem dX4_grade_5 : decode cX4_grade 5 = .ok (.astore_n 2, 1) := by decide +kernel
theorem dX4_grade_6 : decode cX4_grade 6 = .ok (.aload_n 2, 1) := by decide +kernel
theorem dX4_grade_7 : decode cX4_grade 7 = .ok (.ifnonnull 9, 3) := by decide +kernel
theorem dX4_grade_10 : decode cX4_grade 10 = .ok (.aload_n 0, 1) := by decide +kernel
theorem dX4_grade_11 : decode cX4_grade 11 = .ok (.iconst (-1), 1) := by decide +kernel
theorem dX4_grade_12 : decode cX4_grade 12 = .ok (.invokevirtual 54, 3) := by decide +kernel
theorem dX4_grade_15 : decode cX4_grade 15 = .ok (.ireturn, 1) := by decide +kernel
theorem dX4_grade_16 : decode cX4_grade 16 = .ok (.aload_n 2, 1) := by decide +kernel
theorem dX4_grade_17 : decode cX4_grade 17 = .ok (.invokevirtual 107, 3) := by decide +kernel
theorem dX4_grade_20 : decode cX4_grade 20 = .ok (.ifCond .ne 10, 3) := by decide +kernel
theorem dX4_grade_23 : decode cX4_grade 23 = .ok (.aload_n 0, 1) := by decide +kernel
theorem dX4_grade_24 : decode cX4_grade 24 = .ok (.bipush (-2), 2) := by decide +kernel
theorem dX4_grade_26 : decode cX4_grade 26 = .ok (.invokevirtual 54, 3) := by decide +kernel
theorem dX4_grade_29 : decode cX4_grade 29 = .ok (.ireturn, 1) := by decide +kernel
theorem dX4_grade_30 : decode cX4_grade 30 = .ok (.aload_n 0, 1) := by decide +kernel
theorem dX4_grade_31 : decode cX4_grade 31 = .ok (.getfield 25, 3) := by decide +kernel
theorem dX4_grade_34 : decode cX4_grade 34 = .ok (.aload_n 2, 1) := by decide +kernel
theorem dX4_grade_35 : decode cX4_grade 35 = .ok (.invokevirtual 161, 3) := by decide +kernel
theorem dX4_grade_38 : decode cX4_grade 38 = .ok (.ireturn, 1) := by decide +kernel
theorem dX4_pair_0 : decode cX4_pair 0 = .ok (.aload_n 0, 1) := by decide +kernel
theorem dX4_pair_1 : decode cX4_pair 1 = .ok (.iload_n 1, 1) := by decide +kernel
theorem dX4_pair_2 : decode cX4_pair 2 = .ok (.invokevirtual 65, 3) := by decide +kernel
theorem dX4_pair_5 : decode cX4_pair 5 = .ok (.astore 4, 2) := by decide +kernel
theorem dX4_pair_7 : decode cX4_pair 7 = .ok (.aload 4, 2) := by decide +kernel
theorem dX4_pair_9 : decode cX4_pair 9 = .ok (.ifnull 26, 3) := by decide +kernel
theorem dX4_pair_12 : decode cX4_pair 12 = .ok (.aload 4, 2) := by decide +kernel
theorem dX4_pair_14 : decode cX4_pair 14 = .ok (.iload_n 2, 1) := by decide +kernel
theorem dX4_pair_15 : decode cX4_pair 15 = .ok (.invokevirtual 69, 3) := by decide +kernel
theorem dX4_pair_18 : decode cX4_pair 18 = .ok (.ifCond .eq 17, 3) := by decide +kernel
theorem dX4_pair_21 : decode cX4_pair 21 = .ok (.aload 4, 2) := by decide +kernel
theorem dX4_pair_23 : decode cX4_pair 23 = .ok (.iload_n 3, 1) := by decide +kernel
theorem dX4_pair_24 : decode cX4_pair 24 = .ok (.invokevirtual 69, 3) := by decide +kernel
theorem dX4_pair_27 : decode cX4_pair 27 = .ok (.ifCond .eq 8, 3) := by decide +kernel
theorem dX4_pair_30 : decode cX4_pair 30 = .ok (.iload_n 2, 1) := by decide +kernel
theorem dX4_pair_31 : decode cX4_pair 31 = .ok (.iload_n 3, 1) := by decide +kernel
theorem dX4_pair_32 : decode cX4_pair 32 = .ok (.if_icmp .ne 9, 3) := by decide +kernel
theorem dX4_pair_35 : decode cX4_pair 35 = .ok (.aload_n 0, 1) := by decide +kernel
theorem dX4_pair_36 : decode cX4_pair 36 = .ok (.iconst (-1), 1) := by decide +kernel
theorem dX4_pair_37 : decode cX4_pair 37 = .ok (.invokevirtual 54, 3) := by decide +kernel
theorem dX4_pair_40 : decode cX4_pair 40 = .ok (.ireturn, 1) := by decide +kernel
theorem dX4_pair_41 : decode cX4_pair 41 = .ok (.aload 4, 2) := by decide +kernel
theorem dX4_pair_43 : decode cX4_pair 43 = .ok (.invokevirtual 107, 3) := by decide +kernel
theorem dX4_pair_46 : decode cX4_pair 46 = .ok (.ifCond .ne 10, 3) := by decide +kernel
theorem dX4_pair_49 : decode cX4_pair 49 = .ok (.aload_n 0, 1) := by decide +kernel
theorem dX4_pair_50 : decode cX4_pair 50 = .ok (.bipush (-2), 2) := by decide +kernel
theorem dX4_pair_52 : decode cX4_pair 52 = .ok (.invokevirtual 54, 3) := by decide +kernel
theorem dX4_pair_55 : decode cX4_pair 55 = .ok (.ireturn, 1) := by decide +kernel
theorem dX4_pair_56 : decode cX4_pair 56 = .ok (.aload_n 0, 1) := by decide +kernel
theorem dX4_pair_57 : decode cX4_pair 57 = .ok (.getfield 25, 3) := by decide +kernel
theorem dX4_pair_60 : decode cX4_pair 60 = .ok (.aload 4, 2) := by decide +kernel
theorem dX4_pair_62 : decode cX4_pair 62 = .ok (.iload_n 2, 1) := by decide +kernel
theorem dX4_pair_63 : decode cX4_pair 63 = .ok (.iload_n 3, 1) := by decide +kernel
theorem dX4_pair_64 : decode cX4_pair 64 = .ok (.invokevirtual 164, 3) := by decide +kernel
theorem dX4_pair_67 : decode cX4_pair 67 = .ok (.ireturn, 1) := by decide +kernel
theorem dX4_gap_0 : decode cX4_gap 0 = .ok (.aload_n 0, 1) := by decide +kernel
theorem dX4_gap_1 : decode cX4_gap 1 = .ok (.iload_n 1, 1) := by decide +kernel
theorem dX4_gap_2 : decode cX4_gap 2 = .ok (.invokevirtual 65, 3) := by decide +kernel
theorem dX4_gap_5 : decode cX4_gap 5 = .ok (.astore 4, 2) := by decide +kernel
theorem dX4_gap_7 : decode cX4_gap 7 = .ok (.aload 4, 2) := by decide +kernel
theorem dX4_gap_9 : decode cX4_gap 9 = .ok (.ifnonnull 9, 3) := by decide +kernel
theorem dX4_gap_12 : decode cX4_gap 12 = .ok (.aload_n 0, 1) := by decide +kernel
theorem dX4_gap_13 : decode cX4_gap 13 = .ok (.iconst (-1), 1) := by decide +kernel
theorem dX4_gap_14 : decode cX4_gap 14 = .ok (.invokevirtual 168, 3) := by decide +kernel
theorem dX4_gap_17 : decode cX4_gap 17 = .ok (.lreturn, 1) := by decide +kernel
theorem dX4_gap_18 : decode cX4_gap 18 = .ok (.iload_n 3, 1) := by decide +kernel
theorem dX4_gap_19 : decode cX4_gap 19 = .ok (.ifCond .lt 8, 3) := by decide +kernel
theorem dX4_gap_22 : decode cX4_gap 22 = .ok (.iload_n 3, 1) := by decide +kernel
theorem dX4_gap_23 : decode cX4_gap 23 = .ok (.iconst 1, 1) := by decide +kernel
theorem dX4_gap_24 : decode cX4_gap 24 = .ok (.if_icmp .le 10, 3) := by decide +kernel
theorem dX4_gap_27 : decode cX4_gap 27 = .ok (.aload_n 0, 1) := by decide +kernel
theorem dX4_gap_28 : decode cX4_gap 28 = .ok (.bipush (-2), 2) := by decide +kernel
theorem dX4_gap_30 : decode cX4_gap 30 = .ok (.invokevirtual 168, 3) := by decide +kernel
theorem dX4_gap_33 : decode cX4_gap 33 = .ok (.lreturn, 1) := by decide +kernel
theorem dX4_gap_34 : decode cX4_gap 34 = .ok (.aload_n 0, 1) := by decide +kernel
theorem dX4_gap_35 : decode cX4_gap 35 = .ok (.getfield 18, 3) := by decide +kernel
theorem dX4_gap_38 : decode cX4_gap 38 = .ok (.aload 4, 2) := by decide +kernel
theorem dX4_gap_40 : decode cX4_gap 40 = .ok (.invokevirtual 172, 3) := by decide +kernel
theorem dX4_gap_43 : decode cX4_gap 43 = .ok (.ifCond .ne 10, 3) := by decide +kernel
theorem dX4_gap_46 : decode cX4_gap 46 = .ok (.aload_n 0, 1) := by decide +kernel
theorem dX4_gap_47 : decode cX4_gap 47 = .ok (.bipush (-3), 2) := by decide +kernel
theorem dX4_gap_49 : decode cX4_gap 49 = .ok (.invokevirtual 168, 3) := by decide +kernel
theorem dX4_gap_52 : decode cX4_gap 52 = .ok (.lreturn, 1) := by decide +kernel
theorem dX4_gap_53 : decode cX4_gap 53 = .ok (.lconst 1, 1) := by decide +kernel
theorem dX4_gap_54 : decode cX4_gap 54 = .ok (.lstore 5, 2) := by decide +kernel
theorem dX4_gap_56 : decode cX4_gap 56 = .ok (.iconst 0, 1) := by decide +kernel
theorem dX4_gap_57 : decode cX4_gap 57 = .ok (.istore 7, 2) := by decide +kernel
theorem dX4_gap_59 : decode cX4_gap 59 = .ok (.iload 7, 2) := by decide +kernel
theorem dX4_gap_61 : decode cX4_gap 61 = .ok (.aload 4, 2) := by decide +kernel
theorem dX4_gap_63 : decode cX4_gap 63 = .ok (.getfield 93, 3) := by decide +kernel
theorem dX4_gap_66 : decode cX4_gap 66 = .ok (.if_icmp .ge 25, 3) := by decide +kernel
theorem dX4_gap_69 : decode cX4_gap 69 = .ok (.lload 5, 2) := by decide +kernel
theorem dX4_gap_71 : decode cX4_gap 71 = .ok (.aload_n 0, 1) := by decide +kernel
theorem dX4_gap_72 : decode cX4_gap 72 = .ok (.getfield 18, 3) := by decide +kernel
theorem dX4_gap_75 : decode cX4_gap 75 = .ok (.getfield 142, 3) := by decide +kernel
theorem dX4_gap_78 : decode cX4_gap 78 = .ok (.iload 7, 2) := by decide +kernel
theorem dX4_gap_80 : decode cX4_gap 80 = .ok (.iaload, 1) := by decide +kernel
theorem dX4_gap_81 : decode cX4_gap 81 = .ok (.i2l, 1) := by decide +kernel
theorem dX4_gap_82 : decode cX4_gap 82 = .ok (.lmul, 1) := by decide +kernel
theorem dX4_gap_83 : decode cX4_gap 83 = .ok (.lstore 5, 2) := by decide +kernel
theorem dX4_gap_85 : decode cX4_gap 85 = .ok (.iinc 7 1, 3) := by decide +kernel
theorem dX4_gap_88 : decode cX4_gap 88 = .ok (.goto (-29), 3) := by decide +kernel
theorem dX4_gap_91 : decode cX4_gap 91 = .ok (.lconst 0, 1) := by decide +kernel
theorem dX4_gap_92 : decode cX4_gap 92 = .ok (.lstore 7, 2) := by decide +kernel
theorem dX4_gap_94 : decode cX4_gap 94 = .ok (.iconst 0, 1) := by decide +kernel
theorem dX4_gap_95 : decode cX4_gap 95 = .ok (.istore 9, 2) := by decide +kernel
theorem dX4_gap_97 : decode cX4_gap 97 = .ok (.iload 9, 2) := by decide +kernel
theorem dX4_gap_99 : decode cX4_gap 99 = .ok (.aload 4, 2) := by decide +kernel
theorem dX4_gap_101 : decode cX4_gap 101 = .ok (.getfield 79, 3) := by decide +kernel
theorem dX4_gap_104 : decode cX4_gap 104 = .ok (.if_icmp .ge 30, 3) := by decide +kernel
theorem dX4_gap_107 : decode cX4_gap 107 = .ok (.aload_n 0, 1) := by decide +kernel
theorem dX4_gap_108 : decode cX4_gap 108 = .ok (.getfield 18, 3) := by decide +kernel
theorem dX4_gap_111 : decode cX4_gap 111 = .ok (.aload 4, 2) := by decide +kernel
theorem dX4_gap_113 : decode cX4_gap 113 = .ok (.iload 9, 2) := by decide +kernel
theorem dX4_gap_115 : decode cX4_gap 115 = .ok (.iload_n 2, 1) := by decide +kernel
theorem dX4_gap_116 : decode cX4_gap 116 = .ok (.invokevirtual 176, 3) := by decide +kernel
theorem dX4_gap_119 : decode cX4_gap 119 = .ok (.ifCond .eq 9, 3) := by decide +kernel
theorem dX4_gap_122 : decode cX4_gap 122 = .ok (.lload 7, 2) := by decide +kernel
theorem dX4_gap_124 : decode cX4_gap 124 = .ok (.lconst 1, 1) := by decide +kernel
theorem dX4_gap_125 : decode cX4_gap 125 = .ok (.ladd, 1) := by decide +kernel
theorem dX4_gap_126 : decode cX4_gap 126 = .ok (.lstore 7, 2) := by decide +kernel
theorem dX4_gap_128 : decode cX4_gap 128 = .ok (.iinc 9 1, 3) := by decide +kernel
theorem dX4_gap_131 : decode cX4_gap 131 = .ok (.goto (-34), 3) := by decide +kernel
theorem dX4_gap_134 : decode cX4_gap 134 = .ok (.lload 7, 2) := by decide +kernel
theorem dX4_gap_136 : decode cX4_gap 136 = .ok (.aload 4, 2) := by decide +kernel
theorem dX4_gap_138 : decode cX4_gap 138 = .ok (.getfield 79, 3) := by decide +kernel
theorem dX4_gap_141 : decode cX4_gap 141 = .ok (.i2l, 1) := by decide +kernel
theorem dX4_gap_142 : decode cX4_gap 142 = .ok (.aload 4, 2) := by decide +kernel
theorem dX4_gap_144 : decode cX4_gap 144 = .ok (.getfield 93, 3) := by decide +kernel
theorem dX4_gap_147 : decode cX4_gap 147 = .ok (.iconst 1, 1) := by decide +kernel
theorem dX4_gap_148 : decode cX4_gap 148 = .ok (.isub, 1) := by decide +kernel
theorem dX4_gap_149 : decode cX4_gap 149 = .ok (.invokestatic 180, 3) := by decide +kernel
theorem dX4_gap_152 : decode cX4_gap 152 = .ok (.lmul, 1) := by decide +kernel
theorem dX4_gap_153 : decode cX4_gap 153 = .ok (.lstore 9, 2) := by decide +kernel
theorem dX4_gap_155 : decode cX4_gap 155 = .ok (.aload 4, 2) := by decide +kernel
theorem dX4_gap_157 : decode cX4_gap 157 = .ok (.getfield 79, 3) := by decide +kernel
theorem dX4_gap_160 : decode cX4_gap 160 = .ok (.i2l, 1) := by decide +kernel
theorem dX4_gap_161 : decode cX4_gap 161 = .ok (.aload 4, 2) := by decide +kernel
theorem dX4_gap_163 : decode cX4_gap 163 = .ok (.getfield 93, 3) := by decide +kernel
theorem dX4_gap_166 : decode cX4_gap 166 = .ok (.invokestatic 180, 3) := by decide +kernel
theorem dX4_gap_169 : decode cX4_gap 169 = .ok (.lstore 11, 2) := by decide +kernel
theorem dX4_gap_171 : decode cX4_gap 171 = .ok (.lload 9, 2) := by decide +kernel
theorem dX4_gap_173 : decode cX4_gap 173 = .ok (.lload 5, 2) := by decide +kernel
theorem dX4_gap_175 : decode cX4_gap 175 = .ok (.lsub, 1) := by decide +kernel
theorem dX4_gap_176 : decode cX4_gap 176 = .ok (.invokestatic 184, 3) := by decide +kernel
theorem dX4_gap_179 : decode cX4_gap 179 = .ok (.lload 11, 2) := by decide +kernel
theorem dX4_gap_181 : decode cX4_gap 181 = .ok (.iload_n 3, 1) := by decide +kernel
theorem dX4_gap_182 : decode cX4_gap 182 = .ok (.iconst 1, 1) := by decide +kernel
theorem dX4_gap_183 : decode cX4_gap 183 = .ok (.if_icmp .ne 7, 3) := by decide +kernel
theorem dX4_gap_186 : decode cX4_gap 186 = .ok (.iconst 1, 1) := by decide +kernel
theorem dX4_gap_187 : decode cX4_gap 187 = .ok (.goto 4, 3) := by decide +kernel
theorem dX4_gap_190 : decode cX4_gap 190 = .ok (.iconst 0, 1) := by decide +kernel
theorem dX4_gap_191 : decode cX4_gap 191 = .ok (.invokestatic 190, 3) := by decide +kernel
theorem dX4_gap_194 : decode cX4_gap 194 = .ok (.lreturn, 1) := by decide +kernel
theorem dX4_worst_0 : decode cX4_worst 0 = .ok (.aload_n 0, 1) := by decide +kernel
theorem dX4_worst_1 : decode cX4_worst 1 = .ok (.iload_n 1, 1) := by decide +kernel
theorem dX4_worst_2 : decode cX4_worst 2 = .ok (.invokevirtual 65, 3) := by decide +kernel
theorem dX4_worst_5 : decode cX4_worst 5 = .ok (.astore_n 3, 1) := by decide +kernel
theorem dX4_worst_6 : decode cX4_worst 6 = .ok (.aload_n 3, 1) := by decide +kernel
theorem dX4_worst_7 : decode cX4_worst 7 = .ok (.ifnonnull 9, 3) := by decide +kernel
theorem dX4_worst_10 : decode cX4_worst 10 = .ok (.aload_n 0, 1) := by decide +kernel
theorem dX4_worst_11 : decode cX4_worst 11 = .ok (.iconst (-1), 1) := by decide +kernel
theorem dX4_worst_12 : decode cX4_worst 12 = .ok (.invokevirtual 168, 3) := by decide +kernel
theorem dX4_worst_15 : decode cX4_worst 15 = .ok (.lreturn, 1) := by decide +kernel
theorem dX4_worst_16 : decode cX4_worst 16 = .ok (.iload_n 2, 1) := by decide +kernel
theorem dX4_worst_17 : decode cX4_worst 17 = .ok (.ifCond .lt 13, 3) := by decide +kernel
theorem dX4_worst_20 : decode cX4_worst 20 = .ok (.iload_n 2, 1) := by decide +kernel
theorem dX4_worst_21 : decode cX4_worst 21 = .ok (.iconst 3, 1) := by decide +kernel
theorem dX4_worst_22 : decode cX4_worst 22 = .ok (.aload_n 3, 1) := by decide +kernel
theorem dX4_worst_23 : decode cX4_worst 23 = .ok (.getfield 93, 3) := by decide +kernel
theorem dX4_worst_26 : decode cX4_worst 26 = .ok (.iadd, 1) := by decide +kernel
theorem dX4_worst_27 : decode cX4_worst 27 = .ok (.if_icmp .lt 10, 3) := by decide +kernel
theorem dX4_worst_30 : decode cX4_worst 30 = .ok (.aload_n 0, 1) := by decide +kernel
theorem dX4_worst_31 : decode cX4_worst 31 = .ok (.bipush (-2), 2) := by decide +kernel
theorem dX4_worst_33 : decode cX4_worst 33 = .ok (.invokevirtual 168, 3) := by decide +kernel
theorem dX4_worst_36 : decode cX4_worst 36 = .ok (.lreturn, 1) := by decide +kernel
theorem dX4_worst_37 : decode cX4_worst 37 = .ok (.aload_n 3, 1) := by decide +kernel
theorem dX4_worst_38 : decode cX4_worst 38 = .ok (.invokestatic 194, 3) := by decide +kernel
theorem dX4_worst_41 : decode cX4_worst 41 = .ok (.ifCond .eq 20, 3) := by decide +kernel
theorem dX4_worst_44 : decode cX4_worst 44 = .ok (.aload_n 3, 1) := by decide +kernel
theorem dX4_worst_45 : decode cX4_worst 45 = .ok (.getfield 93, 3) := by decide +kernel
theorem dX4_worst_48 : decode cX4_worst 48 = .ok (.iconst 3, 1) := by decide +kernel
theorem dX4_worst_49 : decode cX4_worst 49 = .ok (.if_icmp .ne 19, 3) := by decide +kernel
theorem dX4_worst_52 : decode cX4_worst 52 = .ok (.aload_n 3, 1) := by decide +kernel
theorem dX4_worst_53 : decode cX4_worst 53 = .ok (.getfield 79, 3) := by decide +kernel
theorem dX4_worst_56 : decode cX4_worst 56 = .ok (.bipush 16, 2) := by decide +kernel
theorem dX4_worst_58 : decode cX4_worst 58 = .ok (.if_icmp .le 10, 3) := by decide +kernel
theorem dX4_worst_61 : decode cX4_worst 61 = .ok (.aload_n 0, 1) := by decide +kernel
theorem dX4_worst_62 : decode cX4_worst 62 = .ok (.bipush (-6), 2) := by decide +kernel
theorem dX4_worst_64 : decode cX4_worst 64 = .ok (.invokevirtual 168, 3) := by decide +kernel
theorem dX4_worst_67 : decode cX4_worst 67 = .ok (.lreturn, 1) := by decide +kernel
theorem dX4_worst_68 : decode cX4_worst 68 = .ok (.aload_n 0, 1) := by decide +kernel
theorem dX4_worst_69 : decode cX4_worst 69 = .ok (.getfield 36, 3) := by decide +kernel
theorem dX4_worst_72 : decode cX4_worst 72 = .ok (.aload_n 3, 1) := by decide +kernel
theorem dX4_worst_73 : decode cX4_worst 73 = .ok (.aload_n 0, 1) := by decide +kernel
theorem dX4_worst_74 : decode cX4_worst 74 = .ok (.getfield 29, 3) := by decide +kernel
theorem dX4_worst_77 : decode cX4_worst 77 = .ok (.invokevirtual 197, 3) := by decide +kernel
theorem dX4_worst_80 : decode cX4_worst 80 = .ok (.iload_n 2, 1) := by decide +kernel
theorem dX4_worst_81 : decode cX4_worst 81 = .ok (.iconst 2, 1) := by decide +kernel
theorem dX4_worst_82 : decode cX4_worst 82 = .ok (.if_icmp .ge 40, 3) := by decide +kernel
theorem dX4_worst_85 : decode cX4_worst 85 = .ok (.aload_n 3, 1) := by decide +kernel
theorem dX4_worst_86 : decode cX4_worst 86 = .ok (.getfield 79, 3) := by decide +kernel
theorem dX4_worst_89 : decode cX4_worst 89 = .ok (.i2l, 1) := by decide +kernel
theorem dX4_worst_90 : decode cX4_worst 90 = .ok (.aload_n 3, 1) := by decide +kernel
theorem dX4_worst_91 : decode cX4_worst 91 = .ok (.getfield 93, 3) := by decide +kernel
theorem dX4_worst_94 : decode cX4_worst 94 = .ok (.invokestatic 180, 3) := by decide +kernel
theorem dX4_worst_97 : decode cX4_worst 97 = .ok (.lstore 4, 2) := by decide +kernel
theorem dX4_worst_99 : decode cX4_worst 99 = .ok (.aload_n 0, 1) := by decide +kernel
theorem dX4_worst_100 : decode cX4_worst 100 = .ok (.getfield 36, 3) := by decide +kernel
theorem dX4_worst_103 : decode cX4_worst 103 = .ok (.getfield 201, 3) := by decide +kernel
theorem dX4_worst_106 : decode cX4_worst 106 = .ok (.lload 4, 2) := by decide +kernel
theorem dX4_worst_108 : decode cX4_worst 108 = .ok (.iload_n 2, 1) := by decide +kernel
theorem dX4_worst_109 : decode cX4_worst 109 = .ok (.iconst 1, 1) := by decide +kernel
theorem dX4_worst_110 : decode cX4_worst 110 = .ok (.if_icmp .ne 7, 3) := by decide +kernel
theorem dX4_worst_113 : decode cX4_worst 113 = .ok (.iconst 1, 1) := by decide +kernel
theorem dX4_worst_114 : decode cX4_worst 114 = .ok (.goto 4, 3) := by decide +kernel
theorem dX4_worst_117 : decode cX4_worst 117 = .ok (.iconst 0, 1) := by decide +kernel
theorem dX4_worst_118 : decode cX4_worst 118 = .ok (.invokestatic 190, 3) := by decide +kernel
theorem dX4_worst_121 : decode cX4_worst 121 = .ok (.lreturn, 1) := by decide +kernel
theorem dX4_worst_122 : decode cX4_worst 122 = .ok (.iload_n 2, 1) := by decide +kernel
theorem dX4_worst_123 : decode cX4_worst 123 = .ok (.iconst 2, 1) := by decide +kernel
theorem dX4_worst_124 : decode cX4_worst 124 = .ok (.if_icmp .ne 19, 3) := by decide +kernel
theorem dX4_worst_127 : decode cX4_worst 127 = .ok (.aload_n 0, 1) := by decide +kernel
theorem dX4_worst_128 : decode cX4_worst 128 = .ok (.getfield 36, 3) := by decide +kernel
theorem dX4_worst_131 : decode cX4_worst 131 = .ok (.getfield 205, 3) := by decide +kernel
theorem dX4_worst_134 : decode cX4_worst 134 = .ok (.ifCond .eq 7, 3) := by decide +kernel
theorem dX4_worst_137 : decode cX4_worst 137 = .ok (.lconst 1, 1) := by decide +kernel
theorem dX4_worst_138 : decode cX4_worst 138 = .ok (.goto 4, 3) := by decide +kernel
theorem dX4_worst_141 : decode cX4_worst 141 = .ok (.lconst 0, 1) := by decide +kernel
theorem dX4_worst_142 : decode cX4_worst 142 = .ok (.lreturn, 1) := by decide +kernel
theorem dX4_worst_143 : decode cX4_worst 143 = .ok (.aload_n 0, 1) := by decide +kernel
theorem dX4_worst_144 : decode cX4_worst 144 = .ok (.getfield 36, 3) := by decide +kernel
theorem dX4_worst_147 : decode cX4_worst 147 = .ok (.getfield 209, 3) := by decide +kernel
theorem dX4_worst_150 : decode cX4_worst 150 = .ok (.iload_n 2, 1) := by decide +kernel
theorem dX4_worst_151 : decode cX4_worst 151 = .ok (.iconst 3, 1) := by decide +kernel
theorem dX4_worst_152 : decode cX4_worst 152 = .ok (.isub, 1) := by decide +kernel
theorem dX4_worst_153 : decode cX4_worst 153 = .ok (.iaload, 1) := by decide +kernel
theorem dX4_worst_154 : decode cX4_worst 154 = .ok (.i2l, 1) := by decide +kernel
theorem dX4_worst_155 : decode cX4_worst 155 = .ok (.lreturn, 1) := by decide +kernel
theorem dX4_square_0 : decode cX4_square 0 = .ok (.aload_n 0, 1) := by decide +kernel
theorem dX4_square_1 : decode cX4_square 1 = .ok (.iload_n 1, 1) := by decide +kernel
theorem dX4_square_2 : decode cX4_square 2 = .ok (.invokevirtual 65, 3) := by decide +kernel
theorem dX4_square_5 : decode cX4_square 5 = .ok (.astore_n 3, 1) := by decide +kernel
theorem dX4_square_6 : decode cX4_square 6 = .ok (.aload_n 3, 1) := by decide +kernel
theorem dX4_square_7 : decode cX4_square 7 = .ok (.ifnonnull 9, 3) := by decide +kernel
theorem dX4_square_10 : decode cX4_square 10 = .ok (.aload_n 0, 1) := by decide +kernel
theorem dX4_square_11 : decode cX4_square 11 = .ok (.iconst (-1), 1) := by decide +kernel
theorem dX4_square_12 : decode cX4_square 12 = .ok (.invokevirtual 168, 3) := by decide +kernel
theorem dX4_square_15 : decode cX4_square 15 = .ok (.lreturn, 1) := by decide +kernel
theorem dX4_square_16 : decode cX4_square 16 = .ok (.iload_n 2, 1) := by decide +kernel
theorem dX4_square_17 : decode cX4_square 17 = .ok (.ifCond .lt 8, 3) := by decide +kernel
theorem dX4_square_20 : decode cX4_square 20 = .ok (.iload_n 2, 1) := by decide +kernel
theorem dX4_square_21 : decode cX4_square 21 = .ok (.iconst 1, 1) := by decide +kernel
theorem dX4_square_22 : decode cX4_square 22 = .ok (.if_icmp .le 10, 3) := by decide +kernel
theorem dX4_square_25 : decode cX4_square 25 = .ok (.aload_n 0, 1) := by decide +kernel
theorem dX4_square_26 : decode cX4_square 26 = .ok (.bipush (-2), 2) := by decide +kernel
theorem dX4_square_28 : decode cX4_square 28 = .ok (.invokevirtual 168, 3) := by decide +kernel
theorem dX4_square_31 : decode cX4_square 31 = .ok (.lreturn, 1) := by decide +kernel
theorem dX4_square_32 : decode cX4_square 32 = .ok (.aload_n 3, 1) := by decide +kernel
theorem dX4_square_33 : decode cX4_square 33 = .ok (.invokestatic 194, 3) := by decide +kernel
theorem dX4_square_36 : decode cX4_square 36 = .ok (.ifCond .ne 10, 3) := by decide +kernel
theorem dX4_square_39 : decode cX4_square 39 = .ok (.aload_n 0, 1) := by decide +kernel
theorem dX4_square_40 : decode cX4_square 40 = .ok (.bipush (-6), 2) := by decide +kernel
theorem dX4_square_42 : decode cX4_square 42 = .ok (.invokevirtual 168, 3) := by decide +kernel
theorem dX4_square_45 : decode cX4_square 45 = .ok (.lreturn, 1) := by decide +kernel
theorem dX4_square_46 : decode cX4_square 46 = .ok (.aload_n 3, 1) := by decide +kernel
theorem dX4_square_47 : decode cX4_square 47 = .ok (.getfield 93, 3) := by decide +kernel
theorem dX4_square_50 : decode cX4_square 50 = .ok (.istore 4, 2) := by decide +kernel
theorem dX4_square_52 : decode cX4_square 52 = .ok (.aload_n 3, 1) := by decide +kernel
theorem dX4_square_53 : decode cX4_square 53 = .ok (.getfield 79, 3) := by decide +kernel
theorem dX4_square_56 : decode cX4_square 56 = .ok (.i2l, 1) := by decide +kernel
theorem dX4_square_57 : decode cX4_square 57 = .ok (.iconst 2, 1) := by decide +kernel
theorem dX4_square_58 : decode cX4_square 58 = .ok (.iload 4, 2) := by decide +kernel
theorem dX4_square_60 : decode cX4_square 60 = .ok (.imul, 1) := by decide +kernel
theorem dX4_square_61 : decode cX4_square 61 = .ok (.iconst 1, 1) := by decide +kernel
theorem dX4_square_62 : decode cX4_square 62 = .ok (.iadd, 1) := by decide +kernel
theorem dX4_square_63 : decode cX4_square 63 = .ok (.invokestatic 180, 3) := by decide +kernel
theorem dX4_square_66 : decode cX4_square 66 = .ok (.lstore 5, 2) := by decide +kernel
theorem dX4_square_68 : decode cX4_square 68 = .ok (.ldc2_w 212, 3) := by decide +kernel
theorem dX4_square_71 : decode cX4_square 71 = .ok (.iload 4, 2) := by decide +kernel
theorem dX4_square_73 : decode cX4_square 73 = .ok (.invokestatic 180, 3) := by decide +kernel
theorem dX4_square_76 : decode cX4_square 76 = .ok (.lstore 7, 2) := by decide +kernel
theorem dX4_square_78 : decode cX4_square 78 = .ok (.ldc2_w 214, 3) := by decide +kernel
theorem dX4_square_81 : decode cX4_square 81 = .ok (.iload 4, 2) := by decide +kernel
theorem dX4_square_83 : decode cX4_square 83 = .ok (.iconst 1, 1) := by decide +kernel
theorem dX4_square_84 : decode cX4_square 84 = .ok (.isub, 1) := by decide +kernel
theorem dX4_square_85 : decode cX4_square 85 = .ok (.invokestatic 180, 3) := by decide +kernel
theorem dX4_square_88 : decode cX4_square 88 = .ok (.lstore 9, 2) := by decide +kernel
theorem dX4_square_90 : decode cX4_square 90 = .ok (.aload_n 3, 1) := by decide +kernel
theorem dX4_square_91 : decode cX4_square 91 = .ok (.invokestatic 216, 3) := by decide +kernel
theorem dX4_square_94 : decode cX4_square 94 = .ok (.aload_n 3, 1) := by decide +kernel
theorem dX4_square_95 : decode cX4_square 95 = .ok (.getfield 79, 3) := by decide +kernel
theorem dX4_square_98 : decode cX4_square 98 = .ok (.i2l, 1) := by decide +kernel
theorem dX4_square_99 : decode cX4_square 99 = .ok (.iload 4, 2) := by decide +kernel
theorem dX4_square_101 : decode cX4_square 101 = .ok (.iconst 1, 1) := by decide +kernel
theorem dX4_square_102 : decode cX4_square 102 = .ok (.isub, 1) := by decide +kernel
theorem dX4_square_103 : decode cX4_square 103 = .ok (.invokestatic 180, 3) := by decide +kernel
theorem dX4_square_106 : decode cX4_square 106 = .ok (.lmul, 1) := by decide +kernel
theorem dX4_square_107 : decode cX4_square 107 = .ok (.lstore 11, 2) := by decide +kernel
theorem dX4_square_109 : decode cX4_square 109 = .ok (.lload 9, 2) := by decide +kernel
theorem dX4_square_111 : decode cX4_square 111 = .ok (.lload 5, 2) := by decide +kernel
theorem dX4_square_113 : decode cX4_square 113 = .ok (.lmul, 1) := by decide +kernel
theorem dX4_square_114 : decode cX4_square 114 = .ok (.lload 7, 2) := by decide +kernel
theorem dX4_square_116 : decode cX4_square 116 = .ok (.aload_n 3, 1) := by decide +kernel
theorem dX4_square_117 : decode cX4_square 117 = .ok (.invokestatic 220, 3) := by decide +kernel
theorem dX4_square_120 : decode cX4_square 120 = .ok (.lmul, 1) := by decide +kernel
theorem dX4_square_121 : decode cX4_square 121 = .ok (.lsub, 1) := by decide +kernel
theorem dX4_square_122 : decode cX4_square 122 = .ok (.lload 7, 2) := by decide +kernel
theorem dX4_square_124 : decode cX4_square 124 = .ok (.lload 9, 2) := by decide +kernel
theorem dX4_square_126 : decode cX4_square 126 = .ok (.lmul, 1) := by decide +kernel
theorem dX4_square_127 : decode cX4_square 127 = .ok (.lload 11, 2) := by decide +kernel
theorem dX4_square_129 : decode cX4_square 129 = .ok (.lmul, 1) := by decide +kernel
theorem dX4_square_130 : decode cX4_square 130 = .ok (.ladd, 1) := by decide +kernel
theorem dX4_square_131 : decode cX4_square 131 = .ok (.lstore 13, 2) := by decide +kernel
theorem dX4_square_133 : decode cX4_square 133 = .ok (.lload 13, 2) := by decide +kernel
theorem dX4_square_135 : decode cX4_square 135 = .ok (.lload 7, 2) := by decide +kernel
theorem dX4_square_137 : decode cX4_square 137 = .ok (.lload 9, 2) := by decide +kernel
theorem dX4_square_139 : decode cX4_square 139 = .ok (.lmul, 1) := by decide +kernel
theorem dX4_square_140 : decode cX4_square 140 = .ok (.lload 5, 2) := by decide +kernel
theorem dX4_square_142 : decode cX4_square 142 = .ok (.lmul, 1) := by decide +kernel
theorem dX4_square_143 : decode cX4_square 143 = .ok (.iload_n 2, 1) := by decide +kernel
theorem dX4_square_144 : decode cX4_square 144 = .ok (.iconst 1, 1) := by decide +kernel
theorem dX4_square_145 : decode cX4_square 145 = .ok (.if_icmp .ne 7, 3) := by decide +kernel
theorem dX4_square_148 : decode cX4_square 148 = .ok (.iconst 1, 1) := by decide +kernel
theorem dX4_square_149 : decode cX4_square 149 = .ok (.goto 4, 3) := by decide +kernel
theorem dX4_square_152 : decode cX4_square 152 = .ok (.iconst 0, 1) := by decide +kernel
theorem dX4_square_153 : decode cX4_square 153 = .ok (.invokestatic 190, 3) := by decide +kernel
theorem dX4_square_156 : decode cX4_square 156 = .ok (.lreturn, 1) := by decide +kernel
theorem dX4_wave_0 : decode cX4_wave 0 = .ok (.aload_n 0, 1) := by decide +kernel
theorem dX4_wave_1 : decode cX4_wave 1 = .ok (.iload_n 1, 1) := by decide +kernel
theorem dX4_wave_2 : decode cX4_wave 2 = .ok (.invokevirtual 65, 3) := by decide +kernel
theorem dX4_wave_5 : decode cX4_wave 5 = .ok (.astore_n 2, 1) := by decide +kernel
theorem dX4_wave_6 : decode cX4_wave 6 = .ok (.aload_n 2, 1) := by decide +kernel
theorem dX4_wave_7 : decode cX4_wave 7 = .ok (.ifnonnull 9, 3) := by decide +kernel
theorem dX4_wave_10 : decode cX4_wave 10 = .ok (.aload_n 0, 1) := by decide +kernel
theorem dX4_wave_11 : decode cX4_wave 11 = .ok (.iconst (-1), 1) := by decide +kernel
theorem dX4_wave_12 : decode cX4_wave 12 = .ok (.invokevirtual 168, 3) := by decide +kernel
theorem dX4_wave_15 : decode cX4_wave 15 = .ok (.lreturn, 1) := by decide +kernel
theorem dX4_wave_16 : decode cX4_wave 16 = .ok (.aload_n 2, 1) := by decide +kernel
theorem dX4_wave_17 : decode cX4_wave 17 = .ok (.getfield 73, 3) := by decide +kernel
theorem dX4_wave_20 : decode cX4_wave 20 = .ok (.iconst 3, 1) := by decide +kernel
theorem dX4_wave_21 : decode cX4_wave 21 = .ok (.if_icmp .ne 10, 3) := by decide +kernel
theorem dX4_wave_24 : decode cX4_wave 24 = .ok (.aload_n 0, 1) := by decide +kernel
theorem dX4_wave_25 : decode cX4_wave 25 = .ok (.bipush (-2), 2) := by decide +kernel
theorem dX4_wave_27 : decode cX4_wave 27 = .ok (.invokevirtual 168, 3) := by decide +kernel
theorem dX4_wave_30 : decode cX4_wave 30 = .ok (.lreturn, 1) := by decide +kernel
theorem dX4_wave_31 : decode cX4_wave 31 = .ok (.aload_n 0, 1) := by decide +kernel
theorem dX4_wave_32 : decode cX4_wave 32 = .ok (.getfield 18, 3) := by decide +kernel
theorem dX4_wave_35 : decode cX4_wave 35 = .ok (.aload_n 2, 1) := by decide +kernel
theorem dX4_wave_36 : decode cX4_wave 36 = .ok (.aload_n 2, 1) := by decide +kernel
theorem dX4_wave_37 : decode cX4_wave 37 = .ok (.getfield 79, 3) := by decide +kernel
theorem dX4_wave_40 : decode cX4_wave 40 = .ok (.iconst 1, 1) := by decide +kernel
theorem dX4_wave_41 : decode cX4_wave 41 = .ok (.isub, 1) := by decide +kernel
theorem dX4_wave_42 : decode cX4_wave 42 = .ok (.invokevirtual 223, 3) := by decide +kernel
theorem dX4_wave_45 : decode cX4_wave 45 = .ok (.ifCond .ne 10, 3) := by decide +kernel
theorem dX4_wave_48 : decode cX4_wave 48 = .ok (.aload_n 0, 1) := by decide +kernel
theorem dX4_wave_49 : decode cX4_wave 49 = .ok (.bipush (-3), 2) := by decide +kernel
theorem dX4_wave_51 : decode cX4_wave 51 = .ok (.invokevirtual 168, 3) := by decide +kernel
theorem dX4_wave_54 : decode cX4_wave 54 = .ok (.lreturn, 1) := by decide +kernel
theorem dX4_wave_55 : decode cX4_wave 55 = .ok (.lconst 0, 1) := by decide +kernel
theorem dX4_wave_56 : decode cX4_wave 56 = .ok (.lstore_n 3, 1) := by decide +kernel
theorem dX4_wave_57 : decode cX4_wave 57 = .ok (.iconst 0, 1) := by decide +kernel
theorem dX4_wave_58 : decode cX4_wave 58 = .ok (.istore 5, 2) := by decide +kernel
theorem dX4_wave_60 : decode cX4_wave 60 = .ok (.iload 5, 2) := by decide +kernel
theorem dX4_wave_62 : decode cX4_wave 62 = .ok (.aload_n 2, 1) := by decide +kernel
theorem dX4_wave_63 : decode cX4_wave 63 = .ok (.getfield 79, 3) := by decide +kernel
theorem dX4_wave_66 : decode cX4_wave 66 = .ok (.if_icmp .ge 23, 3) := by decide +kernel
theorem dX4_wave_69 : decode cX4_wave 69 = .ok (.lload_n 3, 1) := by decide +kernel
theorem dX4_wave_70 : decode cX4_wave 70 = .ok (.aload_n 0, 1) := by decide +kernel
theorem dX4_wave_71 : decode cX4_wave 71 = .ok (.getfield 18, 3) := by decide +kernel
theorem dX4_wave_74 : decode cX4_wave 74 = .ok (.aload_n 2, 1) := by decide +kernel
theorem dX4_wave_75 : decode cX4_wave 75 = .ok (.iload 5, 2) := by decide +kernel
theorem dX4_wave_77 : decode cX4_wave 77 = .ok (.invokevirtual 226, 3) := by decide +kernel
theorem dX4_wave_80 : decode cX4_wave 80 = .ok (.i2l, 1) := by decide +kernel
theorem dX4_wave_81 : decode cX4_wave 81 = .ok (.ladd, 1) := by decide +kernel
theorem dX4_wave_82 : decode cX4_wave 82 = .ok (.lstore_n 3, 1) := by decide +kernel
theorem dX4_wave_83 : decode cX4_wave 83 = .ok (.iinc 5 1, 3) := by decide +kernel
theorem dX4_wave_86 : decode cX4_wave 86 = .ok (.goto (-26), 3) := by decide +kernel
theorem dX4_wave_89 : decode cX4_wave 89 = .ok (.lload_n 3, 1) := by decide +kernel
theorem dX4_wave_90 : decode cX4_wave 90 = .ok (.lreturn, 1) := by decide +kernel
theorem dX4_waves_0 : decode cX4_waves 0 = .ok (.aload_n 0, 1) := by decide +kernel
theorem dX4_waves_1 : decode cX4_waves 1 = .ok (.iload_n 1, 1) := by decide +kernel
theorem dX4_waves_2 : decode cX4_waves 2 = .ok (.invokevirtual 65, 3) := by decide +kernel
theorem dX4_waves_5 : decode cX4_waves 5 = .ok (.astore 4, 2) := by decide +kernel
theorem dX4_waves_7 : decode cX4_waves 7 = .ok (.aload 4, 2) := by decide +kernel
theorem dX4_waves_9 : decode cX4_waves 9 = .ok (.ifnonnull 9, 3) := by decide +kernel
theorem dX4_waves_12 : decode cX4_waves 12 = .ok (.aload_n 0, 1) := by decide +kernel
theorem dX4_waves_13 : decode cX4_waves 13 = .ok (.iconst (-1), 1) := by decide +kernel
theorem dX4_waves_14 : decode cX4_waves 14 = .ok (.invokevirtual 168, 3) := by decide +kernel
theorem dX4_waves_17 : decode cX4_waves 17 = .ok (.lreturn, 1) := by decide +kernel
theorem dX4_waves_18 : decode cX4_waves 18 = .ok (.aload 4, 2) := by decide +kernel
theorem dX4_waves_20 : decode cX4_waves 20 = .ok (.getfield 73, 3) := by decide +kernel
theorem dX4_waves_23 : decode cX4_waves 23 = .ok (.iconst 3, 1) := by decide +kernel
theorem dX4_waves_24 : decode cX4_waves 24 = .ok (.if_icmp .ne 10, 3) := by decide +kernel
theorem dX4_waves_27 : decode cX4_waves 27 = .ok (.aload_n 0, 1) := by decide +kernel
theorem dX4_waves_28 : decode cX4_waves 28 = .ok (.bipush (-2), 2) := by decide +kernel
theorem dX4_waves_30 : decode cX4_waves 30 = .ok (.invokevirtual 168, 3) := by decide +kernel
theorem dX4_waves_33 : decode cX4_waves 33 = .ok (.lreturn, 1) := by decide +kernel
theorem dX4_waves_34 : decode cX4_waves 34 = .ok (.iload_n 2, 1) := by decide +kernel
theorem dX4_waves_35 : decode cX4_waves 35 = .ok (.ifCond .lt 7, 3) := by decide +kernel
theorem dX4_waves_38 : decode cX4_waves 38 = .ok (.iload_n 3, 1) := by decide +kernel
theorem dX4_waves_39 : decode cX4_waves 39 = .ok (.ifCond .ge 10, 3) := by decide +kernel
theorem dX4_waves_42 : decode cX4_waves 42 = .ok (.aload_n 0, 1) := by decide +kernel
theorem dX4_waves_43 : decode cX4_waves 43 = .ok (.bipush (-4), 2) := by decide +kernel
theorem dX4_waves_45 : decode cX4_waves 45 = .ok (.invokevirtual 168, 3) := by decide +kernel
theorem dX4_waves_48 : decode cX4_waves 48 = .ok (.lreturn, 1) := by decide +kernel
theorem dX4_waves_49 : decode cX4_waves 49 = .ok (.aload 4, 2) := by decide +kernel
theorem dX4_waves_51 : decode cX4_waves 51 = .ok (.getfield 76, 3) := by decide +kernel
theorem dX4_waves_54 : decode cX4_waves 54 = .ok (.aload 4, 2) := by decide +kernel
theorem dX4_waves_56 : decode cX4_waves 56 = .ok (.getfield 93, 3) := by decide +kernel
theorem dX4_waves_59 : decode cX4_waves 59 = .ok (.imul, 1) := by decide +kernel
theorem dX4_waves_60 : decode cX4_waves 60 = .ok (.istore 5, 2) := by decide +kernel
theorem dX4_waves_62 : decode cX4_waves 62 = .ok (.iload 5, 2) := by decide +kernel
theorem dX4_waves_64 : decode cX4_waves 64 = .ok (.bipush 12, 2) := by decide +kernel
theorem dX4_waves_66 : decode cX4_waves 66 = .ok (.if_icmp .le 10, 3) := by decide +kernel
theorem dX4_waves_69 : decode cX4_waves 69 = .ok (.aload_n 0, 1) := by decide +kernel
theorem dX4_waves_70 : decode cX4_waves 70 = .ok (.bipush (-6), 2) := by decide +kernel
theorem dX4_waves_72 : decode cX4_waves 72 = .ok (.invokevirtual 168, 3) := by decide +kernel
theorem dX4_waves_75 : decode cX4_waves 75 = .ok (.lreturn, 1) := by decide +kernel
theorem dX4_waves_76 : decode cX4_waves 76 = .ok (.aload_n 0, 1) := by decide +kernel
theorem dX4_waves_77 : decode cX4_waves 77 = .ok (.aload 4, 2) := by decide +kernel
theorem dX4_waves_79 : decode cX4_waves 79 = .ok (.iload 5, 2) := by decide +kernel
theorem dX4_waves_81 : decode cX4_waves 81 = .ok (.invokevirtual 230, 3) := by decide +kernel
theorem dX4_waves_84 : decode cX4_waves 84 = .ok (.iconst 1, 1) := by decide +kernel
theorem dX4_waves_85 : decode cX4_waves 85 = .ok (.iload 5, 2) := by decide +kernel
theorem dX4_waves_87 : decode cX4_waves 87 = .ok (.ishl, 1) := by decide +kernel
theorem dX4_waves_88 : decode cX4_waves 88 = .ok (.istore 6, 2) := by decide +kernel
theorem dX4_waves_90 : decode cX4_waves 90 = .ok (.iload_n 3, 1) := by decide +kernel
theorem dX4_waves_91 : decode cX4_waves 91 = .ok (.istore 7, 2) := by decide +kernel
theorem dX4_waves_93 : decode cX4_waves 93 = .ok (.iconst 1, 1) := by decide +kernel
theorem dX4_waves_94 : decode cX4_waves 94 = .ok (.istore 8, 2) := by decide +kernel
theorem dX4_waves_96 : decode cX4_waves 96 = .ok (.iload 8, 2) := by decide +kernel
theorem dX4_waves_98 : decode cX4_waves 98 = .ok (.iload 6, 2) := by decide +kernel
theorem dX4_waves_100 : decode cX4_waves 100 = .ok (.if_icmp .ge 40, 3) := by decide +kernel
theorem dX4_waves_103 : decode cX4_waves 103 = .ok (.aload_n 0, 1) := by decide +kernel
theorem dX4_waves_104 : decode cX4_waves 104 = .ok (.getfield 29, 3) := by decide +kernel
theorem dX4_waves_107 : decode cX4_waves 107 = .ok (.iload 8, 2) := by decide +kernel
theorem dX4_waves_109 : decode cX4_waves 109 = .ok (.iaload, 1) := by decide +kernel
theorem dX4_waves_110 : decode cX4_waves 110 = .ok (.ifCond .eq 24, 3) := by decide +kernel
theorem dX4_waves_113 : decode cX4_waves 113 = .ok (.iload 8, 2) := by decide +kernel
theorem dX4_waves_115 : decode cX4_waves 115 = .ok (.invokestatic 234, 3) := by decide +kernel
theorem dX4_waves_118 : decode cX4_waves 118 = .ok (.iload_n 2, 1) := by decide +kernel
theorem dX4_waves_119 : decode cX4_waves 119 = .ok (.if_icmp .gt 15, 3) := by decide +kernel
theorem dX4_waves_122 : decode cX4_waves 122 = .ok (.iload 7, 2) := by decide +kernel
theorem dX4_waves_124 : decode cX4_waves 124 = .ok (.ifCond .ne 7, 3) := by decide +kernel
theorem dX4_waves_127 : decode cX4_waves 127 = .ok (.iload 8, 2) := by decide +kernel
theorem dX4_waves_129 : decode cX4_waves 129 = .ok (.i2l, 1) := by decide +kernel
theorem dX4_waves_130 : decode cX4_waves 130 = .ok (.lreturn, 1) := by decide +kernel
theorem dX4_waves_131 : decode cX4_waves 131 = .ok (.iinc 7 (-1), 3) := by decide +kernel
theorem dX4_waves_134 : decode cX4_waves 134 = .ok (.iinc 8 1, 3) := by decide +kernel
theorem dX4_waves_137 : decode cX4_waves 137 = .ok (.goto (-41), 3) := by decide +kernel
theorem dX4_waves_140 : decode cX4_waves 140 = .ok (.ldc2_w 239, 3) := by decide +kernel
theorem dX4_waves_143 : decode cX4_waves 143 = .ok (.lreturn, 1) := by decide +kernel
theorem dX4_sum_0 : decode cX4_sum 0 = .ok (.aload_n 0, 1) := by decide +kernel
theorem dX4_sum_1 : decode cX4_sum 1 = .ok (.iload_n 1, 1) := by decide +kernel
theorem dX4_sum_2 : decode cX4_sum 2 = .ok (.invokevirtual 65, 3) := by decide +kernel
theorem dX4_sum_5 : decode cX4_sum 5 = .ok (.astore_n 3, 1) := by decide +kernel
theorem dX4_sum_6 : decode cX4_sum 6 = .ok (.aload_n 3, 1) := by decide +kernel
theorem dX4_sum_7 : decode cX4_sum 7 = .ok (.ifnonnull 9, 3) := by decide +kernel
theorem dX4_sum_10 : decode cX4_sum 10 = .ok (.aload_n 0, 1) := by decide +kernel
theorem dX4_sum_11 : decode cX4_sum 11 = .ok (.iconst (-1), 1) := by decide +kernel
theorem dX4_sum_12 : decode cX4_sum 12 = .ok (.invokevirtual 168, 3) := by decide +kernel
theorem dX4_sum_15 : decode cX4_sum 15 = .ok (.lreturn, 1) := by decide +kernel
theorem dX4_sum_16 : decode cX4_sum 16 = .ok (.iload_n 2, 1) := by decide +kernel
theorem dX4_sum_17 : decode cX4_sum 17 = .ok (.ifCond .lt 8, 3) := by decide +kernel
theorem dX4_sum_20 : decode cX4_sum 20 = .ok (.iload_n 2, 1) := by decide +kernel
theorem dX4_sum_21 : decode cX4_sum 21 = .ok (.iconst 2, 1) := by decide +kernel
theorem dX4_sum_22 : decode cX4_sum 22 = .ok (.if_icmp .le 10, 3) := by decide +kernel
theorem dX4_sum_25 : decode cX4_sum 25 = .ok (.aload_n 0, 1) := by decide +kernel
theorem dX4_sum_26 : decode cX4_sum 26 = .ok (.bipush (-2), 2) := by decide +kernel
theorem dX4_sum_28 : decode cX4_sum 28 = .ok (.invokevirtual 168, 3) := by decide +kernel
theorem dX4_sum_31 : decode cX4_sum 31 = .ok (.lreturn, 1) := by decide +kernel
theorem dX4_sum_32 : decode cX4_sum 32 = .ok (.aload_n 0, 1) := by decide +kernel
theorem dX4_sum_33 : decode cX4_sum 33 = .ok (.getfield 18, 3) := by decide +kernel
theorem dX4_sum_36 : decode cX4_sum 36 = .ok (.aload_n 3, 1) := by decide +kernel
theorem dX4_sum_37 : decode cX4_sum 37 = .ok (.iconst 5, 1) := by decide +kernel
theorem dX4_sum_38 : decode cX4_sum 38 = .ok (.invokevirtual 223, 3) := by decide +kernel
theorem dX4_sum_41 : decode cX4_sum 41 = .ok (.ifCond .eq 15, 3) := by decide +kernel
theorem dX4_sum_44 : decode cX4_sum 44 = .ok (.aload_n 0, 1) := by decide +kernel
theorem dX4_sum_45 : decode cX4_sum 45 = .ok (.getfield 18, 3) := by decide +kernel
theorem dX4_sum_48 : decode cX4_sum 48 = .ok (.aload_n 3, 1) := by decide +kernel
theorem dX4_sum_49 : decode cX4_sum 49 = .ok (.invokevirtual 241, 3) := by decide +kernel
theorem dX4_sum_52 : decode cX4_sum 52 = .ok (.iconst 5, 1) := by decide +kernel
theorem dX4_sum_53 : decode cX4_sum 53 = .ok (.if_icmp .le 10, 3) := by decide +kernel
theorem dX4_sum_56 : decode cX4_sum 56 = .ok (.aload_n 0, 1) := by decide +kernel
theorem dX4_sum_57 : decode cX4_sum 57 = .ok (.bipush (-3), 2) := by decide +kernel
theorem dX4_sum_59 : decode cX4_sum 59 = .ok (.invokevirtual 168, 3) := by decide +kernel
theorem dX4_sum_62 : decode cX4_sum 62 = .ok (.lreturn, 1) := by decide +kernel
theorem dX4_sum_63 : decode cX4_sum 63 = .ok (.lconst 0, 1) := by decide +kernel
theorem dX4_sum_64 : decode cX4_sum 64 = .ok (.lstore 4, 2) := by decide +kernel
theorem dX4_sum_66 : decode cX4_sum 66 = .ok (.iconst 0, 1) := by decide +kernel
theorem dX4_sum_67 : decode cX4_sum 67 = .ok (.istore 6, 2) := by decide +kernel
theorem dX4_sum_69 : decode cX4_sum 69 = .ok (.iload 6, 2) := by decide +kernel
theorem dX4_sum_71 : decode cX4_sum 71 = .ok (.aload_n 3, 1) := by decide +kernel
theorem dX4_sum_72 : decode cX4_sum 72 = .ok (.getfield 79, 3) := by decide +kernel
theorem dX4_sum_75 : decode cX4_sum 75 = .ok (.if_icmp .ge 24, 3) := by decide +kernel
theorem dX4_sum_78 : decode cX4_sum 78 = .ok (.lload 4, 2) := by decide +kernel
theorem dX4_sum_80 : decode cX4_sum 80 = .ok (.aload_n 0, 1) := by decide +kernel
theorem dX4_sum_81 : decode cX4_sum 81 = .ok (.getfield 18, 3) := by decide +kernel
theorem dX4_sum_84 : decode cX4_sum 84 = .ok (.aload_n 3, 1) := by decide +kernel
theorem dX4_sum_85 : decode cX4_sum 85 = .ok (.iload 6, 2) := by decide +kernel
theorem dX4_sum_87 : decode cX4_sum 87 = .ok (.invokevirtual 244, 3) := by decide +kernel
theorem dX4_sum_90 : decode cX4_sum 90 = .ok (.ladd, 1) := by decide +kernel
theorem dX4_sum_91 : decode cX4_sum 91 = .ok (.lstore 4, 2) := by decide +kernel
theorem dX4_sum_93 : decode cX4_sum 93 = .ok (.iinc 6 1, 3) := by decide +kernel
theorem dX4_sum_96 : decode cX4_sum 96 = .ok (.goto (-27), 3) := by decide +kernel
theorem dX4_sum_99 : decode cX4_sum 99 = .ok (.iload_n 2, 1) := by decide +kernel
theorem dX4_sum_100 : decode cX4_sum 100 = .ok (.ifCond .ne 6, 3) := by decide +kernel
theorem dX4_sum_103 : decode cX4_sum 103 = .ok (.lload 4, 2) := by decide +kernel
theorem dX4_sum_105 : decode cX4_sum 105 = .ok (.lreturn, 1) := by decide +kernel
theorem dX4_sum_106 : decode cX4_sum 106 = .ok (.lconst 1, 1) := by decide +kernel
theorem dX4_sum_107 : decode cX4_sum 107 = .ok (.lstore 6, 2) := by decide +kernel
theorem dX4_sum_109 : decode cX4_sum 109 = .ok (.iconst 0, 1) := by decide +kernel
theorem dX4_sum_110 : decode cX4_sum 110 = .ok (.istore 8, 2) := by decide +kernel
theorem dX4_sum_112 : decode cX4_sum 112 = .ok (.iload 8, 2) := by decide +kernel
theorem dX4_sum_114 : decode cX4_sum 114 = .ok (.aload_n 3, 1) := by decide +kernel
theorem dX4_sum_115 : decode cX4_sum 115 = .ok (.getfield 93, 3) := by decide +kernel
theorem dX4_sum_118 : decode cX4_sum 118 = .ok (.if_icmp .ge 27, 3) := by decide +kernel
theorem dX4_sum_121 : decode cX4_sum 121 = .ok (.lload 6, 2) := by decide +kernel
theorem dX4_sum_123 : decode cX4_sum 123 = .ok (.aload_n 0, 1) := by decide +kernel
theorem dX4_sum_124 : decode cX4_sum 124 = .ok (.getfield 18, 3) := by decide +kernel
theorem dX4_sum_127 : decode cX4_sum 127 = .ok (.getfield 145, 3) := by decide +kernel
theorem dX4_sum_130 : decode cX4_sum 130 = .ok (.iload 8, 2) := by decide +kernel
theorem dX4_sum_132 : decode cX4_sum 132 = .ok (.iaload, 1) := by decide +kernel
theorem dX4_sum_133 : decode cX4_sum 133 = .ok (.iconst 1, 1) := by decide +kernel
theorem dX4_sum_134 : decode cX4_sum 134 = .ok (.iadd, 1) := by decide +kernel
theorem dX4_sum_135 : decode cX4_sum 135 = .ok (.i2l, 1) := by decide +kernel
theorem dX4_sum_136 : decode cX4_sum 136 = .ok (.lmul, 1) := by decide +kernel
theorem dX4_sum_137 : decode cX4_sum 137 = .ok (.lstore 6, 2) := by decide +kernel
theorem dX4_sum_139 : decode cX4_sum 139 = .ok (.iinc 8 1, 3) := by decide +kernel
theorem dX4_sum_142 : decode cX4_sum 142 = .ok (.goto (-30), 3) := by decide +kernel
theorem dX4_sum_145 : decode cX4_sum 145 = .ok (.aload_n 3, 1) := by decide +kernel
theorem dX4_sum_146 : decode cX4_sum 146 = .ok (.getfield 79, 3) := by decide +kernel
theorem dX4_sum_149 : decode cX4_sum 149 = .ok (.i2l, 1) := by decide +kernel
theorem dX4_sum_150 : decode cX4_sum 150 = .ok (.aload_n 0, 1) := by decide +kernel
theorem dX4_sum_151 : decode cX4_sum 151 = .ok (.getfield 18, 3) := by decide +kernel
theorem dX4_sum_154 : decode cX4_sum 154 = .ok (.aload_n 3, 1) := by decide +kernel
theorem dX4_sum_155 : decode cX4_sum 155 = .ok (.invokevirtual 241, 3) := by decide +kernel
theorem dX4_sum_158 : decode cX4_sum 158 = .ok (.iconst 1, 1) := by decide +kernel
theorem dX4_sum_159 : decode cX4_sum 159 = .ok (.iadd, 1) := by decide +kernel
theorem dX4_sum_160 : decode cX4_sum 160 = .ok (.invokestatic 180, 3) := by decide +kernel
theorem dX4_sum_163 : decode cX4_sum 163 = .ok (.lstore 8, 2) := by decide +kernel
theorem dX4_sum_165 : decode cX4_sum 165 = .ok (.lload 4, 2) := by decide +kernel
theorem dX4_sum_167 : decode cX4_sum 167 = .ok (.lload 6, 2) := by decide +kernel
theorem dX4_sum_169 : decode cX4_sum 169 = .ok (.lmul, 1) := by decide +kernel
theorem dX4_sum_170 : decode cX4_sum 170 = .ok (.lload 8, 2) := by decide +kernel
theorem dX4_sum_172 : decode cX4_sum 172 = .ok (.lsub, 1) := by decide +kernel
theorem dX4_sum_173 : decode cX4_sum 173 = .ok (.lload 8, 2) := by decide +kernel
theorem dX4_sum_175 : decode cX4_sum 175 = .ok (.lload 6, 2) := by decide +kernel
theorem dX4_sum_177 : decode cX4_sum 177 = .ok (.lmul, 1) := by decide +kernel
theorem dX4_sum_178 : decode cX4_sum 178 = .ok (.iload_n 2, 1) := by decide +kernel
theorem dX4_sum_179 : decode cX4_sum 179 = .ok (.iconst 2, 1) := by decide +kernel
theorem dX4_sum_180 : decode cX4_sum 180 = .ok (.if_icmp .ne 7, 3) := by decide +kernel
theorem dX4_sum_183 : decode cX4_sum 183 = .ok (.iconst 1, 1) := by decide +kernel
theorem dX4_sum_184 : decode cX4_sum 184 = .ok (.goto 4, 3) := by decide +kernel
theorem dX4_sum_187 : decode cX4_sum 187 = .ok (.iconst 0, 1) := by decide +kernel
theorem dX4_sum_188 : decode cX4_sum 188 = .ok (.invokestatic 190, 3) := by decide +kernel
theorem dX4_sum_191 : decode cX4_sum 191 = .ok (.lreturn, 1) := by decide +kernel
theorem dX4_status_0 : decode cX4_status 0 = .ok (.iload_n 1, 1) := by decide +kernel
theorem dX4_status_1 : decode cX4_status 1 = .ok (.ifCond .ne 8, 3) := by decide +kernel
theorem dX4_status_4 : decode cX4_status 4 = .ok (.aload_n 0, 1) := by decide +kernel
theorem dX4_status_5 : decode cX4_status 5 = .ok (.getfield 43, 3) := by decide +kernel
theorem dX4_status_8 : decode cX4_status 8 = .ok (.ireturn, 1) := by decide +kernel
theorem dX4_status_9 : decode cX4_status 9 = .ok (.iload_n 1, 1) := by decide +kernel
theorem dX4_status_10 : decode cX4_status 10 = .ok (.iconst 1, 1) := by decide +kernel
theorem dX4_status_11 : decode cX4_status 11 = .ok (.if_icmp .ne 8, 3) := by decide +kernel
theorem dX4_status_14 : decode cX4_status 14 = .ok (.aload_n 0, 1) := by decide +kernel
theorem dX4_status_15 : decode cX4_status 15 = .ok (.getfield 47, 3) := by decide +kernel
theorem dX4_status_18 : decode cX4_status 18 = .ok (.ireturn, 1) := by decide +kernel
theorem dX4_status_19 : decode cX4_status 19 = .ok (.iload_n 1, 1) := by decide +kernel
theorem dX4_status_20 : decode cX4_status 20 = .ok (.bipush 11, 2) := by decide +kernel
theorem dX4_status_22 : decode cX4_status 22 = .ok (.if_icmp .lt 19, 3) := by decide +kernel
theorem dX4_status_25 : decode cX4_status 25 = .ok (.iload_n 1, 1) := by decide +kernel
theorem dX4_status_26 : decode cX4_status 26 = .ok (.bipush 16, 2) := by decide +kernel
theorem dX4_status_28 : decode cX4_status 28 = .ok (.if_icmp .gt 13, 3) := by decide +kernel
theorem dX4_status_31 : decode cX4_status 31 = .ok (.aload_n 0, 1) := by decide +kernel
theorem dX4_status_32 : decode cX4_status 32 = .ok (.getfield 40, 3) := by decide +kernel
theorem dX4_status_35 : decode cX4_status 35 = .ok (.iload_n 1, 1) := by decide +kernel
theorem dX4_status_36 : decode cX4_status 36 = .ok (.bipush 10, 2) := by decide +kernel
theorem dX4_status_38 : decode cX4_status 38 = .ok (.isub, 1) := by decide +kernel
theorem dX4_status_39 : decode cX4_status 39 = .ok (.iaload, 1) := by decide +kernel
theorem dX4_status_40 : decode cX4_status 40 = .ok (.ireturn, 1) := by decide +kernel
theorem dX4_status_41 : decode cX4_status 41 = .ok (.bipush (-9), 2) := by decide +kernel
theorem dX4_status_43 : decode cX4_status 43 = .ok (.ireturn, 1) := by decide +kernel
theorem dX4_find_0 : decode cX4_find 0 = .ok (.iload_n 1, 1) := by decide +kernel
theorem dX4_find_1 : decode cX4_find 1 = .ok (.ifCond .lt 20, 3) := by decide +kernel
theorem dX4_find_4 : decode cX4_find 4 = .ok (.iload_n 1, 1) := by decide +kernel
theorem dX4_find_5 : decode cX4_find 5 = .ok (.aload_n 0, 1) := by decide +kernel
theorem dX4_find_6 : decode cX4_find 6 = .ok (.getfield 43, 3) := by decide +kernel
theorem dX4_find_9 : decode cX4_find 9 = .ok (.if_icmp .ge 12, 3) := by decide +kernel
theorem dX4_find_12 : decode cX4_find 12 = .ok (.aload_n 0, 1) := by decide +kernel
theorem dX4_find_13 : decode cX4_find 13 = .ok (.getfield 11, 3) := by decide +kernel
theorem dX4_find_16 : decode cX4_find 16 = .ok (.iload_n 1, 1) := by decide +kernel
theorem dX4_find_17 : decode cX4_find 17 = .ok (.aaload, 1) := by decide +kernel
theorem dX4_find_18 : decode cX4_find 18 = .ok (.goto 4, 3) := by decide +kernel
theorem dX4_find_21 : decode cX4_find 21 = .ok (.aconst_null, 1) := by decide +kernel
theorem dX4_find_22 : decode cX4_find 22 = .ok (.areturn, 1) := by decide +kernel
theorem dX4_keep_0 : decode cX4_keep 0 = .ok (.aload_n 0, 1) := by decide +kernel
theorem dX4_keep_1 : decode cX4_keep 1 = .ok (.getfield 43, 3) := by decide +kernel
theorem dX4_keep_4 : decode cX4_keep 4 = .ok (.istore_n 2, 1) := by decide +kernel
theorem dX4_keep_5 : decode cX4_keep 5 = .ok (.iload_n 2, 1) := by decide +kernel
theorem dX4_keep_6 : decode cX4_keep 6 = .ok (.bipush 12, 2) := by decide +kernel
theorem dX4_keep_8 : decode cX4_keep 8 = .ok (.if_icmp .ge 20, 3) := by decide +kernel
theorem dX4_keep_11 : decode cX4_keep 11 = .ok (.aload_n 0, 1) := by decide +kernel
theorem dX4_keep_12 : decode cX4_keep 12 = .ok (.getfield 11, 3) := by decide +kernel
theorem dX4_keep_15 : decode cX4_keep 15 = .ok (.iload_n 2, 1) := by decide +kernel
theorem dX4_keep_16 : decode cX4_keep 16 = .ok (.aload_n 1, 1) := by decide +kernel
theorem dX4_keep_17 : decode cX4_keep 17 = .ok (.aastore, 1) := by decide +kernel
theorem dX4_keep_18 : decode cX4_keep 18 = .ok (.aload_n 0, 1) := by decide +kernel
theorem dX4_keep_19 : decode cX4_keep 19 = .ok (.dup, 1) := by decide +kernel
theorem dX4_keep_20 : decode cX4_keep 20 = .ok (.getfield 43, 3) := by decide +kernel
theorem dX4_keep_23 : decode cX4_keep 23 = .ok (.iconst 1, 1) := by decide +kernel
theorem dX4_keep_24 : decode cX4_keep 24 = .ok (.iadd, 1) := by decide +kernel
theorem dX4_keep_25 : decode cX4_keep 25 = .ok (.putfield 43, 3) := by decide +kernel
theorem dX4_keep_28 : decode cX4_keep 28 = .ok (.iload_n 2, 1) := by decide +kernel
theorem dX4_keep_29 : decode cX4_keep 29 = .ok (.ireturn, 1) := by decide +kernel
theorem dX4_refuse_0 : decode cX4_refuse 0 = .ok (.iload_n 1, 1) := by decide +kernel
theorem dX4_refuse_1 : decode cX4_refuse 1 = .ok (.ineg, 1) := by decide +kernel
theorem dX4_refuse_2 : decode cX4_refuse 2 = .ok (.istore_n 2, 1) := by decide +kernel
theorem dX4_refuse_3 : decode cX4_refuse 3 = .ok (.iload_n 2, 1) := by decide +kernel
theorem dX4_refuse_4 : decode cX4_refuse 4 = .ok (.ifCond .lt 22, 3) := by decide +kernel
theorem dX4_refuse_7 : decode cX4_refuse 7 = .ok (.iload_n 2, 1) := by decide +kernel
theorem dX4_refuse_8 : decode cX4_refuse 8 = .ok (.aload_n 0, 1) := by decide +kernel
theorem dX4_refuse_9 : decode cX4_refuse 9 = .ok (.getfield 40, 3) := by decide +kernel
theorem dX4_refuse_12 : decode cX4_refuse 12 = .ok (.arraylength, 1) := by decide +kernel
theorem dX4_refuse_13 : decode cX4_refuse 13 = .ok (.if_icmp .ge 13, 3) := by decide +kernel
theorem dX4_refuse_16 : decode cX4_refuse 16 = .ok (.aload_n 0, 1) := by decide +kernel
theorem dX4_refuse_17 : decode cX4_refuse 17 = .ok (.getfield 40, 3) := by decide +kernel
theorem dX4_refuse_20 : decode cX4_refuse 20 = .ok (.iload_n 2, 1) := by decide +kernel
theorem dX4_refuse_21 : decode cX4_refuse 21 = .ok (.dup2, 1) := by decide +kernel
theorem dX4_refuse_22 : decode cX4_refuse 22 = .ok (.iaload, 1) := by decide +kernel
theorem dX4_refuse_23 : decode cX4_refuse 23 = .ok (.iconst 1, 1) := by decide +kernel
theorem dX4_refuse_24 : decode cX4_refuse 24 = .ok (.iadd, 1) := by decide +kernel
theorem dX4_refuse_25 : decode cX4_refuse 25 = .ok (.iastore, 1) := by decide +kernel
theorem dX4_refuse_26 : decode cX4_refuse 26 = .ok (.iload_n 1, 1) := by decide +kernel
theorem dX4_refuse_27 : decode cX4_refuse 27 = .ok (.ireturn, 1) := by decide +kernel
theorem dX4_refuseLong_0 : decode cX4_refuseLong 0 = .ok (.ldc2_w 248, 3) := by decide +kernel
theorem dX4_refuseLong_3 : decode cX4_refuseLong 3 = .ok (.aload_n 0, 1) := by decide +kernel
theorem dX4_refuseLong_4 : decode cX4_refuseLong 4 = .ok (.iload_n 1, 1) := by decide +kernel
theorem dX4_refuseLong_5 : decode cX4_refuseLong 5 = .ok (.invokevirtual 54, 3) := by decide +kernel
theorem dX4_refuseLong_8 : decode cX4_refuseLong 8 = .ok (.i2l, 1) := by decide +kernel
theorem dX4_refuseLong_9 : decode cX4_refuseLong 9 = .ok (.lsub, 1) := by decide +kernel
theorem dX4_refuseLong_10 : decode cX4_refuseLong 10 = .ok (.lreturn, 1) := by decide +kernel
theorem dX4_sizeFault_0 : decode cX4_sizeFault 0 = .ok (.iload_n 1, 1) := by decide +kernel
theorem dX4_sizeFault_1 : decode cX4_sizeFault 1 = .ok (.iconst 1, 1) := by decide +kernel
theorem dX4_sizeFault_2 : decode cX4_sizeFault 2 = .ok (.if_icmp .lt 7, 3) := by decide +kernel
theorem dX4_sizeFault_5 : decode cX4_sizeFault 5 = .ok (.iload_n 2, 1) := by decide +kernel
theorem dX4_sizeFault_6 : decode cX4_sizeFault 6 = .ok (.ifCond .ge 6, 3) := by decide +kernel
theorem dX4_sizeFault_9 : decode cX4_sizeFault 9 = .ok (.bipush (-4), 2) := by decide +kernel
theorem dX4_sizeFault_11 : decode cX4_sizeFault 11 = .ok (.ireturn, 1) := by decide +kernel
theorem dX4_sizeFault_12 : decode cX4_sizeFault 12 = .ok (.iload_n 1, 1) := by decide +kernel
theorem dX4_sizeFault_13 : decode cX4_sizeFault 13 = .ok (.bipush 6, 2) := by decide +kernel
theorem dX4_sizeFault_15 : decode cX4_sizeFault 15 = .ok (.if_icmp .gt 18, 3) := by decide +kernel
theorem dX4_sizeFault_18 : decode cX4_sizeFault 18 = .ok (.iload_n 2, 1) := by decide +kernel
theorem dX4_sizeFault_19 : decode cX4_sizeFault 19 = .ok (.bipush 8, 2) := by decide +kernel
theorem dX4_sizeFault_21 : decode cX4_sizeFault 21 = .ok (.if_icmp .gt 12, 3) := by decide +kernel
theorem dX4_sizeFault_24 : decode cX4_sizeFault 24 = .ok (.aload_n 0, 1) := by decide +kernel
theorem dX4_sizeFault_25 : decode cX4_sizeFault 25 = .ok (.getfield 43, 3) := by decide +kernel
theorem dX4_sizeFault_28 : decode cX4_sizeFault 28 = .ok (.bipush 12, 2) := by decide +kernel
theorem dX4_sizeFault_30 : decode cX4_sizeFault 30 = .ok (.if_icmp .lt 6, 3) := by decide +kernel
theorem dX4_sizeFault_33 : decode cX4_sizeFault 33 = .ok (.bipush (-6), 2) := by decide +kernel
theorem dX4_sizeFault_35 : decode cX4_sizeFault 35 = .ok (.ireturn, 1) := by decide +kernel
theorem dX4_sizeFault_36 : decode cX4_sizeFault 36 = .ok (.iconst 0, 1) := by decide +kernel
theorem dX4_sizeFault_37 : decode cX4_sizeFault 37 = .ok (.ireturn, 1) := by decide +kernel
theorem dX4_shapeFault_0 : decode cX4_shapeFault 0 = .ok (.aload_n 1, 1) := by decide +kernel
theorem dX4_shapeFault_1 : decode cX4_shapeFault 1 = .ok (.ifnonnull 5, 3) := by decide +kernel
theorem dX4_shapeFault_4 : decode cX4_shapeFault 4 = .ok (.iconst (-1), 1) := by decide +kernel
theorem dX4_shapeFault_5 : decode cX4_shapeFault 5 = .ok (.ireturn, 1) := by decide +kernel
theorem dX4_shapeFault_6 : decode cX4_shapeFault 6 = .ok (.aload_n 1, 1) := by decide +kernel
theorem dX4_shapeFault_7 : decode cX4_shapeFault 7 = .ok (.getfield 73, 3) := by decide +kernel
theorem dX4_shapeFault_10 : decode cX4_shapeFault 10 = .ok (.iconst 3, 1) := by decide +kernel
theorem dX4_shapeFault_11 : decode cX4_shapeFault 11 = .ok (.if_icmp .ne 6, 3) := by decide +kernel
theorem dX4_shapeFault_14 : decode cX4_shapeFault 14 = .ok (.bipush (-2), 2) := by decide +kernel
theorem dX4_shapeFault_16 : decode cX4_shapeFault 16 = .ok (.ireturn, 1) := by decide +kernel
theorem dX4_shapeFault_17 : decode cX4_shapeFault 17 = .ok (.aload_n 0, 1) := by decide +kernel
theorem dX4_shapeFault_18 : decode cX4_shapeFault 18 = .ok (.getfield 18, 3) := by decide +kernel
theorem dX4_shapeFault_21 : decode cX4_shapeFault 21 = .ok (.aload_n 1, 1) := by decide +kernel
theorem dX4_shapeFault_22 : decode cX4_shapeFault 22 = .ok (.aload_n 1, 1) := by decide +kernel
theorem dX4_shapeFault_23 : decode cX4_shapeFault 23 = .ok (.getfield 76, 3) := by decide +kernel
theorem dX4_shapeFault_26 : decode cX4_shapeFault 26 = .ok (.invokevirtual 223, 3) := by decide +kernel
theorem dX4_shapeFault_29 : decode cX4_shapeFault 29 = .ok (.ifCond .ne 6, 3) := by decide +kernel
theorem dX4_shapeFault_32 : decode cX4_shapeFault 32 = .ok (.bipush (-3), 2) := by decide +kernel
theorem dX4_shapeFault_34 : decode cX4_shapeFault 34 = .ok (.ireturn, 1) := by decide +kernel
theorem dX4_shapeFault_35 : decode cX4_shapeFault 35 = .ok (.aload_n 0, 1) := by decide +kernel
theorem dX4_shapeFault_36 : decode cX4_shapeFault 36 = .ok (.getfield 18, 3) := by decide +kernel
theorem dX4_shapeFault_39 : decode cX4_shapeFault 39 = .ok (.aload_n 1, 1) := by decide +kernel
theorem dX4_shapeFault_40 : decode cX4_shapeFault 40 = .ok (.invokevirtual 241, 3) := by decide +kernel
theorem dX4_shapeFault_43 : decode cX4_shapeFault 43 = .ok (.bipush 16, 2) := by decide +kernel
theorem dX4_shapeFault_45 : decode cX4_shapeFault 45 = .ok (.if_icmp .le 8, 3) := by decide +kernel
theorem dX4_shapeFault_48 : decode cX4_shapeFault 48 = .ok (.bipush (-6), 2) := by decide +kernel
theorem dX4_shapeFault_50 : decode cX4_shapeFault 50 = .ok (.goto 4, 3) := by decide +kernel
theorem dX4_shapeFault_53 : decode cX4_shapeFault 53 = .ok (.iconst 0, 1) := by decide +kernel
theorem dX4_shapeFault_54 : decode cX4_shapeFault 54 = .ok (.ireturn, 1) := by decide +kernel
theorem dX4_firstUneven_0 : decode cX4_firstUneven 0 = .ok (.aload_n 0, 1) := by decide +kernel
theorem dX4_firstUneven_1 : decode cX4_firstUneven 1 = .ok (.getfield 18, 3) := by decide +kernel
theorem dX4_firstUneven_4 : decode cX4_firstUneven 4 = .ok (.aload_n 1, 1) := by decide +kernel
theorem dX4_firstUneven_5 : decode cX4_firstUneven 5 = .ok (.invokevirtual 241, 3) := by decide +kernel
theorem dX4_firstUneven_8 : decode cX4_firstUneven 8 = .ok (.istore_n 2, 1) := by decide +kernel
theorem dX4_firstUneven_9 : decode cX4_firstUneven 9 = .ok (.iload_n 2, 1) := by decide +kernel
theorem dX4_firstUneven_10 : decode cX4_firstUneven 10 = .ok (.aload_n 1, 1) := by decide +kernel
theorem dX4_firstUneven_11 : decode cX4_firstUneven 11 = .ok (.getfield 76, 3) := by decide +kernel
theorem dX4_firstUneven_14 : decode cX4_firstUneven 14 = .ok (.if_icmp .gt 9, 3) := by decide +kernel
theorem dX4_firstUneven_17 : decode cX4_firstUneven 17 = .ok (.iconst 1, 1) := by decide +kernel
theorem dX4_firstUneven_18 : decode cX4_firstUneven 18 = .ok (.iload_n 2, 1) := by decide +kernel
theorem dX4_firstUneven_19 : decode cX4_firstUneven 19 = .ok (.ishl, 1) := by decide +kernel
theorem dX4_firstUneven_20 : decode cX4_firstUneven 20 = .ok (.goto 4, 3) := by decide +kernel
theorem dX4_firstUneven_23 : decode cX4_firstUneven 23 = .ok (.iconst 1, 1) := by decide +kernel
theorem dX4_firstUneven_24 : decode cX4_firstUneven 24 = .ok (.istore_n 3, 1) := by decide +kernel
theorem dX4_firstUneven_25 : decode cX4_firstUneven 25 = .ok (.aload_n 0, 1) := by decide +kernel
theorem dX4_firstUneven_26 : decode cX4_firstUneven 26 = .ok (.getfield 29, 3) := by decide +kernel
theorem dX4_firstUneven_29 : decode cX4_firstUneven 29 = .ok (.iconst 0, 1) := by decide +kernel
theorem dX4_firstUneven_30 : decode cX4_firstUneven 30 = .ok (.iload_n 3, 1) := by decide +kernel
theorem dX4_firstUneven_31 : decode cX4_firstUneven 31 = .ok (.iconst 0, 1) := by decide +kernel
theorem dX4_firstUneven_32 : decode cX4_firstUneven 32 = .ok (.invokestatic 250, 3) := by decide +kernel
theorem dX4_firstUneven_35 : decode cX4_firstUneven 35 = .ok (.iconst 0, 1) := by decide +kernel
theorem dX4_firstUneven_36 : decode cX4_firstUneven 36 = .ok (.istore 4, 2) := by decide +kernel
theorem dX4_firstUneven_38 : decode cX4_firstUneven 38 = .ok (.iload 4, 2) := by decide +kernel
theorem dX4_firstUneven_40 : decode cX4_firstUneven 40 = .ok (.aload_n 1, 1) := by decide +kernel
theorem dX4_firstUneven_41 : decode cX4_firstUneven 41 = .ok (.getfield 79, 3) := by decide +kernel
theorem dX4_firstUneven_44 : decode cX4_firstUneven 44 = .ok (.if_icmp .ge 43, 3) := by decide +kernel
theorem dX4_firstUneven_47 : decode cX4_firstUneven 47 = .ok (.aload_n 0, 1) := by decide +kernel
theorem dX4_firstUneven_48 : decode cX4_firstUneven 48 = .ok (.getfield 18, 3) := by decide +kernel
theorem dX4_firstUneven_51 : decode cX4_firstUneven 51 = .ok (.aload_n 1, 1) := by decide +kernel
theorem dX4_firstUneven_52 : decode cX4_firstUneven 52 = .ok (.iload 4, 2) := by decide +kernel
theorem dX4_firstUneven_54 : decode cX4_firstUneven 54 = .ok (.invokevirtual 256, 3) := by decide +kernel
theorem dX4_firstUneven_57 : decode cX4_firstUneven 57 = .ok (.istore 5, 2) := by decide +kernel
theorem dX4_firstUneven_59 : decode cX4_firstUneven 59 = .ok (.iload 5, 2) := by decide +kernel
theorem dX4_firstUneven_61 : decode cX4_firstUneven 61 = .ok (.ifCond .lt 20, 3) := by decide +kernel
theorem dX4_firstUneven_64 : decode cX4_firstUneven 64 = .ok (.iload 5, 2) := by decide +kernel
theorem dX4_firstUneven_66 : decode cX4_firstUneven 66 = .ok (.iload_n 3, 1) := by decide +kernel
theorem dX4_firstUneven_67 : decode cX4_firstUneven 67 = .ok (.if_icmp .ge 14, 3) := by decide +kernel
theorem dX4_firstUneven_70 : decode cX4_firstUneven 70 = .ok (.aload_n 0, 1) := by decide +kernel
theorem dX4_firstUneven_71 : decode cX4_firstUneven 71 = .ok (.getfield 29, 3) := by decide +kernel
theorem dX4_firstUneven_74 : decode cX4_firstUneven 74 = .ok (.iload 5, 2) := by decide +kernel
theorem dX4_firstUneven_76 : decode cX4_firstUneven 76 = .ok (.dup2, 1) := by decide +kernel
theorem dX4_firstUneven_77 : decode cX4_firstUneven 77 = .ok (.iaload, 1) := by decide +kernel
theorem dX4_firstUneven_78 : decode cX4_firstUneven 78 = .ok (.iconst 1, 1) := by decide +kernel
theorem dX4_firstUneven_79 : decode cX4_firstUneven 79 = .ok (.iadd, 1) := by decide +kernel
theorem dX4_firstUneven_80 : decode cX4_firstUneven 80 = .ok (.iastore, 1) := by decide +kernel
theorem dX4_firstUneven_81 : decode cX4_firstUneven 81 = .ok (.iinc 4 1, 3) := by decide +kernel
theorem dX4_firstUneven_84 : decode cX4_firstUneven 84 = .ok (.goto (-46), 3) := by decide +kernel
theorem dX4_firstUneven_87 : decode cX4_firstUneven 87 = .ok (.iconst 0, 1) := by decide +kernel
theorem dX4_firstUneven_88 : decode cX4_firstUneven 88 = .ok (.istore 4, 2) := by decide +kernel
theorem dX4_firstUneven_90 : decode cX4_firstUneven 90 = .ok (.iload 4, 2) := by decide +kernel
theorem dX4_firstUneven_92 : decode cX4_firstUneven 92 = .ok (.iload_n 3, 1) := by decide +kernel
theorem dX4_firstUneven_93 : decode cX4_firstUneven 93 = .ok (.if_icmp .ge 33, 3) := by decide +kernel
theorem dX4_firstUneven_96 : decode cX4_firstUneven 96 = .ok (.aload_n 0, 1) := by decide +kernel
theorem dX4_firstUneven_97 : decode cX4_firstUneven 97 = .ok (.getfield 29, 3) := by decide +kernel
theorem dX4_firstUneven_100 : decode cX4_firstUneven 100 = .ok (.iload 4, 2) := by decide +kernel
theorem dX4_firstUneven_102 : decode cX4_firstUneven 102 = .ok (.iaload, 1) := by decide +kernel
theorem dX4_firstUneven_103 : decode cX4_firstUneven 103 = .ok (.iload_n 2, 1) := by decide +kernel
theorem dX4_firstUneven_104 : decode cX4_firstUneven 104 = .ok (.ishl, 1) := by decide +kernel
theorem dX4_firstUneven_105 : decode cX4_firstUneven 105 = .ok (.aload_n 1, 1) := by decide +kernel
theorem dX4_firstUneven_106 : decode cX4_firstUneven 106 = .ok (.getfield 79, 3) := by decide +kernel
theorem dX4_firstUneven_109 : decode cX4_firstUneven 109 = .ok (.if_icmp .eq 11, 3) := by decide +kernel
theorem dX4_firstUneven_112 : decode cX4_firstUneven 112 = .ok (.aload_n 0, 1) := by decide +kernel
theorem dX4_firstUneven_113 : decode cX4_firstUneven 113 = .ok (.getfield 29, 3) := by decide +kernel
theorem dX4_firstUneven_116 : decode cX4_firstUneven 116 = .ok (.iload 4, 2) := by decide +kernel
theorem dX4_firstUneven_118 : decode cX4_firstUneven 118 = .ok (.iaload, 1) := by decide +kernel
theorem dX4_firstUneven_119 : decode cX4_firstUneven 119 = .ok (.ireturn, 1) := by decide +kernel
theorem dX4_firstUneven_120 : decode cX4_firstUneven 120 = .ok (.iinc 4 1, 3) := by decide +kernel
theorem dX4_firstUneven_123 : decode cX4_firstUneven 123 = .ok (.goto (-33), 3) := by decide +kernel
theorem dX4_firstUneven_126 : decode cX4_firstUneven 126 = .ok (.bipush (-9), 2) := by decide +kernel
theorem dX4_firstUneven_128 : decode cX4_firstUneven 128 = .ok (.ireturn, 1) := by decide +kernel
theorem dX4_mayBeMeasured_0 : decode cX4_mayBeMeasured 0 = .ok (.aload_n 0, 1) := by decide +kernel
theorem dX4_mayBeMeasured_1 : decode cX4_mayBeMeasured 1 = .ok (.getfield 93, 3) := by decide +kernel
theorem dX4_mayBeMeasured_4 : decode cX4_mayBeMeasured 4 = .ok (.iconst 3, 1) := by decide +kernel
theorem dX4_mayBeMeasured_5 : decode cX4_mayBeMeasured 5 = .ok (.if_icmp .gt 16, 3) := by decide +kernel
theorem dX4_mayBeMeasured_8 : decode cX4_mayBeMeasured 8 = .ok (.aload_n 0, 1) := by decide +kernel
theorem dX4_mayBeMeasured_9 : decode cX4_mayBeMeasured 9 = .ok (.getfield 79, 3) := by decide +kernel
theorem dX4_mayBeMeasured_12 : decode cX4_mayBeMeasured 12 = .ok (.bipush 64, 2) := by decide +kernel
theorem dX4_mayBeMeasured_14 : decode cX4_mayBeMeasured 14 = .ok (.if_icmp .gt 7, 3) := by decide +kernel
theorem dX4_mayBeMeasured_17 : decode cX4_mayBeMeasured 17 = .ok (.iconst 1, 1) := by decide +kernel
theorem dX4_mayBeMeasured_18 : decode cX4_mayBeMeasured 18 = .ok (.goto 4, 3) := by decide +kernel
theorem dX4_mayBeMeasured_21 : decode cX4_mayBeMeasured 21 = .ok (.iconst 0, 1) := by decide +kernel
theorem dX4_mayBeMeasured_22 : decode cX4_mayBeMeasured 22 = .ok (.ireturn, 1) := by decide +kernel
theorem dX4_pointSum_0 : decode cX4_pointSum 0 = .ok (.lconst 0, 1) := by decide +kernel
theorem dX4_pointSum_1 : decode cX4_pointSum 1 = .ok (.lstore_n 1, 1) := by decide +kernel
theorem dX4_pointSum_2 : decode cX4_pointSum 2 = .ok (.aload_n 0, 1) := by decide +kernel
theorem dX4_pointSum_3 : decode cX4_pointSum 3 = .ok (.getfield 79, 3) := by decide +kernel
theorem dX4_pointSum_6 : decode cX4_pointSum 6 = .ok (.i2l, 1) := by decide +kernel
theorem dX4_pointSum_7 : decode cX4_pointSum 7 = .ok (.aload_n 0, 1) := by decide +kernel
theorem dX4_pointSum_8 : decode cX4_pointSum 8 = .ok (.getfield 79, 3) := by decide +kernel
theorem dX4_pointSum_11 : decode cX4_pointSum 11 = .ok (.i2l, 1) := by decide +kernel
theorem dX4_pointSum_12 : decode cX4_pointSum 12 = .ok (.lmul, 1) := by decide +kernel
theorem dX4_pointSum_13 : decode cX4_pointSum 13 = .ok (.lstore_n 3, 1) := by decide +kernel
theorem dX4_pointSum_14 : decode cX4_pointSum 14 = .ok (.iconst 0, 1) := by decide +kernel
theorem dX4_pointSum_15 : decode cX4_pointSum 15 = .ok (.istore 5, 2) := by decide +kernel
theorem dX4_pointSum_17 : decode cX4_pointSum 17 = .ok (.iload 5, 2) := by decide +kernel
theorem dX4_pointSum_19 : decode cX4_pointSum 19 = .ok (.aload_n 0, 1) := by decide +kernel
theorem dX4_pointSum_20 : decode cX4_pointSum 20 = .ok (.getfield 79, 3) := by decide +kernel
theorem dX4_pointSum_23 : decode cX4_pointSum 23 = .ok (.if_icmp .ge 58, 3) := by decide +kernel
theorem dX4_pointSum_26 : decode cX4_pointSum 26 = .ok (.lconst 1, 1) := by decide +kernel
theorem dX4_pointSum_27 : decode cX4_pointSum 27 = .ok (.lstore 6, 2) := by decide +kernel
theorem dX4_pointSum_29 : decode cX4_pointSum 29 = .ok (.iconst 0, 1) := by decide +kernel
theorem dX4_pointSum_30 : decode cX4_pointSum 30 = .ok (.istore 8, 2) := by decide +kernel
theorem dX4_pointSum_32 : decode cX4_pointSum 32 = .ok (.iload 8, 2) := by decide +kernel
theorem dX4_pointSum_34 : decode cX4_pointSum 34 = .ok (.aload_n 0, 1) := by decide +kernel
theorem dX4_pointSum_35 : decode cX4_pointSum 35 = .ok (.getfield 93, 3) := by decide +kernel
theorem dX4_pointSum_38 : decode cX4_pointSum 38 = .ok (.if_icmp .ge 32, 3) := by decide +kernel
theorem dX4_pointSum_41 : decode cX4_pointSum 41 = .ok (.aload_n 0, 1) := by decide +kernel
theorem dX4_pointSum_42 : decode cX4_pointSum 42 = .ok (.iload 5, 2) := by decide +kernel
theorem dX4_pointSum_44 : decode cX4_pointSum 44 = .ok (.iload 8, 2) := by decide +kernel
theorem dX4_pointSum_46 : decode cX4_pointSum 46 = .ok (.invokevirtual 131, 3) := by decide +kernel
theorem dX4_pointSum_49 : decode cX4_pointSum 49 = .ok (.i2l, 1) := by decide +kernel
theorem dX4_pointSum_50 : decode cX4_pointSum 50 = .ok (.lstore 9, 2) := by decide +kernel
theorem dX4_pointSum_52 : decode cX4_pointSum 52 = .ok (.lload 6, 2) := by decide +kernel
theorem dX4_pointSum_54 : decode cX4_pointSum 54 = .ok (.lload_n 3, 1) := by decide +kernel
theorem dX4_pointSum_55 : decode cX4_pointSum 55 = .ok (.lload 9, 2) := by decide +kernel
theorem dX4_pointSum_57 : decode cX4_pointSum 57 = .ok (.lload 9, 2) := by decide +kernel
theorem dX4_pointSum_59 : decode cX4_pointSum 59 = .ok (.lmul, 1) := by decide +kernel
theorem dX4_pointSum_60 : decode cX4_pointSum 60 = .ok (.lsub, 1) := by decide +kernel
theorem dX4_pointSum_61 : decode cX4_pointSum 61 = .ok (.lmul, 1) := by decide +kernel
theorem dX4_pointSum_62 : decode cX4_pointSum 62 = .ok (.lstore 6, 2) := by decide +kernel
theorem dX4_pointSum_64 : decode cX4_pointSum 64 = .ok (.iinc 8 1, 3) := by decide +kernel
theorem dX4_pointSum_67 : decode cX4_pointSum 67 = .ok (.goto (-35), 3) := by decide +kernel
theorem dX4_pointSum_70 : decode cX4_pointSum 70 = .ok (.lload_n 1, 1) := by decide +kernel
theorem dX4_pointSum_71 : decode cX4_pointSum 71 = .ok (.lload 6, 2) := by decide +kernel
theorem dX4_pointSum_73 : decode cX4_pointSum 73 = .ok (.ladd, 1) := by decide +kernel
theorem dX4_pointSum_74 : decode cX4_pointSum 74 = .ok (.lstore_n 1, 1) := by decide +kernel
theorem dX4_pointSum_75 : decode cX4_pointSum 75 = .ok (.iinc 5 1, 3) := by decide +kernel
theorem dX4_pointSum_78 : decode cX4_pointSum 78 = .ok (.goto (-61), 3) := by decide +kernel
theorem dX4_pointSum_81 : decode cX4_pointSum 81 = .ok (.lload_n 1, 1) := by decide +kernel
theorem dX4_pointSum_82 : decode cX4_pointSum 82 = .ok (.lreturn, 1) := by decide +kernel
theorem dX4_pairSum_0 : decode cX4_pairSum 0 = .ok (.lconst 0, 1) := by decide +kernel
theorem dX4_pairSum_1 : decode cX4_pairSum 1 = .ok (.lstore_n 1, 1) := by decide +kernel
theorem dX4_pairSum_2 : decode cX4_pairSum 2 = .ok (.iconst 0, 1) := by decide +kernel
theorem dX4_pairSum_3 : decode cX4_pairSum 3 = .ok (.istore_n 3, 1) := by decide +kernel
theorem dX4_pairSum_4 : decode cX4_pairSum 4 = .ok (.iload_n 3, 1) := by decide +kernel
theorem dX4_pairSum_5 : decode cX4_pairSum 5 = .ok (.aload_n 0, 1) := by decide +kernel
theorem dX4_pairSum_6 : decode cX4_pairSum 6 = .ok (.getfield 79, 3) := by decide +kernel
theorem dX4_pairSum_9 : decode cX4_pairSum 9 = .ok (.if_icmp .ge 82, 3) := by decide +kernel
theorem dX4_pairSum_12 : decode cX4_pairSum 12 = .ok (.iconst 0, 1) := by decide +kernel
theorem dX4_pairSum_13 : decode cX4_pairSum 13 = .ok (.istore 4, 2) := by decide +kernel
theorem dX4_pairSum_15 : decode cX4_pairSum 15 = .ok (.iload 4, 2) := by decide +kernel
theorem dX4_pairSum_17 : decode cX4_pairSum 17 = .ok (.aload_n 0, 1) := by decide +kernel
theorem dX4_pairSum_18 : decode cX4_pairSum 18 = .ok (.getfield 79, 3) := by decide +kernel
theorem dX4_pairSum_21 : decode cX4_pairSum 21 = .ok (.if_icmp .ge 64, 3) := by decide +kernel
theorem dX4_pairSum_24 : decode cX4_pairSum 24 = .ok (.lconst 1, 1) := by decide +kernel
theorem dX4_pairSum_25 : decode cX4_pairSum 25 = .ok (.lstore 5, 2) := by decide +kernel
theorem dX4_pairSum_27 : decode cX4_pairSum 27 = .ok (.iconst 0, 1) := by decide +kernel
theorem dX4_pairSum_28 : decode cX4_pairSum 28 = .ok (.istore 7, 2) := by decide +kernel
theorem dX4_pairSum_30 : decode cX4_pairSum 30 = .ok (.iload 7, 2) := by decide +kernel
theorem dX4_pairSum_32 : decode cX4_pairSum 32 = .ok (.aload_n 0, 1) := by decide +kernel
theorem dX4_pairSum_33 : decode cX4_pairSum 33 = .ok (.getfield 93, 3) := by decide +kernel
theorem dX4_pairSum_36 : decode cX4_pairSum 36 = .ok (.if_icmp .ge 38, 3) := by decide +kernel
theorem dX4_pairSum_39 : decode cX4_pairSum 39 = .ok (.lload 5, 2) := by decide +kernel
theorem dX4_pairSum_41 : decode cX4_pairSum 41 = .ok (.aload_n 0, 1) := by decide +kernel
theorem dX4_pairSum_42 : decode cX4_pairSum 42 = .ok (.getfield 79, 3) := by decide +kernel
theorem dX4_pairSum_45 : decode cX4_pairSum 45 = .ok (.aload_n 0, 1) := by decide +kernel
theorem dX4_pairSum_46 : decode cX4_pairSum 46 = .ok (.iload_n 3, 1) := by decide +kernel
theorem dX4_pairSum_47 : decode cX4_pairSum 47 = .ok (.iload 7, 2) := by decide +kernel
theorem dX4_pairSum_49 : decode cX4_pairSum 49 = .ok (.invokevirtual 131, 3) := by decide +kernel
theorem dX4_pairSum_52 : decode cX4_pairSum 52 = .ok (.aload_n 0, 1) := by decide +kernel
theorem dX4_pairSum_53 : decode cX4_pairSum 53 = .ok (.iload 4, 2) := by decide +kernel
theorem dX4_pairSum_55 : decode cX4_pairSum 55 = .ok (.iload 7, 2) := by decide +kernel
theorem dX4_pairSum_57 : decode cX4_pairSum 57 = .ok (.invokevirtual 131, 3) := by decide +kernel
theorem dX4_pairSum_60 : decode cX4_pairSum 60 = .ok (.invokestatic 259, 3) := by decide +kernel
theorem dX4_pairSum_63 : decode cX4_pairSum 63 = .ok (.isub, 1) := by decide +kernel
theorem dX4_pairSum_64 : decode cX4_pairSum 64 = .ok (.i2l, 1) := by decide +kernel
theorem dX4_pairSum_65 : decode cX4_pairSum 65 = .ok (.lmul, 1) := by decide +kernel
theorem dX4_pairSum_66 : decode cX4_pairSum 66 = .ok (.lstore 5, 2) := by decide +kernel
theorem dX4_pairSum_68 : decode cX4_pairSum 68 = .ok (.iinc 7 1, 3) := by decide +kernel
theorem dX4_pairSum_71 : decode cX4_pairSum 71 = .ok (.goto (-41), 3) := by decide +kernel
theorem dX4_pairSum_74 : decode cX4_pairSum 74 = .ok (.lload_n 1, 1) := by decide +kernel
theorem dX4_pairSum_75 : decode cX4_pairSum 75 = .ok (.lload 5, 2) := by decide +kernel
theorem dX4_pairSum_77 : decode cX4_pairSum 77 = .ok (.ladd, 1) := by decide +kernel
theorem dX4_pairSum_78 : decode cX4_pairSum 78 = .ok (.lstore_n 1, 1) := by decide +kernel
theorem dX4_pairSum_79 : decode cX4_pairSum 79 = .ok (.iinc 4 1, 3) := by decide +kernel
theorem dX4_pairSum_82 : decode cX4_pairSum 82 = .ok (.goto (-67), 3) := by decide +kernel
theorem dX4_pairSum_85 : decode cX4_pairSum 85 = .ok (.iinc 3 1, 3) := by decide +kernel
theorem dX4_pairSum_88 : decode cX4_pairSum 88 = .ok (.goto (-84), 3) := by decide +kernel
theorem dX4_pairSum_91 : decode cX4_pairSum 91 = .ok (.lload_n 1, 1) := by decide +kernel
theorem dX4_pairSum_92 : decode cX4_pairSum 92 = .ok (.lreturn, 1) := by decide +kernel
theorem dX4_fillWaves_0 : decode cX4_fillWaves 0 = .ok (.iconst 1, 1) := by decide +kernel
theorem dX4_fillWaves_1 : decode cX4_fillWaves 1 = .ok (.iload_n 2, 1) := by decide +kernel
theorem dX4_fillWaves_2 : decode cX4_fillWaves 2 = .ok (.ishl, 1) := by decide +kernel
theorem dX4_fillWaves_3 : decode cX4_fillWaves 3 = .ok (.istore_n 3, 1) := by decide +kernel
theorem dX4_fillWaves_4 : decode cX4_fillWaves 4 = .ok (.aload_n 0, 1) := by decide +kernel
theorem dX4_fillWaves_5 : decode cX4_fillWaves 5 = .ok (.getfield 29, 3) := by decide +kernel
theorem dX4_fillWaves_8 : decode cX4_fillWaves 8 = .ok (.iconst 0, 1) := by decide +kernel
theorem dX4_fillWaves_9 : decode cX4_fillWaves 9 = .ok (.iload_n 3, 1) := by decide +kernel
theorem dX4_fillWaves_10 : decode cX4_fillWaves 10 = .ok (.iconst 0, 1) := by decide +kernel
theorem dX4_fillWaves_11 : decode cX4_fillWaves 11 = .ok (.invokestatic 250, 3) := by decide +kernel
theorem dX4_fillWaves_14 : decode cX4_fillWaves 14 = .ok (.iconst 0, 1) := by decide +kernel
theorem dX4_fillWaves_15 : decode cX4_fillWaves 15 = .ok (.istore 4, 2) := by decide +kernel
theorem dX4_fillWaves_17 : decode cX4_fillWaves 17 = .ok (.iload 4, 2) := by decide +kernel
theorem dX4_fillWaves_19 : decode cX4_fillWaves 19 = .ok (.aload_n 1, 1) := by decide +kernel
theorem dX4_fillWaves_20 : decode cX4_fillWaves 20 = .ok (.getfield 79, 3) := by decide +kernel
theorem dX4_fillWaves_23 : decode cX4_fillWaves 23 = .ok (.if_icmp .ge 59, 3) := by decide +kernel
theorem dX4_fillWaves_26 : decode cX4_fillWaves 26 = .ok (.iconst 0, 1) := by decide +kernel
theorem dX4_fillWaves_27 : decode cX4_fillWaves 27 = .ok (.istore 5, 2) := by decide +kernel
theorem dX4_fillWaves_29 : decode cX4_fillWaves 29 = .ok (.iconst 0, 1) := by decide +kernel
theorem dX4_fillWaves_30 : decode cX4_fillWaves 30 = .ok (.istore 6, 2) := by decide +kernel
theorem dX4_fillWaves_32 : decode cX4_fillWaves 32 = .ok (.iload 6, 2) := by decide +kernel
theorem dX4_fillWaves_34 : decode cX4_fillWaves 34 = .ok (.aload_n 1, 1) := by decide +kernel
theorem dX4_fillWaves_35 : decode cX4_fillWaves 35 = .ok (.getfield 93, 3) := by decide +kernel
theorem dX4_fillWaves_38 : decode cX4_fillWaves 38 = .ok (.if_icmp .ge 27, 3) := by decide +kernel
theorem dX4_fillWaves_41 : decode cX4_fillWaves 41 = .ok (.iload 5, 2) := by decide +kernel
theorem dX4_fillWaves_43 : decode cX4_fillWaves 43 = .ok (.aload_n 1, 1) := by decide +kernel
theorem dX4_fillWaves_44 : decode cX4_fillWaves 44 = .ok (.getfield 79, 3) := by decide +kernel
theorem dX4_fillWaves_47 : decode cX4_fillWaves 47 = .ok (.imul, 1) := by decide +kernel
theorem dX4_fillWaves_48 : decode cX4_fillWaves 48 = .ok (.aload_n 1, 1) := by decide +kernel
theorem dX4_fillWaves_49 : decode cX4_fillWaves 49 = .ok (.iload 4, 2) := by decide +kernel
theorem dX4_fillWaves_51 : decode cX4_fillWaves 51 = .ok (.iload 6, 2) := by decide +kernel
theorem dX4_fillWaves_53 : decode cX4_fillWaves 53 = .ok (.invokevirtual 131, 3) := by decide +kernel
theorem dX4_fillWaves_56 : decode cX4_fillWaves 56 = .ok (.iadd, 1) := by decide +kernel
theorem dX4_fillWaves_57 : decode cX4_fillWaves 57 = .ok (.istore 5, 2) := by decide +kernel
theorem dX4_fillWaves_59 : decode cX4_fillWaves 59 = .ok (.iinc 6 1, 3) := by decide +kernel
theorem dX4_fillWaves_62 : decode cX4_fillWaves 62 = .ok (.goto (-30), 3) := by decide +kernel
theorem dX4_fillWaves_65 : decode cX4_fillWaves 65 = .ok (.aload_n 0, 1) := by decide +kernel
theorem dX4_fillWaves_66 : decode cX4_fillWaves 66 = .ok (.getfield 29, 3) := by decide +kernel
theorem dX4_fillWaves_69 : decode cX4_fillWaves 69 = .ok (.iload 5, 2) := by decide +kernel
theorem dX4_fillWaves_71 : decode cX4_fillWaves 71 = .ok (.dup2, 1) := by decide +kernel
theorem dX4_fillWaves_72 : decode cX4_fillWaves 72 = .ok (.iaload, 1) := by decide +kernel
theorem dX4_fillWaves_73 : decode cX4_fillWaves 73 = .ok (.iconst 1, 1) := by decide +kernel
theorem dX4_fillWaves_74 : decode cX4_fillWaves 74 = .ok (.iadd, 1) := by decide +kernel
theorem dX4_fillWaves_75 : decode cX4_fillWaves 75 = .ok (.iastore, 1) := by decide +kernel
theorem dX4_fillWaves_76 : decode cX4_fillWaves 76 = .ok (.iinc 4 1, 3) := by decide +kernel
theorem dX4_fillWaves_79 : decode cX4_fillWaves 79 = .ok (.goto (-62), 3) := by decide +kernel
theorem dX4_fillWaves_82 : decode cX4_fillWaves 82 = .ok (.iconst 0, 1) := by decide +kernel
theorem dX4_fillWaves_83 : decode cX4_fillWaves 83 = .ok (.istore 4, 2) := by decide +kernel
theorem dX4_fillWaves_85 : decode cX4_fillWaves 85 = .ok (.iload 4, 2) := by decide +kernel
theorem dX4_fillWaves_87 : decode cX4_fillWaves 87 = .ok (.iload_n 2, 1) := by decide +kernel
theorem dX4_fillWaves_88 : decode cX4_fillWaves 88 = .ok (.if_icmp .ge 86, 3) := by decide +kernel
theorem dX4_fillWaves_91 : decode cX4_fillWaves 91 = .ok (.iconst 1, 1) := by decide +kernel
theorem dX4_fillWaves_92 : decode cX4_fillWaves 92 = .ok (.iload 4, 2) := by decide +kernel
theorem dX4_fillWaves_94 : decode cX4_fillWaves 94 = .ok (.ishl, 1) := by decide +kernel
theorem dX4_fillWaves_95 : decode cX4_fillWaves 95 = .ok (.istore 5, 2) := by decide +kernel
theorem dX4_fillWaves_97 : decode cX4_fillWaves 97 = .ok (.iconst 0, 1) := by decide +kernel
theorem dX4_fillWaves_98 : decode cX4_fillWaves 98 = .ok (.istore 6, 2) := by decide +kernel
theorem dX4_fillWaves_100 : decode cX4_fillWaves 100 = .ok (.iload 6, 2) := by decide +kernel
theorem dX4_fillWaves_102 : decode cX4_fillWaves 102 = .ok (.iload_n 3, 1) := by decide +kernel
theorem dX4_fillWaves_103 : decode cX4_fillWaves 103 = .ok (.if_icmp .ge 65, 3) := by decide +kernel
theorem dX4_fillWaves_106 : decode cX4_fillWaves 106 = .ok (.iload 6, 2) := by decide +kernel
theorem dX4_fillWaves_108 : decode cX4_fillWaves 108 = .ok (.iload 5, 2) := by decide +kernel
theorem dX4_fillWaves_110 : decode cX4_fillWaves 110 = .ok (.iand, 1) := by decide +kernel
theorem dX4_fillWaves_111 : decode cX4_fillWaves 111 = .ok (.ifCond .ne 51, 3) := by decide +kernel
theorem dX4_fillWaves_114 : decode cX4_fillWaves 114 = .ok (.aload_n 0, 1) := by decide +kernel
theorem dX4_fillWaves_115 : decode cX4_fillWaves 115 = .ok (.getfield 29, 3) := by decide +kernel
theorem dX4_fillWaves_118 : decode cX4_fillWaves 118 = .ok (.iload 6, 2) := by decide +kernel
theorem dX4_fillWaves_120 : decode cX4_fillWaves 120 = .ok (.iaload, 1) := by decide +kernel
theorem dX4_fillWaves_121 : decode cX4_fillWaves 121 = .ok (.istore 7, 2) := by decide +kernel
theorem dX4_fillWaves_123 : decode cX4_fillWaves 123 = .ok (.aload_n 0, 1) := by decide +kernel
theorem dX4_fillWaves_124 : decode cX4_fillWaves 124 = .ok (.getfield 29, 3) := by decide +kernel
theorem dX4_fillWaves_127 : decode cX4_fillWaves 127 = .ok (.iload 6, 2) := by decide +kernel
theorem dX4_fillWaves_129 : decode cX4_fillWaves 129 = .ok (.iload 5, 2) := by decide +kernel
theorem dX4_fillWaves_131 : decode cX4_fillWaves 131 = .ok (.iadd, 1) := by decide +kernel
theorem dX4_fillWaves_132 : decode cX4_fillWaves 132 = .ok (.iaload, 1) := by decide +kernel
theorem dX4_fillWaves_133 : decode cX4_fillWaves 133 = .ok (.istore 8, 2) := by decide +kernel
theorem dX4_fillWaves_135 : decode cX4_fillWaves 135 = .ok (.aload_n 0, 1) := by decide +kernel
theorem dX4_fillWaves_136 : decode cX4_fillWaves 136 = .ok (.getfield 29, 3) := by decide +kernel
theorem dX4_fillWaves_139 : decode cX4_fillWaves 139 = .ok (.iload 6, 2) := by decide +kernel
theorem dX4_fillWaves_141 : decode cX4_fillWaves 141 = .ok (.iload 7, 2) := by decide +kernel
theorem dX4_fillWaves_143 : decode cX4_fillWaves 143 = .ok (.iload 8, 2) := by decide +kernel
theorem dX4_fillWaves_145 : decode cX4_fillWaves 145 = .ok (.iadd, 1) := by decide +kernel
theorem dX4_fillWaves_146 : decode cX4_fillWaves 146 = .ok (.iastore, 1) := by decide +kernel
theorem dX4_fillWaves_147 : decode cX4_fillWaves 147 = .ok (.aload_n 0, 1) := by decide +kernel
theorem dX4_fillWaves_148 : decode cX4_fillWaves 148 = .ok (.getfield 29, 3) := by decide +kernel
theorem dX4_fillWaves_151 : decode cX4_fillWaves 151 = .ok (.iload 6, 2) := by decide +kernel
theorem dX4_fillWaves_153 : decode cX4_fillWaves 153 = .ok (.iload 5, 2) := by decide +kernel
theorem dX4_fillWaves_155 : decode cX4_fillWaves 155 = .ok (.iadd, 1) := by decide +kernel
theorem dX4_fillWaves_156 : decode cX4_fillWaves 156 = .ok (.iload 7, 2) := by decide +kernel
theorem dX4_fillWaves_158 : decode cX4_fillWaves 158 = .ok (.iload 8, 2) := by decide +kernel
theorem dX4_fillWaves_160 : decode cX4_fillWaves 160 = .ok (.isub, 1) := by decide +kernel
theorem dX4_fillWaves_161 : decode cX4_fillWaves 161 = .ok (.iastore, 1) := by decide +kernel
theorem dX4_fillWaves_162 : decode cX4_fillWaves 162 = .ok (.iinc 6 1, 3) := by decide +kernel
theorem dX4_fillWaves_165 : decode cX4_fillWaves 165 = .ok (.goto (-65), 3) := by decide +kernel
theorem dX4_fillWaves_168 : decode cX4_fillWaves 168 = .ok (.iinc 4 1, 3) := by decide +kernel
theorem dX4_fillWaves_171 : decode cX4_fillWaves 171 = .ok (.goto (-86), 3) := by decide +kernel
theorem dX4_fillWaves_174 : decode cX4_fillWaves 174 = .ok (.return_, 1) := by decide +kernel
theorem dX4_degree_0 : decode cX4_degree 0 = .ok (.iconst 0, 1) := by decide +kernel
theorem dX4_degree_1 : decode cX4_degree 1 = .ok (.istore_n 1, 1) := by decide +kernel
theorem dX4_degree_2 : decode cX4_degree 2 = .ok (.iconst 1, 1) := by decide +kernel
theorem dX4_degree_3 : decode cX4_degree 3 = .ok (.istore_n 2, 1) := by decide +kernel
theorem dX4_degree_4 : decode cX4_degree 4 = .ok (.iload_n 2, 1) := by decide +kernel
theorem dX4_degree_5 : decode cX4_degree 5 = .ok (.bipush 6, 2) := by decide +kernel
theorem dX4_degree_7 : decode cX4_degree 7 = .ok (.if_icmp .gt 20, 3) := by decide +kernel
theorem dX4_degree_10 : decode cX4_degree 10 = .ok (.iload_n 0, 1) := by decide +kernel
theorem dX4_degree_11 : decode cX4_degree 11 = .ok (.iload_n 2, 1) := by decide +kernel
theorem dX4_degree_12 : decode cX4_degree 12 = .ok (.ishr, 1) := by decide +kernel
theorem dX4_degree_13 : decode cX4_degree 13 = .ok (.iconst 1, 1) := by decide +kernel
theorem dX4_degree_14 : decode cX4_degree 14 = .ok (.iand, 1) := by decide +kernel
theorem dX4_degree_15 : decode cX4_degree 15 = .ok (.iconst 1, 1) := by decide +kernel
theorem dX4_degree_16 : decode cX4_degree 16 = .ok (.if_icmp .ne 5, 3) := by decide +kernel
theorem dX4_degree_19 : decode cX4_degree 19 = .ok (.iload_n 2, 1) := by decide +kernel
theorem dX4_degree_20 : decode cX4_degree 20 = .ok (.istore_n 1, 1) := by decide +kernel
theorem dX4_degree_21 : decode cX4_degree 21 = .ok (.iinc 2 1, 3) := by decide +kernel
theorem dX4_degree_24 : decode cX4_degree 24 = .ok (.goto (-20), 3) := by decide +kernel
theorem dX4_degree_27 : decode cX4_degree 27 = .ok (.iload_n 1, 1) := by decide +kernel
theorem dX4_degree_28 : decode cX4_degree 28 = .ok (.ireturn, 1) := by decide +kernel
theorem dX4_firstOf_0 : decode cX4_firstOf 0 = .ok (.lload_n 0, 1) := by decide +kernel
theorem dX4_firstOf_1 : decode cX4_firstOf 1 = .ok (.bipush 8, 2) := by decide +kernel
theorem dX4_firstOf_3 : decode cX4_firstOf 3 = .ok (.iload_n 2, 1) := by decide +kernel
theorem dX4_firstOf_4 : decode cX4_firstOf 4 = .ok (.iconst 1, 1) := by decide +kernel
theorem dX4_firstOf_5 : decode cX4_firstOf 5 = .ok (.isub, 1) := by decide +kernel
theorem dX4_firstOf_6 : decode cX4_firstOf 6 = .ok (.imul, 1) := by decide +kernel
theorem dX4_firstOf_7 : decode cX4_firstOf 7 = .ok (.lushr, 1) := by decide +kernel
theorem dX4_firstOf_8 : decode cX4_firstOf 8 = .ok (.ldc2_w 262, 3) := by decide +kernel
theorem dX4_firstOf_11 : decode cX4_firstOf 11 = .ok (.land, 1) := by decide +kernel
theorem dX4_firstOf_12 : decode cX4_firstOf 12 = .ok (.l2i, 1) := by decide +kernel
theorem dX4_firstOf_13 : decode cX4_firstOf 13 = .ok (.ireturn, 1) := by decide +kernel
theorem dX4_firstsMayBe_0 : decode cX4_firstsMayBe 0 = .ok (.iconst 1, 1) := by decide +kernel
theorem dX4_firstsMayBe_1 : decode cX4_firstsMayBe 1 = .ok (.istore_n 3, 1) := by decide +kernel
theorem dX4_firstsMayBe_2 : decode cX4_firstsMayBe 2 = .ok (.iload_n 3, 1) := by decide +kernel
theorem dX4_firstsMayBe_3 : decode cX4_firstsMayBe 3 = .ok (.iload_n 0, 1) := by decide +kernel
theorem dX4_firstsMayBe_4 : decode cX4_firstsMayBe 4 = .ok (.if_icmp .gt 33, 3) := by decide +kernel
theorem dX4_firstsMayBe_7 : decode cX4_firstsMayBe 7 = .ok (.lload_n 1, 1) := by decide +kernel
theorem dX4_firstsMayBe_8 : decode cX4_firstsMayBe 8 = .ok (.iload_n 3, 1) := by decide +kernel
theorem dX4_firstsMayBe_9 : decode cX4_firstsMayBe 9 = .ok (.invokestatic 264, 3) := by decide +kernel
theorem dX4_firstsMayBe_12 : decode cX4_firstsMayBe 12 = .ok (.istore 4, 2) := by decide +kernel
theorem dX4_firstsMayBe_14 : decode cX4_firstsMayBe 14 = .ok (.iload 4, 2) := by decide +kernel
theorem dX4_firstsMayBe_16 : decode cX4_firstsMayBe 16 = .ok (.iconst 2, 1) := by decide +kernel
theorem dX4_firstsMayBe_17 : decode cX4_firstsMayBe 17 = .ok (.irem, 1) := by decide +kernel
theorem dX4_firstsMayBe_18 : decode cX4_firstsMayBe 18 = .ok (.ifCond .eq 11, 3) := by decide +kernel
theorem dX4_firstsMayBe_21 : decode cX4_firstsMayBe 21 = .ok (.iload 4, 2) := by decide +kernel
theorem dX4_firstsMayBe_23 : decode cX4_firstsMayBe 23 = .ok (.iconst 1, 1) := by decide +kernel
theorem dX4_firstsMayBe_24 : decode cX4_firstsMayBe 24 = .ok (.iload_n 3, 1) := by decide +kernel
theorem dX4_firstsMayBe_25 : decode cX4_firstsMayBe 25 = .ok (.ishl, 1) := by decide +kernel
theorem dX4_firstsMayBe_26 : decode cX4_firstsMayBe 26 = .ok (.if_icmp .lt 5, 3) := by decide +kernel
theorem dX4_firstsMayBe_29 : decode cX4_firstsMayBe 29 = .ok (.iconst 0, 1) := by decide +kernel
theorem dX4_firstsMayBe_30 : decode cX4_firstsMayBe 30 = .ok (.ireturn, 1) := by decide +kernel
theorem dX4_firstsMayBe_31 : decode cX4_firstsMayBe 31 = .ok (.iinc 3 1, 3) := by decide +kernel
theorem dX4_firstsMayBe_34 : decode cX4_firstsMayBe 34 = .ok (.goto (-32), 3) := by decide +kernel
theorem dX4_firstsMayBe_37 : decode cX4_firstsMayBe 37 = .ok (.iconst 1, 1) := by decide +kernel
theorem dX4_firstsMayBe_38 : decode cX4_firstsMayBe 38 = .ok (.ireturn, 1) := by decide +kernel
theorem dX4_powerOf_0 : decode cX4_powerOf 0 = .ok (.lconst 1, 1) := by decide +kernel
theorem dX4_powerOf_1 : decode cX4_powerOf 1 = .ok (.lstore_n 3, 1) := by decide +kernel
theorem dX4_powerOf_2 : decode cX4_powerOf 2 = .ok (.iconst 0, 1) := by decide +kernel
theorem dX4_powerOf_3 : decode cX4_powerOf 3 = .ok (.istore 5, 2) := by decide +kernel
theorem dX4_powerOf_5 : decode cX4_powerOf 5 = .ok (.iload 5, 2) := by decide +kernel
theorem dX4_powerOf_7 : decode cX4_powerOf 7 = .ok (.iload_n 2, 1) := by decide +kernel
theorem dX4_powerOf_8 : decode cX4_powerOf 8 = .ok (.if_icmp .ge 13, 3) := by decide +kernel
theorem dX4_powerOf_11 : decode cX4_powerOf 11 = .ok (.lload_n 3, 1) := by decide +kernel
theorem dX4_powerOf_12 : decode cX4_powerOf 12 = .ok (.lload_n 0, 1) := by decide +kernel
theorem dX4_powerOf_13 : decode cX4_powerOf 13 = .ok (.lmul, 1) := by decide +kernel
theorem dX4_powerOf_14 : decode cX4_powerOf 14 = .ok (.lstore_n 3, 1) := by decide +kernel
theorem dX4_powerOf_15 : decode cX4_powerOf 15 = .ok (.iinc 5 1, 3) := by decide +kernel
theorem dX4_powerOf_18 : decode cX4_powerOf 18 = .ok (.goto (-13), 3) := by decide +kernel
theorem dX4_powerOf_21 : decode cX4_powerOf 21 = .ok (.lload_n 3, 1) := by decide +kernel
theorem dX4_powerOf_22 : decode cX4_powerOf 22 = .ok (.lreturn, 1) := by decide +kernel
theorem dX4_fraction_0 : decode cX4_fraction 0 = .ok (.lload_n 0, 1) := by decide +kernel
theorem dX4_fraction_1 : decode cX4_fraction 1 = .ok (.invokestatic 184, 3) := by decide +kernel
theorem dX4_fraction_4 : decode cX4_fraction 4 = .ok (.lload_n 2, 1) := by decide +kernel
theorem dX4_fraction_5 : decode cX4_fraction 5 = .ok (.invokestatic 268, 3) := by decide +kernel
theorem dX4_fraction_8 : decode cX4_fraction 8 = .ok (.lstore 5, 2) := by decide +kernel
theorem dX4_fraction_10 : decode cX4_fraction 10 = .ok (.iload 4, 2) := by decide +kernel
theorem dX4_fraction_12 : decode cX4_fraction 12 = .ok (.ifCond .eq 7, 3) := by decide +kernel
theorem dX4_fraction_15 : decode cX4_fraction 15 = .ok (.lload_n 2, 1) := by decide +kernel
theorem dX4_fraction_16 : decode cX4_fraction 16 = .ok (.goto 4, 3) := by decide +kernel
theorem dX4_fraction_19 : decode cX4_fraction 19 = .ok (.lload_n 0, 1) := by decide +kernel
theorem dX4_fraction_20 : decode cX4_fraction 20 = .ok (.lstore 7, 2) := by decide +kernel
theorem dX4_fraction_22 : decode cX4_fraction 22 = .ok (.lload 5, 2) := by decide +kernel
theorem dX4_fraction_24 : decode cX4_fraction 24 = .ok (.lconst 1, 1) := by decide +kernel
theorem dX4_fraction_25 : decode cX4_fraction 25 = .ok (.lcmp, 1) := by decide +kernel
theorem dX4_fraction_26 : decode cX4_fraction 26 = .ok (.ifCond .le 11, 3) := by decide +kernel
theorem dX4_fraction_29 : decode cX4_fraction 29 = .ok (.lload 7, 2) := by decide +kernel
theorem dX4_fraction_31 : decode cX4_fraction 31 = .ok (.lload 5, 2) := by decide +kernel
theorem dX4_fraction_33 : decode cX4_fraction 33 = .ok (.ldiv, 1) := by decide +kernel
theorem dX4_fraction_34 : decode cX4_fraction 34 = .ok (.goto 5, 3) := by decide +kernel
theorem dX4_fraction_37 : decode cX4_fraction 37 = .ok (.lload 7, 2) := by decide +kernel
theorem dX4_fraction_39 : decode cX4_fraction 39 = .ok (.lreturn, 1) := by decide +kernel
theorem dX4_commonFactor_0 : decode cX4_commonFactor 0 = .ok (.lload_n 0, 1) := by decide +kernel
theorem dX4_commonFactor_1 : decode cX4_commonFactor 1 = .ok (.lstore 4, 2) := by decide +kernel
theorem dX4_commonFactor_3 : decode cX4_commonFactor 3 = .ok (.lload_n 2, 1) := by decide +kernel
theorem dX4_commonFactor_4 : decode cX4_commonFactor 4 = .ok (.lstore 6, 2) := by decide +kernel
theorem dX4_commonFactor_6 : decode cX4_commonFactor 6 = .ok (.iconst 0, 1) := by decide +kernel
theorem dX4_commonFactor_7 : decode cX4_commonFactor 7 = .ok (.istore 8, 2) := by decide +kernel
theorem dX4_commonFactor_9 : decode cX4_commonFactor 9 = .ok (.iload 8, 2) := by decide +kernel
theorem dX4_commonFactor_11 : decode cX4_commonFactor 11 = .ok (.sipush 200, 3) := by decide +kernel
theorem dX4_commonFactor_14 : decode cX4_commonFactor 14 = .ok (.if_icmp .ge 31, 3) := by decide +kernel
theorem dX4_commonFactor_17 : decode cX4_commonFactor 17 = .ok (.lload 6, 2) := by decide +kernel
theorem dX4_commonFactor_19 : decode cX4_commonFactor 19 = .ok (.lconst 0, 1) := by decide +kernel
theorem dX4_commonFactor_20 : decode cX4_commonFactor 20 = .ok (.lcmp, 1) := by decide +kernel
theorem dX4_commonFactor_21 : decode cX4_commonFactor 21 = .ok (.ifCond .eq 24, 3) := by decide +kernel
theorem dX4_commonFactor_24 : decode cX4_commonFactor 24 = .ok (.lload 4, 2) := by decide +kernel
theorem dX4_commonFactor_26 : decode cX4_commonFactor 26 = .ok (.lload 6, 2) := by decide +kernel
theorem dX4_commonFactor_28 : decode cX4_commonFactor 28 = .ok (.lrem, 1) := by decide +kernel
theorem dX4_commonFactor_29 : decode cX4_commonFactor 29 = .ok (.lstore 9, 2) := by decide +kernel
theorem dX4_commonFactor_31 : decode cX4_commonFactor 31 = .ok (.lload 6, 2) := by decide +kernel
theorem dX4_commonFactor_33 : decode cX4_commonFactor 33 = .ok (.lstore 4, 2) := by decide +kernel
theorem dX4_commonFactor_35 : decode cX4_commonFactor 35 = .ok (.lload 9, 2) := by decide +kernel
theorem dX4_commonFactor_37 : decode cX4_commonFactor 37 = .ok (.lstore 6, 2) := by decide +kernel
theorem dX4_commonFactor_39 : decode cX4_commonFactor 39 = .ok (.iinc 8 1, 3) := by decide +kernel
theorem dX4_commonFactor_42 : decode cX4_commonFactor 42 = .ok (.goto (-33), 3) := by decide +kernel
theorem dX4_commonFactor_45 : decode cX4_commonFactor 45 = .ok (.lload 4, 2) := by decide +kernel
theorem dX4_commonFactor_47 : decode cX4_commonFactor 47 = .ok (.lreturn, 1) := by decide +kernel
theorem dX5_init_0 : decode cX5_init 0 = .ok (.aload_n 0, 1) := by decide +kernel
theorem dX5_init_1 : decode cX5_init 1 = .ok (.invokespecial 1, 3) := by decide +kernel
theorem dX5_init_4 : decode cX5_init 4 = .ok (.aload_n 0, 1) := by decide +kernel
theorem dX5_init_5 : decode cX5_init 5 = .ok (.bipush 12, 2) := by decide +kernel
theorem dX5_init_7 : decode cX5_init 7 = .ok (.newarray .int, 2) := by decide +kernel
theorem dX5_init_9 : decode cX5_init 9 = .ok (.putfield 7, 3) := by decide +kernel
theorem dX5_init_12 : decode cX5_init 12 = .ok (.aload_n 0, 1) := by decide +kernel
theorem dX5_init_13 : decode cX5_init 13 = .ok (.bipush 12, 2) := by decide +kernel
theorem dX5_init_15 : decode cX5_init 15 = .ok (.newarray .int, 2) := by decide +kernel
theorem dX5_init_17 : decode cX5_init 17 = .ok (.putfield 13, 3) := by decide +kernel
theorem dX5_init_20 : decode cX5_init 20 = .ok (.aload_n 0, 1) := by decide +kernel
theorem dX5_init_21 : decode cX5_init 21 = .ok (.bipush 12, 2) := by decide +kernel
theorem dX5_init_23 : decode cX5_init 23 = .ok (.newarray .int, 2) := by decide +kernel
theorem dX5_init_25 : decode cX5_init 25 = .ok (.putfield 16, 3) := by decide +kernel
theorem dX5_init_28 : decode cX5_init 28 = .ok (.aload_n 0, 1) := by decide +kernel
theorem dX5_init_29 : decode cX5_init 29 = .ok (.bipush 12, 2) := by decide +kernel
theorem dX5_init_31 : decode cX5_init 31 = .ok (.newarray .int, 2) := by decide +kernel
theorem dX5_init_33 : decode cX5_init 33 = .ok (.putfield 19, 3) := by decide +kernel
theorem dX5_init_36 : decode cX5_init 36 = .ok (.aload_n 0, 1) := by decide +kernel
theorem dX5_init_37 : decode cX5_init 37 = .ok (.bipush 12, 2) := by decide +kernel
theorem dX5_init_39 : decode cX5_init 39 = .ok (.newarray .int, 2) := by decide +kernel
theorem dX5_init_41 : decode cX5_init 41 = .ok (.putfield 22, 3) := by decide +kernel
theorem dX5_init_44 : decode cX5_init 44 = .ok (.aload_n 0, 1) := by decide +kernel
theorem dX5_init_45 : decode cX5_init 45 = .ok (.sipush 576, 3) := by decide +kernel
theorem dX5_init_48 : decode cX5_init 48 = .ok (.newarray .int, 2) := by decide +kernel
theorem dX5_init_50 : decode cX5_init 50 = .ok (.putfield 25, 3) := by decide +kernel
theorem dX5_init_53 : decode cX5_init 53 = .ok (.aload_n 0, 1) := by decide +kernel
theorem dX5_init_54 : decode cX5_init 54 = .ok (.bipush 72, 2) := by decide +kernel
theorem dX5_init_56 : decode cX5_init 56 = .ok (.newarray .int, 2) := by decide +kernel
theorem dX5_init_58 : decode cX5_init 58 = .ok (.putfield 28, 3) := by decide +kernel
theorem dX5_init_61 : decode cX5_init 61 = .ok (.aload_n 0, 1) := by decide +kernel
theorem dX5_init_62 : decode cX5_init 62 = .ok (.bipush 72, 2) := by decide +kernel
theorem dX5_init_64 : decode cX5_init 64 = .ok (.newarray .int, 2) := by decide +kernel
theorem dX5_init_66 : decode cX5_init 66 = .ok (.putfield 31, 3) := by decide +kernel
theorem dX5_init_69 : decode cX5_init 69 = .ok (.aload_n 0, 1) := by decide +kernel
theorem dX5_init_70 : decode cX5_init 70 = .ok (.sipush 18432, 3) := by decide +kernel
theorem dX5_init_73 : decode cX5_init 73 = .ok (.newarray .int, 2) := by decide +kernel
theorem dX5_init_75 : decode cX5_init 75 = .ok (.putfield 34, 3) := by decide +kernel
theorem dX5_init_78 : decode cX5_init 78 = .ok (.aload_n 0, 1) := by decide +kernel
theorem dX5_init_79 : decode cX5_init 79 = .ok (.bipush 6, 2) := by decide +kernel
theorem dX5_init_81 : decode cX5_init 81 = .ok (.newarray .int, 2) := by decide +kernel
theorem dX5_init_83 : decode cX5_init 83 = .ok (.putfield 37, 3) := by decide +kernel
theorem dX5_init_86 : decode cX5_init 86 = .ok (.aload_n 0, 1) := by decide +kernel
theorem dX5_init_87 : decode cX5_init 87 = .ok (.bipush 6, 2) := by decide +kernel
theorem dX5_init_89 : decode cX5_init 89 = .ok (.newarray .int, 2) := by decide +kernel
theorem dX5_init_91 : decode cX5_init 91 = .ok (.putfield 40, 3) := by decide +kernel
theorem dX5_init_94 : decode cX5_init 94 = .ok (.aload_n 0, 1) := by decide +kernel
theorem dX5_init_95 : decode cX5_init 95 = .ok (.bipush 6, 2) := by decide +kernel
theorem dX5_init_97 : decode cX5_init 97 = .ok (.newarray .int, 2) := by decide +kernel
theorem dX5_init_99 : decode cX5_init 99 = .ok (.putfield 43, 3) := by decide +kernel
theorem dX5_init_102 : decode cX5_init 102 = .ok (.aload_n 0, 1) := by decide +kernel
theorem dX5_init_103 : decode cX5_init 103 = .ok (.bipush 7, 2) := by decide +kernel
theorem dX5_init_105 : decode cX5_init 105 = .ok (.newarray .int, 2) := by decide +kernel
theorem dX5_init_107 : decode cX5_init 107 = .ok (.putfield 46, 3) := by decide +kernel
theorem dX5_init_110 : decode cX5_init 110 = .ok (.aload_n 0, 1) := by decide +kernel
theorem dX5_init_111 : decode cX5_init 111 = .ok (.bipush 9, 2) := by decide +kernel
theorem dX5_init_113 : decode cX5_init 113 = .ok (.newarray .long, 2) := by decide +kernel
theorem dX5_init_115 : decode cX5_init 115 = .ok (.putfield 49, 3) := by decide +kernel
theorem dX5_init_118 : decode cX5_init 118 = .ok (.aload_n 0, 1) := by decide +kernel
theorem dX5_init_119 : decode cX5_init 119 = .ok (.ldc 53, 2) := by decide +kernel
theorem dX5_init_121 : decode cX5_init 121 = .ok (.newarray .int, 2) := by decide +kernel
theorem dX5_init_123 : decode cX5_init 123 = .ok (.putfield 54, 3) := by decide +kernel
theorem dX5_init_126 : decode cX5_init 126 = .ok (.aload_n 0, 1) := by decide +kernel
theorem dX5_init_127 : decode cX5_init 127 = .ok (.bipush 6, 2) := by decide +kernel
theorem dX5_init_129 : decode cX5_init 129 = .ok (.newarray .int, 2) := by decide +kernel
theorem dX5_init_131 : decode cX5_init 131 = .ok (.putfield 57, 3) := by decide +kernel
theorem dX5_init_134 : decode cX5_init 134 = .ok (.aload_n 0, 1) := by decide +kernel
theorem dX5_init_135 : decode cX5_init 135 = .ok (.bipush 6, 2) := by decide +kernel
theorem dX5_init_137 : decode cX5_init 137 = .ok (.newarray .int, 2) := by decide +kernel
theorem dX5_init_139 : decode cX5_init 139 = .ok (.putfield 60, 3) := by decide +kernel
theorem dX5_init_142 : decode cX5_init 142 = .ok (.aload_n 0, 1) := by decide +kernel
theorem dX5_init_143 : decode cX5_init 143 = .ok (.bipush 6, 2) := by decide +kernel
theorem dX5_init_145 : decode cX5_init 145 = .ok (.newarray .int, 2) := by decide +kernel
theorem dX5_init_147 : decode cX5_init 147 = .ok (.putfield 63, 3) := by decide +kernel
theorem dX5_init_150 : decode cX5_init 150 = .ok (.aload_n 0, 1) := by decide +kernel
theorem dX5_init_151 : decode cX5_init 151 = .ok (.sipush 195, 3) := by decide +kernel
theorem dX5_init_154 : decode cX5_init 154 = .ok (.newarray .boolean, 2) := by decide +kernel
theorem dX5_init_156 : decode cX5_init 156 = .ok (.putfield 66, 3) := by decide +kernel
theorem dX5_init_159 : decode cX5_init 159 = .ok (.return_, 1) := by decide +kernel
theorem dX5_in_0 : decode cX5_in 0 = .ok (.lload_n 0, 1) := by decide +kernel
theorem dX5_in_1 : decode cX5_in 1 = .ok (.lload_n 2, 1) := by decide +kernel
theorem dX5_in_2 : decode cX5_in 2 = .ok (.lcmp, 1) := by decide +kernel
theorem dX5_in_3 : decode cX5_in 3 = .ok (.ifCond .lt 14, 3) := by decide +kernel
theorem dX5_in_6 : decode cX5_in 6 = .ok (.lload_n 0, 1) := by decide +kernel
theorem dX5_in_7 : decode cX5_in 7 = .ok (.lload 4, 2) := by decide +kernel
theorem dX5_in_9 : decode cX5_in 9 = .ok (.lcmp, 1) := by decide +kernel
theorem dX5_in_10 : decode cX5_in 10 = .ok (.ifCond .gt 7, 3) := by decide +kernel
theorem dX5_in_13 : decode cX5_in 13 = .ok (.iconst 1, 1) := by decide +kernel
theorem dX5_in_14 : decode cX5_in 14 = .ok (.goto 4, 3) := by decide +kernel
theorem dX5_in_17 : decode cX5_in 17 = .ok (.iconst 0, 1) := by decide +kernel
theorem dX5_in_18 : decode cX5_in 18 = .ok (.ireturn, 1) := by decide +kernel
theorem dX5_refuse_0 : decode cX5_refuse 0 = .ok (.aload_n 0, 1) := by decide +kernel
theorem dX5_refuse_1 : decode cX5_refuse 1 = .ok (.getfield 46, 3) := by decide +kernel
theorem dX5_refuse_4 : decode cX5_refuse 4 = .ok (.iload_n 1, 1) := by decide +kernel
theorem dX5_refuse_5 : decode cX5_refuse 5 = .ok (.ineg, 1) := by decide +kernel
theorem dX5_refuse_6 : decode cX5_refuse 6 = .ok (.dup2, 1) := by decide +kernel
theorem dX5_refuse_7 : decode cX5_refuse 7 = .ok (.iaload, 1) := by decide +kernel
theorem dX5_refuse_8 : decode cX5_refuse 8 = .ok (.iconst 1, 1) := by decide +kernel
theorem dX5_refuse_9 : decode cX5_refuse 9 = .ok (.iadd, 1) := by decide +kernel
theorem dX5_refuse_10 : decode cX5_refuse 10 = .ok (.iastore, 1) := by decide +kernel
theorem dX5_refuse_11 : decode cX5_refuse 11 = .ok (.iload_n 1, 1) := by decide +kernel
theorem dX5_refuse_12 : decode cX5_refuse 12 = .ok (.ireturn, 1) := by decide +kernel
theorem dX5_refuseLong_0 : decode cX5_refuseLong 0 = .ok (.aload_n 0, 1) := by decide +kernel
theorem dX5_refuseLong_1 : decode cX5_refuseLong 1 = .ok (.getfield 46, 3) := by decide +kernel
theorem dX5_refuseLong_4 : decode cX5_refuseLong 4 = .ok (.iload_n 1, 1) := by decide +kernel
theorem dX5_refuseLong_5 : decode cX5_refuseLong 5 = .ok (.ineg, 1) := by decide +kernel
theorem dX5_refuseLong_6 : decode cX5_refuseLong 6 = .ok (.dup2, 1) := by decide +kernel
theorem dX5_refuseLong_7 : decode cX5_refuseLong 7 = .ok (.iaload, 1) := by decide +kernel
theorem dX5_refuseLong_8 : decode cX5_refuseLong 8 = .ok (.iconst 1, 1) := by decide +kernel
theorem dX5_refuseLong_9 : decode cX5_refuseLong 9 = .ok (.iadd, 1) := by decide +kernel
theorem dX5_refuseLong_10 : decode cX5_refuseLong 10 = .ok (.iastore, 1) := by decide +kernel
theorem dX5_refuseLong_11 : decode cX5_refuseLong 11 = .ok (.ldc2_w 70, 3) := by decide +kernel
theorem dX5_refuseLong_14 : decode cX5_refuseLong 14 = .ok (.iload_n 1, 1) := by decide +kernel
theorem dX5_refuseLong_15 : decode cX5_refuseLong 15 = .ok (.i2l, 1) := by decide +kernel
theorem dX5_refuseLong_16 : decode cX5_refuseLong 16 = .ok (.lsub, 1) := by decide +kernel
theorem dX5_refuseLong_17 : decode cX5_refuseLong 17 = .ok (.lreturn, 1) := by decide +kernel
theorem dX5_isScatter_0 : decode cX5_isScatter 0 = .ok (.iload_n 1, 1) := by decide +kernel
theorem dX5_isScatter_1 : decode cX5_isScatter 1 = .ok (.i2l, 1) := by decide +kernel
theorem dX5_isScatter_2 : decode cX5_isScatter 2 = .ok (.lconst 0, 1) := by decide +kernel
theorem dX5_isScatter_3 : decode cX5_isScatter 3 = .ok (.aload_n 0, 1) := by decide +kernel
theorem dX5_isScatter_4 : decode cX5_isScatter 4 = .ok (.getfield 72, 3) := by decide +kernel
theorem dX5_isScatter_7 : decode cX5_isScatter 7 = .ok (.iconst 1, 1) := by decide +kernel
theorem dX5_isScatter_8 : decode cX5_isScatter 8 = .ok (.isub, 1) := by decide +kernel
theorem dX5_isScatter_9 : decode cX5_isScatter 9 = .ok (.i2l, 1) := by decide +kernel
theorem dX5_isScatter_10 : decode cX5_isScatter 10 = .ok (.invokestatic 76, 3) := by decide +kernel
theorem dX5_isScatter_13 : decode cX5_isScatter 13 = .ok (.ireturn, 1) := by decide +kernel
theorem dX5_hasDirection_0 : decode cX5_hasDirection 0 = .ok (.aload_n 0, 1) := by decide +kernel
theorem dX5_hasDirection_1 : decode cX5_hasDirection 1 = .ok (.iload_n 1, 1) := by decide +kernel
theorem dX5_hasDirection_2 : decode cX5_hasDirection 2 = .ok (.invokevirtual 80, 3) := by decide +kernel
theorem dX5_hasDirection_5 : decode cX5_hasDirection 5 = .ok (.ifCond .eq 25, 3) := by decide +kernel
theorem dX5_hasDirection_8 : decode cX5_hasDirection 8 = .ok (.iload_n 2, 1) := by decide +kernel
theorem dX5_hasDirection_9 : decode cX5_hasDirection 9 = .ok (.i2l, 1) := by decide +kernel
theorem dX5_hasDirection_10 : decode cX5_hasDirection 10 = .ok (.lconst 0, 1) := by decide +kernel
theorem dX5_hasDirection_11 : decode cX5_hasDirection 11 = .ok (.aload_n 0, 1) := by decide +kernel
theorem dX5_hasDirection_12 : decode cX5_hasDirection 12 = .ok (.getfield 13, 3) := by decide +kernel
theorem dX5_hasDirection_15 : decode cX5_hasDirection 15 = .ok (.iload_n 1, 1) := by decide +kernel
theorem dX5_hasDirection_16 : decode cX5_hasDirection 16 = .ok (.iaload, 1) := by decide +kernel
theorem dX5_hasDirection_17 : decode cX5_hasDirection 17 = .ok (.iconst 1, 1) := by decide +kernel
theorem dX5_hasDirection_18 : decode cX5_hasDirection 18 = .ok (.isub, 1) := by decide +kernel
theorem dX5_hasDirection_19 : decode cX5_hasDirection 19 = .ok (.i2l, 1) := by decide +kernel
theorem dX5_hasDirection_20 : decode cX5_hasDirection 20 = .ok (.invokestatic 76, 3) := by decide +kernel
theorem dX5_hasDirection_23 : decode cX5_hasDirection 23 = .ok (.ifCond .eq 7, 3) := by decide +kernel
theorem dX5_hasDirection_26 : decode cX5_hasDirection 26 = .ok (.iconst 1, 1) := by decide +kernel
theorem dX5_hasDirection_27 : decode cX5_hasDirection 27 = .ok (.goto 4, 3) := by decide +kernel
theorem dX5_hasDirection_30 : decode cX5_hasDirection 30 = .ok (.iconst 0, 1) := by decide +kernel
theorem dX5_hasDirection_31 : decode cX5_hasDirection 31 = .ok (.ireturn, 1) := by decide +kernel
theorem dX5_make_0 : decode cX5_make 0 = .ok (.aload_n 0, 1) := by decide +kernel
theorem dX5_make_1 : decode cX5_make 1 = .ok (.getfield 72, 3) := by decide +kernel
theorem dX5_make_4 : decode cX5_make 4 = .ok (.istore 5, 2) := by decide +kernel
theorem dX5_make_6 : decode cX5_make 6 = .ok (.aload_n 0, 1) := by decide +kernel
theorem dX5_make_7 : decode cX5_make 7 = .ok (.dup, 1) := by decide +kernel
theorem dX5_make_8 : decode cX5_make 8 = .ok (.getfield 72, 3) := by decide +kernel
theorem dX5_make_11 : decode cX5_make 11 = .ok (.iconst 1, 1) := by decide +kernel
theorem dX5_make_12 : decode cX5_make 12 = .ok (.iadd, 1) := by decide +kernel
theorem dX5_make_13 : decode cX5_make 13 = .ok (.putfield 72, 3) := by decide +kernel
theorem dX5_make_16 : decode cX5_make 16 = .ok (.aload_n 0, 1) := by decide +kernel
theorem dX5_make_17 : decode cX5_make 17 = .ok (.getfield 7, 3) := by decide +kernel
theorem dX5_make_20 : decode cX5_make 20 = .ok (.iload 5, 2) := by decide +kernel
theorem dX5_make_22 : decode cX5_make 22 = .ok (.iload_n 1, 1) := by decide +kernel
theorem dX5_make_23 : decode cX5_make 23 = .ok (.iastore, 1) := by decide +kernel
theorem dX5_make_24 : decode cX5_make 24 = .ok (.aload_n 0, 1) := by decide +kernel
theorem dX5_make_25 : decode cX5_make 25 = .ok (.getfield 13, 3) := by decide +kernel
theorem dX5_make_28 : decode cX5_make 28 = .ok (.iload 5, 2) := by decide +kernel
theorem dX5_make_30 : decode cX5_make 30 = .ok (.iload_n 2, 1) := by decide +kernel
theorem dX5_make_31 : decode cX5_make 31 = .ok (.iastore, 1) := by decide +kernel
theorem dX5_make_32 : decode cX5_make 32 = .ok (.aload_n 0, 1) := by decide +kernel
theorem dX5_make_33 : decode cX5_make 33 = .ok (.getfield 16, 3) := by decide +kernel
theorem dX5_make_36 : decode cX5_make 36 = .ok (.iload 5, 2) := by decide +kernel
theorem dX5_make_38 : decode cX5_make 38 = .ok (.iload_n 3, 1) := by decide +kernel
theorem dX5_make_39 : decode cX5_make 39 = .ok (.iastore, 1) := by decide +kernel
theorem dX5_make_40 : decode cX5_make 40 = .ok (.aload_n 0, 1) := by decide +kernel
theorem dX5_make_41 : decode cX5_make 41 = .ok (.getfield 19, 3) := by decide +kernel
theorem dX5_make_44 : decode cX5_make 44 = .ok (.iload 5, 2) := by decide +kernel
theorem dX5_make_46 : decode cX5_make 46 = .ok (.iload 4, 2) := by decide +kernel
theorem dX5_make_48 : decode cX5_make 48 = .ok (.iastore, 1) := by decide +kernel
theorem dX5_make_49 : decode cX5_make 49 = .ok (.iload 5, 2) := by decide +kernel
theorem dX5_make_51 : decode cX5_make 51 = .ok (.ireturn, 1) := by decide +kernel
theorem dX5_lacks_0 : decode cX5_lacks 0 = .ok (.iload_n 0, 1) := by decide +kernel
theorem dX5_lacks_1 : decode cX5_lacks 1 = .ok (.iconst 1, 1) := by decide +kernel
theorem dX5_lacks_2 : decode cX5_lacks 2 = .ok (.if_icmp .lt 7, 3) := by decide +kernel
theorem dX5_lacks_5 : decode cX5_lacks 5 = .ok (.iload_n 1, 1) := by decide +kernel
theorem dX5_lacks_6 : decode cX5_lacks 6 = .ok (.ifCond .ge 8, 3) := by decide +kernel
theorem dX5_lacks_9 : decode cX5_lacks 9 = .ok (.bipush (-4), 2) := by decide +kernel
theorem dX5_lacks_11 : decode cX5_lacks 11 = .ok (.goto 21, 3) := by decide +kernel
theorem dX5_lacks_14 : decode cX5_lacks 14 = .ok (.iload_n 0, 1) := by decide +kernel
theorem dX5_lacks_15 : decode cX5_lacks 15 = .ok (.bipush 6, 2) := by decide +kernel
theorem dX5_lacks_17 : decode cX5_lacks 17 = .ok (.if_icmp .gt 9, 3) := by decide +kernel
theorem dX5_lacks_20 : decode cX5_lacks 20 = .ok (.iload_n 1, 1) := by decide +kernel
theorem dX5_lacks_21 : decode cX5_lacks 21 = .ok (.bipush 8, 2) := by decide +kernel
theorem dX5_lacks_23 : decode cX5_lacks 23 = .ok (.if_icmp .le 8, 3) := by decide +kernel
theorem dX5_lacks_26 : decode cX5_lacks 26 = .ok (.bipush (-6), 2) := by decide +kernel
theorem dX5_lacks_28 : decode cX5_lacks 28 = .ok (.goto 4, 3) := by decide +kernel
theorem dX5_lacks_31 : decode cX5_lacks 31 = .ok (.iconst 0, 1) := by decide +kernel
theorem dX5_lacks_32 : decode cX5_lacks 32 = .ok (.ireturn, 1) := by decide +kernel
theorem dX5_table_0 : decode cX5_table 0 = .ok (.iload_n 1, 1) := by decide +kernel
theorem dX5_table_1 : decode cX5_table 1 = .ok (.iload_n 2, 1) := by decide +kernel
theorem dX5_table_2 : decode cX5_table 2 = .ok (.invokestatic 84, 3) := by decide +kernel
theorem dX5_table_5 : decode cX5_table 5 = .ok (.istore_n 3, 1) := by decide +kernel
theorem dX5_table_6 : decode cX5_table 6 = .ok (.iload_n 3, 1) := by decide +kernel
theorem dX5_table_7 : decode cX5_table 7 = .ok (.ifCond .ne 15, 3) := by decide +kernel
theorem dX5_table_10 : decode cX5_table 10 = .ok (.aload_n 0, 1) := by decide +kernel
theorem dX5_table_11 : decode cX5_table 11 = .ok (.getfield 72, 3) := by decide +kernel
theorem dX5_table_14 : decode cX5_table 14 = .ok (.bipush 12, 2) := by decide +kernel
theorem dX5_table_16 : decode cX5_table 16 = .ok (.if_icmp .ne 6, 3) := by decide +kernel
theorem dX5_table_19 : decode cX5_table 19 = .ok (.bipush (-6), 2) := by decide +kernel
theorem dX5_table_21 : decode cX5_table 21 = .ok (.istore_n 3, 1) := by decide +kernel
theorem dX5_table_22 : decode cX5_table 22 = .ok (.iload_n 3, 1) := by decide +kernel
theorem dX5_table_23 : decode cX5_table 23 = .ok (.ifCond .ge 11, 3) := by decide +kernel
theorem dX5_table_26 : decode cX5_table 26 = .ok (.aload_n 0, 1) := by decide +kernel
theorem dX5_table_27 : decode cX5_table 27 = .ok (.iload_n 3, 1) := by decide +kernel
theorem dX5_table_28 : decode cX5_table 28 = .ok (.invokevirtual 88, 3) := by decide +kernel
theorem dX5_table_31 : decode cX5_table 31 = .ok (.goto 13, 3) := by decide +kernel
theorem dX5_table_34 : decode cX5_table 34 = .ok (.aload_n 0, 1) := by decide +kernel
theorem dX5_table_35 : decode cX5_table 35 = .ok (.iconst 0, 1) := by decide +kernel
theorem dX5_table_36 : decode cX5_table 36 = .ok (.iload_n 1, 1) := by decide +kernel
theorem dX5_table_37 : decode cX5_table 37 = .ok (.iload_n 2, 1) := by decide +kernel
theorem dX5_table_38 : decode cX5_table 38 = .ok (.iconst 1, 1) := by decide +kernel
theorem dX5_table_39 : decode cX5_table 39 = .ok (.iload_n 2, 1) := by decide +kernel
theorem dX5_table_40 : decode cX5_table 40 = .ok (.ishl, 1) := by decide +kernel
theorem dX5_table_41 : decode cX5_table 41 = .ok (.invokevirtual 92, 3) := by decide +kernel
theorem dX5_table_44 : decode cX5_table 44 = .ok (.ireturn, 1) := by decide +kernel
theorem dX5_row_0 : decode cX5_row 0 = .ok (.aload_n 0, 1) := by decide +kernel
theorem dX5_row_1 : decode cX5_row 1 = .ok (.iload_n 1, 1) := by decide +kernel
theorem dX5_row_2 : decode cX5_row 2 = .ok (.iload_n 2, 1) := by decide +kernel
theorem dX5_row_3 : decode cX5_row 3 = .ok (.invokevirtual 96, 3) := by decide +kernel
theorem dX5_row_6 : decode cX5_row 6 = .ok (.ifCond .ne 9, 3) := by decide +kernel
theorem dX5_row_9 : decode cX5_row 9 = .ok (.aload_n 0, 1) := by decide +kernel
theorem dX5_row_10 : decode cX5_row 10 = .ok (.iconst (-1), 1) := by decide +kernel
theorem dX5_row_11 : decode cX5_row 11 = .ok (.invokevirtual 88, 3) := by decide +kernel
theorem dX5_row_14 : decode cX5_row 14 = .ok (.ireturn, 1) := by decide +kernel
theorem dX5_row_15 : decode cX5_row 15 = .ok (.aload_n 0, 1) := by decide +kernel
theorem dX5_row_16 : decode cX5_row 16 = .ok (.getfield 7, 3) := by decide +kernel
theorem dX5_row_19 : decode cX5_row 19 = .ok (.iload_n 1, 1) := by decide +kernel
theorem dX5_row_20 : decode cX5_row 20 = .ok (.iaload, 1) := by decide +kernel
theorem dX5_row_21 : decode cX5_row 21 = .ok (.ifCond .eq 10, 3) := by decide +kernel
theorem dX5_row_24 : decode cX5_row 24 = .ok (.aload_n 0, 1) := by decide +kernel
theorem dX5_row_25 : decode cX5_row 25 = .ok (.bipush (-2), 2) := by decide +kernel
theorem dX5_row_27 : decode cX5_row 27 = .ok (.invokevirtual 88, 3) := by decide +kernel
theorem dX5_row_30 : decode cX5_row 30 = .ok (.ireturn, 1) := by decide +kernel
theorem dX5_row_31 : decode cX5_row 31 = .ok (.iload_n 3, 1) := by decide +kernel
theorem dX5_row_32 : decode cX5_row 32 = .ok (.i2l, 1) := by decide +kernel
theorem dX5_row_33 : decode cX5_row 33 = .ok (.lconst 0, 1) := by decide +kernel
theorem dX5_row_34 : decode cX5_row 34 = .ok (.aload_n 0, 1) := by decide +kernel
theorem dX5_row_35 : decode cX5_row 35 = .ok (.getfield 16, 3) := by decide +kernel
theorem dX5_row_38 : decode cX5_row 38 = .ok (.iload_n 1, 1) := by decide +kernel
theorem dX5_row_39 : decode cX5_row 39 = .ok (.iaload, 1) := by decide +kernel
theorem dX5_row_40 : decode cX5_row 40 = .ok (.iconst 1, 1) := by decide +kernel
theorem dX5_row_41 : decode cX5_row 41 = .ok (.isub, 1) := by decide +kernel
theorem dX5_row_42 : decode cX5_row 42 = .ok (.i2l, 1) := by decide +kernel
theorem dX5_row_43 : decode cX5_row 43 = .ok (.invokestatic 76, 3) := by decide +kernel
theorem dX5_row_46 : decode cX5_row 46 = .ok (.ifCond .eq 22, 3) := by decide +kernel
theorem dX5_row_49 : decode cX5_row 49 = .ok (.iload 4, 2) := by decide +kernel
theorem dX5_row_51 : decode cX5_row 51 = .ok (.i2l, 1) := by decide +kernel
theorem dX5_row_52 : decode cX5_row 52 = .ok (.lconst 0, 1) := by decide +kernel
theorem dX5_row_53 : decode cX5_row 53 = .ok (.aload_n 0, 1) := by decide +kernel
theorem dX5_row_54 : decode cX5_row 54 = .ok (.getfield 19, 3) := by decide +kernel
theorem dX5_row_57 : decode cX5_row 57 = .ok (.iload_n 1, 1) := by decide +kernel
theorem dX5_row_58 : decode cX5_row 58 = .ok (.iaload, 1) := by decide +kernel
theorem dX5_row_59 : decode cX5_row 59 = .ok (.iconst 1, 1) := by decide +kernel
theorem dX5_row_60 : decode cX5_row 60 = .ok (.isub, 1) := by decide +kernel
theorem dX5_row_61 : decode cX5_row 61 = .ok (.i2l, 1) := by decide +kernel
theorem dX5_row_62 : decode cX5_row 62 = .ok (.invokestatic 76, 3) := by decide +kernel
theorem dX5_row_65 : decode cX5_row 65 = .ok (.ifCond .ne 10, 3) := by decide +kernel
theorem dX5_row_68 : decode cX5_row 68 = .ok (.aload_n 0, 1) := by decide +kernel
theorem dX5_row_69 : decode cX5_row 69 = .ok (.bipush (-3), 2) := by decide +kernel
theorem dX5_row_71 : decode cX5_row 71 = .ok (.invokevirtual 88, 3) := by decide +kernel
theorem dX5_row_74 : decode cX5_row 74 = .ok (.ireturn, 1) := by decide +kernel
theorem dX5_row_75 : decode cX5_row 75 = .ok (.bipush 48, 2) := by decide +kernel
theorem dX5_row_77 : decode cX5_row 77 = .ok (.iload_n 1, 1) := by decide +kernel
theorem dX5_row_78 : decode cX5_row 78 = .ok (.imul, 1) := by decide +kernel
theorem dX5_row_79 : decode cX5_row 79 = .ok (.bipush 8, 2) := by decide +kernel
theorem dX5_row_81 : decode cX5_row 81 = .ok (.iload_n 2, 1) := by decide +kernel
theorem dX5_row_82 : decode cX5_row 82 = .ok (.imul, 1) := by decide +kernel
theorem dX5_row_83 : decode cX5_row 83 = .ok (.iadd, 1) := by decide +kernel
theorem dX5_row_84 : decode cX5_row 84 = .ok (.iload_n 3, 1) := by decide +kernel
theorem dX5_row_85 : decode cX5_row 85 = .ok (.iadd, 1) := by decide +kernel
theorem dX5_row_86 : decode cX5_row 86 = .ok (.istore 5, 2) := by decide +kernel
theorem dX5_row_88 : decode cX5_row 88 = .ok (.aload_n 0, 1) := by decide +kernel
theorem dX5_row_89 : decode cX5_row 89 = .ok (.getfield 25, 3) := by decide +kernel
theorem dX5_row_92 : decode cX5_row 92 = .ok (.iload 5, 2) := by decide +kernel
theorem dX5_row_94 : decode cX5_row 94 = .ok (.iaload, 1) := by decide +kernel
theorem dX5_row_95 : decode cX5_row 95 = .ok (.istore 6, 2) := by decide +kernel
theorem dX5_row_97 : decode cX5_row 97 = .ok (.aload_n 0, 1) := by decide +kernel
theorem dX5_row_98 : decode cX5_row 98 = .ok (.getfield 25, 3) := by decide +kernel
theorem dX5_row_101 : decode cX5_row 101 = .ok (.iload 5, 2) := by decide +kernel
theorem dX5_row_103 : decode cX5_row 103 = .ok (.iload 4, 2) := by decide +kernel
theorem dX5_row_105 : decode cX5_row 105 = .ok (.iastore, 1) := by decide +kernel
theorem dX5_row_106 : decode cX5_row 106 = .ok (.iload 6, 2) := by decide +kernel
theorem dX5_row_108 : decode cX5_row 108 = .ok (.ireturn, 1) := by decide +kernel
theorem dX5_ladder_0 : decode cX5_ladder 0 = .ok (.iconst 1, 1) := by decide +kernel
theorem dX5_ladder_1 : decode cX5_ladder 1 = .ok (.iload_n 1, 1) := by decide +kernel
theorem dX5_ladder_2 : decode cX5_ladder 2 = .ok (.invokestatic 84, 3) := by decide +kernel
theorem dX5_ladder_5 : decode cX5_ladder 5 = .ok (.istore_n 2, 1) := by decide +kernel
theorem dX5_ladder_6 : decode cX5_ladder 6 = .ok (.iload_n 2, 1) := by decide +kernel
theorem dX5_ladder_7 : decode cX5_ladder 7 = .ok (.ifCond .ne 15, 3) := by decide +kernel
theorem dX5_ladder_10 : decode cX5_ladder 10 = .ok (.aload_n 0, 1) := by decide +kernel
theorem dX5_ladder_11 : decode cX5_ladder 11 = .ok (.getfield 72, 3) := by decide +kernel
theorem dX5_ladder_14 : decode cX5_ladder 14 = .ok (.bipush 12, 2) := by decide +kernel
theorem dX5_ladder_16 : decode cX5_ladder 16 = .ok (.if_icmp .ne 6, 3) := by decide +kernel
theorem dX5_ladder_19 : decode cX5_ladder 19 = .ok (.bipush (-6), 2) := by decide +kernel
theorem dX5_ladder_21 : decode cX5_ladder 21 = .ok (.istore_n 2, 1) := by decide +kernel
theorem dX5_ladder_22 : decode cX5_ladder 22 = .ok (.iload_n 2, 1) := by decide +kernel
theorem dX5_ladder_23 : decode cX5_ladder 23 = .ok (.ifCond .ge 9, 3) := by decide +kernel
theorem dX5_ladder_26 : decode cX5_ladder 26 = .ok (.aload_n 0, 1) := by decide +kernel
theorem dX5_ladder_27 : decode cX5_ladder 27 = .ok (.iload_n 2, 1) := by decide +kernel
theorem dX5_ladder_28 : decode cX5_ladder 28 = .ok (.invokevirtual 88, 3) := by decide +kernel
theorem dX5_ladder_31 : decode cX5_ladder 31 = .ok (.ireturn, 1) := by decide +kernel
theorem dX5_ladder_32 : decode cX5_ladder 32 = .ok (.aload_n 0, 1) := by decide +kernel
theorem dX5_ladder_33 : decode cX5_ladder 33 = .ok (.iconst 1, 1) := by decide +kernel
theorem dX5_ladder_34 : decode cX5_ladder 34 = .ok (.iconst 1, 1) := by decide +kernel
theorem dX5_ladder_35 : decode cX5_ladder 35 = .ok (.iload_n 1, 1) := by decide +kernel
theorem dX5_ladder_36 : decode cX5_ladder 36 = .ok (.iconst 1, 1) := by decide +kernel
theorem dX5_ladder_37 : decode cX5_ladder 37 = .ok (.iload_n 1, 1) := by decide +kernel
theorem dX5_ladder_38 : decode cX5_ladder 38 = .ok (.ishl, 1) := by decide +kernel
theorem dX5_ladder_39 : decode cX5_ladder 39 = .ok (.invokevirtual 92, 3) := by decide +kernel
theorem dX5_ladder_42 : decode cX5_ladder 42 = .ok (.istore_n 3, 1) := by decide +kernel
theorem dX5_ladder_43 : decode cX5_ladder 43 = .ok (.iconst 0, 1) := by decide +kernel
theorem dX5_ladder_44 : decode cX5_ladder 44 = .ok (.istore 4, 2) := by decide +kernel
theorem dX5_ladder_46 : decode cX5_ladder 46 = .ok (.iload 4, 2) := by decide +kernel
theorem dX5_ladder_48 : decode cX5_ladder 48 = .ok (.iload_n 1, 1) := by decide +kernel
theorem dX5_ladder_49 : decode cX5_ladder 49 = .ok (.if_icmp .ge 25, 3) := by decide +kernel
theorem dX5_ladder_52 : decode cX5_ladder 52 = .ok (.aload_n 0, 1) := by decide +kernel
theorem dX5_ladder_53 : decode cX5_ladder 53 = .ok (.getfield 25, 3) := by decide +kernel
theorem dX5_ladder_56 : decode cX5_ladder 56 = .ok (.bipush 48, 2) := by decide +kernel
theorem dX5_ladder_58 : decode cX5_ladder 58 = .ok (.iload_n 3, 1) := by decide +kernel
theorem dX5_ladder_59 : decode cX5_ladder 59 = .ok (.imul, 1) := by decide +kernel
theorem dX5_ladder_60 : decode cX5_ladder 60 = .ok (.iload 4, 2) := by decide +kernel
theorem dX5_ladder_62 : decode cX5_ladder 62 = .ok (.iadd, 1) := by decide +kernel
theorem dX5_ladder_63 : decode cX5_ladder 63 = .ok (.iconst 1, 1) := by decide +kernel
theorem dX5_ladder_64 : decode cX5_ladder 64 = .ok (.iload 4, 2) := by decide +kernel
theorem dX5_ladder_66 : decode cX5_ladder 66 = .ok (.ishl, 1) := by decide +kernel
theorem dX5_ladder_67 : decode cX5_ladder 67 = .ok (.iastore, 1) := by decide +kernel
theorem dX5_ladder_68 : decode cX5_ladder 68 = .ok (.iinc 4 1, 3) := by decide +kernel
theorem dX5_ladder_71 : decode cX5_ladder 71 = .ok (.goto (-25), 3) := by decide +kernel
theorem dX5_ladder_74 : decode cX5_ladder 74 = .ok (.iload_n 3, 1) := by decide +kernel
theorem dX5_ladder_75 : decode cX5_ladder 75 = .ok (.ireturn, 1) := by decide +kernel
theorem dX5_direction_0 : decode cX5_direction 0 = .ok (.aload_n 0, 1) := by decide +kernel
theorem dX5_direction_1 : decode cX5_direction 1 = .ok (.iload_n 1, 1) := by decide +kernel
theorem dX5_direction_2 : decode cX5_direction 2 = .ok (.invokevirtual 80, 3) := by decide +kernel
theorem dX5_direction_5 : decode cX5_direction 5 = .ok (.ifCond .ne 9, 3) := by decide +kernel
theorem dX5_direction_8 : decode cX5_direction 8 = .ok (.aload_n 0, 1) := by decide +kernel
theorem dX5_direction_9 : decode cX5_direction 9 = .ok (.iconst (-1), 1) := by decide +kernel
theorem dX5_direction_10 : decode cX5_direction 10 = .ok (.invokevirtual 88, 3) := by decide +kernel
theorem dX5_direction_13 : decode cX5_direction 13 = .ok (.ireturn, 1) := by decide +kernel
theorem dX5_direction_14 : decode cX5_direction 14 = .ok (.aload_n 0, 1) := by decide +kernel
theorem dX5_direction_15 : decode cX5_direction 15 = .ok (.getfield 7, 3) := by decide +kernel
theorem dX5_direction_18 : decode cX5_direction 18 = .ok (.iload_n 1, 1) := by decide +kernel
theorem dX5_direction_19 : decode cX5_direction 19 = .ok (.iaload, 1) := by decide +kernel
theorem dX5_direction_20 : decode cX5_direction 20 = .ok (.iconst 1, 1) := by decide +kernel
theorem dX5_direction_21 : decode cX5_direction 21 = .ok (.if_icmp .eq 10, 3) := by decide +kernel
theorem dX5_direction_24 : decode cX5_direction 24 = .ok (.aload_n 0, 1) := by decide +kernel
theorem dX5_direction_25 : decode cX5_direction 25 = .ok (.bipush (-2), 2) := by decide +kernel
theorem dX5_direction_27 : decode cX5_direction 27 = .ok (.invokevirtual 88, 3) := by decide +kernel
theorem dX5_direction_30 : decode cX5_direction 30 = .ok (.ireturn, 1) := by decide +kernel
theorem dX5_direction_31 : decode cX5_direction 31 = .ok (.iload_n 2, 1) := by decide +kernel
theorem dX5_direction_32 : decode cX5_direction 32 = .ok (.iconst 3, 1) := by decide +kernel
theorem dX5_direction_33 : decode cX5_direction 33 = .ok (.if_icmp .ge 10, 3) := by decide +kernel
theorem dX5_direction_36 : decode cX5_direction 36 = .ok (.aload_n 0, 1) := by decide +kernel
theorem dX5_direction_37 : decode cX5_direction 37 = .ok (.bipush (-4), 2) := by decide +kernel
theorem dX5_direction_39 : decode cX5_direction 39 = .ok (.invokevirtual 88, 3) := by decide +kernel
theorem dX5_direction_42 : decode cX5_direction 42 = .ok (.ireturn, 1) := by decide +kernel
theorem dX5_direction_43 : decode cX5_direction 43 = .ok (.iload_n 2, 1) := by decide +kernel
theorem dX5_direction_44 : decode cX5_direction 44 = .ok (.bipush 127, 2) := by decide +kernel
theorem dX5_direction_46 : decode cX5_direction 46 = .ok (.if_icmp .gt 14, 3) := by decide +kernel
theorem dX5_direction_49 : decode cX5_direction 49 = .ok (.aload_n 0, 1) := by decide +kernel
theorem dX5_direction_50 : decode cX5_direction 50 = .ok (.getfield 13, 3) := by decide +kernel
theorem dX5_direction_53 : decode cX5_direction 53 = .ok (.iload_n 1, 1) := by decide +kernel
theorem dX5_direction_54 : decode cX5_direction 54 = .ok (.iaload, 1) := by decide +kernel
theorem dX5_direction_55 : decode cX5_direction 55 = .ok (.bipush 6, 2) := by decide +kernel
theorem dX5_direction_57 : decode cX5_direction 57 = .ok (.if_icmp .ne 10, 3) := by decide +kernel
theorem dX5_direction_60 : decode cX5_direction 60 = .ok (.aload_n 0, 1) := by decide +kernel
theorem dX5_direction_61 : decode cX5_direction 61 = .ok (.bipush (-6), 2) := by decide +kernel
theorem dX5_direction_63 : decode cX5_direction 63 = .ok (.invokevirtual 88, 3) := by decide +kernel
theorem dX5_direction_66 : decode cX5_direction 66 = .ok (.ireturn, 1) := by decide +kernel
theorem dX5_direction_67 : decode cX5_direction 67 = .ok (.iconst 1, 1) := by decide +kernel
theorem dX5_direction_68 : decode cX5_direction 68 = .ok (.istore 5, 2) := by decide +kernel
theorem dX5_direction_70 : decode cX5_direction 70 = .ok (.iload_n 2, 1) := by decide +kernel
theorem dX5_direction_71 : decode cX5_direction 71 = .ok (.iload 5, 2) := by decide +kernel
theorem dX5_direction_73 : decode cX5_direction 73 = .ok (.iconst 1, 1) := by decide +kernel
theorem dX5_direction_74 : decode cX5_direction 74 = .ok (.iadd, 1) := by decide +kernel
theorem dX5_direction_75 : decode cX5_direction 75 = .ok (.ishr, 1) := by decide +kernel
theorem dX5_direction_76 : decode cX5_direction 76 = .ok (.ifCond .le 9, 3) := by decide +kernel
theorem dX5_direction_79 : decode cX5_direction 79 = .ok (.iinc 5 1, 3) := by decide +kernel
theorem dX5_direction_82 : decode cX5_direction 82 = .ok (.goto (-12), 3) := by decide +kernel
theorem dX5_direction_85 : decode cX5_direction 85 = .ok (.iload_n 2, 1) := by decide +kernel
theorem dX5_direction_86 : decode cX5_direction 86 = .ok (.iconst 1, 1) := by decide +kernel
theorem dX5_direction_87 : decode cX5_direction 87 = .ok (.iand, 1) := by decide +kernel
theorem dX5_direction_88 : decode cX5_direction 88 = .ok (.iconst 1, 1) := by decide +kernel
theorem dX5_direction_89 : decode cX5_direction 89 = .ok (.if_icmp .ne 7, 3) := by decide +kernel
theorem dX5_direction_92 : decode cX5_direction 92 = .ok (.iconst 1, 1) := by decide +kernel
theorem dX5_direction_93 : decode cX5_direction 93 = .ok (.goto 4, 3) := by decide +kernel
theorem dX5_direction_96 : decode cX5_direction 96 = .ok (.iconst 0, 1) := by decide +kernel
theorem dX5_direction_97 : decode cX5_direction 97 = .ok (.istore 6, 2) := by decide +kernel
theorem dX5_direction_99 : decode cX5_direction 99 = .ok (.iconst 1, 1) := by decide +kernel
theorem dX5_direction_100 : decode cX5_direction 100 = .ok (.istore 7, 2) := by decide +kernel
theorem dX5_direction_102 : decode cX5_direction 102 = .ok (.iload 7, 2) := by decide +kernel
theorem dX5_direction_104 : decode cX5_direction 104 = .ok (.iload 5, 2) := by decide +kernel
theorem dX5_direction_106 : decode cX5_direction 106 = .ok (.if_icmp .gt 55, 3) := by decide +kernel
theorem dX5_direction_109 : decode cX5_direction 109 = .ok (.lload_n 3, 1) := by decide +kernel
theorem dX5_direction_110 : decode cX5_direction 110 = .ok (.bipush 8, 2) := by decide +kernel
theorem dX5_direction_112 : decode cX5_direction 112 = .ok (.iload 7, 2) := by decide +kernel
theorem dX5_direction_114 : decode cX5_direction 114 = .ok (.iconst 1, 1) := by decide +kernel
theorem dX5_direction_115 : decode cX5_direction 115 = .ok (.isub, 1) := by decide +kernel
theorem dX5_direction_116 : decode cX5_direction 116 = .ok (.imul, 1) := by decide +kernel
theorem dX5_direction_117 : decode cX5_direction 117 = .ok (.lshr, 1) := by decide +kernel
theorem dX5_direction_118 : decode cX5_direction 118 = .ok (.ldc2_w 100, 3) := by decide +kernel
theorem dX5_direction_121 : decode cX5_direction 121 = .ok (.land, 1) := by decide +kernel
theorem dX5_direction_122 : decode cX5_direction 122 = .ok (.lstore 8, 2) := by decide +kernel
theorem dX5_direction_124 : decode cX5_direction 124 = .ok (.iload 6, 2) := by decide +kernel
theorem dX5_direction_126 : decode cX5_direction 126 = .ok (.ifCond .eq 26, 3) := by decide +kernel
theorem dX5_direction_129 : decode cX5_direction 129 = .ok (.lload 8, 2) := by decide +kernel
theorem dX5_direction_131 : decode cX5_direction 131 = .ok (.lconst 1, 1) := by decide +kernel
theorem dX5_direction_132 : decode cX5_direction 132 = .ok (.land, 1) := by decide +kernel
theorem dX5_direction_133 : decode cX5_direction 133 = .ok (.lconst 1, 1) := by decide +kernel
theorem dX5_direction_134 : decode cX5_direction 134 = .ok (.lcmp, 1) := by decide +kernel
theorem dX5_direction_135 : decode cX5_direction 135 = .ok (.ifCond .ne 17, 3) := by decide +kernel
theorem dX5_direction_138 : decode cX5_direction 138 = .ok (.lload 8, 2) := by decide +kernel
theorem dX5_direction_140 : decode cX5_direction 140 = .ok (.lconst 1, 1) := by decide +kernel
theorem dX5_direction_141 : decode cX5_direction 141 = .ok (.iload 7, 2) := by decide +kernel
theorem dX5_direction_143 : decode cX5_direction 143 = .ok (.lshl, 1) := by decide +kernel
theorem dX5_direction_144 : decode cX5_direction 144 = .ok (.lcmp, 1) := by decide +kernel
theorem dX5_direction_145 : decode cX5_direction 145 = .ok (.ifCond .ge 7, 3) := by decide +kernel
theorem dX5_direction_148 : decode cX5_direction 148 = .ok (.iconst 1, 1) := by decide +kernel
theorem dX5_direction_149 : decode cX5_direction 149 = .ok (.goto 4, 3) := by decide +kernel
theorem dX5_direction_152 : decode cX5_direction 152 = .ok (.iconst 0, 1) := by decide +kernel
theorem dX5_direction_153 : decode cX5_direction 153 = .ok (.istore 6, 2) := by decide +kernel
theorem dX5_direction_155 : decode cX5_direction 155 = .ok (.iinc 7 1, 3) := by decide +kernel
theorem dX5_direction_158 : decode cX5_direction 158 = .ok (.goto (-56), 3) := by decide +kernel
theorem dX5_direction_161 : decode cX5_direction 161 = .ok (.iload 6, 2) := by decide +kernel
theorem dX5_direction_163 : decode cX5_direction 163 = .ok (.ifCond .ne 10, 3) := by decide +kernel
theorem dX5_direction_166 : decode cX5_direction 166 = .ok (.aload_n 0, 1) := by decide +kernel
theorem dX5_direction_167 : decode cX5_direction 167 = .ok (.bipush (-3), 2) := by decide +kernel
theorem dX5_direction_169 : decode cX5_direction 169 = .ok (.invokevirtual 88, 3) := by decide +kernel
theorem dX5_direction_172 : decode cX5_direction 172 = .ok (.ireturn, 1) := by decide +kernel
theorem dX5_direction_173 : decode cX5_direction 173 = .ok (.iconst 1, 1) := by decide +kernel
theorem dX5_direction_174 : decode cX5_direction 174 = .ok (.istore 7, 2) := by decide +kernel
theorem dX5_direction_176 : decode cX5_direction 176 = .ok (.iload 7, 2) := by decide +kernel
theorem dX5_direction_178 : decode cX5_direction 178 = .ok (.bipush 8, 2) := by decide +kernel
theorem dX5_direction_180 : decode cX5_direction 180 = .ok (.if_icmp .gt 125, 3) := by decide +kernel
theorem dX5_direction_183 : decode cX5_direction 183 = .ok (.iload 7, 2) := by decide +kernel
theorem dX5_direction_185 : decode cX5_direction 185 = .ok (.iload 5, 2) := by decide +kernel
theorem dX5_direction_187 : decode cX5_direction 187 = .ok (.if_icmp .gt 26, 3) := by decide +kernel
theorem dX5_direction_190 : decode cX5_direction 190 = .ok (.aload_n 0, 1) := by decide +kernel
theorem dX5_direction_191 : decode cX5_direction 191 = .ok (.getfield 49, 3) := by decide +kernel
theorem dX5_direction_194 : decode cX5_direction 194 = .ok (.iload 7, 2) := by decide +kernel
theorem dX5_direction_196 : decode cX5_direction 196 = .ok (.lload_n 3, 1) := by decide +kernel
theorem dX5_direction_197 : decode cX5_direction 197 = .ok (.bipush 8, 2) := by decide +kernel
theorem dX5_direction_199 : decode cX5_direction 199 = .ok (.iload 7, 2) := by decide +kernel
theorem dX5_direction_201 : decode cX5_direction 201 = .ok (.iconst 1, 1) := by decide +kernel
theorem dX5_direction_202 : decode cX5_direction 202 = .ok (.isub, 1) := by decide +kernel
theorem dX5_direction_203 : decode cX5_direction 203 = .ok (.imul, 1) := by decide +kernel
theorem dX5_direction_204 : decode cX5_direction 204 = .ok (.lshr, 1) := by decide +kernel
theorem dX5_direction_205 : decode cX5_direction 205 = .ok (.ldc2_w 100, 3) := by decide +kernel
theorem dX5_direction_208 : decode cX5_direction 208 = .ok (.land, 1) := by decide +kernel
theorem dX5_direction_209 : decode cX5_direction 209 = .ok (.lastore, 1) := by decide +kernel
theorem dX5_direction_210 : decode cX5_direction 210 = .ok (.goto 89, 3) := by decide +kernel
theorem dX5_direction_213 : decode cX5_direction 213 = .ok (.aload_n 0, 1) := by decide +kernel
theorem dX5_direction_214 : decode cX5_direction 214 = .ok (.getfield 49, 3) := by decide +kernel
theorem dX5_direction_217 : decode cX5_direction 217 = .ok (.iload 7, 2) := by decide +kernel
theorem dX5_direction_219 : decode cX5_direction 219 = .ok (.iload 5, 2) := by decide +kernel
theorem dX5_direction_221 : decode cX5_direction 221 = .ok (.isub, 1) := by decide +kernel
theorem dX5_direction_222 : decode cX5_direction 222 = .ok (.laload, 1) := by decide +kernel
theorem dX5_direction_223 : decode cX5_direction 223 = .ok (.aload_n 0, 1) := by decide +kernel
theorem dX5_direction_224 : decode cX5_direction 224 = .ok (.getfield 49, 3) := by decide +kernel
theorem dX5_direction_227 : decode cX5_direction 227 = .ok (.iload 7, 2) := by decide +kernel
theorem dX5_direction_229 : decode cX5_direction 229 = .ok (.iload 5, 2) := by decide +kernel
theorem dX5_direction_231 : decode cX5_direction 231 = .ok (.isub, 1) := by decide +kernel
theorem dX5_direction_232 : decode cX5_direction 232 = .ok (.laload, 1) := by decide +kernel
theorem dX5_direction_233 : decode cX5_direction 233 = .ok (.iload 5, 2) := by decide +kernel
theorem dX5_direction_235 : decode cX5_direction 235 = .ok (.lshl, 1) := by decide +kernel
theorem dX5_direction_236 : decode cX5_direction 236 = .ok (.lxor, 1) := by decide +kernel
theorem dX5_direction_237 : decode cX5_direction 237 = .ok (.lstore 8, 2) := by decide +kernel
theorem dX5_direction_239 : decode cX5_direction 239 = .ok (.iconst 1, 1) := by decide +kernel
theorem dX5_direction_240 : decode cX5_direction 240 = .ok (.istore 10, 2) := by decide +kernel
theorem dX5_direction_242 : decode cX5_direction 242 = .ok (.iload 10, 2) := by decide +kernel
theorem dX5_direction_244 : decode cX5_direction 244 = .ok (.iload 5, 2) := by decide +kernel
theorem dX5_direction_246 : decode cX5_direction 246 = .ok (.if_icmp .ge 44, 3) := by decide +kernel
theorem dX5_direction_249 : decode cX5_direction 249 = .ok (.lload 8, 2) := by decide +kernel
theorem dX5_direction_251 : decode cX5_direction 251 = .ok (.iload_n 2, 1) := by decide +kernel
theorem dX5_direction_252 : decode cX5_direction 252 = .ok (.iload 5, 2) := by decide +kernel
theorem dX5_direction_254 : decode cX5_direction 254 = .ok (.iload 10, 2) := by decide +kernel
theorem dX5_direction_256 : decode cX5_direction 256 = .ok (.isub, 1) := by decide +kernel
theorem dX5_direction_257 : decode cX5_direction 257 = .ok (.ishr, 1) := by decide +kernel
theorem dX5_direction_258 : decode cX5_direction 258 = .ok (.iconst 1, 1) := by decide +kernel
theorem dX5_direction_259 : decode cX5_direction 259 = .ok (.iand, 1) := by decide +kernel
theorem dX5_direction_260 : decode cX5_direction 260 = .ok (.iconst 1, 1) := by decide +kernel
theorem dX5_direction_261 : decode cX5_direction 261 = .ok (.if_icmp .ne 19, 3) := by decide +kernel
theorem dX5_direction_264 : decode cX5_direction 264 = .ok (.aload_n 0, 1) := by decide +kernel
theorem dX5_direction_265 : decode cX5_direction 265 = .ok (.getfield 49, 3) := by decide +kernel
theorem dX5_direction_268 : decode cX5_direction 268 = .ok (.iload 7, 2) := by decide +kernel
theorem dX5_direction_270 : decode cX5_direction 270 = .ok (.iload 10, 2) := by decide +kernel
theorem dX5_direction_272 : decode cX5_direction 272 = .ok (.isub, 1) := by decide +kernel
theorem dX5_direction_273 : decode cX5_direction 273 = .ok (.laload, 1) := by decide +kernel
theorem dX5_direction_274 : decode cX5_direction 274 = .ok (.iload 10, 2) := by decide +kernel
theorem dX5_direction_276 : decode cX5_direction 276 = .ok (.lshl, 1) := by decide +kernel
theorem dX5_direction_277 : decode cX5_direction 277 = .ok (.goto 4, 3) := by decide +kernel
theorem dX5_direction_280 : decode cX5_direction 280 = .ok (.lconst 0, 1) := by decide +kernel
theorem dX5_direction_281 : decode cX5_direction 281 = .ok (.lxor, 1) := by decide +kernel
theorem dX5_direction_282 : decode cX5_direction 282 = .ok (.lstore 8, 2) := by decide +kernel
theorem dX5_direction_284 : decode cX5_direction 284 = .ok (.iinc 10 1, 3) := by decide +kernel
theorem dX5_direction_287 : decode cX5_direction 287 = .ok (.goto (-45), 3) := by decide +kernel
theorem dX5_direction_290 : decode cX5_direction 290 = .ok (.aload_n 0, 1) := by decide +kernel
theorem dX5_direction_291 : decode cX5_direction 291 = .ok (.getfield 49, 3) := by decide +kernel
theorem dX5_direction_294 : decode cX5_direction 294 = .ok (.iload 7, 2) := by decide +kernel
theorem dX5_direction_296 : decode cX5_direction 296 = .ok (.lload 8, 2) := by decide +kernel
theorem dX5_direction_298 : decode cX5_direction 298 = .ok (.lastore, 1) := by decide +kernel
theorem dX5_direction_299 : decode cX5_direction 299 = .ok (.iinc 7 1, 3) := by decide +kernel
theorem dX5_direction_302 : decode cX5_direction 302 = .ok (.goto (-126), 3) := by decide +kernel
theorem dX5_direction_305 : decode cX5_direction 305 = .ok (.aload_n 0, 1) := by decide +kernel
theorem dX5_direction_306 : decode cX5_direction 306 = .ok (.getfield 13, 3) := by decide +kernel
theorem dX5_direction_309 : decode cX5_direction 309 = .ok (.iload_n 1, 1) := by decide +kernel
theorem dX5_direction_310 : decode cX5_direction 310 = .ok (.iaload, 1) := by decide +kernel
theorem dX5_direction_311 : decode cX5_direction 311 = .ok (.istore 7, 2) := by decide +kernel
theorem dX5_direction_313 : decode cX5_direction 313 = .ok (.aload_n 0, 1) := by decide +kernel
theorem dX5_direction_314 : decode cX5_direction 314 = .ok (.getfield 13, 3) := by decide +kernel
theorem dX5_direction_317 : decode cX5_direction 317 = .ok (.iload_n 1, 1) := by decide +kernel
theorem dX5_direction_318 : decode cX5_direction 318 = .ok (.dup2, 1) := by decide +kernel
theorem dX5_direction_319 : decode cX5_direction 319 = .ok (.iaload, 1) := by decide +kernel
theorem dX5_direction_320 : decode cX5_direction 320 = .ok (.iconst 1, 1) := by decide +kernel
theorem dX5_direction_321 : decode cX5_direction 321 = .ok (.iadd, 1) := by decide +kernel
theorem dX5_direction_322 : decode cX5_direction 322 = .ok (.iastore, 1) := by decide +kernel
theorem dX5_direction_323 : decode cX5_direction 323 = .ok (.iconst 0, 1) := by decide +kernel
theorem dX5_direction_324 : decode cX5_direction 324 = .ok (.istore 8, 2) := by decide +kernel
theorem dX5_direction_326 : decode cX5_direction 326 = .ok (.iload 8, 2) := by decide +kernel
theorem dX5_direction_328 : decode cX5_direction 328 = .ok (.aload_n 0, 1) := by decide +kernel
theorem dX5_direction_329 : decode cX5_direction 329 = .ok (.getfield 16, 3) := by decide +kernel
theorem dX5_direction_332 : decode cX5_direction 332 = .ok (.iload_n 1, 1) := by decide +kernel
theorem dX5_direction_333 : decode cX5_direction 333 = .ok (.iaload, 1) := by decide +kernel
theorem dX5_direction_334 : decode cX5_direction 334 = .ok (.if_icmp .ge 92, 3) := by decide +kernel
