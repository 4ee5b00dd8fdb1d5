theorem dX6_wage_19 : decode cX6_wage 19 = .ok (.iconst 0, 1) := by decide +kernel
theorem dX6_wage_20 : decode cX6_wage 20 = .ok (.iconst 0, 1) := by decide +kernel
theorem dX6_wage_21 : decode cX6_wage 21 = .ok (.iload_n 3, 1) := by decide +kernel
theorem dX6_wage_22 : decode cX6_wage 22 = .ok (.ifCond .ge 7, 3) := by decide +kernel
theorem dX6_wage_25 : decode cX6_wage 25 = .ok (.iconst 1, 1) := by decide +kernel
theorem dX6_wage_26 : decode cX6_wage 26 = .ok (.goto 4, 3) := by decide +kernel
theorem dX6_wage_29 : decode cX6_wage 29 = .ok (.iconst 0, 1) := by decide +kernel
theorem dX6_wage_30 : decode cX6_wage 30 = .ok (.iload_n 3, 1) := by decide +kernel
theorem dX6_wage_31 : decode cX6_wage 31 = .ok (.bipush 40, 2) := by decide +kernel
theorem dX6_wage_33 : decode cX6_wage 33 = .ok (.if_icmp .le 7, 3) := by decide +kernel
theorem dX6_wage_36 : decode cX6_wage 36 = .ok (.iconst 1, 1) := by decide +kernel
theorem dX6_wage_37 : decode cX6_wage 37 = .ok (.goto 4, 3) := by decide +kernel
theorem dX6_wage_40 : decode cX6_wage 40 = .ok (.iconst 0, 1) := by decide +kernel
theorem dX6_wage_41 : decode cX6_wage 41 = .ok (.invokestatic 45, 3) := by decide +kernel
theorem dX6_wage_44 : decode cX6_wage 44 = .ok (.istore 4, 2) := by decide +kernel
theorem dX6_wage_46 : decode cX6_wage 46 = .ok (.iload 4, 2) := by decide +kernel
theorem dX6_wage_48 : decode cX6_wage 48 = .ok (.ifCond .eq 10, 3) := by decide +kernel
theorem dX6_wage_51 : decode cX6_wage 51 = .ok (.aload_n 0, 1) := by decide +kernel
theorem dX6_wage_52 : decode cX6_wage 52 = .ok (.iload 4, 2) := by decide +kernel
theorem dX6_wage_54 : decode cX6_wage 54 = .ok (.invokevirtual 119, 3) := by decide +kernel
theorem dX6_wage_57 : decode cX6_wage 57 = .ok (.lreturn, 1) := by decide +kernel
theorem dX6_wage_58 : decode cX6_wage 58 = .ok (.aload_n 0, 1) := by decide +kernel
theorem dX6_wage_59 : decode cX6_wage 59 = .ok (.getfield 19, 3) := by decide +kernel
theorem dX6_wage_62 : decode cX6_wage 62 = .ok (.aload_n 0, 1) := by decide +kernel
theorem dX6_wage_63 : decode cX6_wage 63 = .ok (.getfield 19, 3) := by decide +kernel
theorem dX6_wage_66 : decode cX6_wage 66 = .ok (.iload_n 1, 1) := by decide +kernel
theorem dX6_wage_67 : decode cX6_wage 67 = .ok (.invokevirtual 93, 3) := by decide +kernel
theorem dX6_wage_70 : decode cX6_wage 70 = .ok (.iload_n 2, 1) := by decide +kernel
theorem dX6_wage_71 : decode cX6_wage 71 = .ok (.iload_n 3, 1) := by decide +kernel
theorem dX6_wage_72 : decode cX6_wage 72 = .ok (.invokevirtual 183, 3) := by decide +kernel
theorem dX6_wage_75 : decode cX6_wage 75 = .ok (.i2l, 1) := by decide +kernel
theorem dX6_wage_76 : decode cX6_wage 76 = .ok (.lreturn, 1) := by decide +kernel
set_option maxRecDepth 20000 in
theorem dX6_does_0 : decode cX6_does 0 = .ok (.iload_n 1, 1) := by decide +kernel
theorem dX6_does_1 : decode cX6_does 1 = .ok (.invokestatic 90, 3) := by decide +kernel
theorem dX6_does_4 : decode cX6_does 4 = .ok (.ifCond .ne 7, 3) := by decide +kernel
theorem dX6_does_7 : decode cX6_does 7 = .ok (.iconst 1, 1) := by decide +kernel
theorem dX6_does_8 : decode cX6_does 8 = .ok (.goto 4, 3) := by decide +kernel
theorem dX6_does_11 : decode cX6_does 11 = .ok (.iconst 0, 1) := by decide +kernel
theorem dX6_does_12 : decode cX6_does 12 = .ok (.iload_n 3, 1) := by decide +kernel
theorem dX6_does_13 : decode cX6_does 13 = .ok (.invokestatic 116, 3) := by decide +kernel
theorem dX6_does_16 : decode cX6_does 16 = .ok (.ifCond .ne 7, 3) := by decide +kernel
theorem dX6_does_19 : decode cX6_does 19 = .ok (.iconst 1, 1) := by decide +kernel
theorem dX6_does_20 : decode cX6_does 20 = .ok (.goto 4, 3) := by decide +kernel
theorem dX6_does_23 : decode cX6_does 23 = .ok (.iconst 0, 1) := by decide +kernel
theorem dX6_does_24 : decode cX6_does 24 = .ok (.iload_n 2, 1) := by decide +kernel
theorem dX6_does_25 : decode cX6_does 25 = .ok (.ifCond .ge 7, 3) := by decide +kernel
theorem dX6_does_28 : decode cX6_does 28 = .ok (.iconst 1, 1) := by decide +kernel
theorem dX6_does_29 : decode cX6_does 29 = .ok (.goto 4, 3) := by decide +kernel
theorem dX6_does_32 : decode cX6_does 32 = .ok (.iconst 0, 1) := by decide +kernel
theorem dX6_does_33 : decode cX6_does 33 = .ok (.iload_n 2, 1) := by decide +kernel
theorem dX6_does_34 : decode cX6_does 34 = .ok (.bipush 40, 2) := by decide +kernel
theorem dX6_does_36 : decode cX6_does 36 = .ok (.if_icmp .le 7, 3) := by decide +kernel
theorem dX6_does_39 : decode cX6_does 39 = .ok (.iconst 1, 1) := by decide +kernel
theorem dX6_does_40 : decode cX6_does 40 = .ok (.goto 4, 3) := by decide +kernel
theorem dX6_does_43 : decode cX6_does 43 = .ok (.iconst 0, 1) := by decide +kernel
theorem dX6_does_44 : decode cX6_does 44 = .ok (.invokestatic 45, 3) := by decide +kernel
theorem dX6_does_47 : decode cX6_does 47 = .ok (.istore 4, 2) := by decide +kernel
theorem dX6_does_49 : decode cX6_does 49 = .ok (.iload 4, 2) := by decide +kernel
theorem dX6_does_51 : decode cX6_does 51 = .ok (.ifCond .eq 10, 3) := by decide +kernel
theorem dX6_does_54 : decode cX6_does 54 = .ok (.aload_n 0, 1) := by decide +kernel
theorem dX6_does_55 : decode cX6_does 55 = .ok (.iload 4, 2) := by decide +kernel
theorem dX6_does_57 : decode cX6_does 57 = .ok (.invokevirtual 119, 3) := by decide +kernel
theorem dX6_does_60 : decode cX6_does 60 = .ok (.lreturn, 1) := by decide +kernel
theorem dX6_does_61 : decode cX6_does 61 = .ok (.aload_n 0, 1) := by decide +kernel
theorem dX6_does_62 : decode cX6_does 62 = .ok (.aload_n 0, 1) := by decide +kernel
theorem dX6_does_63 : decode cX6_does 63 = .ok (.getfield 19, 3) := by decide +kernel
theorem dX6_does_66 : decode cX6_does 66 = .ok (.aload_n 0, 1) := by decide +kernel
theorem dX6_does_67 : decode cX6_does 67 = .ok (.getfield 19, 3) := by decide +kernel
theorem dX6_does_70 : decode cX6_does 70 = .ok (.iload_n 1, 1) := by decide +kernel
theorem dX6_does_71 : decode cX6_does 71 = .ok (.invokevirtual 93, 3) := by decide +kernel
theorem dX6_does_74 : decode cX6_does 74 = .ok (.iload_n 2, 1) := by decide +kernel
theorem dX6_does_75 : decode cX6_does 75 = .ok (.aload_n 0, 1) := by decide +kernel
theorem dX6_does_76 : decode cX6_does 76 = .ok (.getfield 37, 3) := by decide +kernel
theorem dX6_does_79 : decode cX6_does 79 = .ok (.invokevirtual 187, 3) := by decide +kernel
theorem dX6_does_82 : decode cX6_does 82 = .ok (.iload_n 3, 1) := by decide +kernel
theorem dX6_does_83 : decode cX6_does 83 = .ok (.invokevirtual 191, 3) := by decide +kernel
theorem dX6_does_86 : decode cX6_does 86 = .ok (.lreturn, 1) := by decide +kernel
set_option maxRecDepth 20000 in
theorem dX6_share_0 : decode cX6_share 0 = .ok (.iload_n 1, 1) := by decide +kernel
theorem dX6_share_1 : decode cX6_share 1 = .ok (.invokestatic 90, 3) := by decide +kernel
theorem dX6_share_4 : decode cX6_share 4 = .ok (.ifCond .ne 7, 3) := by decide +kernel
theorem dX6_share_7 : decode cX6_share 7 = .ok (.iconst 1, 1) := by decide +kernel
theorem dX6_share_8 : decode cX6_share 8 = .ok (.goto 4, 3) := by decide +kernel
theorem dX6_share_11 : decode cX6_share 11 = .ok (.iconst 0, 1) := by decide +kernel
theorem dX6_share_12 : decode cX6_share 12 = .ok (.iload_n 2, 1) := by decide +kernel
theorem dX6_share_13 : decode cX6_share 13 = .ok (.invokestatic 116, 3) := by decide +kernel
theorem dX6_share_16 : decode cX6_share 16 = .ok (.ifCond .ne 7, 3) := by decide +kernel
theorem dX6_share_19 : decode cX6_share 19 = .ok (.iconst 1, 1) := by decide +kernel
theorem dX6_share_20 : decode cX6_share 20 = .ok (.goto 4, 3) := by decide +kernel
theorem dX6_share_23 : decode cX6_share 23 = .ok (.iconst 0, 1) := by decide +kernel
theorem dX6_share_24 : decode cX6_share 24 = .ok (.iconst 0, 1) := by decide +kernel
theorem dX6_share_25 : decode cX6_share 25 = .ok (.iconst 0, 1) := by decide +kernel
theorem dX6_share_26 : decode cX6_share 26 = .ok (.invokestatic 45, 3) := by decide +kernel
theorem dX6_share_29 : decode cX6_share 29 = .ok (.istore_n 3, 1) := by decide +kernel
theorem dX6_share_30 : decode cX6_share 30 = .ok (.iload_n 3, 1) := by decide +kernel
theorem dX6_share_31 : decode cX6_share 31 = .ok (.ifCond .eq 9, 3) := by decide +kernel
theorem dX6_share_34 : decode cX6_share 34 = .ok (.aload_n 0, 1) := by decide +kernel
theorem dX6_share_35 : decode cX6_share 35 = .ok (.iload_n 3, 1) := by decide +kernel
theorem dX6_share_36 : decode cX6_share 36 = .ok (.invokevirtual 119, 3) := by decide +kernel
theorem dX6_share_39 : decode cX6_share 39 = .ok (.lreturn, 1) := by decide +kernel
theorem dX6_share_40 : decode cX6_share 40 = .ok (.aload_n 0, 1) := by decide +kernel
theorem dX6_share_41 : decode cX6_share 41 = .ok (.aload_n 0, 1) := by decide +kernel
theorem dX6_share_42 : decode cX6_share 42 = .ok (.getfield 19, 3) := by decide +kernel
theorem dX6_share_45 : decode cX6_share 45 = .ok (.aload_n 0, 1) := by decide +kernel
theorem dX6_share_46 : decode cX6_share 46 = .ok (.getfield 19, 3) := by decide +kernel
theorem dX6_share_49 : decode cX6_share 49 = .ok (.iload_n 1, 1) := by decide +kernel
theorem dX6_share_50 : decode cX6_share 50 = .ok (.invokevirtual 93, 3) := by decide +kernel
theorem dX6_share_53 : decode cX6_share 53 = .ok (.aload_n 0, 1) := by decide +kernel
theorem dX6_share_54 : decode cX6_share 54 = .ok (.getfield 37, 3) := by decide +kernel
theorem dX6_share_57 : decode cX6_share 57 = .ok (.invokevirtual 195, 3) := by decide +kernel
theorem dX6_share_60 : decode cX6_share 60 = .ok (.iload_n 2, 1) := by decide +kernel
theorem dX6_share_61 : decode cX6_share 61 = .ok (.invokevirtual 191, 3) := by decide +kernel
theorem dX6_share_64 : decode cX6_share 64 = .ok (.lreturn, 1) := by decide +kernel
set_option maxRecDepth 20000 in
theorem dX6_serving_0 : decode cX6_serving 0 = .ok (.iload_n 1, 1) := by decide +kernel
theorem dX6_serving_1 : decode cX6_serving 1 = .ok (.invokestatic 90, 3) := by decide +kernel
theorem dX6_serving_4 : decode cX6_serving 4 = .ok (.ifCond .ne 7, 3) := by decide +kernel
theorem dX6_serving_7 : decode cX6_serving 7 = .ok (.iconst 1, 1) := by decide +kernel
theorem dX6_serving_8 : decode cX6_serving 8 = .ok (.goto 4, 3) := by decide +kernel
theorem dX6_serving_11 : decode cX6_serving 11 = .ok (.iconst 0, 1) := by decide +kernel
theorem dX6_serving_12 : decode cX6_serving 12 = .ok (.iload_n 3, 1) := by decide +kernel
theorem dX6_serving_13 : decode cX6_serving 13 = .ok (.invokestatic 116, 3) := by decide +kernel
theorem dX6_serving_16 : decode cX6_serving 16 = .ok (.ifCond .ne 7, 3) := by decide +kernel
theorem dX6_serving_19 : decode cX6_serving 19 = .ok (.iconst 1, 1) := by decide +kernel
theorem dX6_serving_20 : decode cX6_serving 20 = .ok (.goto 4, 3) := by decide +kernel
theorem dX6_serving_23 : decode cX6_serving 23 = .ok (.iconst 0, 1) := by decide +kernel
theorem dX6_serving_24 : decode cX6_serving 24 = .ok (.iload_n 2, 1) := by decide +kernel
theorem dX6_serving_25 : decode cX6_serving 25 = .ok (.ifCond .ge 7, 3) := by decide +kernel
theorem dX6_serving_28 : decode cX6_serving 28 = .ok (.iconst 1, 1) := by decide +kernel
theorem dX6_serving_29 : decode cX6_serving 29 = .ok (.goto 4, 3) := by decide +kernel
theorem dX6_serving_32 : decode cX6_serving 32 = .ok (.iconst 0, 1) := by decide +kernel
theorem dX6_serving_33 : decode cX6_serving 33 = .ok (.iload_n 2, 1) := by decide +kernel
theorem dX6_serving_34 : decode cX6_serving 34 = .ok (.bipush 40, 2) := by decide +kernel
theorem dX6_serving_36 : decode cX6_serving 36 = .ok (.if_icmp .le 7, 3) := by decide +kernel
theorem dX6_serving_39 : decode cX6_serving 39 = .ok (.iconst 1, 1) := by decide +kernel
theorem dX6_serving_40 : decode cX6_serving 40 = .ok (.goto 4, 3) := by decide +kernel
theorem dX6_serving_43 : decode cX6_serving 43 = .ok (.iconst 0, 1) := by decide +kernel
theorem dX6_serving_44 : decode cX6_serving 44 = .ok (.invokestatic 45, 3) := by decide +kernel
theorem dX6_serving_47 : decode cX6_serving 47 = .ok (.istore 4, 2) := by decide +kernel
theorem dX6_serving_49 : decode cX6_serving 49 = .ok (.iload 4, 2) := by decide +kernel
theorem dX6_serving_51 : decode cX6_serving 51 = .ok (.ifCond .eq 10, 3) := by decide +kernel
theorem dX6_serving_54 : decode cX6_serving 54 = .ok (.aload_n 0, 1) := by decide +kernel
theorem dX6_serving_55 : decode cX6_serving 55 = .ok (.iload 4, 2) := by decide +kernel
theorem dX6_serving_57 : decode cX6_serving 57 = .ok (.invokevirtual 119, 3) := by decide +kernel
theorem dX6_serving_60 : decode cX6_serving 60 = .ok (.lreturn, 1) := by decide +kernel
theorem dX6_serving_61 : decode cX6_serving 61 = .ok (.aload_n 0, 1) := by decide +kernel
theorem dX6_serving_62 : decode cX6_serving 62 = .ok (.aload_n 0, 1) := by decide +kernel
theorem dX6_serving_63 : decode cX6_serving 63 = .ok (.getfield 19, 3) := by decide +kernel
theorem dX6_serving_66 : decode cX6_serving 66 = .ok (.aload_n 0, 1) := by decide +kernel
theorem dX6_serving_67 : decode cX6_serving 67 = .ok (.getfield 19, 3) := by decide +kernel
theorem dX6_serving_70 : decode cX6_serving 70 = .ok (.iload_n 1, 1) := by decide +kernel
theorem dX6_serving_71 : decode cX6_serving 71 = .ok (.invokevirtual 93, 3) := by decide +kernel
theorem dX6_serving_74 : decode cX6_serving 74 = .ok (.iload_n 2, 1) := by decide +kernel
theorem dX6_serving_75 : decode cX6_serving 75 = .ok (.aload_n 0, 1) := by decide +kernel
theorem dX6_serving_76 : decode cX6_serving 76 = .ok (.getfield 37, 3) := by decide +kernel
theorem dX6_serving_79 : decode cX6_serving 79 = .ok (.invokevirtual 199, 3) := by decide +kernel
theorem dX6_serving_82 : decode cX6_serving 82 = .ok (.iload_n 3, 1) := by decide +kernel
theorem dX6_serving_83 : decode cX6_serving 83 = .ok (.invokevirtual 191, 3) := by decide +kernel
theorem dX6_serving_86 : decode cX6_serving 86 = .ok (.lreturn, 1) := by decide +kernel
set_option maxRecDepth 20000 in
theorem dX6_truly_0 : decode cX6_truly 0 = .ok (.iload_n 1, 1) := by decide +kernel
theorem dX6_truly_1 : decode cX6_truly 1 = .ok (.invokestatic 90, 3) := by decide +kernel
theorem dX6_truly_4 : decode cX6_truly 4 = .ok (.ifCond .ne 7, 3) := by decide +kernel
theorem dX6_truly_7 : decode cX6_truly 7 = .ok (.iconst 1, 1) := by decide +kernel
theorem dX6_truly_8 : decode cX6_truly 8 = .ok (.goto 4, 3) := by decide +kernel
theorem dX6_truly_11 : decode cX6_truly 11 = .ok (.iconst 0, 1) := by decide +kernel
theorem dX6_truly_12 : decode cX6_truly 12 = .ok (.iload_n 3, 1) := by decide +kernel
theorem dX6_truly_13 : decode cX6_truly 13 = .ok (.invokestatic 116, 3) := by decide +kernel
theorem dX6_truly_16 : decode cX6_truly 16 = .ok (.ifCond .ne 7, 3) := by decide +kernel
theorem dX6_truly_19 : decode cX6_truly 19 = .ok (.iconst 1, 1) := by decide +kernel
theorem dX6_truly_20 : decode cX6_truly 20 = .ok (.goto 4, 3) := by decide +kernel
theorem dX6_truly_23 : decode cX6_truly 23 = .ok (.iconst 0, 1) := by decide +kernel
theorem dX6_truly_24 : decode cX6_truly 24 = .ok (.iload_n 2, 1) := by decide +kernel
theorem dX6_truly_25 : decode cX6_truly 25 = .ok (.ifCond .ge 7, 3) := by decide +kernel
theorem dX6_truly_28 : decode cX6_truly 28 = .ok (.iconst 1, 1) := by decide +kernel
theorem dX6_truly_29 : decode cX6_truly 29 = .ok (.goto 4, 3) := by decide +kernel
theorem dX6_truly_32 : decode cX6_truly 32 = .ok (.iconst 0, 1) := by decide +kernel
theorem dX6_truly_33 : decode cX6_truly 33 = .ok (.iload_n 2, 1) := by decide +kernel
theorem dX6_truly_34 : decode cX6_truly 34 = .ok (.bipush 40, 2) := by decide +kernel
theorem dX6_truly_36 : decode cX6_truly 36 = .ok (.if_icmp .le 7, 3) := by decide +kernel
theorem dX6_truly_39 : decode cX6_truly 39 = .ok (.iconst 1, 1) := by decide +kernel
theorem dX6_truly_40 : decode cX6_truly 40 = .ok (.goto 4, 3) := by decide +kernel
theorem dX6_truly_43 : decode cX6_truly 43 = .ok (.iconst 0, 1) := by decide +kernel
theorem dX6_truly_44 : decode cX6_truly 44 = .ok (.invokestatic 45, 3) := by decide +kernel
theorem dX6_truly_47 : decode cX6_truly 47 = .ok (.istore 4, 2) := by decide +kernel
theorem dX6_truly_49 : decode cX6_truly 49 = .ok (.iload 4, 2) := by decide +kernel
theorem dX6_truly_51 : decode cX6_truly 51 = .ok (.ifCond .eq 10, 3) := by decide +kernel
theorem dX6_truly_54 : decode cX6_truly 54 = .ok (.aload_n 0, 1) := by decide +kernel
theorem dX6_truly_55 : decode cX6_truly 55 = .ok (.iload 4, 2) := by decide +kernel
theorem dX6_truly_57 : decode cX6_truly 57 = .ok (.invokevirtual 119, 3) := by decide +kernel
theorem dX6_truly_60 : decode cX6_truly 60 = .ok (.lreturn, 1) := by decide +kernel
theorem dX6_truly_61 : decode cX6_truly 61 = .ok (.aload_n 0, 1) := by decide +kernel
theorem dX6_truly_62 : decode cX6_truly 62 = .ok (.aload_n 0, 1) := by decide +kernel
theorem dX6_truly_63 : decode cX6_truly 63 = .ok (.getfield 19, 3) := by decide +kernel
theorem dX6_truly_66 : decode cX6_truly 66 = .ok (.aload_n 0, 1) := by decide +kernel
theorem dX6_truly_67 : decode cX6_truly 67 = .ok (.getfield 19, 3) := by decide +kernel
theorem dX6_truly_70 : decode cX6_truly 70 = .ok (.iload_n 1, 1) := by decide +kernel
theorem dX6_truly_71 : decode cX6_truly 71 = .ok (.invokevirtual 93, 3) := by decide +kernel
theorem dX6_truly_74 : decode cX6_truly 74 = .ok (.iload_n 2, 1) := by decide +kernel
theorem dX6_truly_75 : decode cX6_truly 75 = .ok (.aload_n 0, 1) := by decide +kernel
theorem dX6_truly_76 : decode cX6_truly 76 = .ok (.getfield 37, 3) := by decide +kernel
theorem dX6_truly_79 : decode cX6_truly 79 = .ok (.invokevirtual 202, 3) := by decide +kernel
theorem dX6_truly_82 : decode cX6_truly 82 = .ok (.iload_n 3, 1) := by decide +kernel
theorem dX6_truly_83 : decode cX6_truly 83 = .ok (.invokevirtual 191, 3) := by decide +kernel
theorem dX6_truly_86 : decode cX6_truly 86 = .ok (.lreturn, 1) := by decide +kernel
set_option maxRecDepth 20000 in
theorem dX6_faded_0 : decode cX6_faded 0 = .ok (.iload_n 1, 1) := by decide +kernel
theorem dX6_faded_1 : decode cX6_faded 1 = .ok (.invokestatic 90, 3) := by decide +kernel
theorem dX6_faded_4 : decode cX6_faded 4 = .ok (.ifCond .ne 7, 3) := by decide +kernel
theorem dX6_faded_7 : decode cX6_faded 7 = .ok (.iconst 1, 1) := by decide +kernel
theorem dX6_faded_8 : decode cX6_faded 8 = .ok (.goto 4, 3) := by decide +kernel
theorem dX6_faded_11 : decode cX6_faded 11 = .ok (.iconst 0, 1) := by decide +kernel
theorem dX6_faded_12 : decode cX6_faded 12 = .ok (.iconst 0, 1) := by decide +kernel
theorem dX6_faded_13 : decode cX6_faded 13 = .ok (.iload_n 2, 1) := by decide +kernel
theorem dX6_faded_14 : decode cX6_faded 14 = .ok (.ifCond .ge 7, 3) := by decide +kernel
theorem dX6_faded_17 : decode cX6_faded 17 = .ok (.iconst 1, 1) := by decide +kernel
theorem dX6_faded_18 : decode cX6_faded 18 = .ok (.goto 4, 3) := by decide +kernel
theorem dX6_faded_21 : decode cX6_faded 21 = .ok (.iconst 0, 1) := by decide +kernel
theorem dX6_faded_22 : decode cX6_faded 22 = .ok (.iload_n 2, 1) := by decide +kernel
theorem dX6_faded_23 : decode cX6_faded 23 = .ok (.sipush 9999, 3) := by decide +kernel
theorem dX6_faded_26 : decode cX6_faded 26 = .ok (.if_icmp .le 7, 3) := by decide +kernel
theorem dX6_faded_29 : decode cX6_faded 29 = .ok (.iconst 1, 1) := by decide +kernel
theorem dX6_faded_30 : decode cX6_faded 30 = .ok (.goto 4, 3) := by decide +kernel
theorem dX6_faded_33 : decode cX6_faded 33 = .ok (.iconst 0, 1) := by decide +kernel
theorem dX6_faded_34 : decode cX6_faded 34 = .ok (.invokestatic 45, 3) := by decide +kernel
theorem dX6_faded_37 : decode cX6_faded 37 = .ok (.istore_n 3, 1) := by decide +kernel
theorem dX6_faded_38 : decode cX6_faded 38 = .ok (.iload_n 3, 1) := by decide +kernel
theorem dX6_faded_39 : decode cX6_faded 39 = .ok (.ifCond .eq 9, 3) := by decide +kernel
theorem dX6_faded_42 : decode cX6_faded 42 = .ok (.aload_n 0, 1) := by decide +kernel
theorem dX6_faded_43 : decode cX6_faded 43 = .ok (.iload_n 3, 1) := by decide +kernel
theorem dX6_faded_44 : decode cX6_faded 44 = .ok (.invokevirtual 49, 3) := by decide +kernel
theorem dX6_faded_47 : decode cX6_faded 47 = .ok (.ireturn, 1) := by decide +kernel
theorem dX6_faded_48 : decode cX6_faded 48 = .ok (.iconst 0, 1) := by decide +kernel
theorem dX6_faded_49 : decode cX6_faded 49 = .ok (.istore 4, 2) := by decide +kernel
theorem dX6_faded_51 : decode cX6_faded 51 = .ok (.iload 4, 2) := by decide +kernel
theorem dX6_faded_53 : decode cX6_faded 53 = .ok (.bipush 40, 2) := by decide +kernel
theorem dX6_faded_55 : decode cX6_faded 55 = .ok (.if_icmp .gt 48, 3) := by decide +kernel
theorem dX6_faded_58 : decode cX6_faded 58 = .ok (.aload_n 0, 1) := by decide +kernel
theorem dX6_faded_59 : decode cX6_faded 59 = .ok (.getfield 19, 3) := by decide +kernel
theorem dX6_faded_62 : decode cX6_faded 62 = .ok (.aload_n 0, 1) := by decide +kernel
theorem dX6_faded_63 : decode cX6_faded 63 = .ok (.getfield 19, 3) := by decide +kernel
theorem dX6_faded_66 : decode cX6_faded 66 = .ok (.iload_n 1, 1) := by decide +kernel
theorem dX6_faded_67 : decode cX6_faded 67 = .ok (.invokevirtual 93, 3) := by decide +kernel
theorem dX6_faded_70 : decode cX6_faded 70 = .ok (.iload 4, 2) := by decide +kernel
theorem dX6_faded_72 : decode cX6_faded 72 = .ok (.aload_n 0, 1) := by decide +kernel
theorem dX6_faded_73 : decode cX6_faded 73 = .ok (.getfield 37, 3) := by decide +kernel
theorem dX6_faded_76 : decode cX6_faded 76 = .ok (.invokevirtual 187, 3) := by decide +kernel
theorem dX6_faded_79 : decode cX6_faded 79 = .ok (.ifCond .eq 18, 3) := by decide +kernel
theorem dX6_faded_82 : decode cX6_faded 82 = .ok (.aload_n 0, 1) := by decide +kernel
theorem dX6_faded_83 : decode cX6_faded 83 = .ok (.getfield 37, 3) := by decide +kernel
theorem dX6_faded_86 : decode cX6_faded 86 = .ok (.iload_n 2, 1) := by decide +kernel
theorem dX6_faded_87 : decode cX6_faded 87 = .ok (.i2l, 1) := by decide +kernel
theorem dX6_faded_88 : decode cX6_faded 88 = .ok (.invokevirtual 205, 3) := by decide +kernel
theorem dX6_faded_91 : decode cX6_faded 91 = .ok (.ifCond .eq 6, 3) := by decide +kernel
theorem dX6_faded_94 : decode cX6_faded 94 = .ok (.iload 4, 2) := by decide +kernel
theorem dX6_faded_96 : decode cX6_faded 96 = .ok (.ireturn, 1) := by decide +kernel
theorem dX6_faded_97 : decode cX6_faded 97 = .ok (.iinc 4 1, 3) := by decide +kernel
theorem dX6_faded_100 : decode cX6_faded 100 = .ok (.goto (-49), 3) := by decide +kernel
theorem dX6_faded_103 : decode cX6_faded 103 = .ok (.bipush (-9), 2) := by decide +kernel
theorem dX6_faded_105 : decode cX6_faded 105 = .ok (.ireturn, 1) := by decide +kernel
set_option maxRecDepth 20000 in
theorem dX6_group_0 : decode cX6_group 0 = .ok (.iload_n 1, 1) := by decide +kernel
theorem dX6_group_1 : decode cX6_group 1 = .ok (.invokestatic 90, 3) := by decide +kernel
theorem dX6_group_4 : decode cX6_group 4 = .ok (.ifCond .eq 10, 3) := by decide +kernel
theorem dX6_group_7 : decode cX6_group 7 = .ok (.iload_n 2, 1) := by decide +kernel
theorem dX6_group_8 : decode cX6_group 8 = .ok (.invokestatic 113, 3) := by decide +kernel
theorem dX6_group_11 : decode cX6_group 11 = .ok (.ifCond .ne 7, 3) := by decide +kernel
theorem dX6_group_14 : decode cX6_group 14 = .ok (.iconst 1, 1) := by decide +kernel
theorem dX6_group_15 : decode cX6_group 15 = .ok (.goto 4, 3) := by decide +kernel
theorem dX6_group_18 : decode cX6_group 18 = .ok (.iconst 0, 1) := by decide +kernel
theorem dX6_group_19 : decode cX6_group 19 = .ok (.iload 4, 2) := by decide +kernel
theorem dX6_group_21 : decode cX6_group 21 = .ok (.invokestatic 116, 3) := by decide +kernel
theorem dX6_group_24 : decode cX6_group 24 = .ok (.ifCond .ne 7, 3) := by decide +kernel
theorem dX6_group_27 : decode cX6_group 27 = .ok (.iconst 1, 1) := by decide +kernel
theorem dX6_group_28 : decode cX6_group 28 = .ok (.goto 4, 3) := by decide +kernel
theorem dX6_group_31 : decode cX6_group 31 = .ok (.iconst 0, 1) := by decide +kernel
theorem dX6_group_32 : decode cX6_group 32 = .ok (.iload_n 3, 1) := by decide +kernel
theorem dX6_group_33 : decode cX6_group 33 = .ok (.ifCond .ge 7, 3) := by decide +kernel
theorem dX6_group_36 : decode cX6_group 36 = .ok (.iconst 1, 1) := by decide +kernel
theorem dX6_group_37 : decode cX6_group 37 = .ok (.goto 4, 3) := by decide +kernel
theorem dX6_group_40 : decode cX6_group 40 = .ok (.iconst 0, 1) := by decide +kernel
theorem dX6_group_41 : decode cX6_group 41 = .ok (.iload_n 3, 1) := by decide +kernel
theorem dX6_group_42 : decode cX6_group 42 = .ok (.bipush 40, 2) := by decide +kernel
theorem dX6_group_44 : decode cX6_group 44 = .ok (.if_icmp .le 7, 3) := by decide +kernel
theorem dX6_group_47 : decode cX6_group 47 = .ok (.iconst 1, 1) := by decide +kernel
theorem dX6_group_48 : decode cX6_group 48 = .ok (.goto 4, 3) := by decide +kernel
theorem dX6_group_51 : decode cX6_group 51 = .ok (.iconst 0, 1) := by decide +kernel
theorem dX6_group_52 : decode cX6_group 52 = .ok (.invokestatic 45, 3) := by decide +kernel
theorem dX6_group_55 : decode cX6_group 55 = .ok (.istore 5, 2) := by decide +kernel
theorem dX6_group_57 : decode cX6_group 57 = .ok (.iload 5, 2) := by decide +kernel
theorem dX6_group_59 : decode cX6_group 59 = .ok (.ifCond .eq 10, 3) := by decide +kernel
theorem dX6_group_62 : decode cX6_group 62 = .ok (.aload_n 0, 1) := by decide +kernel
theorem dX6_group_63 : decode cX6_group 63 = .ok (.iload 5, 2) := by decide +kernel
theorem dX6_group_65 : decode cX6_group 65 = .ok (.invokevirtual 119, 3) := by decide +kernel
theorem dX6_group_68 : decode cX6_group 68 = .ok (.lreturn, 1) := by decide +kernel
theorem dX6_group_69 : decode cX6_group 69 = .ok (.aload_n 0, 1) := by decide +kernel
theorem dX6_group_70 : decode cX6_group 70 = .ok (.getfield 19, 3) := by decide +kernel
theorem dX6_group_73 : decode cX6_group 73 = .ok (.iload_n 2, 1) := by decide +kernel
theorem dX6_group_74 : decode cX6_group 74 = .ok (.invokevirtual 209, 3) := by decide +kernel
theorem dX6_group_77 : decode cX6_group 77 = .ok (.ifCond .ne 16, 3) := by decide +kernel
theorem dX6_group_80 : decode cX6_group 80 = .ok (.iload 4, 2) := by decide +kernel
theorem dX6_group_82 : decode cX6_group 82 = .ok (.ifCond .ne 9, 3) := by decide +kernel
theorem dX6_group_85 : decode cX6_group 85 = .ok (.ldc2_w 212, 3) := by decide +kernel
theorem dX6_group_88 : decode cX6_group 88 = .ok (.goto 4, 3) := by decide +kernel
theorem dX6_group_91 : decode cX6_group 91 = .ok (.lconst 1, 1) := by decide +kernel
theorem dX6_group_92 : decode cX6_group 92 = .ok (.lreturn, 1) := by decide +kernel
theorem dX6_group_93 : decode cX6_group 93 = .ok (.aload_n 0, 1) := by decide +kernel
theorem dX6_group_94 : decode cX6_group 94 = .ok (.getfield 19, 3) := by decide +kernel
theorem dX6_group_97 : decode cX6_group 97 = .ok (.aload_n 0, 1) := by decide +kernel
theorem dX6_group_98 : decode cX6_group 98 = .ok (.getfield 19, 3) := by decide +kernel
theorem dX6_group_101 : decode cX6_group 101 = .ok (.iload_n 1, 1) := by decide +kernel
theorem dX6_group_102 : decode cX6_group 102 = .ok (.invokevirtual 93, 3) := by decide +kernel
theorem dX6_group_105 : decode cX6_group 105 = .ok (.iload_n 2, 1) := by decide +kernel
theorem dX6_group_106 : decode cX6_group 106 = .ok (.iload_n 3, 1) := by decide +kernel
theorem dX6_group_107 : decode cX6_group 107 = .ok (.aload_n 0, 1) := by decide +kernel
theorem dX6_group_108 : decode cX6_group 108 = .ok (.getfield 37, 3) := by decide +kernel
theorem dX6_group_111 : decode cX6_group 111 = .ok (.invokevirtual 214, 3) := by decide +kernel
theorem dX6_group_114 : decode cX6_group 114 = .ok (.aload_n 0, 1) := by decide +kernel
theorem dX6_group_115 : decode cX6_group 115 = .ok (.getfield 37, 3) := by decide +kernel
theorem dX6_group_118 : decode cX6_group 118 = .ok (.iload 4, 2) := by decide +kernel
theorem dX6_group_120 : decode cX6_group 120 = .ok (.invokevirtual 133, 3) := by decide +kernel
theorem dX6_group_123 : decode cX6_group 123 = .ok (.lreturn, 1) := by decide +kernel
set_option maxRecDepth 20000 in
theorem dX6_least_0 : decode cX6_least 0 = .ok (.iconst 0, 1) := by decide +kernel
theorem dX6_least_1 : decode cX6_least 1 = .ok (.iconst 0, 1) := by decide +kernel
theorem dX6_least_2 : decode cX6_least 2 = .ok (.iload_n 1, 1) := by decide +kernel
theorem dX6_least_3 : decode cX6_least 3 = .ok (.iconst 1, 1) := by decide +kernel
theorem dX6_least_4 : decode cX6_least 4 = .ok (.if_icmp .ge 7, 3) := by decide +kernel
theorem dX6_least_7 : decode cX6_least 7 = .ok (.iconst 1, 1) := by decide +kernel
theorem dX6_least_8 : decode cX6_least 8 = .ok (.goto 4, 3) := by decide +kernel
theorem dX6_least_11 : decode cX6_least 11 = .ok (.iconst 0, 1) := by decide +kernel
theorem dX6_least_12 : decode cX6_least 12 = .ok (.iload_n 1, 1) := by decide +kernel
theorem dX6_least_13 : decode cX6_least 13 = .ok (.bipush 60, 2) := by decide +kernel
theorem dX6_least_15 : decode cX6_least 15 = .ok (.if_icmp .le 7, 3) := by decide +kernel
theorem dX6_least_18 : decode cX6_least 18 = .ok (.iconst 1, 1) := by decide +kernel
theorem dX6_least_19 : decode cX6_least 19 = .ok (.goto 4, 3) := by decide +kernel
theorem dX6_least_22 : decode cX6_least 22 = .ok (.iconst 0, 1) := by decide +kernel
theorem dX6_least_23 : decode cX6_least 23 = .ok (.invokestatic 45, 3) := by decide +kernel
theorem dX6_least_26 : decode cX6_least 26 = .ok (.istore_n 2, 1) := by decide +kernel
theorem dX6_least_27 : decode cX6_least 27 = .ok (.iload_n 2, 1) := by decide +kernel
theorem dX6_least_28 : decode cX6_least 28 = .ok (.ifCond .eq 9, 3) := by decide +kernel
theorem dX6_least_31 : decode cX6_least 31 = .ok (.aload_n 0, 1) := by decide +kernel
theorem dX6_least_32 : decode cX6_least 32 = .ok (.iload_n 2, 1) := by decide +kernel
theorem dX6_least_33 : decode cX6_least 33 = .ok (.invokevirtual 49, 3) := by decide +kernel
theorem dX6_least_36 : decode cX6_least 36 = .ok (.ireturn, 1) := by decide +kernel
theorem dX6_least_37 : decode cX6_least 37 = .ok (.aload_n 0, 1) := by decide +kernel
theorem dX6_least_38 : decode cX6_least 38 = .ok (.getfield 19, 3) := by decide +kernel
theorem dX6_least_41 : decode cX6_least 41 = .ok (.getfield 218, 3) := by decide +kernel
theorem dX6_least_44 : decode cX6_least 44 = .ok (.istore_n 3, 1) := by decide +kernel
theorem dX6_least_45 : decode cX6_least 45 = .ok (.aload_n 0, 1) := by decide +kernel
theorem dX6_least_46 : decode cX6_least 46 = .ok (.getfield 19, 3) := by decide +kernel
theorem dX6_least_49 : decode cX6_least 49 = .ok (.iload_n 1, 1) := by decide +kernel
theorem dX6_least_50 : decode cX6_least 50 = .ok (.putfield 218, 3) := by decide +kernel
theorem dX6_least_53 : decode cX6_least 53 = .ok (.iload_n 3, 1) := by decide +kernel
theorem dX6_least_54 : decode cX6_least 54 = .ok (.ireturn, 1) := by decide +kernel
set_option maxRecDepth 20000 in
theorem dX6_shown_0 : decode cX6_shown 0 = .ok (.iconst 0, 1) := by decide +kernel
theorem dX6_shown_1 : decode cX6_shown 1 = .ok (.istore_n 1, 1) := by decide +kernel
theorem dX6_shown_2 : decode cX6_shown 2 = .ok (.iconst 0, 1) := by decide +kernel
theorem dX6_shown_3 : decode cX6_shown 3 = .ok (.istore_n 2, 1) := by decide +kernel
theorem dX6_shown_4 : decode cX6_shown 4 = .ok (.iload_n 2, 1) := by decide +kernel
theorem dX6_shown_5 : decode cX6_shown 5 = .ok (.bipush 12, 2) := by decide +kernel
theorem dX6_shown_7 : decode cX6_shown 7 = .ok (.if_icmp .ge 26, 3) := by decide +kernel
theorem dX6_shown_10 : decode cX6_shown 10 = .ok (.aload_n 0, 1) := by decide +kernel
theorem dX6_shown_11 : decode cX6_shown 11 = .ok (.getfield 19, 3) := by decide +kernel
theorem dX6_shown_14 : decode cX6_shown 14 = .ok (.iload_n 2, 1) := by decide +kernel
theorem dX6_shown_15 : decode cX6_shown 15 = .ok (.invokevirtual 209, 3) := by decide +kernel
theorem dX6_shown_18 : decode cX6_shown 18 = .ok (.ifCond .eq 9, 3) := by decide +kernel
theorem dX6_shown_21 : decode cX6_shown 21 = .ok (.iload_n 1, 1) := by decide +kernel
theorem dX6_shown_22 : decode cX6_shown 22 = .ok (.iconst 1, 1) := by decide +kernel
theorem dX6_shown_23 : decode cX6_shown 23 = .ok (.iload_n 2, 1) := by decide +kernel
theorem dX6_shown_24 : decode cX6_shown 24 = .ok (.ishl, 1) := by decide +kernel
theorem dX6_shown_25 : decode cX6_shown 25 = .ok (.ior, 1) := by decide +kernel
theorem dX6_shown_26 : decode cX6_shown 26 = .ok (.istore_n 1, 1) := by decide +kernel
theorem dX6_shown_27 : decode cX6_shown 27 = .ok (.iinc 2 1, 3) := by decide +kernel
theorem dX6_shown_30 : decode cX6_shown 30 = .ok (.goto (-26), 3) := by decide +kernel
theorem dX6_shown_33 : decode cX6_shown 33 = .ok (.iload_n 1, 1) := by decide +kernel
theorem dX6_shown_34 : decode cX6_shown 34 = .ok (.ireturn, 1) := by decide +kernel
set_option maxRecDepth 20000 in
theorem dX6_moved_0 : decode cX6_moved 0 = .ok (.iconst 0, 1) := by decide +kernel
theorem dX6_moved_1 : decode cX6_moved 1 = .ok (.istore_n 1, 1) := by decide +kernel
theorem dX6_moved_2 : decode cX6_moved 2 = .ok (.iconst 0, 1) := by decide +kernel
theorem dX6_moved_3 : decode cX6_moved 3 = .ok (.istore_n 2, 1) := by decide +kernel
theorem dX6_moved_4 : decode cX6_moved 4 = .ok (.iload_n 2, 1) := by decide +kernel
theorem dX6_moved_5 : decode cX6_moved 5 = .ok (.aload_n 0, 1) := by decide +kernel
theorem dX6_moved_6 : decode cX6_moved 6 = .ok (.getfield 19, 3) := by decide +kernel
theorem dX6_moved_9 : decode cX6_moved 9 = .ok (.getfield 61, 3) := by decide +kernel
theorem dX6_moved_12 : decode cX6_moved 12 = .ok (.getfield 65, 3) := by decide +kernel
theorem dX6_moved_15 : decode cX6_moved 15 = .ok (.if_icmp .ge 47, 3) := by decide +kernel
theorem dX6_moved_18 : decode cX6_moved 18 = .ok (.aload_n 0, 1) := by decide +kernel
theorem dX6_moved_19 : decode cX6_moved 19 = .ok (.getfield 19, 3) := by decide +kernel
theorem dX6_moved_22 : decode cX6_moved 22 = .ok (.aload_n 0, 1) := by decide +kernel
theorem dX6_moved_23 : decode cX6_moved 23 = .ok (.getfield 19, 3) := by decide +kernel
theorem dX6_moved_26 : decode cX6_moved 26 = .ok (.iconst 0, 1) := by decide +kernel
theorem dX6_moved_27 : decode cX6_moved 27 = .ok (.invokevirtual 93, 3) := by decide +kernel
theorem dX6_moved_30 : decode cX6_moved 30 = .ok (.iload_n 2, 1) := by decide +kernel
theorem dX6_moved_31 : decode cX6_moved 31 = .ok (.invokevirtual 175, 3) := by decide +kernel
theorem dX6_moved_34 : decode cX6_moved 34 = .ok (.aload_n 0, 1) := by decide +kernel
theorem dX6_moved_35 : decode cX6_moved 35 = .ok (.getfield 19, 3) := by decide +kernel
theorem dX6_moved_38 : decode cX6_moved 38 = .ok (.aload_n 0, 1) := by decide +kernel
theorem dX6_moved_39 : decode cX6_moved 39 = .ok (.getfield 19, 3) := by decide +kernel
theorem dX6_moved_42 : decode cX6_moved 42 = .ok (.iconst 1, 1) := by decide +kernel
theorem dX6_moved_43 : decode cX6_moved 43 = .ok (.invokevirtual 93, 3) := by decide +kernel
theorem dX6_moved_46 : decode cX6_moved 46 = .ok (.iload_n 2, 1) := by decide +kernel
theorem dX6_moved_47 : decode cX6_moved 47 = .ok (.invokevirtual 175, 3) := by decide +kernel
theorem dX6_moved_50 : decode cX6_moved 50 = .ok (.if_icmp .eq 6, 3) := by decide +kernel
theorem dX6_moved_53 : decode cX6_moved 53 = .ok (.iinc 1 1, 3) := by decide +kernel
theorem dX6_moved_56 : decode cX6_moved 56 = .ok (.iinc 2 1, 3) := by decide +kernel
theorem dX6_moved_59 : decode cX6_moved 59 = .ok (.goto (-55), 3) := by decide +kernel
theorem dX6_moved_62 : decode cX6_moved 62 = .ok (.iload_n 1, 1) := by decide +kernel
theorem dX6_moved_63 : decode cX6_moved 63 = .ok (.ireturn, 1) := by decide +kernel
set_option maxRecDepth 20000 in
theorem dX6_cuts_0 : decode cX6_cuts 0 = .ok (.iload_n 1, 1) := by decide +kernel
theorem dX6_cuts_1 : decode cX6_cuts 1 = .ok (.invokestatic 90, 3) := by decide +kernel
theorem dX6_cuts_4 : decode cX6_cuts 4 = .ok (.ifCond .ne 7, 3) := by decide +kernel
theorem dX6_cuts_7 : decode cX6_cuts 7 = .ok (.iconst 1, 1) := by decide +kernel
theorem dX6_cuts_8 : decode cX6_cuts 8 = .ok (.goto 4, 3) := by decide +kernel
theorem dX6_cuts_11 : decode cX6_cuts 11 = .ok (.iconst 0, 1) := by decide +kernel
theorem dX6_cuts_12 : decode cX6_cuts 12 = .ok (.iconst 0, 1) := by decide +kernel
theorem dX6_cuts_13 : decode cX6_cuts 13 = .ok (.iload_n 2, 1) := by decide +kernel
theorem dX6_cuts_14 : decode cX6_cuts 14 = .ok (.ifCond .ge 7, 3) := by decide +kernel
theorem dX6_cuts_17 : decode cX6_cuts 17 = .ok (.iconst 1, 1) := by decide +kernel
theorem dX6_cuts_18 : decode cX6_cuts 18 = .ok (.goto 4, 3) := by decide +kernel
theorem dX6_cuts_21 : decode cX6_cuts 21 = .ok (.iconst 0, 1) := by decide +kernel
theorem dX6_cuts_22 : decode cX6_cuts 22 = .ok (.iload_n 2, 1) := by decide +kernel
theorem dX6_cuts_23 : decode cX6_cuts 23 = .ok (.bipush 60, 2) := by decide +kernel
theorem dX6_cuts_25 : decode cX6_cuts 25 = .ok (.if_icmp .le 7, 3) := by decide +kernel
theorem dX6_cuts_28 : decode cX6_cuts 28 = .ok (.iconst 1, 1) := by decide +kernel
theorem dX6_cuts_29 : decode cX6_cuts 29 = .ok (.goto 4, 3) := by decide +kernel
theorem dX6_cuts_32 : decode cX6_cuts 32 = .ok (.iconst 0, 1) := by decide +kernel
theorem dX6_cuts_33 : decode cX6_cuts 33 = .ok (.invokestatic 45, 3) := by decide +kernel
theorem dX6_cuts_36 : decode cX6_cuts 36 = .ok (.istore_n 3, 1) := by decide +kernel
theorem dX6_cuts_37 : decode cX6_cuts 37 = .ok (.iload_n 3, 1) := by decide +kernel
theorem dX6_cuts_38 : decode cX6_cuts 38 = .ok (.ifCond .eq 9, 3) := by decide +kernel
theorem dX6_cuts_41 : decode cX6_cuts 41 = .ok (.aload_n 0, 1) := by decide +kernel
theorem dX6_cuts_42 : decode cX6_cuts 42 = .ok (.iload_n 3, 1) := by decide +kernel
theorem dX6_cuts_43 : decode cX6_cuts 43 = .ok (.invokevirtual 49, 3) := by decide +kernel
theorem dX6_cuts_46 : decode cX6_cuts 46 = .ok (.ireturn, 1) := by decide +kernel
theorem dX6_cuts_47 : decode cX6_cuts 47 = .ok (.aload_n 0, 1) := by decide +kernel
theorem dX6_cuts_48 : decode cX6_cuts 48 = .ok (.getfield 19, 3) := by decide +kernel
theorem dX6_cuts_51 : decode cX6_cuts 51 = .ok (.aload_n 0, 1) := by decide +kernel
theorem dX6_cuts_52 : decode cX6_cuts 52 = .ok (.getfield 19, 3) := by decide +kernel
theorem dX6_cuts_55 : decode cX6_cuts 55 = .ok (.iload_n 1, 1) := by decide +kernel
theorem dX6_cuts_56 : decode cX6_cuts 56 = .ok (.invokevirtual 93, 3) := by decide +kernel
theorem dX6_cuts_59 : decode cX6_cuts 59 = .ok (.iload_n 2, 1) := by decide +kernel
theorem dX6_cuts_60 : decode cX6_cuts 60 = .ok (.invokevirtual 221, 3) := by decide +kernel
theorem dX6_cuts_63 : decode cX6_cuts 63 = .ok (.ireturn, 1) := by decide +kernel
set_option maxRecDepth 20000 in
theorem dX6_image_0 : decode cX6_image 0 = .ok (.aload_n 0, 1) := by decide +kernel
theorem dX6_image_1 : decode cX6_image 1 = .ok (.getfield 23, 3) := by decide +kernel
theorem dX6_image_4 : decode cX6_image 4 = .ok (.aload_n 0, 1) := by decide +kernel
theorem dX6_image_5 : decode cX6_image 5 = .ok (.getfield 19, 3) := by decide +kernel
theorem dX6_image_8 : decode cX6_image 8 = .ok (.invokevirtual 224, 3) := by decide +kernel
theorem dX6_image_11 : decode cX6_image 11 = .ok (.aload_n 0, 1) := by decide +kernel
theorem dX6_image_12 : decode cX6_image 12 = .ok (.iconst 1, 1) := by decide +kernel
theorem dX6_image_13 : decode cX6_image 13 = .ok (.putfield 26, 3) := by decide +kernel
theorem dX6_image_16 : decode cX6_image 16 = .ok (.aload_n 0, 1) := by decide +kernel
theorem dX6_image_17 : decode cX6_image 17 = .ok (.getfield 23, 3) := by decide +kernel
theorem dX6_image_20 : decode cX6_image 20 = .ok (.getfield 61, 3) := by decide +kernel
theorem dX6_image_23 : decode cX6_image 23 = .ok (.getfield 65, 3) := by decide +kernel
theorem dX6_image_26 : decode cX6_image 26 = .ok (.ireturn, 1) := by decide +kernel
set_option maxRecDepth 20000 in
theorem dX6_on_0 : decode cX6_on 0 = .ok (.aload_n 0, 1) := by decide +kernel
theorem dX6_on_1 : decode cX6_on 1 = .ok (.getfield 26, 3) := by decide +kernel
theorem dX6_on_4 : decode cX6_on 4 = .ok (.ifCond .ne 10, 3) := by decide +kernel
theorem dX6_on_7 : decode cX6_on 7 = .ok (.aload_n 0, 1) := by decide +kernel
theorem dX6_on_8 : decode cX6_on 8 = .ok (.bipush (-3), 2) := by decide +kernel
theorem dX6_on_10 : decode cX6_on 10 = .ok (.invokevirtual 49, 3) := by decide +kernel
theorem dX6_on_13 : decode cX6_on 13 = .ok (.ireturn, 1) := by decide +kernel
theorem dX6_on_14 : decode cX6_on 14 = .ok (.aload_n 0, 1) := by decide +kernel
theorem dX6_on_15 : decode cX6_on 15 = .ok (.getfield 19, 3) := by decide +kernel
theorem dX6_on_18 : decode cX6_on 18 = .ok (.aload_n 0, 1) := by decide +kernel
theorem dX6_on_19 : decode cX6_on 19 = .ok (.getfield 23, 3) := by decide +kernel
theorem dX6_on_22 : decode cX6_on 22 = .ok (.invokevirtual 224, 3) := by decide +kernel
theorem dX6_on_25 : decode cX6_on 25 = .ok (.aload_n 0, 1) := by decide +kernel
theorem dX6_on_26 : decode cX6_on 26 = .ok (.getfield 19, 3) := by decide +kernel
theorem dX6_on_29 : decode cX6_on 29 = .ok (.getfield 61, 3) := by decide +kernel
theorem dX6_on_32 : decode cX6_on 32 = .ok (.getfield 65, 3) := by decide +kernel
theorem dX6_on_35 : decode cX6_on 35 = .ok (.ireturn, 1) := by decide +kernel
set_option maxRecDepth 20000 in
theorem dX6_count_0 : decode cX6_count 0 = .ok (.iload_n 1, 1) := by decide +kernel
theorem dX6_count_1 : decode cX6_count 1 = .ok (.bipush 10, 2) := by decide +kernel
theorem dX6_count_3 : decode cX6_count 3 = .ok (.if_icmp .le 21, 3) := by decide +kernel
theorem dX6_count_6 : decode cX6_count 6 = .ok (.iload_n 1, 1) := by decide +kernel
theorem dX6_count_7 : decode cX6_count 7 = .ok (.bipush 16, 2) := by decide +kernel
theorem dX6_count_9 : decode cX6_count 9 = .ok (.if_icmp .gt 15, 3) := by decide +kernel
theorem dX6_count_12 : decode cX6_count 12 = .ok (.aload_n 0, 1) := by decide +kernel
theorem dX6_count_13 : decode cX6_count 13 = .ok (.getfield 30, 3) := by decide +kernel
theorem dX6_count_16 : decode cX6_count 16 = .ok (.iload_n 1, 1) := by decide +kernel
theorem dX6_count_17 : decode cX6_count 17 = .ok (.bipush 10, 2) := by decide +kernel
theorem dX6_count_19 : decode cX6_count 19 = .ok (.isub, 1) := by decide +kernel
theorem dX6_count_20 : decode cX6_count 20 = .ok (.invokestatic 164, 3) := by decide +kernel
theorem dX6_count_23 : decode cX6_count 23 = .ok (.ireturn, 1) := by decide +kernel
theorem dX6_count_24 : decode cX6_count 24 = .ok (.iload_n 1, 1) := by decide +kernel
theorem dX6_count_25 : decode cX6_count 25 = .ok (.tableswitch 82 0 3 #[31, 42, 58, 74], 31) := by decide +kernel
theorem dX6_count_56 : decode cX6_count 56 = .ok (.aload_n 0, 1) := by decide +kernel
theorem dX6_count_57 : decode cX6_count 57 = .ok (.getfield 19, 3) := by decide +kernel
theorem dX6_count_60 : decode cX6_count 60 = .ok (.getfield 61, 3) := by decide +kernel
theorem dX6_count_63 : decode cX6_count 63 = .ok (.getfield 65, 3) := by decide +kernel
theorem dX6_count_66 : decode cX6_count 66 = .ok (.ireturn, 1) := by decide +kernel
theorem dX6_count_67 : decode cX6_count 67 = .ok (.aload_n 0, 1) := by decide +kernel
theorem dX6_count_68 : decode cX6_count 68 = .ok (.getfield 19, 3) := by decide +kernel
theorem dX6_count_71 : decode cX6_count 71 = .ok (.aload_n 0, 1) := by decide +kernel
theorem dX6_count_72 : decode cX6_count 72 = .ok (.getfield 19, 3) := by decide +kernel
theorem dX6_count_75 : decode cX6_count 75 = .ok (.iconst 0, 1) := by decide +kernel
theorem dX6_count_76 : decode cX6_count 76 = .ok (.invokevirtual 93, 3) := by decide +kernel
theorem dX6_count_79 : decode cX6_count 79 = .ok (.invokevirtual 228, 3) := by decide +kernel
theorem dX6_count_82 : decode cX6_count 82 = .ok (.ireturn, 1) := by decide +kernel
theorem dX6_count_83 : decode cX6_count 83 = .ok (.aload_n 0, 1) := by decide +kernel
theorem dX6_count_84 : decode cX6_count 84 = .ok (.getfield 19, 3) := by decide +kernel
theorem dX6_count_87 : decode cX6_count 87 = .ok (.aload_n 0, 1) := by decide +kernel
theorem dX6_count_88 : decode cX6_count 88 = .ok (.getfield 19, 3) := by decide +kernel
theorem dX6_count_91 : decode cX6_count 91 = .ok (.iconst 1, 1) := by decide +kernel
theorem dX6_count_92 : decode cX6_count 92 = .ok (.invokevirtual 93, 3) := by decide +kernel
theorem dX6_count_95 : decode cX6_count 95 = .ok (.invokevirtual 228, 3) := by decide +kernel
theorem dX6_count_98 : decode cX6_count 98 = .ok (.ireturn, 1) := by decide +kernel
theorem dX6_count_99 : decode cX6_count 99 = .ok (.aload_n 0, 1) := by decide +kernel
theorem dX6_count_100 : decode cX6_count 100 = .ok (.getfield 10, 3) := by decide +kernel
theorem dX6_count_103 : decode cX6_count 103 = .ok (.getfield 57, 3) := by decide +kernel
theorem dX6_count_106 : decode cX6_count 106 = .ok (.ireturn, 1) := by decide +kernel
theorem dX6_count_107 : decode cX6_count 107 = .ok (.bipush (-9), 2) := by decide +kernel
theorem dX6_count_109 : decode cX6_count 109 = .ok (.ireturn, 1) := by decide +kernel
theorem dX6_isMan_0 : decode cX6_isMan 0 = .ok (.iload_n 1, 1) := by decide +kernel
theorem dX6_isMan_1 : decode cX6_isMan 1 = .ok (.ifCond .lt 21, 3) := by decide +kernel
theorem dX6_isMan_4 : decode cX6_isMan 4 = .ok (.iload_n 1, 1) := by decide +kernel
theorem dX6_isMan_5 : decode cX6_isMan 5 = .ok (.aload_n 0, 1) := by decide +kernel
theorem dX6_isMan_6 : decode cX6_isMan 6 = .ok (.getfield 19, 3) := by decide +kernel
theorem dX6_isMan_9 : decode cX6_isMan 9 = .ok (.getfield 61, 3) := by decide +kernel
theorem dX6_isMan_12 : decode cX6_isMan 12 = .ok (.getfield 65, 3) := by decide +kernel
theorem dX6_isMan_15 : decode cX6_isMan 15 = .ok (.if_icmp .ge 7, 3) := by decide +kernel
theorem dX6_isMan_18 : decode cX6_isMan 18 = .ok (.iconst 1, 1) := by decide +kernel
theorem dX6_isMan_19 : decode cX6_isMan 19 = .ok (.goto 4, 3) := by decide +kernel
theorem dX6_isMan_22 : decode cX6_isMan 22 = .ok (.iconst 0, 1) := by decide +kernel
theorem dX6_isMan_23 : decode cX6_isMan 23 = .ok (.ireturn, 1) := by decide +kernel
theorem dX6_isJar_0 : decode cX6_isJar 0 = .ok (.iload_n 0, 1) := by decide +kernel
theorem dX6_isJar_1 : decode cX6_isJar 1 = .ok (.ifCond .eq 8, 3) := by decide +kernel
theorem dX6_isJar_4 : decode cX6_isJar 4 = .ok (.iload_n 0, 1) := by decide +kernel
theorem dX6_isJar_5 : decode cX6_isJar 5 = .ok (.iconst 1, 1) := by decide +kernel
theorem dX6_isJar_6 : decode cX6_isJar 6 = .ok (.if_icmp .ne 7, 3) := by decide +kernel
theorem dX6_isJar_9 : decode cX6_isJar 9 = .ok (.iconst 1, 1) := by decide +kernel
theorem dX6_isJar_10 : decode cX6_isJar 10 = .ok (.goto 4, 3) := by decide +kernel
theorem dX6_isJar_13 : decode cX6_isJar 13 = .ok (.iconst 0, 1) := by decide +kernel
theorem dX6_isJar_14 : decode cX6_isJar 14 = .ok (.ireturn, 1) := by decide +kernel
theorem dX6_isMonth_0 : decode cX6_isMonth 0 = .ok (.iload_n 0, 1) := by decide +kernel
theorem dX6_isMonth_1 : decode cX6_isMonth 1 = .ok (.ifCond .lt 13, 3) := by decide +kernel
theorem dX6_isMonth_4 : decode cX6_isMonth 4 = .ok (.iload_n 0, 1) := by decide +kernel
theorem dX6_isMonth_5 : decode cX6_isMonth 5 = .ok (.bipush 12, 2) := by decide +kernel
theorem dX6_isMonth_7 : decode cX6_isMonth 7 = .ok (.if_icmp .ge 7, 3) := by decide +kernel
theorem dX6_isMonth_10 : decode cX6_isMonth 10 = .ok (.iconst 1, 1) := by decide +kernel
theorem dX6_isMonth_11 : decode cX6_isMonth 11 = .ok (.goto 4, 3) := by decide +kernel
theorem dX6_isMonth_14 : decode cX6_isMonth 14 = .ok (.iconst 0, 1) := by decide +kernel
theorem dX6_isMonth_15 : decode cX6_isMonth 15 = .ok (.ireturn, 1) := by decide +kernel
theorem dX6_isPart_0 : decode cX6_isPart 0 = .ok (.iload_n 0, 1) := by decide +kernel
theorem dX6_isPart_1 : decode cX6_isPart 1 = .ok (.ifCond .eq 8, 3) := by decide +kernel
theorem dX6_isPart_4 : decode cX6_isPart 4 = .ok (.iload_n 0, 1) := by decide +kernel
theorem dX6_isPart_5 : decode cX6_isPart 5 = .ok (.iconst 1, 1) := by decide +kernel
theorem dX6_isPart_6 : decode cX6_isPart 6 = .ok (.if_icmp .ne 7, 3) := by decide +kernel
theorem dX6_isPart_9 : decode cX6_isPart 9 = .ok (.iconst 1, 1) := by decide +kernel
theorem dX6_isPart_10 : decode cX6_isPart 10 = .ok (.goto 4, 3) := by decide +kernel
theorem dX6_isPart_13 : decode cX6_isPart 13 = .ok (.iconst 0, 1) := by decide +kernel
theorem dX6_isPart_14 : decode cX6_isPart 14 = .ok (.ireturn, 1) := by decide +kernel
theorem dX6_firstThatFits_0 : decode cX6_firstThatFits 0 = .ok (.iload_n 0, 1) := by decide +kernel
theorem dX6_firstThatFits_1 : decode cX6_firstThatFits 1 = .ok (.ifCond .eq 5, 3) := by decide +kernel
theorem dX6_firstThatFits_4 : decode cX6_firstThatFits 4 = .ok (.iconst (-1), 1) := by decide +kernel
theorem dX6_firstThatFits_5 : decode cX6_firstThatFits 5 = .ok (.ireturn, 1) := by decide +kernel
theorem dX6_firstThatFits_6 : decode cX6_firstThatFits 6 = .ok (.iload_n 1, 1) := by decide +kernel
theorem dX6_firstThatFits_7 : decode cX6_firstThatFits 7 = .ok (.ifCond .eq 6, 3) := by decide +kernel
theorem dX6_firstThatFits_10 : decode cX6_firstThatFits 10 = .ok (.bipush (-2), 2) := by decide +kernel
theorem dX6_firstThatFits_12 : decode cX6_firstThatFits 12 = .ok (.ireturn, 1) := by decide +kernel
theorem dX6_firstThatFits_13 : decode cX6_firstThatFits 13 = .ok (.iload_n 2, 1) := by decide +kernel
theorem dX6_firstThatFits_14 : decode cX6_firstThatFits 14 = .ok (.ifCond .eq 6, 3) := by decide +kernel
theorem dX6_firstThatFits_17 : decode cX6_firstThatFits 17 = .ok (.bipush (-4), 2) := by decide +kernel
theorem dX6_firstThatFits_19 : decode cX6_firstThatFits 19 = .ok (.ireturn, 1) := by decide +kernel
theorem dX6_firstThatFits_20 : decode cX6_firstThatFits 20 = .ok (.iload_n 3, 1) := by decide +kernel
theorem dX6_firstThatFits_21 : decode cX6_firstThatFits 21 = .ok (.ifCond .eq 8, 3) := by decide +kernel
theorem dX6_firstThatFits_24 : decode cX6_firstThatFits 24 = .ok (.bipush (-6), 2) := by decide +kernel
theorem dX6_firstThatFits_26 : decode cX6_firstThatFits 26 = .ok (.goto 4, 3) := by decide +kernel
theorem dX6_firstThatFits_29 : decode cX6_firstThatFits 29 = .ok (.iconst 0, 1) := by decide +kernel
theorem dX6_firstThatFits_30 : decode cX6_firstThatFits 30 = .ok (.ireturn, 1) := by decide +kernel
set_option maxRecDepth 20000 in
theorem dX6_refuse_0 : decode cX6_refuse 0 = .ok (.aload_n 0, 1) := by decide +kernel
theorem dX6_refuse_1 : decode cX6_refuse 1 = .ok (.getfield 30, 3) := by decide +kernel
theorem dX6_refuse_4 : decode cX6_refuse 4 = .ok (.iload_n 1, 1) := by decide +kernel
theorem dX6_refuse_5 : decode cX6_refuse 5 = .ok (.ineg, 1) := by decide +kernel
theorem dX6_refuse_6 : decode cX6_refuse 6 = .ok (.aload_n 0, 1) := by decide +kernel
theorem dX6_refuse_7 : decode cX6_refuse 7 = .ok (.getfield 30, 3) := by decide +kernel
theorem dX6_refuse_10 : decode cX6_refuse 10 = .ok (.iload_n 1, 1) := by decide +kernel
theorem dX6_refuse_11 : decode cX6_refuse 11 = .ok (.ineg, 1) := by decide +kernel
theorem dX6_refuse_12 : decode cX6_refuse 12 = .ok (.invokestatic 164, 3) := by decide +kernel
theorem dX6_refuse_15 : decode cX6_refuse 15 = .ok (.iconst 1, 1) := by decide +kernel
theorem dX6_refuse_16 : decode cX6_refuse 16 = .ok (.iadd, 1) := by decide +kernel
theorem dX6_refuse_17 : decode cX6_refuse 17 = .ok (.invokestatic 171, 3) := by decide +kernel
theorem dX6_refuse_20 : decode cX6_refuse 20 = .ok (.iload_n 1, 1) := by decide +kernel
theorem dX6_refuse_21 : decode cX6_refuse 21 = .ok (.ireturn, 1) := by decide +kernel
set_option maxRecDepth 20000 in
theorem dX6_refuseLong_0 : decode cX6_refuseLong 0 = .ok (.ldc2_w 232, 3) := by decide +kernel
theorem dX6_refuseLong_3 : decode cX6_refuseLong 3 = .ok (.aload_n 0, 1) := by decide +kernel
theorem dX6_refuseLong_4 : decode cX6_refuseLong 4 = .ok (.iload_n 1, 1) := by decide +kernel
theorem dX6_refuseLong_5 : decode cX6_refuseLong 5 = .ok (.invokevirtual 49, 3) := by decide +kernel
theorem dX6_refuseLong_8 : decode cX6_refuseLong 8 = .ok (.i2l, 1) := by decide +kernel
theorem dX6_refuseLong_9 : decode cX6_refuseLong 9 = .ok (.lsub, 1) := by decide +kernel
theorem dX6_refuseLong_10 : decode cX6_refuseLong 10 = .ok (.lreturn, 1) := by decide +kernel
set_option maxRecDepth 20000 in
theorem dX6_partOrNone_0 : decode cX6_partOrNone 0 = .ok (.iload_n 1, 1) := by decide +kernel
theorem dX6_partOrNone_1 : decode cX6_partOrNone 1 = .ok (.ifCond .eq 14, 3) := by decide +kernel
theorem dX6_partOrNone_4 : decode cX6_partOrNone 4 = .ok (.aload_n 0, 1) := by decide +kernel
theorem dX6_partOrNone_5 : decode cX6_partOrNone 5 = .ok (.getfield 37, 3) := by decide +kernel
theorem dX6_partOrNone_8 : decode cX6_partOrNone 8 = .ok (.iload_n 2, 1) := by decide +kernel
theorem dX6_partOrNone_9 : decode cX6_partOrNone 9 = .ok (.invokevirtual 133, 3) := by decide +kernel
theorem dX6_partOrNone_12 : decode cX6_partOrNone 12 = .ok (.goto 9, 3) := by decide +kernel
theorem dX6_partOrNone_15 : decode cX6_partOrNone 15 = .ok (.aload_n 0, 1) := by decide +kernel
theorem dX6_partOrNone_16 : decode cX6_partOrNone 16 = .ok (.bipush (-3), 2) := by decide +kernel
theorem dX6_partOrNone_18 : decode cX6_partOrNone 18 = .ok (.invokevirtual 119, 3) := by decide +kernel
theorem dX6_partOrNone_21 : decode cX6_partOrNone 21 = .ok (.lreturn, 1) := by decide +kernel
theorem dX6_at_0 : decode cX6_at 0 = .ok (.iload_n 1, 1) := by decide +kernel
theorem dX6_at_1 : decode cX6_at 1 = .ok (.ifCond .lt 15, 3) := by decide +kernel
theorem dX6_at_4 : decode cX6_at 4 = .ok (.iload_n 1, 1) := by decide +kernel
theorem dX6_at_5 : decode cX6_at 5 = .ok (.aload_n 0, 1) := by decide +kernel
theorem dX6_at_6 : decode cX6_at 6 = .ok (.arraylength, 1) := by decide +kernel
theorem dX6_at_7 : decode cX6_at 7 = .ok (.if_icmp .ge 9, 3) := by decide +kernel
theorem dX6_at_10 : decode cX6_at 10 = .ok (.aload_n 0, 1) := by decide +kernel
theorem dX6_at_11 : decode cX6_at 11 = .ok (.iload_n 1, 1) := by decide +kernel
theorem dX6_at_12 : decode cX6_at 12 = .ok (.iaload, 1) := by decide +kernel
theorem dX6_at_13 : decode cX6_at 13 = .ok (.goto 4, 3) := by decide +kernel
theorem dX6_at_16 : decode cX6_at 16 = .ok (.iconst 0, 1) := by decide +kernel
theorem dX6_at_17 : decode cX6_at 17 = .ok (.ireturn, 1) := by decide +kernel
theorem dX6_put_0 : decode cX6_put 0 = .ok (.iload_n 1, 1) := by decide +kernel
theorem dX6_put_1 : decode cX6_put 1 = .ok (.ifCond .lt 13, 3) := by decide +kernel
theorem dX6_put_4 : decode cX6_put 4 = .ok (.iload_n 1, 1) := by decide +kernel
theorem dX6_put_5 : decode cX6_put 5 = .ok (.aload_n 0, 1) := by decide +kernel
theorem dX6_put_6 : decode cX6_put 6 = .ok (.arraylength, 1) := by decide +kernel
theorem dX6_put_7 : decode cX6_put 7 = .ok (.if_icmp .ge 7, 3) := by decide +kernel
theorem dX6_put_10 : decode cX6_put 10 = .ok (.aload_n 0, 1) := by decide +kernel
theorem dX6_put_11 : decode cX6_put 11 = .ok (.iload_n 1, 1) := by decide +kernel
theorem dX6_put_12 : decode cX6_put 12 = .ok (.iload_n 2, 1) := by decide +kernel
theorem dX6_put_13 : decode cX6_put 13 = .ok (.iastore, 1) := by decide +kernel
theorem dX6_put_14 : decode cX6_put 14 = .ok (.return_, 1) := by decide +kernel
theorem dX6_copyRow_0 : decode cX6_copyRow 0 = .ok (.aload_n 0, 1) := by decide +kernel
theorem dX6_copyRow_1 : decode cX6_copyRow 1 = .ok (.iconst 0, 1) := by decide +kernel
theorem dX6_copyRow_2 : decode cX6_copyRow 2 = .ok (.aload_n 1, 1) := by decide +kernel
theorem dX6_copyRow_3 : decode cX6_copyRow 3 = .ok (.iconst 0, 1) := by decide +kernel
theorem dX6_copyRow_4 : decode cX6_copyRow 4 = .ok (.aload_n 0, 1) := by decide +kernel
theorem dX6_copyRow_5 : decode cX6_copyRow 5 = .ok (.arraylength, 1) := by decide +kernel
theorem dX6_copyRow_6 : decode cX6_copyRow 6 = .ok (.aload_n 1, 1) := by decide +kernel
theorem dX6_copyRow_7 : decode cX6_copyRow 7 = .ok (.arraylength, 1) := by decide +kernel
theorem dX6_copyRow_8 : decode cX6_copyRow 8 = .ok (.invokestatic 234, 3) := by decide +kernel
theorem dX6_copyRow_11 : decode cX6_copyRow 11 = .ok (.invokestatic 240, 3) := by decide +kernel
theorem dX6_copyRow_14 : decode cX6_copyRow 14 = .ok (.return_, 1) := by decide +kernel
set_option maxRecDepth 20000 in
theorem dX6_monthLength_0 : decode cX6_monthLength 0 = .ok (.getstatic 246, 3) := by decide +kernel
theorem dX6_monthLength_3 : decode cX6_monthLength 3 = .ok (.iload_n 0, 1) := by decide +kernel
theorem dX6_monthLength_4 : decode cX6_monthLength 4 = .ok (.iconst 1, 1) := by decide +kernel
theorem dX6_monthLength_5 : decode cX6_monthLength 5 = .ok (.iadd, 1) := by decide +kernel
theorem dX6_monthLength_6 : decode cX6_monthLength 6 = .ok (.invokestatic 164, 3) := by decide +kernel
theorem dX6_monthLength_9 : decode cX6_monthLength 9 = .ok (.getstatic 246, 3) := by decide +kernel
theorem dX6_monthLength_12 : decode cX6_monthLength 12 = .ok (.iload_n 0, 1) := by decide +kernel
theorem dX6_monthLength_13 : decode cX6_monthLength 13 = .ok (.invokestatic 164, 3) := by decide +kernel
theorem dX6_monthLength_16 : decode cX6_monthLength 16 = .ok (.isub, 1) := by decide +kernel
theorem dX6_monthLength_17 : decode cX6_monthLength 17 = .ok (.ireturn, 1) := by decide +kernel
set_option maxRecDepth 20000 in
theorem dX6_monthOf_0 : decode cX6_monthOf 0 = .ok (.iconst 0, 1) := by decide +kernel
theorem dX6_monthOf_1 : decode cX6_monthOf 1 = .ok (.istore_n 1, 1) := by decide +kernel
theorem dX6_monthOf_2 : decode cX6_monthOf 2 = .ok (.iload_n 1, 1) := by decide +kernel
theorem dX6_monthOf_3 : decode cX6_monthOf 3 = .ok (.bipush 11, 2) := by decide +kernel
theorem dX6_monthOf_5 : decode cX6_monthOf 5 = .ok (.if_icmp .ge 22, 3) := by decide +kernel
theorem dX6_monthOf_8 : decode cX6_monthOf 8 = .ok (.iload_n 0, 1) := by decide +kernel
theorem dX6_monthOf_9 : decode cX6_monthOf 9 = .ok (.getstatic 246, 3) := by decide +kernel
theorem dX6_monthOf_12 : decode cX6_monthOf 12 = .ok (.iload_n 1, 1) := by decide +kernel
theorem dX6_monthOf_13 : decode cX6_monthOf 13 = .ok (.iconst 1, 1) := by decide +kernel
theorem dX6_monthOf_14 : decode cX6_monthOf 14 = .ok (.iadd, 1) := by decide +kernel
theorem dX6_monthOf_15 : decode cX6_monthOf 15 = .ok (.invokestatic 164, 3) := by decide +kernel
theorem dX6_monthOf_18 : decode cX6_monthOf 18 = .ok (.if_icmp .lt 9, 3) := by decide +kernel
theorem dX6_monthOf_21 : decode cX6_monthOf 21 = .ok (.iinc 1 1, 3) := by decide +kernel
theorem dX6_monthOf_24 : decode cX6_monthOf 24 = .ok (.goto (-22), 3) := by decide +kernel
theorem dX6_monthOf_27 : decode cX6_monthOf 27 = .ok (.iload_n 1, 1) := by decide +kernel
theorem dX6_monthOf_28 : decode cX6_monthOf 28 = .ok (.ireturn, 1) := by decide +kernel
theorem dX7_init_0 : decode cX7_init 0 = .ok (.aload_n 0, 1) := by decide +kernel
theorem dX7_init_1 : decode cX7_init 1 = .ok (.invokespecial 1, 3) := by decide +kernel
theorem dX7_init_4 : decode cX7_init 4 = .ok (.aload_n 0, 1) := by decide +kernel
theorem dX7_init_5 : decode cX7_init 5 = .ok (.bipush 7, 2) := by decide +kernel
theorem dX7_init_7 : decode cX7_init 7 = .ok (.newarray .int, 2) := by decide +kernel
theorem dX7_init_9 : decode cX7_init 9 = .ok (.putfield 7, 3) := by decide +kernel
theorem dX7_init_12 : decode cX7_init 12 = .ok (.aload_n 0, 1) := by decide +kernel
theorem dX7_init_13 : decode cX7_init 13 = .ok (.iconst 2, 1) := by decide +kernel
theorem dX7_init_14 : decode cX7_init 14 = .ok (.newarray .int, 2) := by decide +kernel
theorem dX7_init_16 : decode cX7_init 16 = .ok (.dup, 1) := by decide +kernel
theorem dX7_init_17 : decode cX7_init 17 = .ok (.iconst 0, 1) := by decide +kernel
theorem dX7_init_18 : decode cX7_init 18 = .ok (.iconst 1, 1) := by decide +kernel
theorem dX7_init_19 : decode cX7_init 19 = .ok (.iastore, 1) := by decide +kernel
theorem dX7_init_20 : decode cX7_init 20 = .ok (.dup, 1) := by decide +kernel
theorem dX7_init_21 : decode cX7_init 21 = .ok (.iconst 1, 1) := by decide +kernel
theorem dX7_init_22 : decode cX7_init 22 = .ok (.iconst 1, 1) := by decide +kernel
theorem dX7_init_23 : decode cX7_init 23 = .ok (.iastore, 1) := by decide +kernel
theorem dX7_init_24 : decode cX7_init 24 = .ok (.putfield 13, 3) := by decide +kernel
theorem dX7_init_27 : decode cX7_init 27 = .ok (.aload_n 0, 1) := by decide +kernel
theorem dX7_init_28 : decode cX7_init 28 = .ok (.iconst 2, 1) := by decide +kernel
theorem dX7_init_29 : decode cX7_init 29 = .ok (.newarray .int, 2) := by decide +kernel
theorem dX7_init_31 : decode cX7_init 31 = .ok (.dup, 1) := by decide +kernel
theorem dX7_init_32 : decode cX7_init 32 = .ok (.iconst 0, 1) := by decide +kernel
theorem dX7_init_33 : decode cX7_init 33 = .ok (.bipush 100, 2) := by decide +kernel
theorem dX7_init_35 : decode cX7_init 35 = .ok (.iastore, 1) := by decide +kernel
theorem dX7_init_36 : decode cX7_init 36 = .ok (.dup, 1) := by decide +kernel
theorem dX7_init_37 : decode cX7_init 37 = .ok (.iconst 1, 1) := by decide +kernel
theorem dX7_init_38 : decode cX7_init 38 = .ok (.bipush 100, 2) := by decide +kernel
theorem dX7_init_40 : decode cX7_init 40 = .ok (.iastore, 1) := by decide +kernel
theorem dX7_init_41 : decode cX7_init 41 = .ok (.putfield 16, 3) := by decide +kernel
theorem dX7_init_44 : decode cX7_init 44 = .ok (.aload_n 0, 1) := by decide +kernel
theorem dX7_init_45 : decode cX7_init 45 = .ok (.iconst 2, 1) := by decide +kernel
theorem dX7_init_46 : decode cX7_init 46 = .ok (.newarray .int, 2) := by decide +kernel
theorem dX7_init_48 : decode cX7_init 48 = .ok (.dup, 1) := by decide +kernel
theorem dX7_init_49 : decode cX7_init 49 = .ok (.iconst 0, 1) := by decide +kernel
theorem dX7_init_50 : decode cX7_init 50 = .ok (.bipush 20, 2) := by decide +kernel
theorem dX7_init_52 : decode cX7_init 52 = .ok (.iastore, 1) := by decide +kernel
theorem dX7_init_53 : decode cX7_init 53 = .ok (.dup, 1) := by decide +kernel
theorem dX7_init_54 : decode cX7_init 54 = .ok (.iconst 1, 1) := by decide +kernel
theorem dX7_init_55 : decode cX7_init 55 = .ok (.bipush 20, 2) := by decide +kernel
theorem dX7_init_57 : decode cX7_init 57 = .ok (.iastore, 1) := by decide +kernel
theorem dX7_init_58 : decode cX7_init 58 = .ok (.putfield 19, 3) := by decide +kernel
theorem dX7_init_61 : decode cX7_init 61 = .ok (.aload_n 0, 1) := by decide +kernel
theorem dX7_init_62 : decode cX7_init 62 = .ok (.iconst 2, 1) := by decide +kernel
theorem dX7_init_63 : decode cX7_init 63 = .ok (.newarray .int, 2) := by decide +kernel
theorem dX7_init_65 : decode cX7_init 65 = .ok (.dup, 1) := by decide +kernel
theorem dX7_init_66 : decode cX7_init 66 = .ok (.iconst 0, 1) := by decide +kernel
theorem dX7_init_67 : decode cX7_init 67 = .ok (.iconst 1, 1) := by decide +kernel
theorem dX7_init_68 : decode cX7_init 68 = .ok (.iastore, 1) := by decide +kernel
theorem dX7_init_69 : decode cX7_init 69 = .ok (.dup, 1) := by decide +kernel
theorem dX7_init_70 : decode cX7_init 70 = .ok (.iconst 1, 1) := by decide +kernel
theorem dX7_init_71 : decode cX7_init 71 = .ok (.iconst 1, 1) := by decide +kernel
theorem dX7_init_72 : decode cX7_init 72 = .ok (.iastore, 1) := by decide +kernel
theorem dX7_init_73 : decode cX7_init 73 = .ok (.putfield 22, 3) := by decide +kernel
theorem dX7_init_76 : decode cX7_init 76 = .ok (.aload_n 0, 1) := by decide +kernel
theorem dX7_init_77 : decode cX7_init 77 = .ok (.iconst 2, 1) := by decide +kernel
theorem dX7_init_78 : decode cX7_init 78 = .ok (.newarray .int, 2) := by decide +kernel
theorem dX7_init_80 : decode cX7_init 80 = .ok (.dup, 1) := by decide +kernel
theorem dX7_init_81 : decode cX7_init 81 = .ok (.iconst 0, 1) := by decide +kernel
theorem dX7_init_82 : decode cX7_init 82 = .ok (.iconst 1, 1) := by decide +kernel
theorem dX7_init_83 : decode cX7_init 83 = .ok (.iastore, 1) := by decide +kernel
theorem dX7_init_84 : decode cX7_init 84 = .ok (.dup, 1) := by decide +kernel
theorem dX7_init_85 : decode cX7_init 85 = .ok (.iconst 1, 1) := by decide +kernel
theorem dX7_init_86 : decode cX7_init 86 = .ok (.iconst 1, 1) := by decide +kernel
theorem dX7_init_87 : decode cX7_init 87 = .ok (.iastore, 1) := by decide +kernel
theorem dX7_init_88 : decode cX7_init 88 = .ok (.putfield 25, 3) := by decide +kernel
theorem dX7_init_91 : decode cX7_init 91 = .ok (.aload_n 0, 1) := by decide +kernel
theorem dX7_init_92 : decode cX7_init 92 = .ok (.sipush 732, 3) := by decide +kernel
theorem dX7_init_95 : decode cX7_init 95 = .ok (.newarray .int, 2) := by decide +kernel
theorem dX7_init_97 : decode cX7_init 97 = .ok (.putfield 28, 3) := by decide +kernel
theorem dX7_init_100 : decode cX7_init 100 = .ok (.aload_n 0, 1) := by decide +kernel
theorem dX7_init_101 : decode cX7_init 101 = .ok (.sipush 366, 3) := by decide +kernel
theorem dX7_init_104 : decode cX7_init 104 = .ok (.newarray .int, 2) := by decide +kernel
theorem dX7_init_106 : decode cX7_init 106 = .ok (.putfield 31, 3) := by decide +kernel
theorem dX7_init_109 : decode cX7_init 109 = .ok (.aload_n 0, 1) := by decide +kernel
theorem dX7_init_110 : decode cX7_init 110 = .ok (.bipush 12, 2) := by decide +kernel
theorem dX7_init_112 : decode cX7_init 112 = .ok (.newarray .int, 2) := by decide +kernel
theorem dX7_init_114 : decode cX7_init 114 = .ok (.dup, 1) := by decide +kernel
theorem dX7_init_115 : decode cX7_init 115 = .ok (.iconst 0, 1) := by decide +kernel
theorem dX7_init_116 : decode cX7_init 116 = .ok (.bipush 31, 2) := by decide +kernel
theorem dX7_init_118 : decode cX7_init 118 = .ok (.iastore, 1) := by decide +kernel
theorem dX7_init_119 : decode cX7_init 119 = .ok (.dup, 1) := by decide +kernel
theorem dX7_init_120 : decode cX7_init 120 = .ok (.iconst 1, 1) := by decide +kernel
theorem dX7_init_121 : decode cX7_init 121 = .ok (.bipush 29, 2) := by decide +kernel
theorem dX7_init_123 : decode cX7_init 123 = .ok (.iastore, 1) := by decide +kernel
theorem dX7_init_124 : decode cX7_init 124 = .ok (.dup, 1) := by decide +kernel
theorem dX7_init_125 : decode cX7_init 125 = .ok (.iconst 2, 1) := by decide +kernel
theorem dX7_init_126 : decode cX7_init 126 = .ok (.bipush 31, 2) := by decide +kernel
theorem dX7_init_128 : decode cX7_init 128 = .ok (.iastore, 1) := by decide +kernel
theorem dX7_init_129 : decode cX7_init 129 = .ok (.dup, 1) := by decide +kernel
theorem dX7_init_130 : decode cX7_init 130 = .ok (.iconst 3, 1) := by decide +kernel
theorem dX7_init_131 : decode cX7_init 131 = .ok (.bipush 30, 2) := by decide +kernel
theorem dX7_init_133 : decode cX7_init 133 = .ok (.iastore, 1) := by decide +kernel
theorem dX7_init_134 : decode cX7_init 134 = .ok (.dup, 1) := by decide +kernel
theorem dX7_init_135 : decode cX7_init 135 = .ok (.iconst 4, 1) := by decide +kernel
theorem dX7_init_136 : decode cX7_init 136 = .ok (.bipush 31, 2) := by decide +kernel
theorem dX7_init_138 : decode cX7_init 138 = .ok (.iastore, 1) := by decide +kernel
theorem dX7_init_139 : decode cX7_init 139 = .ok (.dup, 1) := by decide +kernel
theorem dX7_init_140 : decode cX7_init 140 = .ok (.iconst 5, 1) := by decide +kernel
theorem dX7_init_141 : decode cX7_init 141 = .ok (.bipush 30, 2) := by decide +kernel
theorem dX7_init_143 : decode cX7_init 143 = .ok (.iastore, 1) := by decide +kernel
theorem dX7_init_144 : decode cX7_init 144 = .ok (.dup, 1) := by decide +kernel
theorem dX7_init_145 : decode cX7_init 145 = .ok (.bipush 6, 2) := by decide +kernel
theorem dX7_init_147 : decode cX7_init 147 = .ok (.bipush 31, 2) := by decide +kernel
theorem dX7_init_149 : decode cX7_init 149 = .ok (.iastore, 1) := by decide +kernel
theorem dX7_init_150 : decode cX7_init 150 = .ok (.dup, 1) := by decide +kernel
theorem dX7_init_151 : decode cX7_init 151 = .ok (.bipush 7, 2) := by decide +kernel
theorem dX7_init_153 : decode cX7_init 153 = .ok (.bipush 31, 2) := by decide +kernel
theorem dX7_init_155 : decode cX7_init 155 = .ok (.iastore, 1) := by decide +kernel
theorem dX7_init_156 : decode cX7_init 156 = .ok (.dup, 1) := by decide +kernel
theorem dX7_init_157 : decode cX7_init 157 = .ok (.bipush 8, 2) := by decide +kernel
theorem dX7_init_159 : decode cX7_init 159 = .ok (.bipush 30, 2) := by decide +kernel
theorem dX7_init_161 : decode cX7_init 161 = .ok (.iastore, 1) := by decide +kernel
theorem dX7_init_162 : decode cX7_init 162 = .ok (.dup, 1) := by decide +kernel
theorem dX7_init_163 : decode cX7_init 163 = .ok (.bipush 9, 2) := by decide +kernel
theorem dX7_init_165 : decode cX7_init 165 = .ok (.bipush 31, 2) := by decide +kernel
theorem dX7_init_167 : decode cX7_init 167 = .ok (.iastore, 1) := by decide +kernel
theorem dX7_init_168 : decode cX7_init 168 = .ok (.dup, 1) := by decide +kernel
theorem dX7_init_169 : decode cX7_init 169 = .ok (.bipush 10, 2) := by decide +kernel
theorem dX7_init_171 : decode cX7_init 171 = .ok (.bipush 30, 2) := by decide +kernel
theorem dX7_init_173 : decode cX7_init 173 = .ok (.iastore, 1) := by decide +kernel
theorem dX7_init_174 : decode cX7_init 174 = .ok (.dup, 1) := by decide +kernel
theorem dX7_init_175 : decode cX7_init 175 = .ok (.bipush 11, 2) := by decide +kernel
theorem dX7_init_177 : decode cX7_init 177 = .ok (.bipush 31, 2) := by decide +kernel
theorem dX7_init_179 : decode cX7_init 179 = .ok (.iastore, 1) := by decide +kernel
theorem dX7_init_180 : decode cX7_init 180 = .ok (.putfield 34, 3) := by decide +kernel
theorem dX7_init_183 : decode cX7_init 183 = .ok (.aload_n 0, 1) := by decide +kernel
theorem dX7_init_184 : decode cX7_init 184 = .ok (.iconst 2, 1) := by decide +kernel
theorem dX7_init_185 : decode cX7_init 185 = .ok (.newarray .boolean, 2) := by decide +kernel
theorem dX7_init_187 : decode cX7_init 187 = .ok (.putfield 37, 3) := by decide +kernel
theorem dX7_init_190 : decode cX7_init 190 = .ok (.aload_n 0, 1) := by decide +kernel
theorem dX7_init_191 : decode cX7_init 191 = .ok (.bipush 14, 2) := by decide +kernel
theorem dX7_init_193 : decode cX7_init 193 = .ok (.newarray .int, 2) := by decide +kernel
theorem dX7_init_195 : decode cX7_init 195 = .ok (.putfield 41, 3) := by decide +kernel
theorem dX7_init_198 : decode cX7_init 198 = .ok (.aload_n 0, 1) := by decide +kernel
theorem dX7_init_199 : decode cX7_init 199 = .ok (.bipush 60, 2) := by decide +kernel
theorem dX7_init_201 : decode cX7_init 201 = .ok (.newarray .int, 2) := by decide +kernel
theorem dX7_init_203 : decode cX7_init 203 = .ok (.putfield 44, 3) := by decide +kernel
theorem dX7_init_206 : decode cX7_init 206 = .ok (.aload_n 0, 1) := by decide +kernel
theorem dX7_init_207 : decode cX7_init 207 = .ok (.bipush 60, 2) := by decide +kernel
theorem dX7_init_209 : decode cX7_init 209 = .ok (.newarray .int, 2) := by decide +kernel
theorem dX7_init_211 : decode cX7_init 211 = .ok (.putfield 47, 3) := by decide +kernel
theorem dX7_init_214 : decode cX7_init 214 = .ok (.aload_n 0, 1) := by decide +kernel
theorem dX7_init_215 : decode cX7_init 215 = .ok (.bipush 60, 2) := by decide +kernel
theorem dX7_init_217 : decode cX7_init 217 = .ok (.newarray .int, 2) := by decide +kernel
theorem dX7_init_219 : decode cX7_init 219 = .ok (.putfield 50, 3) := by decide +kernel
theorem dX7_init_222 : decode cX7_init 222 = .ok (.aload_n 0, 1) := by decide +kernel
theorem dX7_init_223 : decode cX7_init 223 = .ok (.iconst 5, 1) := by decide +kernel
theorem dX7_init_224 : decode cX7_init 224 = .ok (.newarray .int, 2) := by decide +kernel
theorem dX7_init_226 : decode cX7_init 226 = .ok (.dup, 1) := by decide +kernel
theorem dX7_init_227 : decode cX7_init 227 = .ok (.iconst 0, 1) := by decide +kernel
theorem dX7_init_228 : decode cX7_init 228 = .ok (.bipush 10, 2) := by decide +kernel
theorem dX7_init_230 : decode cX7_init 230 = .ok (.iastore, 1) := by decide +kernel
theorem dX7_init_231 : decode cX7_init 231 = .ok (.dup, 1) := by decide +kernel
theorem dX7_init_232 : decode cX7_init 232 = .ok (.iconst 1, 1) := by decide +kernel
theorem dX7_init_233 : decode cX7_init 233 = .ok (.sipush 150, 3) := by decide +kernel
theorem dX7_init_236 : decode cX7_init 236 = .ok (.iastore, 1) := by decide +kernel
theorem dX7_init_237 : decode cX7_init 237 = .ok (.dup, 1) := by decide +kernel
theorem dX7_init_238 : decode cX7_init 238 = .ok (.iconst 2, 1) := by decide +kernel
theorem dX7_init_239 : decode cX7_init 239 = .ok (.iconst 5, 1) := by decide +kernel
theorem dX7_init_240 : decode cX7_init 240 = .ok (.iastore, 1) := by decide +kernel
theorem dX7_init_241 : decode cX7_init 241 = .ok (.dup, 1) := by decide +kernel
theorem dX7_init_242 : decode cX7_init 242 = .ok (.iconst 3, 1) := by decide +kernel
theorem dX7_init_243 : decode cX7_init 243 = .ok (.bipush 80, 2) := by decide +kernel
theorem dX7_init_245 : decode cX7_init 245 = .ok (.iastore, 1) := by decide +kernel
theorem dX7_init_246 : decode cX7_init 246 = .ok (.dup, 1) := by decide +kernel
theorem dX7_init_247 : decode cX7_init 247 = .ok (.iconst 4, 1) := by decide +kernel
theorem dX7_init_248 : decode cX7_init 248 = .ok (.iconst 0, 1) := by decide +kernel
theorem dX7_init_249 : decode cX7_init 249 = .ok (.iastore, 1) := by decide +kernel
theorem dX7_init_250 : decode cX7_init 250 = .ok (.putfield 53, 3) := by decide +kernel
theorem dX7_init_253 : decode cX7_init 253 = .ok (.aload_n 0, 1) := by decide +kernel
theorem dX7_init_254 : decode cX7_init 254 = .ok (.iconst 5, 1) := by decide +kernel
theorem dX7_init_255 : decode cX7_init 255 = .ok (.newarray .int, 2) := by decide +kernel
theorem dX7_init_257 : decode cX7_init 257 = .ok (.dup, 1) := by decide +kernel
theorem dX7_init_258 : decode cX7_init 258 = .ok (.iconst 0, 1) := by decide +kernel
theorem dX7_init_259 : decode cX7_init 259 = .ok (.bipush 99, 2) := by decide +kernel
theorem dX7_init_261 : decode cX7_init 261 = .ok (.iastore, 1) := by decide +kernel
theorem dX7_init_262 : decode cX7_init 262 = .ok (.dup, 1) := by decide +kernel
theorem dX7_init_263 : decode cX7_init 263 = .ok (.iconst 1, 1) := by decide +kernel
theorem dX7_init_264 : decode cX7_init 264 = .ok (.sipush 999, 3) := by decide +kernel
theorem dX7_init_267 : decode cX7_init 267 = .ok (.iastore, 1) := by decide +kernel
theorem dX7_init_268 : decode cX7_init 268 = .ok (.dup, 1) := by decide +kernel
theorem dX7_init_269 : decode cX7_init 269 = .ok (.iconst 2, 1) := by decide +kernel
theorem dX7_init_270 : decode cX7_init 270 = .ok (.bipush 100, 2) := by decide +kernel
theorem dX7_init_272 : decode cX7_init 272 = .ok (.iastore, 1) := by decide +kernel
theorem dX7_init_273 : decode cX7_init 273 = .ok (.dup, 1) := by decide +kernel
theorem dX7_init_274 : decode cX7_init 274 = .ok (.iconst 3, 1) := by decide +kernel
theorem dX7_init_275 : decode cX7_init 275 = .ok (.sipush 999, 3) := by decide +kernel
theorem dX7_init_278 : decode cX7_init 278 = .ok (.iastore, 1) := by decide +kernel
theorem dX7_init_279 : decode cX7_init 279 = .ok (.dup, 1) := by decide +kernel
theorem dX7_init_280 : decode cX7_init 280 = .ok (.iconst 4, 1) := by decide +kernel
theorem dX7_init_281 : decode cX7_init 281 = .ok (.bipush 99, 2) := by decide +kernel
theorem dX7_init_283 : decode cX7_init 283 = .ok (.iastore, 1) := by decide +kernel
theorem dX7_init_284 : decode cX7_init 284 = .ok (.putfield 56, 3) := by decide +kernel
theorem dX7_init_287 : decode cX7_init 287 = .ok (.aload_n 0, 1) := by decide +kernel
theorem dX7_init_288 : decode cX7_init 288 = .ok (.sipush 195, 3) := by decide +kernel
theorem dX7_init_291 : decode cX7_init 291 = .ok (.putfield 59, 3) := by decide +kernel
theorem dX7_init_294 : decode cX7_init 294 = .ok (.aload_n 0, 1) := by decide +kernel
theorem dX7_init_295 : decode cX7_init 295 = .ok (.iconst 3, 1) := by decide +kernel
theorem dX7_init_296 : decode cX7_init 296 = .ok (.putfield 63, 3) := by decide +kernel
theorem dX7_init_299 : decode cX7_init 299 = .ok (.aload_n 0, 1) := by decide +kernel
theorem dX7_init_300 : decode cX7_init 300 = .ok (.sipush 250, 3) := by decide +kernel
theorem dX7_init_303 : decode cX7_init 303 = .ok (.newarray .int, 2) := by decide +kernel
theorem dX7_init_305 : decode cX7_init 305 = .ok (.putfield 66, 3) := by decide +kernel
theorem dX7_init_308 : decode cX7_init 308 = .ok (.return_, 1) := by decide +kernel
theorem dX7_no_0 : decode cX7_no 0 = .ok (.aload_n 0, 1) := by decide +kernel
theorem dX7_no_1 : decode cX7_no 1 = .ok (.getfield 7, 3) := by decide +kernel
theorem dX7_no_4 : decode cX7_no 4 = .ok (.iload_n 1, 1) := by decide +kernel
theorem dX7_no_5 : decode cX7_no 5 = .ok (.ineg, 1) := by decide +kernel
theorem dX7_no_6 : decode cX7_no 6 = .ok (.dup2, 1) := by decide +kernel
theorem dX7_no_7 : decode cX7_no 7 = .ok (.iaload, 1) := by decide +kernel
theorem dX7_no_8 : decode cX7_no 8 = .ok (.iconst 1, 1) := by decide +kernel
theorem dX7_no_9 : decode cX7_no 9 = .ok (.iadd, 1) := by decide +kernel
theorem dX7_no_10 : decode cX7_no 10 = .ok (.iastore, 1) := by decide +kernel
theorem dX7_no_11 : decode cX7_no 11 = .ok (.iload_n 1, 1) := by decide +kernel
theorem dX7_no_12 : decode cX7_no 12 = .ok (.ireturn, 1) := by decide +kernel
theorem dX7_noLong_0 : decode cX7_noLong 0 = .ok (.aload_n 0, 1) := by decide +kernel
theorem dX7_noLong_1 : decode cX7_noLong 1 = .ok (.getfield 7, 3) := by decide +kernel
theorem dX7_noLong_4 : decode cX7_noLong 4 = .ok (.iload_n 1, 1) := by decide +kernel
theorem dX7_noLong_5 : decode cX7_noLong 5 = .ok (.ineg, 1) := by decide +kernel
theorem dX7_noLong_6 : decode cX7_noLong 6 = .ok (.dup2, 1) := by decide +kernel
theorem dX7_noLong_7 : decode cX7_noLong 7 = .ok (.iaload, 1) := by decide +kernel
theorem dX7_noLong_8 : decode cX7_noLong 8 = .ok (.iconst 1, 1) := by decide +kernel
theorem dX7_noLong_9 : decode cX7_noLong 9 = .ok (.iadd, 1) := by decide +kernel
theorem dX7_noLong_10 : decode cX7_noLong 10 = .ok (.iastore, 1) := by decide +kernel
theorem dX7_noLong_11 : decode cX7_noLong 11 = .ok (.ldc2_w 69, 3) := by decide +kernel
theorem dX7_noLong_14 : decode cX7_noLong 14 = .ok (.iload_n 1, 1) := by decide +kernel
theorem dX7_noLong_15 : decode cX7_noLong 15 = .ok (.i2l, 1) := by decide +kernel
theorem dX7_noLong_16 : decode cX7_noLong 16 = .ok (.lsub, 1) := by decide +kernel
theorem dX7_noLong_17 : decode cX7_noLong 17 = .ok (.lreturn, 1) := by decide +kernel
theorem dX7_isIn_0 : decode cX7_isIn 0 = .ok (.iload_n 0, 1) := by decide +kernel
theorem dX7_isIn_1 : decode cX7_isIn 1 = .ok (.iload_n 1, 1) := by decide +kernel
theorem dX7_isIn_2 : decode cX7_isIn 2 = .ok (.if_icmp .lt 12, 3) := by decide +kernel
theorem dX7_isIn_5 : decode cX7_isIn 5 = .ok (.iload_n 0, 1) := by decide +kernel
theorem dX7_isIn_6 : decode cX7_isIn 6 = .ok (.iload_n 2, 1) := by decide +kernel
theorem dX7_isIn_7 : decode cX7_isIn 7 = .ok (.if_icmp .gt 7, 3) := by decide +kernel
theorem dX7_isIn_10 : decode cX7_isIn 10 = .ok (.iconst 1, 1) := by decide +kernel
theorem dX7_isIn_11 : decode cX7_isIn 11 = .ok (.goto 4, 3) := by decide +kernel
theorem dX7_isIn_14 : decode cX7_isIn 14 = .ok (.iconst 0, 1) := by decide +kernel
theorem dX7_isIn_15 : decode cX7_isIn 15 = .ok (.ireturn, 1) := by decide +kernel
theorem dX7_out_0 : decode cX7_out 0 = .ok (.iload_n 0, 1) := by decide +kernel
theorem dX7_out_1 : decode cX7_out 1 = .ok (.iload_n 1, 1) := by decide +kernel
theorem dX7_out_2 : decode cX7_out 2 = .ok (.if_icmp .ge 8, 3) := by decide +kernel
theorem dX7_out_5 : decode cX7_out 5 = .ok (.bipush (-4), 2) := by decide +kernel
theorem dX7_out_7 : decode cX7_out 7 = .ok (.goto 14, 3) := by decide +kernel
theorem dX7_out_10 : decode cX7_out 10 = .ok (.iload_n 0, 1) := by decide +kernel
theorem dX7_out_11 : decode cX7_out 11 = .ok (.iload_n 2, 1) := by decide +kernel
theorem dX7_out_12 : decode cX7_out 12 = .ok (.if_icmp .le 8, 3) := by decide +kernel
theorem dX7_out_15 : decode cX7_out 15 = .ok (.bipush (-6), 2) := by decide +kernel
theorem dX7_out_17 : decode cX7_out 17 = .ok (.goto 4, 3) := by decide +kernel
theorem dX7_out_20 : decode cX7_out 20 = .ok (.iconst 0, 1) := by decide +kernel
theorem dX7_out_21 : decode cX7_out 21 = .ok (.ireturn, 1) := by decide +kernel
theorem dX7_isJar_0 : decode cX7_isJar 0 = .ok (.iload_n 0, 1) := by decide +kernel
theorem dX7_isJar_1 : decode cX7_isJar 1 = .ok (.ifCond .eq 8, 3) := by decide +kernel
theorem dX7_isJar_4 : decode cX7_isJar 4 = .ok (.iload_n 0, 1) := by decide +kernel
theorem dX7_isJar_5 : decode cX7_isJar 5 = .ok (.iconst 1, 1) := by decide +kernel
theorem dX7_isJar_6 : decode cX7_isJar 6 = .ok (.if_icmp .ne 7, 3) := by decide +kernel
theorem dX7_isJar_9 : decode cX7_isJar 9 = .ok (.iconst 1, 1) := by decide +kernel
theorem dX7_isJar_10 : decode cX7_isJar 10 = .ok (.goto 4, 3) := by decide +kernel
theorem dX7_isJar_13 : decode cX7_isJar 13 = .ok (.iconst 0, 1) := by decide +kernel
theorem dX7_isJar_14 : decode cX7_isJar 14 = .ok (.ireturn, 1) := by decide +kernel
theorem dX7_lot_0 : decode cX7_lot 0 = .ok (.aload_n 0, 1) := by decide +kernel
theorem dX7_lot_1 : decode cX7_lot 1 = .ok (.aload_n 0, 1) := by decide +kernel
theorem dX7_lot_2 : decode cX7_lot 2 = .ok (.getfield 71, 3) := by decide +kernel
theorem dX7_lot_5 : decode cX7_lot 5 = .ok (.ldc 74, 2) := by decide +kernel
theorem dX7_lot_7 : decode cX7_lot 7 = .ok (.imul, 1) := by decide +kernel
theorem dX7_lot_8 : decode cX7_lot 8 = .ok (.ldc 75, 2) := by decide +kernel
theorem dX7_lot_10 : decode cX7_lot 10 = .ok (.iadd, 1) := by decide +kernel
theorem dX7_lot_11 : decode cX7_lot 11 = .ok (.putfield 71, 3) := by decide +kernel
theorem dX7_lot_14 : decode cX7_lot 14 = .ok (.aload_n 0, 1) := by decide +kernel
theorem dX7_lot_15 : decode cX7_lot 15 = .ok (.getfield 71, 3) := by decide +kernel
theorem dX7_lot_18 : decode cX7_lot 18 = .ok (.ldc 76, 2) := by decide +kernel
theorem dX7_lot_20 : decode cX7_lot 20 = .ok (.iand, 1) := by decide +kernel
theorem dX7_lot_21 : decode cX7_lot 21 = .ok (.sipush 256, 3) := by decide +kernel
theorem dX7_lot_24 : decode cX7_lot 24 = .ok (.idiv, 1) := by decide +kernel
theorem dX7_lot_25 : decode cX7_lot 25 = .ok (.iload_n 1, 1) := by decide +kernel
theorem dX7_lot_26 : decode cX7_lot 26 = .ok (.irem, 1) := by decide +kernel
theorem dX7_lot_27 : decode cX7_lot 27 = .ok (.ireturn, 1) := by decide +kernel
set_option maxRecDepth 20000 in
theorem dX7_jar_0 : decode cX7_jar 0 = .ok (.iload_n 1, 1) := by decide +kernel
theorem dX7_jar_1 : decode cX7_jar 1 = .ok (.invokestatic 77, 3) := by decide +kernel
theorem dX7_jar_4 : decode cX7_jar 4 = .ok (.ifCond .ne 9, 3) := by decide +kernel
theorem dX7_jar_7 : decode cX7_jar 7 = .ok (.aload_n 0, 1) := by decide +kernel
theorem dX7_jar_8 : decode cX7_jar 8 = .ok (.iconst (-1), 1) := by decide +kernel
theorem dX7_jar_9 : decode cX7_jar 9 = .ok (.invokevirtual 81, 3) := by decide +kernel
theorem dX7_jar_12 : decode cX7_jar 12 = .ok (.ireturn, 1) := by decide +kernel
theorem dX7_jar_13 : decode cX7_jar 13 = .ok (.iload_n 3, 1) := by decide +kernel
theorem dX7_jar_14 : decode cX7_jar 14 = .ok (.ifCond .lt 14, 3) := by decide +kernel
theorem dX7_jar_17 : decode cX7_jar 17 = .ok (.iload 4, 2) := by decide +kernel
theorem dX7_jar_19 : decode cX7_jar 19 = .ok (.ifCond .lt 9, 3) := by decide +kernel
theorem dX7_jar_22 : decode cX7_jar 22 = .ok (.iload 5, 2) := by decide +kernel
theorem dX7_jar_24 : decode cX7_jar 24 = .ok (.iconst 1, 1) := by decide +kernel
theorem dX7_jar_25 : decode cX7_jar 25 = .ok (.if_icmp .ge 8, 3) := by decide +kernel
theorem dX7_jar_28 : decode cX7_jar 28 = .ok (.bipush (-4), 2) := by decide +kernel
theorem dX7_jar_30 : decode cX7_jar 30 = .ok (.goto 32, 3) := by decide +kernel
theorem dX7_jar_33 : decode cX7_jar 33 = .ok (.iload_n 3, 1) := by decide +kernel
theorem dX7_jar_34 : decode cX7_jar 34 = .ok (.sipush 2000, 3) := by decide +kernel
theorem dX7_jar_37 : decode cX7_jar 37 = .ok (.if_icmp .gt 19, 3) := by decide +kernel
theorem dX7_jar_40 : decode cX7_jar 40 = .ok (.iload 4, 2) := by decide +kernel
theorem dX7_jar_42 : decode cX7_jar 42 = .ok (.sipush 365, 3) := by decide +kernel
theorem dX7_jar_45 : decode cX7_jar 45 = .ok (.if_icmp .gt 11, 3) := by decide +kernel
theorem dX7_jar_48 : decode cX7_jar 48 = .ok (.iload 5, 2) := by decide +kernel
theorem dX7_jar_50 : decode cX7_jar 50 = .ok (.sipush 366, 3) := by decide +kernel
theorem dX7_jar_53 : decode cX7_jar 53 = .ok (.if_icmp .le 8, 3) := by decide +kernel
theorem dX7_jar_56 : decode cX7_jar 56 = .ok (.bipush (-6), 2) := by decide +kernel
theorem dX7_jar_58 : decode cX7_jar 58 = .ok (.goto 4, 3) := by decide +kernel
theorem dX7_jar_61 : decode cX7_jar 61 = .ok (.iconst 0, 1) := by decide +kernel
theorem dX7_jar_62 : decode cX7_jar 62 = .ok (.istore 6, 2) := by decide +kernel
theorem dX7_jar_64 : decode cX7_jar 64 = .ok (.iload 6, 2) := by decide +kernel
theorem dX7_jar_66 : decode cX7_jar 66 = .ok (.ifCond .eq 10, 3) := by decide +kernel
theorem dX7_jar_69 : decode cX7_jar 69 = .ok (.aload_n 0, 1) := by decide +kernel
theorem dX7_jar_70 : decode cX7_jar 70 = .ok (.iload 6, 2) := by decide +kernel
theorem dX7_jar_72 : decode cX7_jar 72 = .ok (.invokevirtual 81, 3) := by decide +kernel
theorem dX7_jar_75 : decode cX7_jar 75 = .ok (.ireturn, 1) := by decide +kernel
theorem dX7_jar_76 : decode cX7_jar 76 = .ok (.aload_n 0, 1) := by decide +kernel
theorem dX7_jar_77 : decode cX7_jar 77 = .ok (.getfield 13, 3) := by decide +kernel
theorem dX7_jar_80 : decode cX7_jar 80 = .ok (.iload_n 1, 1) := by decide +kernel
theorem dX7_jar_81 : decode cX7_jar 81 = .ok (.iload_n 2, 1) := by decide +kernel
theorem dX7_jar_82 : decode cX7_jar 82 = .ok (.iastore, 1) := by decide +kernel
theorem dX7_jar_83 : decode cX7_jar 83 = .ok (.aload_n 0, 1) := by decide +kernel
theorem dX7_jar_84 : decode cX7_jar 84 = .ok (.getfield 16, 3) := by decide +kernel
theorem dX7_jar_87 : decode cX7_jar 87 = .ok (.iload_n 1, 1) := by decide +kernel
theorem dX7_jar_88 : decode cX7_jar 88 = .ok (.iload_n 3, 1) := by decide +kernel
theorem dX7_jar_89 : decode cX7_jar 89 = .ok (.iastore, 1) := by decide +kernel
theorem dX7_jar_90 : decode cX7_jar 90 = .ok (.aload_n 0, 1) := by decide +kernel
theorem dX7_jar_91 : decode cX7_jar 91 = .ok (.getfield 19, 3) := by decide +kernel
theorem dX7_jar_94 : decode cX7_jar 94 = .ok (.iload_n 1, 1) := by decide +kernel
theorem dX7_jar_95 : decode cX7_jar 95 = .ok (.iload 4, 2) := by decide +kernel
theorem dX7_jar_97 : decode cX7_jar 97 = .ok (.iastore, 1) := by decide +kernel
theorem dX7_jar_98 : decode cX7_jar 98 = .ok (.aload_n 0, 1) := by decide +kernel
theorem dX7_jar_99 : decode cX7_jar 99 = .ok (.getfield 22, 3) := by decide +kernel
theorem dX7_jar_102 : decode cX7_jar 102 = .ok (.iload_n 1, 1) := by decide +kernel
theorem dX7_jar_103 : decode cX7_jar 103 = .ok (.iload 5, 2) := by decide +kernel
theorem dX7_jar_105 : decode cX7_jar 105 = .ok (.iastore, 1) := by decide +kernel
theorem dX7_jar_106 : decode cX7_jar 106 = .ok (.aload_n 0, 1) := by decide +kernel
theorem dX7_jar_107 : decode cX7_jar 107 = .ok (.getfield 37, 3) := by decide +kernel
theorem dX7_jar_110 : decode cX7_jar 110 = .ok (.iload_n 1, 1) := by decide +kernel
theorem dX7_jar_111 : decode cX7_jar 111 = .ok (.iconst 0, 1) := by decide +kernel
theorem dX7_jar_112 : decode cX7_jar 112 = .ok (.bastore, 1) := by decide +kernel
theorem dX7_jar_113 : decode cX7_jar 113 = .ok (.iconst 1, 1) := by decide +kernel
theorem dX7_jar_114 : decode cX7_jar 114 = .ok (.ireturn, 1) := by decide +kernel
set_option maxRecDepth 20000 in
theorem dX7_pour_0 : decode cX7_pour 0 = .ok (.iload_n 1, 1) := by decide +kernel
