theorem dX7_servedAs_103 : decode cX7_servedAs 103 = .ok (.goto 4, 3) := by decide +kernel
theorem dX7_servedAs_106 : decode cX7_servedAs 106 = .ok (.iconst 0, 1) := by decide +kernel
theorem dX7_servedAs_107 : decode cX7_servedAs 107 = .ok (.ireturn, 1) := by decide +kernel
set_option maxRecDepth 20000 in
theorem dX7_hasServed_0 : decode cX7_hasServed 0 = .ok (.aload_n 0, 1) := by decide +kernel
theorem dX7_hasServed_1 : decode cX7_hasServed 1 = .ok (.iload_n 1, 1) := by decide +kernel
theorem dX7_hasServed_2 : decode cX7_hasServed 2 = .ok (.iload_n 2, 1) := by decide +kernel
theorem dX7_hasServed_3 : decode cX7_hasServed 3 = .ok (.invokevirtual 177, 3) := by decide +kernel
theorem dX7_hasServed_6 : decode cX7_hasServed 6 = .ok (.iconst 1, 1) := by decide +kernel
theorem dX7_hasServed_7 : decode cX7_hasServed 7 = .ok (.if_icmp .eq 13, 3) := by decide +kernel
theorem dX7_hasServed_10 : decode cX7_hasServed 10 = .ok (.aload_n 0, 1) := by decide +kernel
theorem dX7_hasServed_11 : decode cX7_hasServed 11 = .ok (.iload_n 1, 1) := by decide +kernel
theorem dX7_hasServed_12 : decode cX7_hasServed 12 = .ok (.iload_n 2, 1) := by decide +kernel
theorem dX7_hasServed_13 : decode cX7_hasServed 13 = .ok (.invokevirtual 177, 3) := by decide +kernel
theorem dX7_hasServed_16 : decode cX7_hasServed 16 = .ok (.iconst 2, 1) := by decide +kernel
theorem dX7_hasServed_17 : decode cX7_hasServed 17 = .ok (.if_icmp .ne 7, 3) := by decide +kernel
theorem dX7_hasServed_20 : decode cX7_hasServed 20 = .ok (.iconst 1, 1) := by decide +kernel
theorem dX7_hasServed_21 : decode cX7_hasServed 21 = .ok (.goto 4, 3) := by decide +kernel
theorem dX7_hasServed_24 : decode cX7_hasServed 24 = .ok (.iconst 0, 1) := by decide +kernel
theorem dX7_hasServed_25 : decode cX7_hasServed 25 = .ok (.ireturn, 1) := by decide +kernel
set_option maxRecDepth 20000 in
theorem dX7_called_0 : decode cX7_called 0 = .ok (.iload_n 1, 1) := by decide +kernel
theorem dX7_called_1 : decode cX7_called 1 = .ok (.invokestatic 77, 3) := by decide +kernel
theorem dX7_called_4 : decode cX7_called 4 = .ok (.ifCond .eq 11, 3) := by decide +kernel
theorem dX7_called_7 : decode cX7_called 7 = .ok (.aload_n 0, 1) := by decide +kernel
theorem dX7_called_8 : decode cX7_called 8 = .ok (.iload_n 2, 1) := by decide +kernel
theorem dX7_called_9 : decode cX7_called 9 = .ok (.invokevirtual 170, 3) := by decide +kernel
theorem dX7_called_12 : decode cX7_called 12 = .ok (.ifCond .ne 9, 3) := by decide +kernel
theorem dX7_called_15 : decode cX7_called 15 = .ok (.aload_n 0, 1) := by decide +kernel
theorem dX7_called_16 : decode cX7_called 16 = .ok (.iconst (-1), 1) := by decide +kernel
theorem dX7_called_17 : decode cX7_called 17 = .ok (.invokevirtual 81, 3) := by decide +kernel
theorem dX7_called_20 : decode cX7_called 20 = .ok (.ireturn, 1) := by decide +kernel
theorem dX7_called_21 : decode cX7_called 21 = .ok (.aload_n 0, 1) := by decide +kernel
theorem dX7_called_22 : decode cX7_called 22 = .ok (.iload_n 1, 1) := by decide +kernel
theorem dX7_called_23 : decode cX7_called 23 = .ok (.iload_n 2, 1) := by decide +kernel
theorem dX7_called_24 : decode cX7_called 24 = .ok (.invokevirtual 173, 3) := by decide +kernel
theorem dX7_called_27 : decode cX7_called 27 = .ok (.ifCond .eq 7, 3) := by decide +kernel
theorem dX7_called_30 : decode cX7_called 30 = .ok (.iconst 1, 1) := by decide +kernel
theorem dX7_called_31 : decode cX7_called 31 = .ok (.goto 4, 3) := by decide +kernel
theorem dX7_called_34 : decode cX7_called 34 = .ok (.iconst 0, 1) := by decide +kernel
theorem dX7_called_35 : decode cX7_called 35 = .ok (.ireturn, 1) := by decide +kernel
set_option maxRecDepth 20000 in
theorem dX7_served_0 : decode cX7_served 0 = .ok (.iload_n 1, 1) := by decide +kernel
theorem dX7_served_1 : decode cX7_served 1 = .ok (.invokestatic 77, 3) := by decide +kernel
theorem dX7_served_4 : decode cX7_served 4 = .ok (.ifCond .eq 20, 3) := by decide +kernel
theorem dX7_served_7 : decode cX7_served 7 = .ok (.aload_n 0, 1) := by decide +kernel
theorem dX7_served_8 : decode cX7_served 8 = .ok (.iload_n 2, 1) := by decide +kernel
theorem dX7_served_9 : decode cX7_served 9 = .ok (.invokevirtual 170, 3) := by decide +kernel
theorem dX7_served_12 : decode cX7_served 12 = .ok (.ifCond .eq 12, 3) := by decide +kernel
theorem dX7_served_15 : decode cX7_served 15 = .ok (.aload_n 0, 1) := by decide +kernel
theorem dX7_served_16 : decode cX7_served 16 = .ok (.iload_n 1, 1) := by decide +kernel
theorem dX7_served_17 : decode cX7_served 17 = .ok (.iload_n 2, 1) := by decide +kernel
theorem dX7_served_18 : decode cX7_served 18 = .ok (.invokevirtual 177, 3) := by decide +kernel
theorem dX7_served_21 : decode cX7_served 21 = .ok (.goto 8, 3) := by decide +kernel
theorem dX7_served_24 : decode cX7_served 24 = .ok (.aload_n 0, 1) := by decide +kernel
theorem dX7_served_25 : decode cX7_served 25 = .ok (.iconst (-1), 1) := by decide +kernel
theorem dX7_served_26 : decode cX7_served 26 = .ok (.invokevirtual 81, 3) := by decide +kernel
theorem dX7_served_29 : decode cX7_served 29 = .ok (.ireturn, 1) := by decide +kernel
theorem dX7_lossIn_0 : decode cX7_lossIn 0 = .ok (.bipush 100, 2) := by decide +kernel
theorem dX7_lossIn_2 : decode cX7_lossIn 2 = .ok (.aload_n 0, 1) := by decide +kernel
theorem dX7_lossIn_3 : decode cX7_lossIn 3 = .ok (.getfield 53, 3) := by decide +kernel
theorem dX7_lossIn_6 : decode cX7_lossIn 6 = .ok (.iconst 2, 1) := by decide +kernel
theorem dX7_lossIn_7 : decode cX7_lossIn 7 = .ok (.iaload, 1) := by decide +kernel
theorem dX7_lossIn_8 : decode cX7_lossIn 8 = .ok (.iload_n 1, 1) := by decide +kernel
theorem dX7_lossIn_9 : decode cX7_lossIn 9 = .ok (.imul, 1) := by decide +kernel
theorem dX7_lossIn_10 : decode cX7_lossIn 10 = .ok (.isub, 1) := by decide +kernel
theorem dX7_lossIn_11 : decode cX7_lossIn 11 = .ok (.istore_n 2, 1) := by decide +kernel
theorem dX7_lossIn_12 : decode cX7_lossIn 12 = .ok (.iload_n 2, 1) := by decide +kernel
theorem dX7_lossIn_13 : decode cX7_lossIn 13 = .ok (.ifCond .ge 7, 3) := by decide +kernel
theorem dX7_lossIn_16 : decode cX7_lossIn 16 = .ok (.iconst 0, 1) := by decide +kernel
theorem dX7_lossIn_17 : decode cX7_lossIn 17 = .ok (.goto 14, 3) := by decide +kernel
theorem dX7_lossIn_20 : decode cX7_lossIn 20 = .ok (.aload_n 0, 1) := by decide +kernel
theorem dX7_lossIn_21 : decode cX7_lossIn 21 = .ok (.getfield 53, 3) := by decide +kernel
theorem dX7_lossIn_24 : decode cX7_lossIn 24 = .ok (.iconst 1, 1) := by decide +kernel
theorem dX7_lossIn_25 : decode cX7_lossIn 25 = .ok (.iaload, 1) := by decide +kernel
theorem dX7_lossIn_26 : decode cX7_lossIn 26 = .ok (.iload_n 2, 1) := by decide +kernel
theorem dX7_lossIn_27 : decode cX7_lossIn 27 = .ok (.imul, 1) := by decide +kernel
theorem dX7_lossIn_28 : decode cX7_lossIn 28 = .ok (.bipush 100, 2) := by decide +kernel
theorem dX7_lossIn_30 : decode cX7_lossIn 30 = .ok (.idiv, 1) := by decide +kernel
theorem dX7_lossIn_31 : decode cX7_lossIn 31 = .ok (.ireturn, 1) := by decide +kernel
set_option maxRecDepth 20000 in
theorem dX7_wageOf_0 : decode cX7_wageOf 0 = .ok (.aload_n 0, 1) := by decide +kernel
theorem dX7_wageOf_1 : decode cX7_wageOf 1 = .ok (.getfield 50, 3) := by decide +kernel
theorem dX7_wageOf_4 : decode cX7_wageOf 4 = .ok (.iload_n 2, 1) := by decide +kernel
theorem dX7_wageOf_5 : decode cX7_wageOf 5 = .ok (.iaload, 1) := by decide +kernel
theorem dX7_wageOf_6 : decode cX7_wageOf 6 = .ok (.aload_n 0, 1) := by decide +kernel
theorem dX7_wageOf_7 : decode cX7_wageOf 7 = .ok (.getfield 53, 3) := by decide +kernel
theorem dX7_wageOf_10 : decode cX7_wageOf 10 = .ok (.iconst 0, 1) := by decide +kernel
theorem dX7_wageOf_11 : decode cX7_wageOf 11 = .ok (.iaload, 1) := by decide +kernel
theorem dX7_wageOf_12 : decode cX7_wageOf 12 = .ok (.iload_n 3, 1) := by decide +kernel
theorem dX7_wageOf_13 : decode cX7_wageOf 13 = .ok (.imul, 1) := by decide +kernel
theorem dX7_wageOf_14 : decode cX7_wageOf 14 = .ok (.iadd, 1) := by decide +kernel
theorem dX7_wageOf_15 : decode cX7_wageOf 15 = .ok (.i2l, 1) := by decide +kernel
theorem dX7_wageOf_16 : decode cX7_wageOf 16 = .ok (.lstore 4, 2) := by decide +kernel
theorem dX7_wageOf_18 : decode cX7_wageOf 18 = .ok (.aload_n 0, 1) := by decide +kernel
theorem dX7_wageOf_19 : decode cX7_wageOf 19 = .ok (.iload_n 1, 1) := by decide +kernel
theorem dX7_wageOf_20 : decode cX7_wageOf 20 = .ok (.iload_n 2, 1) := by decide +kernel
theorem dX7_wageOf_21 : decode cX7_wageOf 21 = .ok (.invokevirtual 177, 3) := by decide +kernel
theorem dX7_wageOf_24 : decode cX7_wageOf 24 = .ok (.istore 6, 2) := by decide +kernel
theorem dX7_wageOf_26 : decode cX7_wageOf 26 = .ok (.iload 6, 2) := by decide +kernel
theorem dX7_wageOf_28 : decode cX7_wageOf 28 = .ok (.iconst 1, 1) := by decide +kernel
theorem dX7_wageOf_29 : decode cX7_wageOf 29 = .ok (.if_icmp .ne 14, 3) := by decide +kernel
theorem dX7_wageOf_32 : decode cX7_wageOf 32 = .ok (.lload 4, 2) := by decide +kernel
theorem dX7_wageOf_34 : decode cX7_wageOf 34 = .ok (.aload_n 0, 1) := by decide +kernel
theorem dX7_wageOf_35 : decode cX7_wageOf 35 = .ok (.iload_n 3, 1) := by decide +kernel
theorem dX7_wageOf_36 : decode cX7_wageOf 36 = .ok (.invokevirtual 180, 3) := by decide +kernel
theorem dX7_wageOf_39 : decode cX7_wageOf 39 = .ok (.i2l, 1) := by decide +kernel
theorem dX7_wageOf_40 : decode cX7_wageOf 40 = .ok (.lsub, 1) := by decide +kernel
theorem dX7_wageOf_41 : decode cX7_wageOf 41 = .ok (.lstore 4, 2) := by decide +kernel
theorem dX7_wageOf_43 : decode cX7_wageOf 43 = .ok (.iload 6, 2) := by decide +kernel
theorem dX7_wageOf_45 : decode cX7_wageOf 45 = .ok (.iconst 2, 1) := by decide +kernel
theorem dX7_wageOf_46 : decode cX7_wageOf 46 = .ok (.if_icmp .ne 16, 3) := by decide +kernel
theorem dX7_wageOf_49 : decode cX7_wageOf 49 = .ok (.lload 4, 2) := by decide +kernel
theorem dX7_wageOf_51 : decode cX7_wageOf 51 = .ok (.aload_n 0, 1) := by decide +kernel
theorem dX7_wageOf_52 : decode cX7_wageOf 52 = .ok (.iload_n 3, 1) := by decide +kernel
theorem dX7_wageOf_53 : decode cX7_wageOf 53 = .ok (.invokevirtual 180, 3) := by decide +kernel
theorem dX7_wageOf_56 : decode cX7_wageOf 56 = .ok (.iconst 2, 1) := by decide +kernel
theorem dX7_wageOf_57 : decode cX7_wageOf 57 = .ok (.idiv, 1) := by decide +kernel
theorem dX7_wageOf_58 : decode cX7_wageOf 58 = .ok (.i2l, 1) := by decide +kernel
theorem dX7_wageOf_59 : decode cX7_wageOf 59 = .ok (.lsub, 1) := by decide +kernel
theorem dX7_wageOf_60 : decode cX7_wageOf 60 = .ok (.lstore 4, 2) := by decide +kernel
theorem dX7_wageOf_62 : decode cX7_wageOf 62 = .ok (.iload 6, 2) := by decide +kernel
theorem dX7_wageOf_64 : decode cX7_wageOf 64 = .ok (.iconst 3, 1) := by decide +kernel
theorem dX7_wageOf_65 : decode cX7_wageOf 65 = .ok (.if_icmp .ne 15, 3) := by decide +kernel
theorem dX7_wageOf_68 : decode cX7_wageOf 68 = .ok (.lload 4, 2) := by decide +kernel
theorem dX7_wageOf_70 : decode cX7_wageOf 70 = .ok (.aload_n 0, 1) := by decide +kernel
theorem dX7_wageOf_71 : decode cX7_wageOf 71 = .ok (.getfield 53, 3) := by decide +kernel
theorem dX7_wageOf_74 : decode cX7_wageOf 74 = .ok (.iconst 3, 1) := by decide +kernel
theorem dX7_wageOf_75 : decode cX7_wageOf 75 = .ok (.iaload, 1) := by decide +kernel
theorem dX7_wageOf_76 : decode cX7_wageOf 76 = .ok (.i2l, 1) := by decide +kernel
theorem dX7_wageOf_77 : decode cX7_wageOf 77 = .ok (.ladd, 1) := by decide +kernel
theorem dX7_wageOf_78 : decode cX7_wageOf 78 = .ok (.lstore 4, 2) := by decide +kernel
theorem dX7_wageOf_80 : decode cX7_wageOf 80 = .ok (.aload_n 0, 1) := by decide +kernel
theorem dX7_wageOf_81 : decode cX7_wageOf 81 = .ok (.iload_n 1, 1) := by decide +kernel
theorem dX7_wageOf_82 : decode cX7_wageOf 82 = .ok (.iload_n 2, 1) := by decide +kernel
theorem dX7_wageOf_83 : decode cX7_wageOf 83 = .ok (.invokevirtual 173, 3) := by decide +kernel
theorem dX7_wageOf_86 : decode cX7_wageOf 86 = .ok (.ifCond .eq 16, 3) := by decide +kernel
theorem dX7_wageOf_89 : decode cX7_wageOf 89 = .ok (.lload 4, 2) := by decide +kernel
theorem dX7_wageOf_91 : decode cX7_wageOf 91 = .ok (.aload_n 0, 1) := by decide +kernel
theorem dX7_wageOf_92 : decode cX7_wageOf 92 = .ok (.getfield 53, 3) := by decide +kernel
theorem dX7_wageOf_95 : decode cX7_wageOf 95 = .ok (.iconst 4, 1) := by decide +kernel
theorem dX7_wageOf_96 : decode cX7_wageOf 96 = .ok (.iaload, 1) := by decide +kernel
theorem dX7_wageOf_97 : decode cX7_wageOf 97 = .ok (.i2l, 1) := by decide +kernel
theorem dX7_wageOf_98 : decode cX7_wageOf 98 = .ok (.lsub, 1) := by decide +kernel
theorem dX7_wageOf_99 : decode cX7_wageOf 99 = .ok (.goto 5, 3) := by decide +kernel
theorem dX7_wageOf_102 : decode cX7_wageOf 102 = .ok (.lload 4, 2) := by decide +kernel
theorem dX7_wageOf_104 : decode cX7_wageOf 104 = .ok (.lreturn, 1) := by decide +kernel
set_option maxRecDepth 20000 in
theorem dX7_notYear_0 : decode cX7_notYear 0 = .ok (.iload_n 0, 1) := by decide +kernel
theorem dX7_notYear_1 : decode cX7_notYear 1 = .ok (.iconst 0, 1) := by decide +kernel
theorem dX7_notYear_2 : decode cX7_notYear 2 = .ok (.bipush 40, 2) := by decide +kernel
theorem dX7_notYear_4 : decode cX7_notYear 4 = .ok (.invokestatic 104, 3) := by decide +kernel
theorem dX7_notYear_7 : decode cX7_notYear 7 = .ok (.ireturn, 1) := by decide +kernel
set_option maxRecDepth 20000 in
theorem dX7_wage_0 : decode cX7_wage 0 = .ok (.iload_n 1, 1) := by decide +kernel
theorem dX7_wage_1 : decode cX7_wage 1 = .ok (.invokestatic 77, 3) := by decide +kernel
theorem dX7_wage_4 : decode cX7_wage 4 = .ok (.ifCond .eq 11, 3) := by decide +kernel
theorem dX7_wage_7 : decode cX7_wage 7 = .ok (.aload_n 0, 1) := by decide +kernel
theorem dX7_wage_8 : decode cX7_wage 8 = .ok (.iload_n 2, 1) := by decide +kernel
theorem dX7_wage_9 : decode cX7_wage 9 = .ok (.invokevirtual 170, 3) := by decide +kernel
theorem dX7_wage_12 : decode cX7_wage 12 = .ok (.ifCond .ne 9, 3) := by decide +kernel
theorem dX7_wage_15 : decode cX7_wage 15 = .ok (.aload_n 0, 1) := by decide +kernel
theorem dX7_wage_16 : decode cX7_wage 16 = .ok (.iconst (-1), 1) := by decide +kernel
theorem dX7_wage_17 : decode cX7_wage 17 = .ok (.invokevirtual 121, 3) := by decide +kernel
theorem dX7_wage_20 : decode cX7_wage 20 = .ok (.lreturn, 1) := by decide +kernel
theorem dX7_wage_21 : decode cX7_wage 21 = .ok (.iload_n 3, 1) := by decide +kernel
theorem dX7_wage_22 : decode cX7_wage 22 = .ok (.invokestatic 183, 3) := by decide +kernel
theorem dX7_wage_25 : decode cX7_wage 25 = .ok (.istore 4, 2) := by decide +kernel
theorem dX7_wage_27 : decode cX7_wage 27 = .ok (.iload 4, 2) := by decide +kernel
theorem dX7_wage_29 : decode cX7_wage 29 = .ok (.ifCond .eq 12, 3) := by decide +kernel
theorem dX7_wage_32 : decode cX7_wage 32 = .ok (.aload_n 0, 1) := by decide +kernel
theorem dX7_wage_33 : decode cX7_wage 33 = .ok (.iload 4, 2) := by decide +kernel
theorem dX7_wage_35 : decode cX7_wage 35 = .ok (.invokevirtual 121, 3) := by decide +kernel
theorem dX7_wage_38 : decode cX7_wage 38 = .ok (.goto 10, 3) := by decide +kernel
theorem dX7_wage_41 : decode cX7_wage 41 = .ok (.aload_n 0, 1) := by decide +kernel
theorem dX7_wage_42 : decode cX7_wage 42 = .ok (.iload_n 1, 1) := by decide +kernel
theorem dX7_wage_43 : decode cX7_wage 43 = .ok (.iload_n 2, 1) := by decide +kernel
theorem dX7_wage_44 : decode cX7_wage 44 = .ok (.iload_n 3, 1) := by decide +kernel
theorem dX7_wage_45 : decode cX7_wage 45 = .ok (.invokevirtual 186, 3) := by decide +kernel
theorem dX7_wage_48 : decode cX7_wage 48 = .ok (.lreturn, 1) := by decide +kernel
set_option maxRecDepth 20000 in
theorem dX7_differs_0 : decode cX7_differs 0 = .ok (.lconst 0, 1) := by decide +kernel
theorem dX7_differs_1 : decode cX7_differs 1 = .ok (.lstore_n 3, 1) := by decide +kernel
theorem dX7_differs_2 : decode cX7_differs 2 = .ok (.lconst 0, 1) := by decide +kernel
theorem dX7_differs_3 : decode cX7_differs 3 = .ok (.lstore 5, 2) := by decide +kernel
theorem dX7_differs_5 : decode cX7_differs 5 = .ok (.lconst 0, 1) := by decide +kernel
theorem dX7_differs_6 : decode cX7_differs 6 = .ok (.lstore 7, 2) := by decide +kernel
theorem dX7_differs_8 : decode cX7_differs 8 = .ok (.lconst 0, 1) := by decide +kernel
theorem dX7_differs_9 : decode cX7_differs 9 = .ok (.lstore 9, 2) := by decide +kernel
theorem dX7_differs_11 : decode cX7_differs 11 = .ok (.iconst 0, 1) := by decide +kernel
theorem dX7_differs_12 : decode cX7_differs 12 = .ok (.istore 11, 2) := by decide +kernel
theorem dX7_differs_14 : decode cX7_differs 14 = .ok (.iload 11, 2) := by decide +kernel
theorem dX7_differs_16 : decode cX7_differs 16 = .ok (.aload_n 0, 1) := by decide +kernel
theorem dX7_differs_17 : decode cX7_differs 17 = .ok (.getfield 163, 3) := by decide +kernel
theorem dX7_differs_20 : decode cX7_differs 20 = .ok (.if_icmp .ge 78, 3) := by decide +kernel
theorem dX7_differs_23 : decode cX7_differs 23 = .ok (.iload_n 2, 1) := by decide +kernel
theorem dX7_differs_24 : decode cX7_differs 24 = .ok (.ifCond .lt 14, 3) := by decide +kernel
theorem dX7_differs_27 : decode cX7_differs 27 = .ok (.aload_n 0, 1) := by decide +kernel
theorem dX7_differs_28 : decode cX7_differs 28 = .ok (.iload_n 1, 1) := by decide +kernel
theorem dX7_differs_29 : decode cX7_differs 29 = .ok (.iload 11, 2) := by decide +kernel
theorem dX7_differs_31 : decode cX7_differs 31 = .ok (.iload_n 2, 1) := by decide +kernel
theorem dX7_differs_32 : decode cX7_differs 32 = .ok (.invokevirtual 186, 3) := by decide +kernel
theorem dX7_differs_35 : decode cX7_differs 35 = .ok (.goto 18, 3) := by decide +kernel
theorem dX7_differs_38 : decode cX7_differs 38 = .ok (.aload_n 0, 1) := by decide +kernel
theorem dX7_differs_39 : decode cX7_differs 39 = .ok (.iload_n 1, 1) := by decide +kernel
theorem dX7_differs_40 : decode cX7_differs 40 = .ok (.iload 11, 2) := by decide +kernel
theorem dX7_differs_42 : decode cX7_differs 42 = .ok (.invokevirtual 190, 3) := by decide +kernel
theorem dX7_differs_45 : decode cX7_differs 45 = .ok (.ifCond .eq 7, 3) := by decide +kernel
theorem dX7_differs_48 : decode cX7_differs 48 = .ok (.lconst 1, 1) := by decide +kernel
theorem dX7_differs_49 : decode cX7_differs 49 = .ok (.goto 4, 3) := by decide +kernel
theorem dX7_differs_52 : decode cX7_differs 52 = .ok (.lconst 0, 1) := by decide +kernel
theorem dX7_differs_53 : decode cX7_differs 53 = .ok (.lstore 12, 2) := by decide +kernel
theorem dX7_differs_55 : decode cX7_differs 55 = .ok (.aload_n 0, 1) := by decide +kernel
theorem dX7_differs_56 : decode cX7_differs 56 = .ok (.iload_n 1, 1) := by decide +kernel
theorem dX7_differs_57 : decode cX7_differs 57 = .ok (.iload 11, 2) := by decide +kernel
theorem dX7_differs_59 : decode cX7_differs 59 = .ok (.invokevirtual 173, 3) := by decide +kernel
theorem dX7_differs_62 : decode cX7_differs 62 = .ok (.ifCond .eq 17, 3) := by decide +kernel
theorem dX7_differs_65 : decode cX7_differs 65 = .ok (.lload_n 3, 1) := by decide +kernel
theorem dX7_differs_66 : decode cX7_differs 66 = .ok (.lconst 1, 1) := by decide +kernel
theorem dX7_differs_67 : decode cX7_differs 67 = .ok (.ladd, 1) := by decide +kernel
theorem dX7_differs_68 : decode cX7_differs 68 = .ok (.lstore_n 3, 1) := by decide +kernel
theorem dX7_differs_69 : decode cX7_differs 69 = .ok (.lload 7, 2) := by decide +kernel
theorem dX7_differs_71 : decode cX7_differs 71 = .ok (.lload 12, 2) := by decide +kernel
theorem dX7_differs_73 : decode cX7_differs 73 = .ok (.ladd, 1) := by decide +kernel
theorem dX7_differs_74 : decode cX7_differs 74 = .ok (.lstore 7, 2) := by decide +kernel
theorem dX7_differs_76 : decode cX7_differs 76 = .ok (.goto 16, 3) := by decide +kernel
theorem dX7_differs_79 : decode cX7_differs 79 = .ok (.lload 5, 2) := by decide +kernel
theorem dX7_differs_81 : decode cX7_differs 81 = .ok (.lconst 1, 1) := by decide +kernel
theorem dX7_differs_82 : decode cX7_differs 82 = .ok (.ladd, 1) := by decide +kernel
theorem dX7_differs_83 : decode cX7_differs 83 = .ok (.lstore 5, 2) := by decide +kernel
theorem dX7_differs_85 : decode cX7_differs 85 = .ok (.lload 9, 2) := by decide +kernel
theorem dX7_differs_87 : decode cX7_differs 87 = .ok (.lload 12, 2) := by decide +kernel
theorem dX7_differs_89 : decode cX7_differs 89 = .ok (.ladd, 1) := by decide +kernel
theorem dX7_differs_90 : decode cX7_differs 90 = .ok (.lstore 9, 2) := by decide +kernel
theorem dX7_differs_92 : decode cX7_differs 92 = .ok (.iinc 11 1, 3) := by decide +kernel
theorem dX7_differs_95 : decode cX7_differs 95 = .ok (.goto (-81), 3) := by decide +kernel
theorem dX7_differs_98 : decode cX7_differs 98 = .ok (.lload_n 3, 1) := by decide +kernel
theorem dX7_differs_99 : decode cX7_differs 99 = .ok (.lconst 0, 1) := by decide +kernel
theorem dX7_differs_100 : decode cX7_differs 100 = .ok (.lcmp, 1) := by decide +kernel
theorem dX7_differs_101 : decode cX7_differs 101 = .ok (.ifCond .eq 10, 3) := by decide +kernel
theorem dX7_differs_104 : decode cX7_differs 104 = .ok (.lload 5, 2) := by decide +kernel
theorem dX7_differs_106 : decode cX7_differs 106 = .ok (.lconst 0, 1) := by decide +kernel
theorem dX7_differs_107 : decode cX7_differs 107 = .ok (.lcmp, 1) := by decide +kernel
theorem dX7_differs_108 : decode cX7_differs 108 = .ok (.ifCond .ne 5, 3) := by decide +kernel
theorem dX7_differs_111 : decode cX7_differs 111 = .ok (.iconst 0, 1) := by decide +kernel
theorem dX7_differs_112 : decode cX7_differs 112 = .ok (.ireturn, 1) := by decide +kernel
theorem dX7_differs_113 : decode cX7_differs 113 = .ok (.aload_n 0, 1) := by decide +kernel
theorem dX7_differs_114 : decode cX7_differs 114 = .ok (.lload 7, 2) := by decide +kernel
theorem dX7_differs_116 : decode cX7_differs 116 = .ok (.lload 5, 2) := by decide +kernel
theorem dX7_differs_118 : decode cX7_differs 118 = .ok (.lmul, 1) := by decide +kernel
theorem dX7_differs_119 : decode cX7_differs 119 = .ok (.lload 9, 2) := by decide +kernel
theorem dX7_differs_121 : decode cX7_differs 121 = .ok (.lload_n 3, 1) := by decide +kernel
theorem dX7_differs_122 : decode cX7_differs 122 = .ok (.lmul, 1) := by decide +kernel
theorem dX7_differs_123 : decode cX7_differs 123 = .ok (.lsub, 1) := by decide +kernel
theorem dX7_differs_124 : decode cX7_differs 124 = .ok (.lload_n 3, 1) := by decide +kernel
theorem dX7_differs_125 : decode cX7_differs 125 = .ok (.lload 5, 2) := by decide +kernel
theorem dX7_differs_127 : decode cX7_differs 127 = .ok (.lmul, 1) := by decide +kernel
theorem dX7_differs_128 : decode cX7_differs 128 = .ok (.invokevirtual 132, 3) := by decide +kernel
theorem dX7_differs_131 : decode cX7_differs 131 = .ok (.iconst 1, 1) := by decide +kernel
theorem dX7_differs_132 : decode cX7_differs 132 = .ok (.ireturn, 1) := by decide +kernel
set_option maxRecDepth 20000 in
theorem dX7_notAsked_0 : decode cX7_notAsked 0 = .ok (.iload_n 1, 1) := by decide +kernel
theorem dX7_notAsked_1 : decode cX7_notAsked 1 = .ok (.invokestatic 77, 3) := by decide +kernel
theorem dX7_notAsked_4 : decode cX7_notAsked 4 = .ok (.ifCond .ne 7, 3) := by decide +kernel
theorem dX7_notAsked_7 : decode cX7_notAsked 7 = .ok (.iconst (-1), 1) := by decide +kernel
theorem dX7_notAsked_8 : decode cX7_notAsked 8 = .ok (.goto 16, 3) := by decide +kernel
theorem dX7_notAsked_11 : decode cX7_notAsked 11 = .ok (.iload_n 2, 1) := by decide +kernel
theorem dX7_notAsked_12 : decode cX7_notAsked 12 = .ok (.invokestatic 125, 3) := by decide +kernel
theorem dX7_notAsked_15 : decode cX7_notAsked 15 = .ok (.ifCond .ne 8, 3) := by decide +kernel
theorem dX7_notAsked_18 : decode cX7_notAsked 18 = .ok (.bipush (-2), 2) := by decide +kernel
theorem dX7_notAsked_20 : decode cX7_notAsked 20 = .ok (.goto 4, 3) := by decide +kernel
theorem dX7_notAsked_23 : decode cX7_notAsked 23 = .ok (.iconst 0, 1) := by decide +kernel
theorem dX7_notAsked_24 : decode cX7_notAsked 24 = .ok (.ireturn, 1) := by decide +kernel
set_option maxRecDepth 20000 in
theorem dX7_does_0 : decode cX7_does 0 = .ok (.aload_n 0, 1) := by decide +kernel
theorem dX7_does_1 : decode cX7_does 1 = .ok (.iload_n 1, 1) := by decide +kernel
theorem dX7_does_2 : decode cX7_does 2 = .ok (.iload_n 3, 1) := by decide +kernel
theorem dX7_does_3 : decode cX7_does 3 = .ok (.invokevirtual 193, 3) := by decide +kernel
theorem dX7_does_6 : decode cX7_does 6 = .ok (.istore 4, 2) := by decide +kernel
theorem dX7_does_8 : decode cX7_does 8 = .ok (.iload 4, 2) := by decide +kernel
theorem dX7_does_10 : decode cX7_does 10 = .ok (.ifCond .ne 9, 3) := by decide +kernel
theorem dX7_does_13 : decode cX7_does 13 = .ok (.iload_n 2, 1) := by decide +kernel
theorem dX7_does_14 : decode cX7_does 14 = .ok (.invokestatic 183, 3) := by decide +kernel
theorem dX7_does_17 : decode cX7_does 17 = .ok (.istore 4, 2) := by decide +kernel
theorem dX7_does_19 : decode cX7_does 19 = .ok (.iload 4, 2) := by decide +kernel
theorem dX7_does_21 : decode cX7_does 21 = .ok (.ifCond .ne 16, 3) := by decide +kernel
theorem dX7_does_24 : decode cX7_does 24 = .ok (.aload_n 0, 1) := by decide +kernel
theorem dX7_does_25 : decode cX7_does 25 = .ok (.iload_n 1, 1) := by decide +kernel
theorem dX7_does_26 : decode cX7_does 26 = .ok (.iload_n 2, 1) := by decide +kernel
theorem dX7_does_27 : decode cX7_does 27 = .ok (.invokevirtual 196, 3) := by decide +kernel
theorem dX7_does_30 : decode cX7_does 30 = .ok (.ifCond .ne 7, 3) := by decide +kernel
theorem dX7_does_33 : decode cX7_does 33 = .ok (.bipush (-3), 2) := by decide +kernel
theorem dX7_does_35 : decode cX7_does 35 = .ok (.istore 4, 2) := by decide +kernel
theorem dX7_does_37 : decode cX7_does 37 = .ok (.iload 4, 2) := by decide +kernel
theorem dX7_does_39 : decode cX7_does 39 = .ok (.ifCond .eq 12, 3) := by decide +kernel
theorem dX7_does_42 : decode cX7_does 42 = .ok (.aload_n 0, 1) := by decide +kernel
theorem dX7_does_43 : decode cX7_does 43 = .ok (.iload 4, 2) := by decide +kernel
theorem dX7_does_45 : decode cX7_does 45 = .ok (.invokevirtual 121, 3) := by decide +kernel
theorem dX7_does_48 : decode cX7_does 48 = .ok (.goto 8, 3) := by decide +kernel
theorem dX7_does_51 : decode cX7_does 51 = .ok (.aload_n 0, 1) := by decide +kernel
theorem dX7_does_52 : decode cX7_does 52 = .ok (.iload_n 3, 1) := by decide +kernel
theorem dX7_does_53 : decode cX7_does 53 = .ok (.invokevirtual 136, 3) := by decide +kernel
theorem dX7_does_56 : decode cX7_does 56 = .ok (.lreturn, 1) := by decide +kernel
set_option maxRecDepth 20000 in
theorem dX7_share_0 : decode cX7_share 0 = .ok (.aload_n 0, 1) := by decide +kernel
theorem dX7_share_1 : decode cX7_share 1 = .ok (.iload_n 1, 1) := by decide +kernel
theorem dX7_share_2 : decode cX7_share 2 = .ok (.iload_n 2, 1) := by decide +kernel
theorem dX7_share_3 : decode cX7_share 3 = .ok (.invokevirtual 193, 3) := by decide +kernel
theorem dX7_share_6 : decode cX7_share 6 = .ok (.istore_n 3, 1) := by decide +kernel
theorem dX7_share_7 : decode cX7_share 7 = .ok (.iload_n 3, 1) := by decide +kernel
theorem dX7_share_8 : decode cX7_share 8 = .ok (.ifCond .ne 15, 3) := by decide +kernel
theorem dX7_share_11 : decode cX7_share 11 = .ok (.aload_n 0, 1) := by decide +kernel
theorem dX7_share_12 : decode cX7_share 12 = .ok (.iload_n 1, 1) := by decide +kernel
theorem dX7_share_13 : decode cX7_share 13 = .ok (.iconst (-1), 1) := by decide +kernel
theorem dX7_share_14 : decode cX7_share 14 = .ok (.invokevirtual 196, 3) := by decide +kernel
theorem dX7_share_17 : decode cX7_share 17 = .ok (.ifCond .ne 6, 3) := by decide +kernel
theorem dX7_share_20 : decode cX7_share 20 = .ok (.bipush (-3), 2) := by decide +kernel
theorem dX7_share_22 : decode cX7_share 22 = .ok (.istore_n 3, 1) := by decide +kernel
theorem dX7_share_23 : decode cX7_share 23 = .ok (.iload_n 3, 1) := by decide +kernel
theorem dX7_share_24 : decode cX7_share 24 = .ok (.ifCond .eq 11, 3) := by decide +kernel
theorem dX7_share_27 : decode cX7_share 27 = .ok (.aload_n 0, 1) := by decide +kernel
theorem dX7_share_28 : decode cX7_share 28 = .ok (.iload_n 3, 1) := by decide +kernel
theorem dX7_share_29 : decode cX7_share 29 = .ok (.invokevirtual 121, 3) := by decide +kernel
theorem dX7_share_32 : decode cX7_share 32 = .ok (.goto 8, 3) := by decide +kernel
theorem dX7_share_35 : decode cX7_share 35 = .ok (.aload_n 0, 1) := by decide +kernel
theorem dX7_share_36 : decode cX7_share 36 = .ok (.iload_n 2, 1) := by decide +kernel
theorem dX7_share_37 : decode cX7_share 37 = .ok (.invokevirtual 136, 3) := by decide +kernel
theorem dX7_share_40 : decode cX7_share 40 = .ok (.lreturn, 1) := by decide +kernel
set_option maxRecDepth 20000 in
theorem dX7_serving_0 : decode cX7_serving 0 = .ok (.aload_n 0, 1) := by decide +kernel
theorem dX7_serving_1 : decode cX7_serving 1 = .ok (.iload_n 1, 1) := by decide +kernel
theorem dX7_serving_2 : decode cX7_serving 2 = .ok (.iload_n 3, 1) := by decide +kernel
theorem dX7_serving_3 : decode cX7_serving 3 = .ok (.invokevirtual 193, 3) := by decide +kernel
theorem dX7_serving_6 : decode cX7_serving 6 = .ok (.istore 4, 2) := by decide +kernel
theorem dX7_serving_8 : decode cX7_serving 8 = .ok (.iload 4, 2) := by decide +kernel
theorem dX7_serving_10 : decode cX7_serving 10 = .ok (.ifCond .ne 9, 3) := by decide +kernel
theorem dX7_serving_13 : decode cX7_serving 13 = .ok (.iload_n 2, 1) := by decide +kernel
theorem dX7_serving_14 : decode cX7_serving 14 = .ok (.invokestatic 183, 3) := by decide +kernel
theorem dX7_serving_17 : decode cX7_serving 17 = .ok (.istore 4, 2) := by decide +kernel
theorem dX7_serving_19 : decode cX7_serving 19 = .ok (.iload 4, 2) := by decide +kernel
theorem dX7_serving_21 : decode cX7_serving 21 = .ok (.ifCond .ne 25, 3) := by decide +kernel
theorem dX7_serving_24 : decode cX7_serving 24 = .ok (.aload_n 0, 1) := by decide +kernel
theorem dX7_serving_25 : decode cX7_serving 25 = .ok (.iload_n 1, 1) := by decide +kernel
theorem dX7_serving_26 : decode cX7_serving 26 = .ok (.iconst (-1), 1) := by decide +kernel
theorem dX7_serving_27 : decode cX7_serving 27 = .ok (.invokevirtual 196, 3) := by decide +kernel
theorem dX7_serving_30 : decode cX7_serving 30 = .ok (.ifCond .eq 12, 3) := by decide +kernel
theorem dX7_serving_33 : decode cX7_serving 33 = .ok (.aload_n 0, 1) := by decide +kernel
theorem dX7_serving_34 : decode cX7_serving 34 = .ok (.getfield 111, 3) := by decide +kernel
theorem dX7_serving_37 : decode cX7_serving 37 = .ok (.lconst 0, 1) := by decide +kernel
theorem dX7_serving_38 : decode cX7_serving 38 = .ok (.lcmp, 1) := by decide +kernel
theorem dX7_serving_39 : decode cX7_serving 39 = .ok (.ifCond .ne 7, 3) := by decide +kernel
theorem dX7_serving_42 : decode cX7_serving 42 = .ok (.bipush (-3), 2) := by decide +kernel
theorem dX7_serving_44 : decode cX7_serving 44 = .ok (.istore 4, 2) := by decide +kernel
theorem dX7_serving_46 : decode cX7_serving 46 = .ok (.iload 4, 2) := by decide +kernel
theorem dX7_serving_48 : decode cX7_serving 48 = .ok (.ifCond .eq 10, 3) := by decide +kernel
theorem dX7_serving_51 : decode cX7_serving 51 = .ok (.aload_n 0, 1) := by decide +kernel
theorem dX7_serving_52 : decode cX7_serving 52 = .ok (.iload 4, 2) := by decide +kernel
theorem dX7_serving_54 : decode cX7_serving 54 = .ok (.invokevirtual 121, 3) := by decide +kernel
theorem dX7_serving_57 : decode cX7_serving 57 = .ok (.lreturn, 1) := by decide +kernel
theorem dX7_serving_58 : decode cX7_serving 58 = .ok (.aload_n 0, 1) := by decide +kernel
theorem dX7_serving_59 : decode cX7_serving 59 = .ok (.getfield 111, 3) := by decide +kernel
theorem dX7_serving_62 : decode cX7_serving 62 = .ok (.lstore 5, 2) := by decide +kernel
theorem dX7_serving_64 : decode cX7_serving 64 = .ok (.aload_n 0, 1) := by decide +kernel
theorem dX7_serving_65 : decode cX7_serving 65 = .ok (.getfield 115, 3) := by decide +kernel
theorem dX7_serving_68 : decode cX7_serving 68 = .ok (.lstore 7, 2) := by decide +kernel
theorem dX7_serving_70 : decode cX7_serving 70 = .ok (.aload_n 0, 1) := by decide +kernel
theorem dX7_serving_71 : decode cX7_serving 71 = .ok (.iload_n 1, 1) := by decide +kernel
theorem dX7_serving_72 : decode cX7_serving 72 = .ok (.iload_n 2, 1) := by decide +kernel
theorem dX7_serving_73 : decode cX7_serving 73 = .ok (.invokevirtual 196, 3) := by decide +kernel
theorem dX7_serving_76 : decode cX7_serving 76 = .ok (.pop, 1) := by decide +kernel
theorem dX7_serving_77 : decode cX7_serving 77 = .ok (.aload_n 0, 1) := by decide +kernel
theorem dX7_serving_78 : decode cX7_serving 78 = .ok (.aload_n 0, 1) := by decide +kernel
theorem dX7_serving_79 : decode cX7_serving 79 = .ok (.getfield 111, 3) := by decide +kernel
theorem dX7_serving_82 : decode cX7_serving 82 = .ok (.lload 7, 2) := by decide +kernel
theorem dX7_serving_84 : decode cX7_serving 84 = .ok (.lmul, 1) := by decide +kernel
theorem dX7_serving_85 : decode cX7_serving 85 = .ok (.aload_n 0, 1) := by decide +kernel
theorem dX7_serving_86 : decode cX7_serving 86 = .ok (.getfield 115, 3) := by decide +kernel
theorem dX7_serving_89 : decode cX7_serving 89 = .ok (.lload 5, 2) := by decide +kernel
theorem dX7_serving_91 : decode cX7_serving 91 = .ok (.lmul, 1) := by decide +kernel
theorem dX7_serving_92 : decode cX7_serving 92 = .ok (.invokevirtual 132, 3) := by decide +kernel
theorem dX7_serving_95 : decode cX7_serving 95 = .ok (.aload_n 0, 1) := by decide +kernel
theorem dX7_serving_96 : decode cX7_serving 96 = .ok (.iload_n 3, 1) := by decide +kernel
theorem dX7_serving_97 : decode cX7_serving 97 = .ok (.invokevirtual 136, 3) := by decide +kernel
theorem dX7_serving_100 : decode cX7_serving 100 = .ok (.lreturn, 1) := by decide +kernel
set_option maxRecDepth 20000 in
theorem dX7_truly_0 : decode cX7_truly 0 = .ok (.aload_n 0, 1) := by decide +kernel
theorem dX7_truly_1 : decode cX7_truly 1 = .ok (.iload_n 1, 1) := by decide +kernel
theorem dX7_truly_2 : decode cX7_truly 2 = .ok (.iload_n 3, 1) := by decide +kernel
theorem dX7_truly_3 : decode cX7_truly 3 = .ok (.invokevirtual 193, 3) := by decide +kernel
theorem dX7_truly_6 : decode cX7_truly 6 = .ok (.istore 4, 2) := by decide +kernel
theorem dX7_truly_8 : decode cX7_truly 8 = .ok (.iload 4, 2) := by decide +kernel
theorem dX7_truly_10 : decode cX7_truly 10 = .ok (.ifCond .ne 9, 3) := by decide +kernel
theorem dX7_truly_13 : decode cX7_truly 13 = .ok (.iload_n 2, 1) := by decide +kernel
theorem dX7_truly_14 : decode cX7_truly 14 = .ok (.invokestatic 183, 3) := by decide +kernel
theorem dX7_truly_17 : decode cX7_truly 17 = .ok (.istore 4, 2) := by decide +kernel
theorem dX7_truly_19 : decode cX7_truly 19 = .ok (.iconst 0, 1) := by decide +kernel
theorem dX7_truly_20 : decode cX7_truly 20 = .ok (.istore 5, 2) := by decide +kernel
theorem dX7_truly_22 : decode cX7_truly 22 = .ok (.iconst 0, 1) := by decide +kernel
theorem dX7_truly_23 : decode cX7_truly 23 = .ok (.istore 6, 2) := by decide +kernel
theorem dX7_truly_25 : decode cX7_truly 25 = .ok (.iload 6, 2) := by decide +kernel
theorem dX7_truly_27 : decode cX7_truly 27 = .ok (.aload_n 0, 1) := by decide +kernel
theorem dX7_truly_28 : decode cX7_truly 28 = .ok (.getfield 163, 3) := by decide +kernel
theorem dX7_truly_31 : decode cX7_truly 31 = .ok (.if_icmp .ge 64, 3) := by decide +kernel
theorem dX7_truly_34 : decode cX7_truly 34 = .ok (.iload 4, 2) := by decide +kernel
theorem dX7_truly_36 : decode cX7_truly 36 = .ok (.ifCond .ne 59, 3) := by decide +kernel
theorem dX7_truly_39 : decode cX7_truly 39 = .ok (.iload 5, 2) := by decide +kernel
theorem dX7_truly_41 : decode cX7_truly 41 = .ok (.ifCond .ne 41, 3) := by decide +kernel
theorem dX7_truly_44 : decode cX7_truly 44 = .ok (.aload_n 0, 1) := by decide +kernel
theorem dX7_truly_45 : decode cX7_truly 45 = .ok (.getfield 44, 3) := by decide +kernel
theorem dX7_truly_48 : decode cX7_truly 48 = .ok (.iload 6, 2) := by decide +kernel
theorem dX7_truly_50 : decode cX7_truly 50 = .ok (.iaload, 1) := by decide +kernel
theorem dX7_truly_51 : decode cX7_truly 51 = .ok (.ifCond .eq 31, 3) := by decide +kernel
theorem dX7_truly_54 : decode cX7_truly 54 = .ok (.aload_n 0, 1) := by decide +kernel
theorem dX7_truly_55 : decode cX7_truly 55 = .ok (.getfield 44, 3) := by decide +kernel
theorem dX7_truly_58 : decode cX7_truly 58 = .ok (.iload 6, 2) := by decide +kernel
theorem dX7_truly_60 : decode cX7_truly 60 = .ok (.iaload, 1) := by decide +kernel
theorem dX7_truly_61 : decode cX7_truly 61 = .ok (.iconst 5, 1) := by decide +kernel
theorem dX7_truly_62 : decode cX7_truly 62 = .ok (.if_icmp .ne 24, 3) := by decide +kernel
theorem dX7_truly_65 : decode cX7_truly 65 = .ok (.aload_n 0, 1) := by decide +kernel
theorem dX7_truly_66 : decode cX7_truly 66 = .ok (.iload_n 1, 1) := by decide +kernel
theorem dX7_truly_67 : decode cX7_truly 67 = .ok (.aload_n 0, 1) := by decide +kernel
theorem dX7_truly_68 : decode cX7_truly 68 = .ok (.getfield 47, 3) := by decide +kernel
theorem dX7_truly_71 : decode cX7_truly 71 = .ok (.iload 6, 2) := by decide +kernel
theorem dX7_truly_73 : decode cX7_truly 73 = .ok (.iaload, 1) := by decide +kernel
theorem dX7_truly_74 : decode cX7_truly 74 = .ok (.invokevirtual 100, 3) := by decide +kernel
theorem dX7_truly_77 : decode cX7_truly 77 = .ok (.iconst 2, 1) := by decide +kernel
theorem dX7_truly_78 : decode cX7_truly 78 = .ok (.irem, 1) := by decide +kernel
theorem dX7_truly_79 : decode cX7_truly 79 = .ok (.ifCond .ne 7, 3) := by decide +kernel
theorem dX7_truly_82 : decode cX7_truly 82 = .ok (.iconst 1, 1) := by decide +kernel
theorem dX7_truly_83 : decode cX7_truly 83 = .ok (.goto 4, 3) := by decide +kernel
theorem dX7_truly_86 : decode cX7_truly 86 = .ok (.iconst 0, 1) := by decide +kernel
theorem dX7_truly_87 : decode cX7_truly 87 = .ok (.istore 5, 2) := by decide +kernel
theorem dX7_truly_89 : decode cX7_truly 89 = .ok (.iinc 6 1, 3) := by decide +kernel
theorem dX7_truly_92 : decode cX7_truly 92 = .ok (.goto (-67), 3) := by decide +kernel
theorem dX7_truly_95 : decode cX7_truly 95 = .ok (.iload 4, 2) := by decide +kernel
theorem dX7_truly_97 : decode cX7_truly 97 = .ok (.ifCond .ne 12, 3) := by decide +kernel
theorem dX7_truly_100 : decode cX7_truly 100 = .ok (.iload 5, 2) := by decide +kernel
theorem dX7_truly_102 : decode cX7_truly 102 = .ok (.ifCond .ne 7, 3) := by decide +kernel
theorem dX7_truly_105 : decode cX7_truly 105 = .ok (.bipush (-3), 2) := by decide +kernel
theorem dX7_truly_107 : decode cX7_truly 107 = .ok (.istore 4, 2) := by decide +kernel
theorem dX7_truly_109 : decode cX7_truly 109 = .ok (.iload 4, 2) := by decide +kernel
theorem dX7_truly_111 : decode cX7_truly 111 = .ok (.ifCond .eq 12, 3) := by decide +kernel
theorem dX7_truly_114 : decode cX7_truly 114 = .ok (.aload_n 0, 1) := by decide +kernel
theorem dX7_truly_115 : decode cX7_truly 115 = .ok (.iload 4, 2) := by decide +kernel
theorem dX7_truly_117 : decode cX7_truly 117 = .ok (.invokevirtual 121, 3) := by decide +kernel
theorem dX7_truly_120 : decode cX7_truly 120 = .ok (.goto 25, 3) := by decide +kernel
theorem dX7_truly_123 : decode cX7_truly 123 = .ok (.iload_n 3, 1) := by decide +kernel
theorem dX7_truly_124 : decode cX7_truly 124 = .ok (.ifCond .ne 20, 3) := by decide +kernel
theorem dX7_truly_127 : decode cX7_truly 127 = .ok (.aload_n 0, 1) := by decide +kernel
theorem dX7_truly_128 : decode cX7_truly 128 = .ok (.iload_n 2, 1) := by decide +kernel
theorem dX7_truly_129 : decode cX7_truly 129 = .ok (.invokevirtual 180, 3) := by decide +kernel
theorem dX7_truly_132 : decode cX7_truly 132 = .ok (.ineg, 1) := by decide +kernel
theorem dX7_truly_133 : decode cX7_truly 133 = .ok (.aload_n 0, 1) := by decide +kernel
theorem dX7_truly_134 : decode cX7_truly 134 = .ok (.getfield 53, 3) := by decide +kernel
theorem dX7_truly_137 : decode cX7_truly 137 = .ok (.iconst 4, 1) := by decide +kernel
theorem dX7_truly_138 : decode cX7_truly 138 = .ok (.iaload, 1) := by decide +kernel
theorem dX7_truly_139 : decode cX7_truly 139 = .ok (.isub, 1) := by decide +kernel
theorem dX7_truly_140 : decode cX7_truly 140 = .ok (.i2l, 1) := by decide +kernel
theorem dX7_truly_141 : decode cX7_truly 141 = .ok (.goto 4, 3) := by decide +kernel
theorem dX7_truly_144 : decode cX7_truly 144 = .ok (.lconst 1, 1) := by decide +kernel
theorem dX7_truly_145 : decode cX7_truly 145 = .ok (.lreturn, 1) := by decide +kernel
set_option maxRecDepth 20000 in
theorem dX7_faded_0 : decode cX7_faded 0 = .ok (.iload_n 1, 1) := by decide +kernel
theorem dX7_faded_1 : decode cX7_faded 1 = .ok (.invokestatic 77, 3) := by decide +kernel
theorem dX7_faded_4 : decode cX7_faded 4 = .ok (.ifCond .ne 9, 3) := by decide +kernel
theorem dX7_faded_7 : decode cX7_faded 7 = .ok (.aload_n 0, 1) := by decide +kernel
theorem dX7_faded_8 : decode cX7_faded 8 = .ok (.iconst (-1), 1) := by decide +kernel
theorem dX7_faded_9 : decode cX7_faded 9 = .ok (.invokevirtual 81, 3) := by decide +kernel
theorem dX7_faded_12 : decode cX7_faded 12 = .ok (.ireturn, 1) := by decide +kernel
theorem dX7_faded_13 : decode cX7_faded 13 = .ok (.iload_n 2, 1) := by decide +kernel
theorem dX7_faded_14 : decode cX7_faded 14 = .ok (.iconst 0, 1) := by decide +kernel
theorem dX7_faded_15 : decode cX7_faded 15 = .ok (.sipush 9999, 3) := by decide +kernel
theorem dX7_faded_18 : decode cX7_faded 18 = .ok (.invokestatic 104, 3) := by decide +kernel
theorem dX7_faded_21 : decode cX7_faded 21 = .ok (.istore_n 3, 1) := by decide +kernel
theorem dX7_faded_22 : decode cX7_faded 22 = .ok (.iload_n 3, 1) := by decide +kernel
theorem dX7_faded_23 : decode cX7_faded 23 = .ok (.ifCond .eq 9, 3) := by decide +kernel
theorem dX7_faded_26 : decode cX7_faded 26 = .ok (.aload_n 0, 1) := by decide +kernel
theorem dX7_faded_27 : decode cX7_faded 27 = .ok (.iload_n 3, 1) := by decide +kernel
theorem dX7_faded_28 : decode cX7_faded 28 = .ok (.invokevirtual 81, 3) := by decide +kernel
theorem dX7_faded_31 : decode cX7_faded 31 = .ok (.ireturn, 1) := by decide +kernel
theorem dX7_faded_32 : decode cX7_faded 32 = .ok (.iconst 0, 1) := by decide +kernel
theorem dX7_faded_33 : decode cX7_faded 33 = .ok (.istore 4, 2) := by decide +kernel
theorem dX7_faded_35 : decode cX7_faded 35 = .ok (.iload 4, 2) := by decide +kernel
theorem dX7_faded_37 : decode cX7_faded 37 = .ok (.bipush 40, 2) := by decide +kernel
theorem dX7_faded_39 : decode cX7_faded 39 = .ok (.if_icmp .gt 57, 3) := by decide +kernel
theorem dX7_faded_42 : decode cX7_faded 42 = .ok (.aload_n 0, 1) := by decide +kernel
theorem dX7_faded_43 : decode cX7_faded 43 = .ok (.iload_n 1, 1) := by decide +kernel
theorem dX7_faded_44 : decode cX7_faded 44 = .ok (.iload 4, 2) := by decide +kernel
theorem dX7_faded_46 : decode cX7_faded 46 = .ok (.invokevirtual 196, 3) := by decide +kernel
theorem dX7_faded_49 : decode cX7_faded 49 = .ok (.ifCond .ne 6, 3) := by decide +kernel
theorem dX7_faded_52 : decode cX7_faded 52 = .ok (.bipush (-9), 2) := by decide +kernel
theorem dX7_faded_54 : decode cX7_faded 54 = .ok (.ireturn, 1) := by decide +kernel
theorem dX7_faded_55 : decode cX7_faded 55 = .ok (.aload_n 0, 1) := by decide +kernel
theorem dX7_faded_56 : decode cX7_faded 56 = .ok (.getfield 111, 3) := by decide +kernel
theorem dX7_faded_59 : decode cX7_faded 59 = .ok (.lconst 0, 1) := by decide +kernel
theorem dX7_faded_60 : decode cX7_faded 60 = .ok (.lcmp, 1) := by decide +kernel
theorem dX7_faded_61 : decode cX7_faded 61 = .ok (.ifCond .ge 11, 3) := by decide +kernel
theorem dX7_faded_64 : decode cX7_faded 64 = .ok (.aload_n 0, 1) := by decide +kernel
theorem dX7_faded_65 : decode cX7_faded 65 = .ok (.getfield 111, 3) := by decide +kernel
theorem dX7_faded_68 : decode cX7_faded 68 = .ok (.lneg, 1) := by decide +kernel
theorem dX7_faded_69 : decode cX7_faded 69 = .ok (.goto 7, 3) := by decide +kernel
theorem dX7_faded_72 : decode cX7_faded 72 = .ok (.aload_n 0, 1) := by decide +kernel
theorem dX7_faded_73 : decode cX7_faded 73 = .ok (.getfield 111, 3) := by decide +kernel
theorem dX7_faded_76 : decode cX7_faded 76 = .ok (.iload_n 2, 1) := by decide +kernel
theorem dX7_faded_77 : decode cX7_faded 77 = .ok (.i2l, 1) := by decide +kernel
theorem dX7_faded_78 : decode cX7_faded 78 = .ok (.aload_n 0, 1) := by decide +kernel
theorem dX7_faded_79 : decode cX7_faded 79 = .ok (.getfield 115, 3) := by decide +kernel
theorem dX7_faded_82 : decode cX7_faded 82 = .ok (.lmul, 1) := by decide +kernel
theorem dX7_faded_83 : decode cX7_faded 83 = .ok (.lcmp, 1) := by decide +kernel
theorem dX7_faded_84 : decode cX7_faded 84 = .ok (.ifCond .gt 6, 3) := by decide +kernel
theorem dX7_faded_87 : decode cX7_faded 87 = .ok (.iload 4, 2) := by decide +kernel
theorem dX7_faded_89 : decode cX7_faded 89 = .ok (.ireturn, 1) := by decide +kernel
theorem dX7_faded_90 : decode cX7_faded 90 = .ok (.iinc 4 1, 3) := by decide +kernel
theorem dX7_faded_93 : decode cX7_faded 93 = .ok (.goto (-58), 3) := by decide +kernel
theorem dX7_faded_96 : decode cX7_faded 96 = .ok (.bipush (-9), 2) := by decide +kernel
theorem dX7_faded_98 : decode cX7_faded 98 = .ok (.ireturn, 1) := by decide +kernel
set_option maxRecDepth 20000 in
theorem dX7_bornIn_0 : decode cX7_bornIn 0 = .ok (.iconst 0, 1) := by decide +kernel
theorem dX7_bornIn_1 : decode cX7_bornIn 1 = .ok (.istore_n 2, 1) := by decide +kernel
theorem dX7_bornIn_2 : decode cX7_bornIn 2 = .ok (.iconst 0, 1) := by decide +kernel
theorem dX7_bornIn_3 : decode cX7_bornIn 3 = .ok (.istore_n 3, 1) := by decide +kernel
theorem dX7_bornIn_4 : decode cX7_bornIn 4 = .ok (.iload_n 3, 1) := by decide +kernel
theorem dX7_bornIn_5 : decode cX7_bornIn 5 = .ok (.aload_n 0, 1) := by decide +kernel
theorem dX7_bornIn_6 : decode cX7_bornIn 6 = .ok (.getfield 163, 3) := by decide +kernel
theorem dX7_bornIn_9 : decode cX7_bornIn 9 = .ok (.if_icmp .ge 31, 3) := by decide +kernel
theorem dX7_bornIn_12 : decode cX7_bornIn 12 = .ok (.iload_n 2, 1) := by decide +kernel
theorem dX7_bornIn_13 : decode cX7_bornIn 13 = .ok (.aload_n 0, 1) := by decide +kernel
theorem dX7_bornIn_14 : decode cX7_bornIn 14 = .ok (.aload_n 0, 1) := by decide +kernel
theorem dX7_bornIn_15 : decode cX7_bornIn 15 = .ok (.getfield 47, 3) := by decide +kernel
theorem dX7_bornIn_18 : decode cX7_bornIn 18 = .ok (.iload_n 3, 1) := by decide +kernel
theorem dX7_bornIn_19 : decode cX7_bornIn 19 = .ok (.iaload, 1) := by decide +kernel
theorem dX7_bornIn_20 : decode cX7_bornIn 20 = .ok (.invokevirtual 199, 3) := by decide +kernel
theorem dX7_bornIn_23 : decode cX7_bornIn 23 = .ok (.iload_n 1, 1) := by decide +kernel
theorem dX7_bornIn_24 : decode cX7_bornIn 24 = .ok (.if_icmp .ne 7, 3) := by decide +kernel
theorem dX7_bornIn_27 : decode cX7_bornIn 27 = .ok (.iconst 1, 1) := by decide +kernel
theorem dX7_bornIn_28 : decode cX7_bornIn 28 = .ok (.goto 4, 3) := by decide +kernel
theorem dX7_bornIn_31 : decode cX7_bornIn 31 = .ok (.iconst 0, 1) := by decide +kernel
theorem dX7_bornIn_32 : decode cX7_bornIn 32 = .ok (.iadd, 1) := by decide +kernel
theorem dX7_bornIn_33 : decode cX7_bornIn 33 = .ok (.istore_n 2, 1) := by decide +kernel
theorem dX7_bornIn_34 : decode cX7_bornIn 34 = .ok (.iinc 3 1, 3) := by decide +kernel
theorem dX7_bornIn_37 : decode cX7_bornIn 37 = .ok (.goto (-33), 3) := by decide +kernel
theorem dX7_bornIn_40 : decode cX7_bornIn 40 = .ok (.iload_n 2, 1) := by decide +kernel
theorem dX7_bornIn_41 : decode cX7_bornIn 41 = .ok (.ireturn, 1) := by decide +kernel
set_option maxRecDepth 20000 in
theorem dX7_group_0 : decode cX7_group 0 = .ok (.iload_n 1, 1) := by decide +kernel
theorem dX7_group_1 : decode cX7_group 1 = .ok (.invokestatic 77, 3) := by decide +kernel
theorem dX7_group_4 : decode cX7_group 4 = .ok (.ifCond .eq 10, 3) := by decide +kernel
theorem dX7_group_7 : decode cX7_group 7 = .ok (.iload_n 2, 1) := by decide +kernel
theorem dX7_group_8 : decode cX7_group 8 = .ok (.invokestatic 118, 3) := by decide +kernel
theorem dX7_group_11 : decode cX7_group 11 = .ok (.ifCond .ne 9, 3) := by decide +kernel
theorem dX7_group_14 : decode cX7_group 14 = .ok (.aload_n 0, 1) := by decide +kernel
theorem dX7_group_15 : decode cX7_group 15 = .ok (.iconst (-1), 1) := by decide +kernel
theorem dX7_group_16 : decode cX7_group 16 = .ok (.invokevirtual 121, 3) := by decide +kernel
theorem dX7_group_19 : decode cX7_group 19 = .ok (.lreturn, 1) := by decide +kernel
theorem dX7_group_20 : decode cX7_group 20 = .ok (.iload 4, 2) := by decide +kernel
theorem dX7_group_22 : decode cX7_group 22 = .ok (.invokestatic 125, 3) := by decide +kernel
theorem dX7_group_25 : decode cX7_group 25 = .ok (.ifCond .ne 10, 3) := by decide +kernel
theorem dX7_group_28 : decode cX7_group 28 = .ok (.aload_n 0, 1) := by decide +kernel
theorem dX7_group_29 : decode cX7_group 29 = .ok (.bipush (-2), 2) := by decide +kernel
theorem dX7_group_31 : decode cX7_group 31 = .ok (.invokevirtual 121, 3) := by decide +kernel
theorem dX7_group_34 : decode cX7_group 34 = .ok (.lreturn, 1) := by decide +kernel
theorem dX7_group_35 : decode cX7_group 35 = .ok (.iload_n 3, 1) := by decide +kernel
theorem dX7_group_36 : decode cX7_group 36 = .ok (.invokestatic 183, 3) := by decide +kernel
theorem dX7_group_39 : decode cX7_group 39 = .ok (.istore 5, 2) := by decide +kernel
theorem dX7_group_41 : decode cX7_group 41 = .ok (.iload 5, 2) := by decide +kernel
theorem dX7_group_43 : decode cX7_group 43 = .ok (.ifCond .eq 10, 3) := by decide +kernel
theorem dX7_group_46 : decode cX7_group 46 = .ok (.aload_n 0, 1) := by decide +kernel
theorem dX7_group_47 : decode cX7_group 47 = .ok (.iload 5, 2) := by decide +kernel
theorem dX7_group_49 : decode cX7_group 49 = .ok (.invokevirtual 121, 3) := by decide +kernel
theorem dX7_group_52 : decode cX7_group 52 = .ok (.lreturn, 1) := by decide +kernel
theorem dX7_group_53 : decode cX7_group 53 = .ok (.aload_n 0, 1) := by decide +kernel
theorem dX7_group_54 : decode cX7_group 54 = .ok (.iload_n 2, 1) := by decide +kernel
theorem dX7_group_55 : decode cX7_group 55 = .ok (.invokevirtual 202, 3) := by decide +kernel
theorem dX7_group_58 : decode cX7_group 58 = .ok (.aload_n 0, 1) := by decide +kernel
theorem dX7_group_59 : decode cX7_group 59 = .ok (.getfield 63, 3) := by decide +kernel
theorem dX7_group_62 : decode cX7_group 62 = .ok (.if_icmp .ge 16, 3) := by decide +kernel
theorem dX7_group_65 : decode cX7_group 65 = .ok (.iload 4, 2) := by decide +kernel
theorem dX7_group_67 : decode cX7_group 67 = .ok (.ifCond .ne 9, 3) := by decide +kernel
theorem dX7_group_70 : decode cX7_group 70 = .ok (.ldc2_w 205, 3) := by decide +kernel
theorem dX7_group_73 : decode cX7_group 73 = .ok (.goto 4, 3) := by decide +kernel
theorem dX7_group_76 : decode cX7_group 76 = .ok (.lconst 1, 1) := by decide +kernel
theorem dX7_group_77 : decode cX7_group 77 = .ok (.lreturn, 1) := by decide +kernel
theorem dX7_group_78 : decode cX7_group 78 = .ok (.lconst 0, 1) := by decide +kernel
theorem dX7_group_79 : decode cX7_group 79 = .ok (.lstore 6, 2) := by decide +kernel
theorem dX7_group_81 : decode cX7_group 81 = .ok (.iconst 0, 1) := by decide +kernel
theorem dX7_group_82 : decode cX7_group 82 = .ok (.istore 8, 2) := by decide +kernel
theorem dX7_group_84 : decode cX7_group 84 = .ok (.iload 8, 2) := by decide +kernel
theorem dX7_group_86 : decode cX7_group 86 = .ok (.aload_n 0, 1) := by decide +kernel
theorem dX7_group_87 : decode cX7_group 87 = .ok (.getfield 163, 3) := by decide +kernel
theorem dX7_group_90 : decode cX7_group 90 = .ok (.if_icmp .ge 41, 3) := by decide +kernel
theorem dX7_group_93 : decode cX7_group 93 = .ok (.lload 6, 2) := by decide +kernel
theorem dX7_group_95 : decode cX7_group 95 = .ok (.aload_n 0, 1) := by decide +kernel
theorem dX7_group_96 : decode cX7_group 96 = .ok (.aload_n 0, 1) := by decide +kernel
theorem dX7_group_97 : decode cX7_group 97 = .ok (.getfield 47, 3) := by decide +kernel
theorem dX7_group_100 : decode cX7_group 100 = .ok (.iload 8, 2) := by decide +kernel
theorem dX7_group_102 : decode cX7_group 102 = .ok (.iaload, 1) := by decide +kernel
theorem dX7_group_103 : decode cX7_group 103 = .ok (.invokevirtual 199, 3) := by decide +kernel
theorem dX7_group_106 : decode cX7_group 106 = .ok (.iload_n 2, 1) := by decide +kernel
theorem dX7_group_107 : decode cX7_group 107 = .ok (.if_icmp .ne 14, 3) := by decide +kernel
theorem dX7_group_110 : decode cX7_group 110 = .ok (.aload_n 0, 1) := by decide +kernel
theorem dX7_group_111 : decode cX7_group 111 = .ok (.iload_n 1, 1) := by decide +kernel
theorem dX7_group_112 : decode cX7_group 112 = .ok (.iload 8, 2) := by decide +kernel
theorem dX7_group_114 : decode cX7_group 114 = .ok (.iload_n 3, 1) := by decide +kernel
theorem dX7_group_115 : decode cX7_group 115 = .ok (.invokevirtual 186, 3) := by decide +kernel
theorem dX7_group_118 : decode cX7_group 118 = .ok (.goto 4, 3) := by decide +kernel
theorem dX7_group_121 : decode cX7_group 121 = .ok (.lconst 0, 1) := by decide +kernel
theorem dX7_group_122 : decode cX7_group 122 = .ok (.ladd, 1) := by decide +kernel
theorem dX7_group_123 : decode cX7_group 123 = .ok (.lstore 6, 2) := by decide +kernel
theorem dX7_group_125 : decode cX7_group 125 = .ok (.iinc 8 1, 3) := by decide +kernel
theorem dX7_group_128 : decode cX7_group 128 = .ok (.goto (-44), 3) := by decide +kernel
theorem dX7_group_131 : decode cX7_group 131 = .ok (.aload_n 0, 1) := by decide +kernel
theorem dX7_group_132 : decode cX7_group 132 = .ok (.lload 6, 2) := by decide +kernel
theorem dX7_group_134 : decode cX7_group 134 = .ok (.aload_n 0, 1) := by decide +kernel
theorem dX7_group_135 : decode cX7_group 135 = .ok (.iload_n 2, 1) := by decide +kernel
theorem dX7_group_136 : decode cX7_group 136 = .ok (.invokevirtual 202, 3) := by decide +kernel
theorem dX7_group_139 : decode cX7_group 139 = .ok (.i2l, 1) := by decide +kernel
theorem dX7_group_140 : decode cX7_group 140 = .ok (.invokevirtual 132, 3) := by decide +kernel
theorem dX7_group_143 : decode cX7_group 143 = .ok (.aload_n 0, 1) := by decide +kernel
theorem dX7_group_144 : decode cX7_group 144 = .ok (.iload 4, 2) := by decide +kernel
theorem dX7_group_146 : decode cX7_group 146 = .ok (.invokevirtual 136, 3) := by decide +kernel
theorem dX7_group_149 : decode cX7_group 149 = .ok (.lreturn, 1) := by decide +kernel
set_option maxRecDepth 20000 in
theorem dX7_least_0 : decode cX7_least 0 = .ok (.iload_n 1, 1) := by decide +kernel
theorem dX7_least_1 : decode cX7_least 1 = .ok (.iconst 1, 1) := by decide +kernel
theorem dX7_least_2 : decode cX7_least 2 = .ok (.bipush 60, 2) := by decide +kernel
theorem dX7_least_4 : decode cX7_least 4 = .ok (.invokestatic 104, 3) := by decide +kernel
theorem dX7_least_7 : decode cX7_least 7 = .ok (.istore_n 2, 1) := by decide +kernel
theorem dX7_least_8 : decode cX7_least 8 = .ok (.iload_n 2, 1) := by decide +kernel
theorem dX7_least_9 : decode cX7_least 9 = .ok (.ifCond .eq 9, 3) := by decide +kernel
theorem dX7_least_12 : decode cX7_least 12 = .ok (.aload_n 0, 1) := by decide +kernel
theorem dX7_least_13 : decode cX7_least 13 = .ok (.iload_n 2, 1) := by decide +kernel
theorem dX7_least_14 : decode cX7_least 14 = .ok (.invokevirtual 81, 3) := by decide +kernel
theorem dX7_least_17 : decode cX7_least 17 = .ok (.ireturn, 1) := by decide +kernel
theorem dX7_least_18 : decode cX7_least 18 = .ok (.aload_n 0, 1) := by decide +kernel
theorem dX7_least_19 : decode cX7_least 19 = .ok (.getfield 63, 3) := by decide +kernel
theorem dX7_least_22 : decode cX7_least 22 = .ok (.istore_n 3, 1) := by decide +kernel
theorem dX7_least_23 : decode cX7_least 23 = .ok (.aload_n 0, 1) := by decide +kernel
theorem dX7_least_24 : decode cX7_least 24 = .ok (.iload_n 1, 1) := by decide +kernel
theorem dX7_least_25 : decode cX7_least 25 = .ok (.putfield 63, 3) := by decide +kernel
theorem dX7_least_28 : decode cX7_least 28 = .ok (.iload_n 3, 1) := by decide +kernel
theorem dX7_least_29 : decode cX7_least 29 = .ok (.ireturn, 1) := by decide +kernel
set_option maxRecDepth 20000 in
theorem dX7_shown_0 : decode cX7_shown 0 = .ok (.iconst 0, 1) := by decide +kernel
theorem dX7_shown_1 : decode cX7_shown 1 = .ok (.istore_n 1, 1) := by decide +kernel
theorem dX7_shown_2 : decode cX7_shown 2 = .ok (.iconst 0, 1) := by decide +kernel
theorem dX7_shown_3 : decode cX7_shown 3 = .ok (.istore_n 2, 1) := by decide +kernel
theorem dX7_shown_4 : decode cX7_shown 4 = .ok (.iload_n 2, 1) := by decide +kernel
theorem dX7_shown_5 : decode cX7_shown 5 = .ok (.bipush 12, 2) := by decide +kernel
theorem dX7_shown_7 : decode cX7_shown 7 = .ok (.if_icmp .ge 31, 3) := by decide +kernel
theorem dX7_shown_10 : decode cX7_shown 10 = .ok (.iload_n 1, 1) := by decide +kernel
theorem dX7_shown_11 : decode cX7_shown 11 = .ok (.aload_n 0, 1) := by decide +kernel
theorem dX7_shown_12 : decode cX7_shown 12 = .ok (.iload_n 2, 1) := by decide +kernel
theorem dX7_shown_13 : decode cX7_shown 13 = .ok (.invokevirtual 202, 3) := by decide +kernel
theorem dX7_shown_16 : decode cX7_shown 16 = .ok (.aload_n 0, 1) := by decide +kernel
theorem dX7_shown_17 : decode cX7_shown 17 = .ok (.getfield 63, 3) := by decide +kernel
theorem dX7_shown_20 : decode cX7_shown 20 = .ok (.if_icmp .lt 9, 3) := by decide +kernel
theorem dX7_shown_23 : decode cX7_shown 23 = .ok (.iconst 1, 1) := by decide +kernel
theorem dX7_shown_24 : decode cX7_shown 24 = .ok (.iload_n 2, 1) := by decide +kernel
theorem dX7_shown_25 : decode cX7_shown 25 = .ok (.ishl, 1) := by decide +kernel
theorem dX7_shown_26 : decode cX7_shown 26 = .ok (.goto 4, 3) := by decide +kernel
theorem dX7_shown_29 : decode cX7_shown 29 = .ok (.iconst 0, 1) := by decide +kernel
theorem dX7_shown_30 : decode cX7_shown 30 = .ok (.ior, 1) := by decide +kernel
theorem dX7_shown_31 : decode cX7_shown 31 = .ok (.istore_n 1, 1) := by decide +kernel
theorem dX7_shown_32 : decode cX7_shown 32 = .ok (.iinc 2 1, 3) := by decide +kernel
theorem dX7_shown_35 : decode cX7_shown 35 = .ok (.goto (-31), 3) := by decide +kernel
theorem dX7_shown_38 : decode cX7_shown 38 = .ok (.iload_n 1, 1) := by decide +kernel
theorem dX7_shown_39 : decode cX7_shown 39 = .ok (.ireturn, 1) := by decide +kernel
set_option maxRecDepth 20000 in
theorem dX7_moved_0 : decode cX7_moved 0 = .ok (.iconst 0, 1) := by decide +kernel
theorem dX7_moved_1 : decode cX7_moved 1 = .ok (.istore_n 1, 1) := by decide +kernel
theorem dX7_moved_2 : decode cX7_moved 2 = .ok (.iconst 0, 1) := by decide +kernel
theorem dX7_moved_3 : decode cX7_moved 3 = .ok (.istore_n 2, 1) := by decide +kernel
theorem dX7_moved_4 : decode cX7_moved 4 = .ok (.iload_n 2, 1) := by decide +kernel
theorem dX7_moved_5 : decode cX7_moved 5 = .ok (.aload_n 0, 1) := by decide +kernel
theorem dX7_moved_6 : decode cX7_moved 6 = .ok (.getfield 163, 3) := by decide +kernel
theorem dX7_moved_9 : decode cX7_moved 9 = .ok (.if_icmp .ge 32, 3) := by decide +kernel
theorem dX7_moved_12 : decode cX7_moved 12 = .ok (.iload_n 1, 1) := by decide +kernel
theorem dX7_moved_13 : decode cX7_moved 13 = .ok (.aload_n 0, 1) := by decide +kernel
theorem dX7_moved_14 : decode cX7_moved 14 = .ok (.iconst 0, 1) := by decide +kernel
theorem dX7_moved_15 : decode cX7_moved 15 = .ok (.iload_n 2, 1) := by decide +kernel
theorem dX7_moved_16 : decode cX7_moved 16 = .ok (.invokevirtual 173, 3) := by decide +kernel
theorem dX7_moved_19 : decode cX7_moved 19 = .ok (.aload_n 0, 1) := by decide +kernel
theorem dX7_moved_20 : decode cX7_moved 20 = .ok (.iconst 1, 1) := by decide +kernel
theorem dX7_moved_21 : decode cX7_moved 21 = .ok (.iload_n 2, 1) := by decide +kernel
theorem dX7_moved_22 : decode cX7_moved 22 = .ok (.invokevirtual 173, 3) := by decide +kernel
theorem dX7_moved_25 : decode cX7_moved 25 = .ok (.if_icmp .eq 7, 3) := by decide +kernel
theorem dX7_moved_28 : decode cX7_moved 28 = .ok (.iconst 1, 1) := by decide +kernel
theorem dX7_moved_29 : decode cX7_moved 29 = .ok (.goto 4, 3) := by decide +kernel
theorem dX7_moved_32 : decode cX7_moved 32 = .ok (.iconst 0, 1) := by decide +kernel
theorem dX7_moved_33 : decode cX7_moved 33 = .ok (.iadd, 1) := by decide +kernel
theorem dX7_moved_34 : decode cX7_moved 34 = .ok (.istore_n 1, 1) := by decide +kernel
theorem dX7_moved_35 : decode cX7_moved 35 = .ok (.iinc 2 1, 3) := by decide +kernel
theorem dX7_moved_38 : decode cX7_moved 38 = .ok (.goto (-34), 3) := by decide +kernel
theorem dX7_moved_41 : decode cX7_moved 41 = .ok (.iload_n 1, 1) := by decide +kernel
theorem dX7_moved_42 : decode cX7_moved 42 = .ok (.ireturn, 1) := by decide +kernel
set_option maxRecDepth 20000 in
theorem dX7_cuts_0 : decode cX7_cuts 0 = .ok (.iload_n 1, 1) := by decide +kernel
theorem dX7_cuts_1 : decode cX7_cuts 1 = .ok (.invokestatic 77, 3) := by decide +kernel
theorem dX7_cuts_4 : decode cX7_cuts 4 = .ok (.ifCond .ne 9, 3) := by decide +kernel
theorem dX7_cuts_7 : decode cX7_cuts 7 = .ok (.aload_n 0, 1) := by decide +kernel
theorem dX7_cuts_8 : decode cX7_cuts 8 = .ok (.iconst (-1), 1) := by decide +kernel
theorem dX7_cuts_9 : decode cX7_cuts 9 = .ok (.invokevirtual 81, 3) := by decide +kernel
theorem dX7_cuts_12 : decode cX7_cuts 12 = .ok (.ireturn, 1) := by decide +kernel
theorem dX7_cuts_13 : decode cX7_cuts 13 = .ok (.iload_n 2, 1) := by decide +kernel
theorem dX7_cuts_14 : decode cX7_cuts 14 = .ok (.iconst 0, 1) := by decide +kernel
theorem dX7_cuts_15 : decode cX7_cuts 15 = .ok (.bipush 60, 2) := by decide +kernel
theorem dX7_cuts_17 : decode cX7_cuts 17 = .ok (.invokestatic 104, 3) := by decide +kernel
theorem dX7_cuts_20 : decode cX7_cuts 20 = .ok (.istore_n 3, 1) := by decide +kernel
theorem dX7_cuts_21 : decode cX7_cuts 21 = .ok (.iload_n 3, 1) := by decide +kernel
theorem dX7_cuts_22 : decode cX7_cuts 22 = .ok (.ifCond .eq 9, 3) := by decide +kernel
theorem dX7_cuts_25 : decode cX7_cuts 25 = .ok (.aload_n 0, 1) := by decide +kernel
theorem dX7_cuts_26 : decode cX7_cuts 26 = .ok (.iload_n 3, 1) := by decide +kernel
theorem dX7_cuts_27 : decode cX7_cuts 27 = .ok (.invokevirtual 81, 3) := by decide +kernel
theorem dX7_cuts_30 : decode cX7_cuts 30 = .ok (.ireturn, 1) := by decide +kernel
theorem dX7_cuts_31 : decode cX7_cuts 31 = .ok (.iconst 0, 1) := by decide +kernel
theorem dX7_cuts_32 : decode cX7_cuts 32 = .ok (.istore 4, 2) := by decide +kernel
theorem dX7_cuts_34 : decode cX7_cuts 34 = .ok (.iload 4, 2) := by decide +kernel
theorem dX7_cuts_36 : decode cX7_cuts 36 = .ok (.sipush 366, 3) := by decide +kernel
theorem dX7_cuts_39 : decode cX7_cuts 39 = .ok (.if_icmp .gt 66, 3) := by decide +kernel
theorem dX7_cuts_42 : decode cX7_cuts 42 = .ok (.iconst 0, 1) := by decide +kernel
theorem dX7_cuts_43 : decode cX7_cuts 43 = .ok (.istore 5, 2) := by decide +kernel
theorem dX7_cuts_45 : decode cX7_cuts 45 = .ok (.iconst 0, 1) := by decide +kernel
theorem dX7_cuts_46 : decode cX7_cuts 46 = .ok (.istore 6, 2) := by decide +kernel
theorem dX7_cuts_48 : decode cX7_cuts 48 = .ok (.iload 6, 2) := by decide +kernel
theorem dX7_cuts_50 : decode cX7_cuts 50 = .ok (.aload_n 0, 1) := by decide +kernel
theorem dX7_cuts_51 : decode cX7_cuts 51 = .ok (.getfield 163, 3) := by decide +kernel
theorem dX7_cuts_54 : decode cX7_cuts 54 = .ok (.if_icmp .ge 36, 3) := by decide +kernel
theorem dX7_cuts_57 : decode cX7_cuts 57 = .ok (.iload 5, 2) := by decide +kernel
theorem dX7_cuts_59 : decode cX7_cuts 59 = .ok (.aload_n 0, 1) := by decide +kernel
theorem dX7_cuts_60 : decode cX7_cuts 60 = .ok (.iload_n 1, 1) := by decide +kernel
theorem dX7_cuts_61 : decode cX7_cuts 61 = .ok (.aload_n 0, 1) := by decide +kernel
theorem dX7_cuts_62 : decode cX7_cuts 62 = .ok (.getfield 47, 3) := by decide +kernel
theorem dX7_cuts_65 : decode cX7_cuts 65 = .ok (.iload 6, 2) := by decide +kernel
theorem dX7_cuts_67 : decode cX7_cuts 67 = .ok (.iaload, 1) := by decide +kernel
theorem dX7_cuts_68 : decode cX7_cuts 68 = .ok (.invokevirtual 100, 3) := by decide +kernel
theorem dX7_cuts_71 : decode cX7_cuts 71 = .ok (.iload 4, 2) := by decide +kernel
theorem dX7_cuts_73 : decode cX7_cuts 73 = .ok (.if_icmp .gt 7, 3) := by decide +kernel
theorem dX7_cuts_76 : decode cX7_cuts 76 = .ok (.iconst 1, 1) := by decide +kernel
theorem dX7_cuts_77 : decode cX7_cuts 77 = .ok (.goto 4, 3) := by decide +kernel
theorem dX7_cuts_80 : decode cX7_cuts 80 = .ok (.iconst 0, 1) := by decide +kernel
theorem dX7_cuts_81 : decode cX7_cuts 81 = .ok (.iadd, 1) := by decide +kernel
theorem dX7_cuts_82 : decode cX7_cuts 82 = .ok (.istore 5, 2) := by decide +kernel
theorem dX7_cuts_84 : decode cX7_cuts 84 = .ok (.iinc 6 1, 3) := by decide +kernel
theorem dX7_cuts_87 : decode cX7_cuts 87 = .ok (.goto (-39), 3) := by decide +kernel
theorem dX7_cuts_90 : decode cX7_cuts 90 = .ok (.iload 5, 2) := by decide +kernel
theorem dX7_cuts_92 : decode cX7_cuts 92 = .ok (.iload_n 2, 1) := by decide +kernel
theorem dX7_cuts_93 : decode cX7_cuts 93 = .ok (.if_icmp .lt 6, 3) := by decide +kernel
theorem dX7_cuts_96 : decode cX7_cuts 96 = .ok (.iload 4, 2) := by decide +kernel
theorem dX7_cuts_98 : decode cX7_cuts 98 = .ok (.ireturn, 1) := by decide +kernel
theorem dX7_cuts_99 : decode cX7_cuts 99 = .ok (.iinc 4 1, 3) := by decide +kernel
theorem dX7_cuts_102 : decode cX7_cuts 102 = .ok (.goto (-68), 3) := by decide +kernel
theorem dX7_cuts_105 : decode cX7_cuts 105 = .ok (.bipush (-9), 2) := by decide +kernel
theorem dX7_cuts_107 : decode cX7_cuts 107 = .ok (.ireturn, 1) := by decide +kernel
theorem dX7_passes_0 : decode cX7_passes 0 = .ok (.iconst 0, 1) := by decide +kernel
theorem dX7_passes_1 : decode cX7_passes 1 = .ok (.istore_n 2, 1) := by decide +kernel
theorem dX7_passes_2 : decode cX7_passes 2 = .ok (.iload_n 2, 1) := by decide +kernel
theorem dX7_passes_3 : decode cX7_passes 3 = .ok (.aload_n 1, 1) := by decide +kernel
theorem dX7_passes_4 : decode cX7_passes 4 = .ok (.arraylength, 1) := by decide +kernel
theorem dX7_passes_5 : decode cX7_passes 5 = .ok (.if_icmp .ge 53, 3) := by decide +kernel
theorem dX7_passes_8 : decode cX7_passes 8 = .ok (.aload_n 0, 1) := by decide +kernel
theorem dX7_passes_9 : decode cX7_passes 9 = .ok (.getfield 207, 3) := by decide +kernel
theorem dX7_passes_12 : decode cX7_passes 12 = .ok (.ifCond .eq 18, 3) := by decide +kernel
theorem dX7_passes_15 : decode cX7_passes 15 = .ok (.aload_n 0, 1) := by decide +kernel
theorem dX7_passes_16 : decode cX7_passes 16 = .ok (.getfield 66, 3) := by decide +kernel
theorem dX7_passes_19 : decode cX7_passes 19 = .ok (.aload_n 0, 1) := by decide +kernel
theorem dX7_passes_20 : decode cX7_passes 20 = .ok (.getfield 211, 3) := by decide +kernel
theorem dX7_passes_23 : decode cX7_passes 23 = .ok (.aload_n 1, 1) := by decide +kernel
theorem dX7_passes_24 : decode cX7_passes 24 = .ok (.iload_n 2, 1) := by decide +kernel
theorem dX7_passes_25 : decode cX7_passes 25 = .ok (.iaload, 1) := by decide +kernel
theorem dX7_passes_26 : decode cX7_passes 26 = .ok (.iastore, 1) := by decide +kernel
theorem dX7_passes_27 : decode cX7_passes 27 = .ok (.goto 15, 3) := by decide +kernel
theorem dX7_passes_30 : decode cX7_passes 30 = .ok (.aload_n 1, 1) := by decide +kernel
theorem dX7_passes_31 : decode cX7_passes 31 = .ok (.iload_n 2, 1) := by decide +kernel
theorem dX7_passes_32 : decode cX7_passes 32 = .ok (.aload_n 0, 1) := by decide +kernel
theorem dX7_passes_33 : decode cX7_passes 33 = .ok (.getfield 66, 3) := by decide +kernel
theorem dX7_passes_36 : decode cX7_passes 36 = .ok (.aload_n 0, 1) := by decide +kernel
theorem dX7_passes_37 : decode cX7_passes 37 = .ok (.getfield 211, 3) := by decide +kernel
theorem dX7_passes_40 : decode cX7_passes 40 = .ok (.iaload, 1) := by decide +kernel
theorem dX7_passes_41 : decode cX7_passes 41 = .ok (.iastore, 1) := by decide +kernel
theorem dX7_passes_42 : decode cX7_passes 42 = .ok (.aload_n 0, 1) := by decide +kernel
theorem dX7_passes_43 : decode cX7_passes 43 = .ok (.dup, 1) := by decide +kernel
theorem dX7_passes_44 : decode cX7_passes 44 = .ok (.getfield 211, 3) := by decide +kernel
theorem dX7_passes_47 : decode cX7_passes 47 = .ok (.iconst 1, 1) := by decide +kernel
theorem dX7_passes_48 : decode cX7_passes 48 = .ok (.iadd, 1) := by decide +kernel
theorem dX7_passes_49 : decode cX7_passes 49 = .ok (.putfield 211, 3) := by decide +kernel
theorem dX7_passes_52 : decode cX7_passes 52 = .ok (.iinc 2 1, 3) := by decide +kernel
theorem dX7_passes_55 : decode cX7_passes 55 = .ok (.goto (-53), 3) := by decide +kernel
theorem dX7_passes_58 : decode cX7_passes 58 = .ok (.return_, 1) := by decide +kernel
theorem dX7_passOne_0 : decode cX7_passOne 0 = .ok (.aload_n 0, 1) := by decide +kernel
theorem dX7_passOne_1 : decode cX7_passOne 1 = .ok (.getfield 207, 3) := by decide +kernel
theorem dX7_passOne_4 : decode cX7_passOne 4 = .ok (.ifCond .eq 7, 3) := by decide +kernel
theorem dX7_passOne_7 : decode cX7_passOne 7 = .ok (.iload_n 1, 1) := by decide +kernel
theorem dX7_passOne_8 : decode cX7_passOne 8 = .ok (.goto 12, 3) := by decide +kernel
theorem dX7_passOne_11 : decode cX7_passOne 11 = .ok (.aload_n 0, 1) := by decide +kernel
theorem dX7_passOne_12 : decode cX7_passOne 12 = .ok (.getfield 66, 3) := by decide +kernel
theorem dX7_passOne_15 : decode cX7_passOne 15 = .ok (.aload_n 0, 1) := by decide +kernel
theorem dX7_passOne_16 : decode cX7_passOne 16 = .ok (.getfield 211, 3) := by decide +kernel
theorem dX7_passOne_19 : decode cX7_passOne 19 = .ok (.iaload, 1) := by decide +kernel
theorem dX7_passOne_20 : decode cX7_passOne 20 = .ok (.istore_n 2, 1) := by decide +kernel
theorem dX7_passOne_21 : decode cX7_passOne 21 = .ok (.aload_n 0, 1) := by decide +kernel
theorem dX7_passOne_22 : decode cX7_passOne 22 = .ok (.getfield 207, 3) := by decide +kernel
theorem dX7_passOne_25 : decode cX7_passOne 25 = .ok (.ifCond .eq 13, 3) := by decide +kernel
theorem dX7_passOne_28 : decode cX7_passOne 28 = .ok (.aload_n 0, 1) := by decide +kernel
theorem dX7_passOne_29 : decode cX7_passOne 29 = .ok (.getfield 66, 3) := by decide +kernel
theorem dX7_passOne_32 : decode cX7_passOne 32 = .ok (.aload_n 0, 1) := by decide +kernel
theorem dX7_passOne_33 : decode cX7_passOne 33 = .ok (.getfield 211, 3) := by decide +kernel
theorem dX7_passOne_36 : decode cX7_passOne 36 = .ok (.iload_n 1, 1) := by decide +kernel
theorem dX7_passOne_37 : decode cX7_passOne 37 = .ok (.iastore, 1) := by decide +kernel
theorem dX7_passOne_38 : decode cX7_passOne 38 = .ok (.aload_n 0, 1) := by decide +kernel
theorem dX7_passOne_39 : decode cX7_passOne 39 = .ok (.dup, 1) := by decide +kernel
theorem dX7_passOne_40 : decode cX7_passOne 40 = .ok (.getfield 211, 3) := by decide +kernel
theorem dX7_passOne_43 : decode cX7_passOne 43 = .ok (.iconst 1, 1) := by decide +kernel
theorem dX7_passOne_44 : decode cX7_passOne 44 = .ok (.iadd, 1) := by decide +kernel
theorem dX7_passOne_45 : decode cX7_passOne 45 = .ok (.putfield 211, 3) := by decide +kernel
theorem dX7_passOne_48 : decode cX7_passOne 48 = .ok (.iload_n 2, 1) := by decide +kernel
theorem dX7_passOne_49 : decode cX7_passOne 49 = .ok (.ireturn, 1) := by decide +kernel
set_option maxRecDepth 20000 in
theorem dX7_passesAll_0 : decode cX7_passesAll 0 = .ok (.aload_n 0, 1) := by decide +kernel
theorem dX7_passesAll_1 : decode cX7_passesAll 1 = .ok (.iconst 0, 1) := by decide +kernel
theorem dX7_passesAll_2 : decode cX7_passesAll 2 = .ok (.putfield 211, 3) := by decide +kernel
theorem dX7_passesAll_5 : decode cX7_passesAll 5 = .ok (.aload_n 0, 1) := by decide +kernel
theorem dX7_passesAll_6 : decode cX7_passesAll 6 = .ok (.aload_n 0, 1) := by decide +kernel
theorem dX7_passesAll_7 : decode cX7_passesAll 7 = .ok (.getfield 13, 3) := by decide +kernel
theorem dX7_passesAll_10 : decode cX7_passesAll 10 = .ok (.invokevirtual 214, 3) := by decide +kernel
theorem dX7_passesAll_13 : decode cX7_passesAll 13 = .ok (.aload_n 0, 1) := by decide +kernel
theorem dX7_passesAll_14 : decode cX7_passesAll 14 = .ok (.aload_n 0, 1) := by decide +kernel
theorem dX7_passesAll_15 : decode cX7_passesAll 15 = .ok (.getfield 16, 3) := by decide +kernel
theorem dX7_passesAll_18 : decode cX7_passesAll 18 = .ok (.invokevirtual 214, 3) := by decide +kernel
theorem dX7_passesAll_21 : decode cX7_passesAll 21 = .ok (.aload_n 0, 1) := by decide +kernel
theorem dX7_passesAll_22 : decode cX7_passesAll 22 = .ok (.aload_n 0, 1) := by decide +kernel
theorem dX7_passesAll_23 : decode cX7_passesAll 23 = .ok (.getfield 19, 3) := by decide +kernel
theorem dX7_passesAll_26 : decode cX7_passesAll 26 = .ok (.invokevirtual 214, 3) := by decide +kernel
theorem dX7_passesAll_29 : decode cX7_passesAll 29 = .ok (.aload_n 0, 1) := by decide +kernel
theorem dX7_passesAll_30 : decode cX7_passesAll 30 = .ok (.aload_n 0, 1) := by decide +kernel
theorem dX7_passesAll_31 : decode cX7_passesAll 31 = .ok (.getfield 22, 3) := by decide +kernel
theorem dX7_passesAll_34 : decode cX7_passesAll 34 = .ok (.invokevirtual 214, 3) := by decide +kernel
theorem dX7_passesAll_37 : decode cX7_passesAll 37 = .ok (.aload_n 0, 1) := by decide +kernel
theorem dX7_passesAll_38 : decode cX7_passesAll 38 = .ok (.aload_n 0, 1) := by decide +kernel
theorem dX7_passesAll_39 : decode cX7_passesAll 39 = .ok (.getfield 25, 3) := by decide +kernel
theorem dX7_passesAll_42 : decode cX7_passesAll 42 = .ok (.invokevirtual 214, 3) := by decide +kernel
theorem dX7_passesAll_45 : decode cX7_passesAll 45 = .ok (.aload_n 0, 1) := by decide +kernel
theorem dX7_passesAll_46 : decode cX7_passesAll 46 = .ok (.aload_n 0, 1) := by decide +kernel
theorem dX7_passesAll_47 : decode cX7_passesAll 47 = .ok (.getfield 44, 3) := by decide +kernel
theorem dX7_passesAll_50 : decode cX7_passesAll 50 = .ok (.invokevirtual 214, 3) := by decide +kernel
theorem dX7_passesAll_53 : decode cX7_passesAll 53 = .ok (.aload_n 0, 1) := by decide +kernel
theorem dX7_passesAll_54 : decode cX7_passesAll 54 = .ok (.aload_n 0, 1) := by decide +kernel
theorem dX7_passesAll_55 : decode cX7_passesAll 55 = .ok (.getfield 47, 3) := by decide +kernel
theorem dX7_passesAll_58 : decode cX7_passesAll 58 = .ok (.invokevirtual 214, 3) := by decide +kernel
theorem dX7_passesAll_61 : decode cX7_passesAll 61 = .ok (.aload_n 0, 1) := by decide +kernel
theorem dX7_passesAll_62 : decode cX7_passesAll 62 = .ok (.aload_n 0, 1) := by decide +kernel
theorem dX7_passesAll_63 : decode cX7_passesAll 63 = .ok (.getfield 50, 3) := by decide +kernel
theorem dX7_passesAll_66 : decode cX7_passesAll 66 = .ok (.invokevirtual 214, 3) := by decide +kernel
theorem dX7_passesAll_69 : decode cX7_passesAll 69 = .ok (.aload_n 0, 1) := by decide +kernel
theorem dX7_passesAll_70 : decode cX7_passesAll 70 = .ok (.aload_n 0, 1) := by decide +kernel
theorem dX7_passesAll_71 : decode cX7_passesAll 71 = .ok (.getfield 53, 3) := by decide +kernel
theorem dX7_passesAll_74 : decode cX7_passesAll 74 = .ok (.invokevirtual 214, 3) := by decide +kernel
theorem dX7_passesAll_77 : decode cX7_passesAll 77 = .ok (.aload_n 0, 1) := by decide +kernel
theorem dX7_passesAll_78 : decode cX7_passesAll 78 = .ok (.aload_n 0, 1) := by decide +kernel
theorem dX7_passesAll_79 : decode cX7_passesAll 79 = .ok (.aload_n 0, 1) := by decide +kernel
theorem dX7_passesAll_80 : decode cX7_passesAll 80 = .ok (.getfield 163, 3) := by decide +kernel
theorem dX7_passesAll_83 : decode cX7_passesAll 83 = .ok (.invokevirtual 218, 3) := by decide +kernel
theorem dX7_passesAll_86 : decode cX7_passesAll 86 = .ok (.putfield 163, 3) := by decide +kernel
theorem dX7_passesAll_89 : decode cX7_passesAll 89 = .ok (.aload_n 0, 1) := by decide +kernel
theorem dX7_passesAll_90 : decode cX7_passesAll 90 = .ok (.aload_n 0, 1) := by decide +kernel
theorem dX7_passesAll_91 : decode cX7_passesAll 91 = .ok (.aload_n 0, 1) := by decide +kernel
theorem dX7_passesAll_92 : decode cX7_passesAll 92 = .ok (.getfield 59, 3) := by decide +kernel
theorem dX7_passesAll_95 : decode cX7_passesAll 95 = .ok (.invokevirtual 218, 3) := by decide +kernel
theorem dX7_passesAll_98 : decode cX7_passesAll 98 = .ok (.putfield 59, 3) := by decide +kernel
theorem dX7_passesAll_101 : decode cX7_passesAll 101 = .ok (.aload_n 0, 1) := by decide +kernel
theorem dX7_passesAll_102 : decode cX7_passesAll 102 = .ok (.aload_n 0, 1) := by decide +kernel
theorem dX7_passesAll_103 : decode cX7_passesAll 103 = .ok (.aload_n 0, 1) := by decide +kernel
theorem dX7_passesAll_104 : decode cX7_passesAll 104 = .ok (.getfield 63, 3) := by decide +kernel
theorem dX7_passesAll_107 : decode cX7_passesAll 107 = .ok (.invokevirtual 218, 3) := by decide +kernel
theorem dX7_passesAll_110 : decode cX7_passesAll 110 = .ok (.putfield 63, 3) := by decide +kernel
theorem dX7_passesAll_113 : decode cX7_passesAll 113 = .ok (.return_, 1) := by decide +kernel
set_option maxRecDepth 20000 in
theorem dX7_image_0 : decode cX7_image 0 = .ok (.aload_n 0, 1) := by decide +kernel
theorem dX7_image_1 : decode cX7_image 1 = .ok (.iconst 1, 1) := by decide +kernel
theorem dX7_image_2 : decode cX7_image 2 = .ok (.putfield 207, 3) := by decide +kernel
theorem dX7_image_5 : decode cX7_image 5 = .ok (.aload_n 0, 1) := by decide +kernel
theorem dX7_image_6 : decode cX7_image 6 = .ok (.iconst 1, 1) := by decide +kernel
theorem dX7_image_7 : decode cX7_image 7 = .ok (.putfield 221, 3) := by decide +kernel
theorem dX7_image_10 : decode cX7_image 10 = .ok (.aload_n 0, 1) := by decide +kernel
theorem dX7_image_11 : decode cX7_image 11 = .ok (.invokevirtual 224, 3) := by decide +kernel
theorem dX7_image_14 : decode cX7_image 14 = .ok (.aload_n 0, 1) := by decide +kernel
theorem dX7_image_15 : decode cX7_image 15 = .ok (.getfield 163, 3) := by decide +kernel
theorem dX7_image_18 : decode cX7_image 18 = .ok (.ireturn, 1) := by decide +kernel
set_option maxRecDepth 20000 in
theorem dX7_on_0 : decode cX7_on 0 = .ok (.aload_n 0, 1) := by decide +kernel
theorem dX7_on_1 : decode cX7_on 1 = .ok (.getfield 221, 3) := by decide +kernel
theorem dX7_on_4 : decode cX7_on 4 = .ok (.ifCond .ne 10, 3) := by decide +kernel
theorem dX7_on_7 : decode cX7_on 7 = .ok (.aload_n 0, 1) := by decide +kernel
theorem dX7_on_8 : decode cX7_on 8 = .ok (.bipush (-3), 2) := by decide +kernel
theorem dX7_on_10 : decode cX7_on 10 = .ok (.invokevirtual 81, 3) := by decide +kernel
theorem dX7_on_13 : decode cX7_on 13 = .ok (.ireturn, 1) := by decide +kernel
theorem dX7_on_14 : decode cX7_on 14 = .ok (.aload_n 0, 1) := by decide +kernel
theorem dX7_on_15 : decode cX7_on 15 = .ok (.iconst 0, 1) := by decide +kernel
theorem dX7_on_16 : decode cX7_on 16 = .ok (.putfield 207, 3) := by decide +kernel
theorem dX7_on_19 : decode cX7_on 19 = .ok (.aload_n 0, 1) := by decide +kernel
theorem dX7_on_20 : decode cX7_on 20 = .ok (.invokevirtual 224, 3) := by decide +kernel
theorem dX7_on_23 : decode cX7_on 23 = .ok (.aload_n 0, 1) := by decide +kernel
theorem dX7_on_24 : decode cX7_on 24 = .ok (.getfield 37, 3) := by decide +kernel
theorem dX7_on_27 : decode cX7_on 27 = .ok (.iconst 0, 1) := by decide +kernel
theorem dX7_on_28 : decode cX7_on 28 = .ok (.iconst 0, 1) := by decide +kernel
theorem dX7_on_29 : decode cX7_on 29 = .ok (.bastore, 1) := by decide +kernel
theorem dX7_on_30 : decode cX7_on 30 = .ok (.aload_n 0, 1) := by decide +kernel
theorem dX7_on_31 : decode cX7_on 31 = .ok (.getfield 37, 3) := by decide +kernel
theorem dX7_on_34 : decode cX7_on 34 = .ok (.iconst 1, 1) := by decide +kernel
theorem dX7_on_35 : decode cX7_on 35 = .ok (.iconst 0, 1) := by decide +kernel
theorem dX7_on_36 : decode cX7_on 36 = .ok (.bastore, 1) := by decide +kernel
theorem dX7_on_37 : decode cX7_on 37 = .ok (.aload_n 0, 1) := by decide +kernel
theorem dX7_on_38 : decode cX7_on 38 = .ok (.getfield 163, 3) := by decide +kernel
theorem dX7_on_41 : decode cX7_on 41 = .ok (.ireturn, 1) := by decide +kernel
set_option maxRecDepth 20000 in
theorem dX7_count_0 : decode cX7_count 0 = .ok (.iload_n 1, 1) := by decide +kernel
theorem dX7_count_1 : decode cX7_count 1 = .ok (.bipush 11, 2) := by decide +kernel
theorem dX7_count_3 : decode cX7_count 3 = .ok (.bipush 16, 2) := by decide +kernel
theorem dX7_count_5 : decode cX7_count 5 = .ok (.invokestatic 96, 3) := by decide +kernel
theorem dX7_count_8 : decode cX7_count 8 = .ok (.ifCond .eq 13, 3) := by decide +kernel
theorem dX7_count_11 : decode cX7_count 11 = .ok (.aload_n 0, 1) := by decide +kernel
theorem dX7_count_12 : decode cX7_count 12 = .ok (.getfield 7, 3) := by decide +kernel
theorem dX7_count_15 : decode cX7_count 15 = .ok (.iload_n 1, 1) := by decide +kernel
theorem dX7_count_16 : decode cX7_count 16 = .ok (.bipush 10, 2) := by decide +kernel
theorem dX7_count_18 : decode cX7_count 18 = .ok (.isub, 1) := by decide +kernel
theorem dX7_count_19 : decode cX7_count 19 = .ok (.iaload, 1) := by decide +kernel
theorem dX7_count_20 : decode cX7_count 20 = .ok (.ireturn, 1) := by decide +kernel
theorem dX7_count_21 : decode cX7_count 21 = .ok (.iconst 0, 1) := by decide +kernel
theorem dX7_count_22 : decode cX7_count 22 = .ok (.istore_n 2, 1) := by decide +kernel
theorem dX7_count_23 : decode cX7_count 23 = .ok (.iload_n 1, 1) := by decide +kernel
theorem dX7_count_24 : decode cX7_count 24 = .ok (.tableswitch 79 0 3 #[32, 37, 37, 74], 32) := by decide +kernel
theorem dX7_count_56 : decode cX7_count 56 = .ok (.aload_n 0, 1) := by decide +kernel
theorem dX7_count_57 : decode cX7_count 57 = .ok (.getfield 163, 3) := by decide +kernel
theorem dX7_count_60 : decode cX7_count 60 = .ok (.ireturn, 1) := by decide +kernel
theorem dX7_count_61 : decode cX7_count 61 = .ok (.iconst 0, 1) := by decide +kernel
theorem dX7_count_62 : decode cX7_count 62 = .ok (.istore_n 3, 1) := by decide +kernel
theorem dX7_count_63 : decode cX7_count 63 = .ok (.iload_n 3, 1) := by decide +kernel
theorem dX7_count_64 : decode cX7_count 64 = .ok (.aload_n 0, 1) := by decide +kernel
theorem dX7_count_65 : decode cX7_count 65 = .ok (.getfield 163, 3) := by decide +kernel
theorem dX7_count_68 : decode cX7_count 68 = .ok (.if_icmp .ge 28, 3) := by decide +kernel
theorem dX7_count_71 : decode cX7_count 71 = .ok (.iload_n 2, 1) := by decide +kernel
theorem dX7_count_72 : decode cX7_count 72 = .ok (.aload_n 0, 1) := by decide +kernel
theorem dX7_count_73 : decode cX7_count 73 = .ok (.iload_n 1, 1) := by decide +kernel
theorem dX7_count_74 : decode cX7_count 74 = .ok (.iconst 1, 1) := by decide +kernel
theorem dX7_count_75 : decode cX7_count 75 = .ok (.isub, 1) := by decide +kernel
theorem dX7_count_76 : decode cX7_count 76 = .ok (.iload_n 3, 1) := by decide +kernel
theorem dX7_count_77 : decode cX7_count 77 = .ok (.invokevirtual 190, 3) := by decide +kernel
theorem dX7_count_80 : decode cX7_count 80 = .ok (.ifCond .eq 7, 3) := by decide +kernel
theorem dX7_count_83 : decode cX7_count 83 = .ok (.iconst 1, 1) := by decide +kernel
theorem dX7_count_84 : decode cX7_count 84 = .ok (.goto 4, 3) := by decide +kernel
theorem dX7_count_87 : decode cX7_count 87 = .ok (.iconst 0, 1) := by decide +kernel
theorem dX7_count_88 : decode cX7_count 88 = .ok (.iadd, 1) := by decide +kernel
theorem dX7_count_89 : decode cX7_count 89 = .ok (.istore_n 2, 1) := by decide +kernel
theorem dX7_count_90 : decode cX7_count 90 = .ok (.iinc 3 1, 3) := by decide +kernel
theorem dX7_count_93 : decode cX7_count 93 = .ok (.goto (-30), 3) := by decide +kernel
theorem dX7_count_96 : decode cX7_count 96 = .ok (.iload_n 2, 1) := by decide +kernel
theorem dX7_count_97 : decode cX7_count 97 = .ok (.ireturn, 1) := by decide +kernel
theorem dX7_count_98 : decode cX7_count 98 = .ok (.aload_n 0, 1) := by decide +kernel
theorem dX7_count_99 : decode cX7_count 99 = .ok (.getfield 148, 3) := by decide +kernel
theorem dX7_count_102 : decode cX7_count 102 = .ok (.ireturn, 1) := by decide +kernel
theorem dX7_count_103 : decode cX7_count 103 = .ok (.bipush (-9), 2) := by decide +kernel
theorem dX7_count_105 : decode cX7_count 105 = .ok (.ireturn, 1) := by decide +kernel
theorem dJ13_bitCount_95d88_0 : decode cJ13_bitCount_95d88 0 = .ok (.lload_n 0, 1) := by decide +kernel
theorem dJ13_bitCount_95d88_1 : decode cJ13_bitCount_95d88 1 = .ok (.lload_n 0, 1) := by decide +kernel
theorem dJ13_bitCount_95d88_2 : decode cJ13_bitCount_95d88 2 = .ok (.iconst 1, 1) := by decide +kernel
theorem dJ13_bitCount_95d88_3 : decode cJ13_bitCount_95d88 3 = .ok (.lushr, 1) := by decide +kernel
theorem dJ13_bitCount_95d88_4 : decode cJ13_bitCount_95d88 4 = .ok (.ldc2_w 314, 3) := by decide +kernel
theorem dJ13_bitCount_95d88_7 : decode cJ13_bitCount_95d88 7 = .ok (.land, 1) := by decide +kernel
theorem dJ13_bitCount_95d88_8 : decode cJ13_bitCount_95d88 8 = .ok (.lsub, 1) := by decide +kernel
theorem dJ13_bitCount_95d88_9 : decode cJ13_bitCount_95d88 9 = .ok (.lstore_n 0, 1) := by decide +kernel
theorem dJ13_bitCount_95d88_10 : decode cJ13_bitCount_95d88 10 = .ok (.lload_n 0, 1) := by decide +kernel
theorem dJ13_bitCount_95d88_11 : decode cJ13_bitCount_95d88 11 = .ok (.ldc2_w 316, 3) := by decide +kernel
theorem dJ13_bitCount_95d88_14 : decode cJ13_bitCount_95d88 14 = .ok (.land, 1) := by decide +kernel
theorem dJ13_bitCount_95d88_15 : decode cJ13_bitCount_95d88 15 = .ok (.lload_n 0, 1) := by decide +kernel
theorem dJ13_bitCount_95d88_16 : decode cJ13_bitCount_95d88 16 = .ok (.iconst 2, 1) := by decide +kernel
theorem dJ13_bitCount_95d88_17 : decode cJ13_bitCount_95d88 17 = .ok (.lushr, 1) := by decide +kernel
theorem dJ13_bitCount_95d88_18 : decode cJ13_bitCount_95d88 18 = .ok (.ldc2_w 316, 3) := by decide +kernel
theorem dJ13_bitCount_95d88_21 : decode cJ13_bitCount_95d88 21 = .ok (.land, 1) := by decide +kernel
theorem dJ13_bitCount_95d88_22 : decode cJ13_bitCount_95d88 22 = .ok (.ladd, 1) := by decide +kernel
theorem dJ13_bitCount_95d88_23 : decode cJ13_bitCount_95d88 23 = .ok (.lstore_n 0, 1) := by decide +kernel
theorem dJ13_bitCount_95d88_24 : decode cJ13_bitCount_95d88 24 = .ok (.lload_n 0, 1) := by decide +kernel
theorem dJ13_bitCount_95d88_25 : decode cJ13_bitCount_95d88 25 = .ok (.lload_n 0, 1) := by decide +kernel
theorem dJ13_bitCount_95d88_26 : decode cJ13_bitCount_95d88 26 = .ok (.iconst 4, 1) := by decide +kernel
theorem dJ13_bitCount_95d88_27 : decode cJ13_bitCount_95d88 27 = .ok (.lushr, 1) := by decide +kernel
theorem dJ13_bitCount_95d88_28 : decode cJ13_bitCount_95d88 28 = .ok (.ladd, 1) := by decide +kernel
theorem dJ13_bitCount_95d88_29 : decode cJ13_bitCount_95d88 29 = .ok (.ldc2_w 318, 3) := by decide +kernel
theorem dJ13_bitCount_95d88_32 : decode cJ13_bitCount_95d88 32 = .ok (.land, 1) := by decide +kernel
theorem dJ13_bitCount_95d88_33 : decode cJ13_bitCount_95d88 33 = .ok (.lstore_n 0, 1) := by decide +kernel
theorem dJ13_bitCount_95d88_34 : decode cJ13_bitCount_95d88 34 = .ok (.lload_n 0, 1) := by decide +kernel
theorem dJ13_bitCount_95d88_35 : decode cJ13_bitCount_95d88 35 = .ok (.lload_n 0, 1) := by decide +kernel
theorem dJ13_bitCount_95d88_36 : decode cJ13_bitCount_95d88 36 = .ok (.bipush 8, 2) := by decide +kernel
theorem dJ13_bitCount_95d88_38 : decode cJ13_bitCount_95d88 38 = .ok (.lushr, 1) := by decide +kernel
theorem dJ13_bitCount_95d88_39 : decode cJ13_bitCount_95d88 39 = .ok (.ladd, 1) := by decide +kernel
theorem dJ13_bitCount_95d88_40 : decode cJ13_bitCount_95d88 40 = .ok (.lstore_n 0, 1) := by decide +kernel
theorem dJ13_bitCount_95d88_41 : decode cJ13_bitCount_95d88 41 = .ok (.lload_n 0, 1) := by decide +kernel
theorem dJ13_bitCount_95d88_42 : decode cJ13_bitCount_95d88 42 = .ok (.lload_n 0, 1) := by decide +kernel
theorem dJ13_bitCount_95d88_43 : decode cJ13_bitCount_95d88 43 = .ok (.bipush 16, 2) := by decide +kernel
theorem dJ13_bitCount_95d88_45 : decode cJ13_bitCount_95d88 45 = .ok (.lushr, 1) := by decide +kernel
theorem dJ13_bitCount_95d88_46 : decode cJ13_bitCount_95d88 46 = .ok (.ladd, 1) := by decide +kernel
theorem dJ13_bitCount_95d88_47 : decode cJ13_bitCount_95d88 47 = .ok (.lstore_n 0, 1) := by decide +kernel
theorem dJ13_bitCount_95d88_48 : decode cJ13_bitCount_95d88 48 = .ok (.lload_n 0, 1) := by decide +kernel
theorem dJ13_bitCount_95d88_49 : decode cJ13_bitCount_95d88 49 = .ok (.lload_n 0, 1) := by decide +kernel
theorem dJ13_bitCount_95d88_50 : decode cJ13_bitCount_95d88 50 = .ok (.bipush 32, 2) := by decide +kernel
theorem dJ13_bitCount_95d88_52 : decode cJ13_bitCount_95d88 52 = .ok (.lushr, 1) := by decide +kernel
theorem dJ13_bitCount_95d88_53 : decode cJ13_bitCount_95d88 53 = .ok (.ladd, 1) := by decide +kernel
theorem dJ13_bitCount_95d88_54 : decode cJ13_bitCount_95d88 54 = .ok (.lstore_n 0, 1) := by decide +kernel
theorem dJ13_bitCount_95d88_55 : decode cJ13_bitCount_95d88 55 = .ok (.lload_n 0, 1) := by decide +kernel
theorem dJ13_bitCount_95d88_56 : decode cJ13_bitCount_95d88 56 = .ok (.l2i, 1) := by decide +kernel
theorem dJ13_bitCount_95d88_57 : decode cJ13_bitCount_95d88 57 = .ok (.bipush 127, 2) := by decide +kernel
theorem dJ13_bitCount_95d88_59 : decode cJ13_bitCount_95d88 59 = .ok (.iand, 1) := by decide +kernel
theorem dJ13_bitCount_95d88_60 : decode cJ13_bitCount_95d88 60 = .ok (.ireturn, 1) := by decide +kernel
theorem dJ9_abs_067f4_0 : decode cJ9_abs_067f4 0 = .ok (.lload_n 0, 1) := by decide +kernel
theorem dJ9_abs_067f4_1 : decode cJ9_abs_067f4 1 = .ok (.lconst 0, 1) := by decide +kernel
theorem dJ9_abs_067f4_2 : decode cJ9_abs_067f4 2 = .ok (.lcmp, 1) := by decide +kernel
theorem dJ9_abs_067f4_3 : decode cJ9_abs_067f4 3 = .ok (.ifCond .ge 8, 3) := by decide +kernel
theorem dJ9_abs_067f4_6 : decode cJ9_abs_067f4 6 = .ok (.lload_n 0, 1) := by decide +kernel
theorem dJ9_abs_067f4_7 : decode cJ9_abs_067f4 7 = .ok (.lneg, 1) := by decide +kernel
theorem dJ9_abs_067f4_8 : decode cJ9_abs_067f4 8 = .ok (.goto 4, 3) := by decide +kernel
theorem dJ9_abs_067f4_11 : decode cJ9_abs_067f4 11 = .ok (.lload_n 0, 1) := by decide +kernel
theorem dJ9_abs_067f4_12 : decode cJ9_abs_067f4 12 = .ok (.lreturn, 1) := by decide +kernel
theorem dJ9_max_7cf53_0 : decode cJ9_max_7cf53 0 = .ok (.iload_n 0, 1) := by decide +kernel
theorem dJ9_max_7cf53_1 : decode cJ9_max_7cf53 1 = .ok (.iload_n 1, 1) := by decide +kernel
theorem dJ9_max_7cf53_2 : decode cJ9_max_7cf53 2 = .ok (.if_icmp .lt 7, 3) := by decide +kernel
theorem dJ9_max_7cf53_5 : decode cJ9_max_7cf53 5 = .ok (.iload_n 0, 1) := by decide +kernel
