theorem dX1_leastCutFor_1 : decode cX1_leastCutFor 1 = .ok (.ifCond .gt 5, 3) := by decide +kernel
theorem dX1_leastCutFor_4 : decode cX1_leastCutFor 4 = .ok (.iconst 0, 1) := by decide +kernel
theorem dX1_leastCutFor_5 : decode cX1_leastCutFor 5 = .ok (.ireturn, 1) := by decide +kernel
theorem dX1_leastCutFor_6 : decode cX1_leastCutFor 6 = .ok (.bipush (-9), 2) := by decide +kernel
theorem dX1_leastCutFor_8 : decode cX1_leastCutFor 8 = .ok (.istore_n 3, 1) := by decide +kernel
theorem dX1_leastCutFor_9 : decode cX1_leastCutFor 9 = .ok (.iconst 0, 1) := by decide +kernel
theorem dX1_leastCutFor_10 : decode cX1_leastCutFor 10 = .ok (.istore 4, 2) := by decide +kernel
theorem dX1_leastCutFor_12 : decode cX1_leastCutFor 12 = .ok (.iload 4, 2) := by decide +kernel
theorem dX1_leastCutFor_14 : decode cX1_leastCutFor 14 = .ok (.aload_n 0, 1) := by decide +kernel
theorem dX1_leastCutFor_15 : decode cX1_leastCutFor 15 = .ok (.getfield 24, 3) := by decide +kernel
theorem dX1_leastCutFor_18 : decode cX1_leastCutFor 18 = .ok (.getfield 98, 3) := by decide +kernel
theorem dX1_leastCutFor_21 : decode cX1_leastCutFor 21 = .ok (.if_icmp .ge 56, 3) := by decide +kernel
theorem dX1_leastCutFor_24 : decode cX1_leastCutFor 24 = .ok (.aload_n 0, 1) := by decide +kernel
theorem dX1_leastCutFor_25 : decode cX1_leastCutFor 25 = .ok (.aload_n 1, 1) := by decide +kernel
theorem dX1_leastCutFor_26 : decode cX1_leastCutFor 26 = .ok (.iload 4, 2) := by decide +kernel
theorem dX1_leastCutFor_28 : decode cX1_leastCutFor 28 = .ok (.invokevirtual 80, 3) := by decide +kernel
theorem dX1_leastCutFor_31 : decode cX1_leastCutFor 31 = .ok (.istore 5, 2) := by decide +kernel
theorem dX1_leastCutFor_33 : decode cX1_leastCutFor 33 = .ok (.iload_n 3, 1) := by decide +kernel
theorem dX1_leastCutFor_34 : decode cX1_leastCutFor 34 = .ok (.bipush (-9), 2) := by decide +kernel
theorem dX1_leastCutFor_36 : decode cX1_leastCutFor 36 = .ok (.if_icmp .eq 9, 3) := by decide +kernel
theorem dX1_leastCutFor_39 : decode cX1_leastCutFor 39 = .ok (.iload 5, 2) := by decide +kernel
theorem dX1_leastCutFor_41 : decode cX1_leastCutFor 41 = .ok (.iload_n 3, 1) := by decide +kernel
theorem dX1_leastCutFor_42 : decode cX1_leastCutFor 42 = .ok (.if_icmp .ge 7, 3) := by decide +kernel
theorem dX1_leastCutFor_45 : decode cX1_leastCutFor 45 = .ok (.iconst 1, 1) := by decide +kernel
theorem dX1_leastCutFor_46 : decode cX1_leastCutFor 46 = .ok (.goto 4, 3) := by decide +kernel
theorem dX1_leastCutFor_49 : decode cX1_leastCutFor 49 = .ok (.iconst 0, 1) := by decide +kernel
theorem dX1_leastCutFor_50 : decode cX1_leastCutFor 50 = .ok (.istore 6, 2) := by decide +kernel
theorem dX1_leastCutFor_52 : decode cX1_leastCutFor 52 = .ok (.iload 6, 2) := by decide +kernel
theorem dX1_leastCutFor_54 : decode cX1_leastCutFor 54 = .ok (.ifCond .eq 17, 3) := by decide +kernel
theorem dX1_leastCutFor_57 : decode cX1_leastCutFor 57 = .ok (.aload_n 0, 1) := by decide +kernel
theorem dX1_leastCutFor_58 : decode cX1_leastCutFor 58 = .ok (.aload_n 1, 1) := by decide +kernel
theorem dX1_leastCutFor_59 : decode cX1_leastCutFor 59 = .ok (.iload 5, 2) := by decide +kernel
theorem dX1_leastCutFor_61 : decode cX1_leastCutFor 61 = .ok (.invokevirtual 170, 3) := by decide +kernel
theorem dX1_leastCutFor_64 : decode cX1_leastCutFor 64 = .ok (.iload_n 2, 1) := by decide +kernel
theorem dX1_leastCutFor_65 : decode cX1_leastCutFor 65 = .ok (.if_icmp .lt 6, 3) := by decide +kernel
theorem dX1_leastCutFor_68 : decode cX1_leastCutFor 68 = .ok (.iload 5, 2) := by decide +kernel
theorem dX1_leastCutFor_70 : decode cX1_leastCutFor 70 = .ok (.istore_n 3, 1) := by decide +kernel
theorem dX1_leastCutFor_71 : decode cX1_leastCutFor 71 = .ok (.iinc 4 1, 3) := by decide +kernel
theorem dX1_leastCutFor_74 : decode cX1_leastCutFor 74 = .ok (.goto (-62), 3) := by decide +kernel
theorem dX1_leastCutFor_77 : decode cX1_leastCutFor 77 = .ok (.iload_n 3, 1) := by decide +kernel
theorem dX1_leastCutFor_78 : decode cX1_leastCutFor 78 = .ok (.ireturn, 1) := by decide +kernel
theorem dX2_init_0 : decode cX2_init 0 = .ok (.aload_n 0, 1) := by decide +kernel
theorem dX2_init_1 : decode cX2_init 1 = .ok (.invokespecial 3, 3) := by decide +kernel
theorem dX2_init_4 : decode cX2_init 4 = .ok (.aload_n 0, 1) := by decide +kernel
theorem dX2_init_5 : decode cX2_init 5 = .ok (.bipush 60, 2) := by decide +kernel
theorem dX2_init_7 : decode cX2_init 7 = .ok (.newarray .int, 2) := by decide +kernel
theorem dX2_init_9 : decode cX2_init 9 = .ok (.putfield 9, 3) := by decide +kernel
theorem dX2_init_12 : decode cX2_init 12 = .ok (.aload_n 0, 1) := by decide +kernel
theorem dX2_init_13 : decode cX2_init 13 = .ok (.bipush 60, 2) := by decide +kernel
theorem dX2_init_15 : decode cX2_init 15 = .ok (.newarray .int, 2) := by decide +kernel
theorem dX2_init_17 : decode cX2_init 17 = .ok (.putfield 15, 3) := by decide +kernel
theorem dX2_init_20 : decode cX2_init 20 = .ok (.aload_n 0, 1) := by decide +kernel
theorem dX2_init_21 : decode cX2_init 21 = .ok (.bipush 60, 2) := by decide +kernel
theorem dX2_init_23 : decode cX2_init 23 = .ok (.newarray .int, 2) := by decide +kernel
theorem dX2_init_25 : decode cX2_init 25 = .ok (.putfield 18, 3) := by decide +kernel
theorem dX2_init_28 : decode cX2_init 28 = .ok (.aload_n 0, 1) := by decide +kernel
theorem dX2_init_29 : decode cX2_init 29 = .ok (.iconst 0, 1) := by decide +kernel
theorem dX2_init_30 : decode cX2_init 30 = .ok (.putfield 21, 3) := by decide +kernel
theorem dX2_init_33 : decode cX2_init 33 = .ok (.return_, 1) := by decide +kernel
set_option maxRecDepth 20000 in
theorem dX2_enrol_0 : decode cX2_enrol 0 = .ok (.aload_n 0, 1) := by decide +kernel
theorem dX2_enrol_1 : decode cX2_enrol 1 = .ok (.getfield 21, 3) := by decide +kernel
theorem dX2_enrol_4 : decode cX2_enrol 4 = .ok (.istore 4, 2) := by decide +kernel
theorem dX2_enrol_6 : decode cX2_enrol 6 = .ok (.aload_n 0, 1) := by decide +kernel
theorem dX2_enrol_7 : decode cX2_enrol 7 = .ok (.getfield 9, 3) := by decide +kernel
theorem dX2_enrol_10 : decode cX2_enrol 10 = .ok (.iload 4, 2) := by decide +kernel
theorem dX2_enrol_12 : decode cX2_enrol 12 = .ok (.iload_n 1, 1) := by decide +kernel
theorem dX2_enrol_13 : decode cX2_enrol 13 = .ok (.invokestatic 25, 3) := by decide +kernel
theorem dX2_enrol_16 : decode cX2_enrol 16 = .ok (.aload_n 0, 1) := by decide +kernel
theorem dX2_enrol_17 : decode cX2_enrol 17 = .ok (.getfield 15, 3) := by decide +kernel
theorem dX2_enrol_20 : decode cX2_enrol 20 = .ok (.iload 4, 2) := by decide +kernel
theorem dX2_enrol_22 : decode cX2_enrol 22 = .ok (.iload_n 2, 1) := by decide +kernel
theorem dX2_enrol_23 : decode cX2_enrol 23 = .ok (.invokestatic 25, 3) := by decide +kernel
theorem dX2_enrol_26 : decode cX2_enrol 26 = .ok (.aload_n 0, 1) := by decide +kernel
theorem dX2_enrol_27 : decode cX2_enrol 27 = .ok (.getfield 18, 3) := by decide +kernel
theorem dX2_enrol_30 : decode cX2_enrol 30 = .ok (.iload 4, 2) := by decide +kernel
theorem dX2_enrol_32 : decode cX2_enrol 32 = .ok (.iload_n 3, 1) := by decide +kernel
theorem dX2_enrol_33 : decode cX2_enrol 33 = .ok (.invokestatic 25, 3) := by decide +kernel
theorem dX2_enrol_36 : decode cX2_enrol 36 = .ok (.aload_n 0, 1) := by decide +kernel
theorem dX2_enrol_37 : decode cX2_enrol 37 = .ok (.dup, 1) := by decide +kernel
theorem dX2_enrol_38 : decode cX2_enrol 38 = .ok (.getfield 21, 3) := by decide +kernel
theorem dX2_enrol_41 : decode cX2_enrol 41 = .ok (.iconst 1, 1) := by decide +kernel
theorem dX2_enrol_42 : decode cX2_enrol 42 = .ok (.iadd, 1) := by decide +kernel
theorem dX2_enrol_43 : decode cX2_enrol 43 = .ok (.putfield 21, 3) := by decide +kernel
theorem dX2_enrol_46 : decode cX2_enrol 46 = .ok (.iload 4, 2) := by decide +kernel
theorem dX2_enrol_48 : decode cX2_enrol 48 = .ok (.ireturn, 1) := by decide +kernel
set_option maxRecDepth 20000 in
theorem dX2_copyMen_0 : decode cX2_copyMen 0 = .ok (.aload_n 1, 1) := by decide +kernel
theorem dX2_copyMen_1 : decode cX2_copyMen 1 = .ok (.getfield 9, 3) := by decide +kernel
theorem dX2_copyMen_4 : decode cX2_copyMen 4 = .ok (.aload_n 0, 1) := by decide +kernel
theorem dX2_copyMen_5 : decode cX2_copyMen 5 = .ok (.getfield 9, 3) := by decide +kernel
theorem dX2_copyMen_8 : decode cX2_copyMen 8 = .ok (.invokestatic 29, 3) := by decide +kernel
theorem dX2_copyMen_11 : decode cX2_copyMen 11 = .ok (.aload_n 1, 1) := by decide +kernel
theorem dX2_copyMen_12 : decode cX2_copyMen 12 = .ok (.getfield 15, 3) := by decide +kernel
theorem dX2_copyMen_15 : decode cX2_copyMen 15 = .ok (.aload_n 0, 1) := by decide +kernel
theorem dX2_copyMen_16 : decode cX2_copyMen 16 = .ok (.getfield 15, 3) := by decide +kernel
theorem dX2_copyMen_19 : decode cX2_copyMen 19 = .ok (.invokestatic 29, 3) := by decide +kernel
theorem dX2_copyMen_22 : decode cX2_copyMen 22 = .ok (.aload_n 1, 1) := by decide +kernel
theorem dX2_copyMen_23 : decode cX2_copyMen 23 = .ok (.getfield 18, 3) := by decide +kernel
theorem dX2_copyMen_26 : decode cX2_copyMen 26 = .ok (.aload_n 0, 1) := by decide +kernel
theorem dX2_copyMen_27 : decode cX2_copyMen 27 = .ok (.getfield 18, 3) := by decide +kernel
theorem dX2_copyMen_30 : decode cX2_copyMen 30 = .ok (.invokestatic 29, 3) := by decide +kernel
theorem dX2_copyMen_33 : decode cX2_copyMen 33 = .ok (.aload_n 0, 1) := by decide +kernel
theorem dX2_copyMen_34 : decode cX2_copyMen 34 = .ok (.aload_n 1, 1) := by decide +kernel
theorem dX2_copyMen_35 : decode cX2_copyMen 35 = .ok (.getfield 21, 3) := by decide +kernel
theorem dX2_copyMen_38 : decode cX2_copyMen 38 = .ok (.putfield 21, 3) := by decide +kernel
theorem dX2_copyMen_41 : decode cX2_copyMen 41 = .ok (.return_, 1) := by decide +kernel
set_option maxRecDepth 20000 in
theorem dX2_kindAt_0 : decode cX2_kindAt 0 = .ok (.aload_n 0, 1) := by decide +kernel
theorem dX2_kindAt_1 : decode cX2_kindAt 1 = .ok (.getfield 9, 3) := by decide +kernel
theorem dX2_kindAt_4 : decode cX2_kindAt 4 = .ok (.iload_n 1, 1) := by decide +kernel
theorem dX2_kindAt_5 : decode cX2_kindAt 5 = .ok (.invokestatic 33, 3) := by decide +kernel
theorem dX2_kindAt_8 : decode cX2_kindAt 8 = .ok (.ireturn, 1) := by decide +kernel
set_option maxRecDepth 20000 in
theorem dX2_birthdayAt_0 : decode cX2_birthdayAt 0 = .ok (.aload_n 0, 1) := by decide +kernel
theorem dX2_birthdayAt_1 : decode cX2_birthdayAt 1 = .ok (.getfield 15, 3) := by decide +kernel
theorem dX2_birthdayAt_4 : decode cX2_birthdayAt 4 = .ok (.iload_n 1, 1) := by decide +kernel
theorem dX2_birthdayAt_5 : decode cX2_birthdayAt 5 = .ok (.invokestatic 33, 3) := by decide +kernel
theorem dX2_birthdayAt_8 : decode cX2_birthdayAt 8 = .ok (.ireturn, 1) := by decide +kernel
set_option maxRecDepth 20000 in
theorem dX2_payAt_0 : decode cX2_payAt 0 = .ok (.aload_n 0, 1) := by decide +kernel
theorem dX2_payAt_1 : decode cX2_payAt 1 = .ok (.getfield 18, 3) := by decide +kernel
theorem dX2_payAt_4 : decode cX2_payAt 4 = .ok (.iload_n 1, 1) := by decide +kernel
theorem dX2_payAt_5 : decode cX2_payAt 5 = .ok (.invokestatic 33, 3) := by decide +kernel
theorem dX2_payAt_8 : decode cX2_payAt 8 = .ok (.ireturn, 1) := by decide +kernel
theorem dX3_init_0 : decode cX3_init 0 = .ok (.aload_n 0, 1) := by decide +kernel
theorem dX3_init_1 : decode cX3_init 1 = .ok (.invokespecial 1, 3) := by decide +kernel
theorem dX3_init_4 : decode cX3_init 4 = .ok (.aload_n 0, 1) := by decide +kernel
theorem dX3_init_5 : decode cX3_init 5 = .ok (.lconst 0, 1) := by decide +kernel
theorem dX3_init_6 : decode cX3_init 6 = .ok (.putfield 7, 3) := by decide +kernel
theorem dX3_init_9 : decode cX3_init 9 = .ok (.aload_n 0, 1) := by decide +kernel
theorem dX3_init_10 : decode cX3_init 10 = .ok (.lconst 1, 1) := by decide +kernel
theorem dX3_init_11 : decode cX3_init 11 = .ok (.putfield 13, 3) := by decide +kernel
theorem dX3_init_14 : decode cX3_init 14 = .ok (.return_, 1) := by decide +kernel
set_option maxRecDepth 20000 in
theorem dX3_become_0 : decode cX3_become 0 = .ok (.lload_n 1, 1) := by decide +kernel
theorem dX3_become_1 : decode cX3_become 1 = .ok (.invokestatic 16, 3) := by decide +kernel
theorem dX3_become_4 : decode cX3_become 4 = .ok (.lload_n 3, 1) := by decide +kernel
theorem dX3_become_5 : decode cX3_become 5 = .ok (.invokestatic 16, 3) := by decide +kernel
theorem dX3_become_8 : decode cX3_become 8 = .ok (.invokestatic 22, 3) := by decide +kernel
theorem dX3_become_11 : decode cX3_become 11 = .ok (.lstore 5, 2) := by decide +kernel
theorem dX3_become_13 : decode cX3_become 13 = .ok (.lload_n 3, 1) := by decide +kernel
theorem dX3_become_14 : decode cX3_become 14 = .ok (.lconst 0, 1) := by decide +kernel
theorem dX3_become_15 : decode cX3_become 15 = .ok (.lcmp, 1) := by decide +kernel
theorem dX3_become_16 : decode cX3_become 16 = .ok (.ifCond .eq 10, 3) := by decide +kernel
theorem dX3_become_19 : decode cX3_become 19 = .ok (.lload 5, 2) := by decide +kernel
theorem dX3_become_21 : decode cX3_become 21 = .ok (.lconst 0, 1) := by decide +kernel
theorem dX3_become_22 : decode cX3_become 22 = .ok (.lcmp, 1) := by decide +kernel
theorem dX3_become_23 : decode cX3_become 23 = .ok (.ifCond .ne 14, 3) := by decide +kernel
theorem dX3_become_26 : decode cX3_become 26 = .ok (.aload_n 0, 1) := by decide +kernel
theorem dX3_become_27 : decode cX3_become 27 = .ok (.lconst 0, 1) := by decide +kernel
theorem dX3_become_28 : decode cX3_become 28 = .ok (.putfield 7, 3) := by decide +kernel
theorem dX3_become_31 : decode cX3_become 31 = .ok (.aload_n 0, 1) := by decide +kernel
theorem dX3_become_32 : decode cX3_become 32 = .ok (.lconst 1, 1) := by decide +kernel
theorem dX3_become_33 : decode cX3_become 33 = .ok (.putfield 13, 3) := by decide +kernel
theorem dX3_become_36 : decode cX3_become 36 = .ok (.return_, 1) := by decide +kernel
theorem dX3_become_37 : decode cX3_become 37 = .ok (.lload_n 3, 1) := by decide +kernel
theorem dX3_become_38 : decode cX3_become 38 = .ok (.lconst 0, 1) := by decide +kernel
theorem dX3_become_39 : decode cX3_become 39 = .ok (.lcmp, 1) := by decide +kernel
theorem dX3_become_40 : decode cX3_become 40 = .ok (.ifCond .ge 9, 3) := by decide +kernel
theorem dX3_become_43 : decode cX3_become 43 = .ok (.ldc2_w 26, 3) := by decide +kernel
theorem dX3_become_46 : decode cX3_become 46 = .ok (.goto 4, 3) := by decide +kernel
theorem dX3_become_49 : decode cX3_become 49 = .ok (.lconst 1, 1) := by decide +kernel
theorem dX3_become_50 : decode cX3_become 50 = .ok (.lstore 7, 2) := by decide +kernel
theorem dX3_become_52 : decode cX3_become 52 = .ok (.aload_n 0, 1) := by decide +kernel
theorem dX3_become_53 : decode cX3_become 53 = .ok (.lload 7, 2) := by decide +kernel
theorem dX3_become_55 : decode cX3_become 55 = .ok (.lload_n 1, 1) := by decide +kernel
theorem dX3_become_56 : decode cX3_become 56 = .ok (.lload 5, 2) := by decide +kernel
theorem dX3_become_58 : decode cX3_become 58 = .ok (.ldiv, 1) := by decide +kernel
theorem dX3_become_59 : decode cX3_become 59 = .ok (.lmul, 1) := by decide +kernel
theorem dX3_become_60 : decode cX3_become 60 = .ok (.putfield 7, 3) := by decide +kernel
theorem dX3_become_63 : decode cX3_become 63 = .ok (.aload_n 0, 1) := by decide +kernel
theorem dX3_become_64 : decode cX3_become 64 = .ok (.lload 7, 2) := by decide +kernel
theorem dX3_become_66 : decode cX3_become 66 = .ok (.lload_n 3, 1) := by decide +kernel
theorem dX3_become_67 : decode cX3_become 67 = .ok (.lload 5, 2) := by decide +kernel
theorem dX3_become_69 : decode cX3_become 69 = .ok (.ldiv, 1) := by decide +kernel
theorem dX3_become_70 : decode cX3_become 70 = .ok (.lmul, 1) := by decide +kernel
theorem dX3_become_71 : decode cX3_become 71 = .ok (.putfield 13, 3) := by decide +kernel
theorem dX3_become_74 : decode cX3_become 74 = .ok (.return_, 1) := by decide +kernel
theorem dX3_partAt_0 : decode cX3_partAt 0 = .ok (.iload_n 1, 1) := by decide +kernel
theorem dX3_partAt_1 : decode cX3_partAt 1 = .ok (.ifCond .ne 10, 3) := by decide +kernel
theorem dX3_partAt_4 : decode cX3_partAt 4 = .ok (.aload_n 0, 1) := by decide +kernel
theorem dX3_partAt_5 : decode cX3_partAt 5 = .ok (.getfield 7, 3) := by decide +kernel
theorem dX3_partAt_8 : decode cX3_partAt 8 = .ok (.goto 7, 3) := by decide +kernel
theorem dX3_partAt_11 : decode cX3_partAt 11 = .ok (.aload_n 0, 1) := by decide +kernel
theorem dX3_partAt_12 : decode cX3_partAt 12 = .ok (.getfield 13, 3) := by decide +kernel
theorem dX3_partAt_15 : decode cX3_partAt 15 = .ok (.lreturn, 1) := by decide +kernel
theorem dX3_isWithin_0 : decode cX3_isWithin 0 = .ok (.aload_n 0, 1) := by decide +kernel
theorem dX3_isWithin_1 : decode cX3_isWithin 1 = .ok (.getfield 7, 3) := by decide +kernel
theorem dX3_isWithin_4 : decode cX3_isWithin 4 = .ok (.invokestatic 16, 3) := by decide +kernel
theorem dX3_isWithin_7 : decode cX3_isWithin 7 = .ok (.lload_n 1, 1) := by decide +kernel
theorem dX3_isWithin_8 : decode cX3_isWithin 8 = .ok (.aload_n 0, 1) := by decide +kernel
theorem dX3_isWithin_9 : decode cX3_isWithin 9 = .ok (.getfield 13, 3) := by decide +kernel
theorem dX3_isWithin_12 : decode cX3_isWithin 12 = .ok (.lmul, 1) := by decide +kernel
theorem dX3_isWithin_13 : decode cX3_isWithin 13 = .ok (.lcmp, 1) := by decide +kernel
theorem dX3_isWithin_14 : decode cX3_isWithin 14 = .ok (.ifCond .gt 7, 3) := by decide +kernel
theorem dX3_isWithin_17 : decode cX3_isWithin 17 = .ok (.iconst 1, 1) := by decide +kernel
theorem dX3_isWithin_18 : decode cX3_isWithin 18 = .ok (.goto 4, 3) := by decide +kernel
theorem dX3_isWithin_21 : decode cX3_isWithin 21 = .ok (.iconst 0, 1) := by decide +kernel
theorem dX3_isWithin_22 : decode cX3_isWithin 22 = .ok (.ireturn, 1) := by decide +kernel
theorem dX3_commonDivisor_0 : decode cX3_commonDivisor 0 = .ok (.lload_n 0, 1) := by decide +kernel
theorem dX3_commonDivisor_1 : decode cX3_commonDivisor 1 = .ok (.lstore 4, 2) := by decide +kernel
theorem dX3_commonDivisor_3 : decode cX3_commonDivisor 3 = .ok (.lload_n 2, 1) := by decide +kernel
theorem dX3_commonDivisor_4 : decode cX3_commonDivisor 4 = .ok (.lstore 6, 2) := by decide +kernel
theorem dX3_commonDivisor_6 : decode cX3_commonDivisor 6 = .ok (.iconst 0, 1) := by decide +kernel
theorem dX3_commonDivisor_7 : decode cX3_commonDivisor 7 = .ok (.istore 8, 2) := by decide +kernel
theorem dX3_commonDivisor_9 : decode cX3_commonDivisor 9 = .ok (.iload 8, 2) := by decide +kernel
theorem dX3_commonDivisor_11 : decode cX3_commonDivisor 11 = .ok (.bipush 100, 2) := by decide +kernel
theorem dX3_commonDivisor_13 : decode cX3_commonDivisor 13 = .ok (.if_icmp .ge 31, 3) := by decide +kernel
theorem dX3_commonDivisor_16 : decode cX3_commonDivisor 16 = .ok (.lload 6, 2) := by decide +kernel
theorem dX3_commonDivisor_18 : decode cX3_commonDivisor 18 = .ok (.lconst 0, 1) := by decide +kernel
theorem dX3_commonDivisor_19 : decode cX3_commonDivisor 19 = .ok (.lcmp, 1) := by decide +kernel
theorem dX3_commonDivisor_20 : decode cX3_commonDivisor 20 = .ok (.ifCond .eq 24, 3) := by decide +kernel
theorem dX3_commonDivisor_23 : decode cX3_commonDivisor 23 = .ok (.lload 4, 2) := by decide +kernel
theorem dX3_commonDivisor_25 : decode cX3_commonDivisor 25 = .ok (.lload 6, 2) := by decide +kernel
theorem dX3_commonDivisor_27 : decode cX3_commonDivisor 27 = .ok (.lrem, 1) := by decide +kernel
theorem dX3_commonDivisor_28 : decode cX3_commonDivisor 28 = .ok (.lstore 9, 2) := by decide +kernel
theorem dX3_commonDivisor_30 : decode cX3_commonDivisor 30 = .ok (.lload 6, 2) := by decide +kernel
theorem dX3_commonDivisor_32 : decode cX3_commonDivisor 32 = .ok (.lstore 4, 2) := by decide +kernel
theorem dX3_commonDivisor_34 : decode cX3_commonDivisor 34 = .ok (.lload 9, 2) := by decide +kernel
theorem dX3_commonDivisor_36 : decode cX3_commonDivisor 36 = .ok (.lstore 6, 2) := by decide +kernel
theorem dX3_commonDivisor_38 : decode cX3_commonDivisor 38 = .ok (.iinc 8 1, 3) := by decide +kernel
theorem dX3_commonDivisor_41 : decode cX3_commonDivisor 41 = .ok (.goto (-32), 3) := by decide +kernel
theorem dX3_commonDivisor_44 : decode cX3_commonDivisor 44 = .ok (.lload 4, 2) := by decide +kernel
theorem dX3_commonDivisor_46 : decode cX3_commonDivisor 46 = .ok (.lreturn, 1) := by decide +kernel
theorem dX4_init_0 : decode cX4_init 0 = .ok (.aload_n 0, 1) := by decide +kernel
theorem dX4_init_1 : decode cX4_init 1 = .ok (.invokespecial 1, 3) := by decide +kernel
theorem dX4_init_4 : decode cX4_init 4 = .ok (.aload_n 0, 1) := by decide +kernel
theorem dX4_init_5 : decode cX4_init 5 = .ok (.lconst 0, 1) := by decide +kernel
theorem dX4_init_6 : decode cX4_init 6 = .ok (.putfield 7, 3) := by decide +kernel
theorem dX4_init_9 : decode cX4_init 9 = .ok (.aload_n 0, 1) := by decide +kernel
theorem dX4_init_10 : decode cX4_init 10 = .ok (.lconst 0, 1) := by decide +kernel
theorem dX4_init_11 : decode cX4_init 11 = .ok (.putfield 13, 3) := by decide +kernel
theorem dX4_init_14 : decode cX4_init 14 = .ok (.aload_n 0, 1) := by decide +kernel
theorem dX4_init_15 : decode cX4_init 15 = .ok (.iconst 0, 1) := by decide +kernel
theorem dX4_init_16 : decode cX4_init 16 = .ok (.putfield 16, 3) := by decide +kernel
theorem dX4_init_19 : decode cX4_init 19 = .ok (.aload_n 0, 1) := by decide +kernel
theorem dX4_init_20 : decode cX4_init 20 = .ok (.iconst 0, 1) := by decide +kernel
theorem dX4_init_21 : decode cX4_init 21 = .ok (.putfield 20, 3) := by decide +kernel
theorem dX4_init_24 : decode cX4_init 24 = .ok (.return_, 1) := by decide +kernel
theorem dX4_clear_0 : decode cX4_clear 0 = .ok (.aload_n 0, 1) := by decide +kernel
theorem dX4_clear_1 : decode cX4_clear 1 = .ok (.lconst 0, 1) := by decide +kernel
theorem dX4_clear_2 : decode cX4_clear 2 = .ok (.putfield 7, 3) := by decide +kernel
theorem dX4_clear_5 : decode cX4_clear 5 = .ok (.aload_n 0, 1) := by decide +kernel
theorem dX4_clear_6 : decode cX4_clear 6 = .ok (.lconst 0, 1) := by decide +kernel
theorem dX4_clear_7 : decode cX4_clear 7 = .ok (.putfield 13, 3) := by decide +kernel
theorem dX4_clear_10 : decode cX4_clear 10 = .ok (.aload_n 0, 1) := by decide +kernel
theorem dX4_clear_11 : decode cX4_clear 11 = .ok (.iconst 0, 1) := by decide +kernel
theorem dX4_clear_12 : decode cX4_clear 12 = .ok (.putfield 16, 3) := by decide +kernel
theorem dX4_clear_15 : decode cX4_clear 15 = .ok (.aload_n 0, 1) := by decide +kernel
theorem dX4_clear_16 : decode cX4_clear 16 = .ok (.iconst 0, 1) := by decide +kernel
theorem dX4_clear_17 : decode cX4_clear 17 = .ok (.putfield 20, 3) := by decide +kernel
theorem dX4_clear_20 : decode cX4_clear 20 = .ok (.return_, 1) := by decide +kernel
theorem dX4_enter_0 : decode cX4_enter 0 = .ok (.iload_n 1, 1) := by decide +kernel
theorem dX4_enter_1 : decode cX4_enter 1 = .ok (.ifCond .eq 26, 3) := by decide +kernel
theorem dX4_enter_4 : decode cX4_enter 4 = .ok (.aload_n 0, 1) := by decide +kernel
theorem dX4_enter_5 : decode cX4_enter 5 = .ok (.dup, 1) := by decide +kernel
theorem dX4_enter_6 : decode cX4_enter 6 = .ok (.getfield 7, 3) := by decide +kernel
theorem dX4_enter_9 : decode cX4_enter 9 = .ok (.lload_n 2, 1) := by decide +kernel
theorem dX4_enter_10 : decode cX4_enter 10 = .ok (.ladd, 1) := by decide +kernel
theorem dX4_enter_11 : decode cX4_enter 11 = .ok (.putfield 7, 3) := by decide +kernel
theorem dX4_enter_14 : decode cX4_enter 14 = .ok (.aload_n 0, 1) := by decide +kernel
theorem dX4_enter_15 : decode cX4_enter 15 = .ok (.dup, 1) := by decide +kernel
theorem dX4_enter_16 : decode cX4_enter 16 = .ok (.getfield 16, 3) := by decide +kernel
theorem dX4_enter_19 : decode cX4_enter 19 = .ok (.iconst 1, 1) := by decide +kernel
theorem dX4_enter_20 : decode cX4_enter 20 = .ok (.iadd, 1) := by decide +kernel
theorem dX4_enter_21 : decode cX4_enter 21 = .ok (.putfield 16, 3) := by decide +kernel
theorem dX4_enter_24 : decode cX4_enter 24 = .ok (.goto 23, 3) := by decide +kernel
theorem dX4_enter_27 : decode cX4_enter 27 = .ok (.aload_n 0, 1) := by decide +kernel
theorem dX4_enter_28 : decode cX4_enter 28 = .ok (.dup, 1) := by decide +kernel
theorem dX4_enter_29 : decode cX4_enter 29 = .ok (.getfield 13, 3) := by decide +kernel
theorem dX4_enter_32 : decode cX4_enter 32 = .ok (.lload_n 2, 1) := by decide +kernel
theorem dX4_enter_33 : decode cX4_enter 33 = .ok (.ladd, 1) := by decide +kernel
theorem dX4_enter_34 : decode cX4_enter 34 = .ok (.putfield 13, 3) := by decide +kernel
theorem dX4_enter_37 : decode cX4_enter 37 = .ok (.aload_n 0, 1) := by decide +kernel
theorem dX4_enter_38 : decode cX4_enter 38 = .ok (.dup, 1) := by decide +kernel
theorem dX4_enter_39 : decode cX4_enter 39 = .ok (.getfield 20, 3) := by decide +kernel
theorem dX4_enter_42 : decode cX4_enter 42 = .ok (.iconst 1, 1) := by decide +kernel
theorem dX4_enter_43 : decode cX4_enter 43 = .ok (.iadd, 1) := by decide +kernel
theorem dX4_enter_44 : decode cX4_enter 44 = .ok (.putfield 20, 3) := by decide +kernel
theorem dX4_enter_47 : decode cX4_enter 47 = .ok (.return_, 1) := by decide +kernel
set_option maxRecDepth 20000 in
theorem dX4_findGap_0 : decode cX4_findGap 0 = .ok (.aload_n 0, 1) := by decide +kernel
theorem dX4_findGap_1 : decode cX4_findGap 1 = .ok (.getfield 16, 3) := by decide +kernel
theorem dX4_findGap_4 : decode cX4_findGap 4 = .ok (.ifCond .eq 10, 3) := by decide +kernel
theorem dX4_findGap_7 : decode cX4_findGap 7 = .ok (.aload_n 0, 1) := by decide +kernel
theorem dX4_findGap_8 : decode cX4_findGap 8 = .ok (.getfield 20, 3) := by decide +kernel
theorem dX4_findGap_11 : decode cX4_findGap 11 = .ok (.ifCond .ne 5, 3) := by decide +kernel
theorem dX4_findGap_14 : decode cX4_findGap 14 = .ok (.iconst 0, 1) := by decide +kernel
theorem dX4_findGap_15 : decode cX4_findGap 15 = .ok (.ireturn, 1) := by decide +kernel
theorem dX4_findGap_16 : decode cX4_findGap 16 = .ok (.aload_n 1, 1) := by decide +kernel
theorem dX4_findGap_17 : decode cX4_findGap 17 = .ok (.aload_n 0, 1) := by decide +kernel
theorem dX4_findGap_18 : decode cX4_findGap 18 = .ok (.getfield 7, 3) := by decide +kernel
theorem dX4_findGap_21 : decode cX4_findGap 21 = .ok (.aload_n 0, 1) := by decide +kernel
theorem dX4_findGap_22 : decode cX4_findGap 22 = .ok (.getfield 20, 3) := by decide +kernel
theorem dX4_findGap_25 : decode cX4_findGap 25 = .ok (.i2l, 1) := by decide +kernel
theorem dX4_findGap_26 : decode cX4_findGap 26 = .ok (.lmul, 1) := by decide +kernel
theorem dX4_findGap_27 : decode cX4_findGap 27 = .ok (.aload_n 0, 1) := by decide +kernel
theorem dX4_findGap_28 : decode cX4_findGap 28 = .ok (.getfield 13, 3) := by decide +kernel
theorem dX4_findGap_31 : decode cX4_findGap 31 = .ok (.aload_n 0, 1) := by decide +kernel
theorem dX4_findGap_32 : decode cX4_findGap 32 = .ok (.getfield 16, 3) := by decide +kernel
theorem dX4_findGap_35 : decode cX4_findGap 35 = .ok (.i2l, 1) := by decide +kernel
theorem dX4_findGap_36 : decode cX4_findGap 36 = .ok (.lmul, 1) := by decide +kernel
theorem dX4_findGap_37 : decode cX4_findGap 37 = .ok (.lsub, 1) := by decide +kernel
theorem dX4_findGap_38 : decode cX4_findGap 38 = .ok (.aload_n 0, 1) := by decide +kernel
theorem dX4_findGap_39 : decode cX4_findGap 39 = .ok (.getfield 16, 3) := by decide +kernel
theorem dX4_findGap_42 : decode cX4_findGap 42 = .ok (.i2l, 1) := by decide +kernel
theorem dX4_findGap_43 : decode cX4_findGap 43 = .ok (.aload_n 0, 1) := by decide +kernel
theorem dX4_findGap_44 : decode cX4_findGap 44 = .ok (.getfield 20, 3) := by decide +kernel
theorem dX4_findGap_47 : decode cX4_findGap 47 = .ok (.i2l, 1) := by decide +kernel
theorem dX4_findGap_48 : decode cX4_findGap 48 = .ok (.lmul, 1) := by decide +kernel
theorem dX4_findGap_49 : decode cX4_findGap 49 = .ok (.invokevirtual 23, 3) := by decide +kernel
theorem dX4_findGap_52 : decode cX4_findGap 52 = .ok (.iconst 1, 1) := by decide +kernel
theorem dX4_findGap_53 : decode cX4_findGap 53 = .ok (.ireturn, 1) := by decide +kernel
theorem dX5_init_0 : decode cX5_init 0 = .ok (.aload_n 0, 1) := by decide +kernel
theorem dX5_init_1 : decode cX5_init 1 = .ok (.invokespecial 3, 3) := by decide +kernel
theorem dX5_init_4 : decode cX5_init 4 = .ok (.aload_n 0, 1) := by decide +kernel
theorem dX5_init_5 : decode cX5_init 5 = .ok (.bipush 14, 2) := by decide +kernel
theorem dX5_init_7 : decode cX5_init 7 = .ok (.newarray .int, 2) := by decide +kernel
theorem dX5_init_9 : decode cX5_init 9 = .ok (.putfield 9, 3) := by decide +kernel
theorem dX5_init_12 : decode cX5_init 12 = .ok (.aload_n 0, 1) := by decide +kernel
theorem dX5_init_13 : decode cX5_init 13 = .ok (.iconst 0, 1) := by decide +kernel
theorem dX5_init_14 : decode cX5_init 14 = .ok (.putfield 15, 3) := by decide +kernel
theorem dX5_init_17 : decode cX5_init 17 = .ok (.aload_n 0, 1) := by decide +kernel
theorem dX5_init_18 : decode cX5_init 18 = .ok (.iconst 0, 1) := by decide +kernel
theorem dX5_init_19 : decode cX5_init 19 = .ok (.putfield 19, 3) := by decide +kernel
theorem dX5_init_22 : decode cX5_init 22 = .ok (.aload_n 0, 1) := by decide +kernel
theorem dX5_init_23 : decode cX5_init 23 = .ok (.iconst 0, 1) := by decide +kernel
theorem dX5_init_24 : decode cX5_init 24 = .ok (.putfield 22, 3) := by decide +kernel
theorem dX5_init_27 : decode cX5_init 27 = .ok (.aload_n 0, 1) := by decide +kernel
theorem dX5_init_28 : decode cX5_init 28 = .ok (.iconst 0, 1) := by decide +kernel
theorem dX5_init_29 : decode cX5_init 29 = .ok (.putfield 25, 3) := by decide +kernel
theorem dX5_init_32 : decode cX5_init 32 = .ok (.return_, 1) := by decide +kernel
theorem dX5_hasRoomFor_0 : decode cX5_hasRoomFor 0 = .ok (.iload_n 1, 1) := by decide +kernel
theorem dX5_hasRoomFor_1 : decode cX5_hasRoomFor 1 = .ok (.bipush 14, 2) := by decide +kernel
theorem dX5_hasRoomFor_3 : decode cX5_hasRoomFor 3 = .ok (.aload_n 0, 1) := by decide +kernel
theorem dX5_hasRoomFor_4 : decode cX5_hasRoomFor 4 = .ok (.getfield 15, 3) := by decide +kernel
theorem dX5_hasRoomFor_7 : decode cX5_hasRoomFor 7 = .ok (.isub, 1) := by decide +kernel
theorem dX5_hasRoomFor_8 : decode cX5_hasRoomFor 8 = .ok (.if_icmp .gt 7, 3) := by decide +kernel
theorem dX5_hasRoomFor_11 : decode cX5_hasRoomFor 11 = .ok (.iconst 1, 1) := by decide +kernel
theorem dX5_hasRoomFor_12 : decode cX5_hasRoomFor 12 = .ok (.goto 4, 3) := by decide +kernel
theorem dX5_hasRoomFor_15 : decode cX5_hasRoomFor 15 = .ok (.iconst 0, 1) := by decide +kernel
theorem dX5_hasRoomFor_16 : decode cX5_hasRoomFor 16 = .ok (.ireturn, 1) := by decide +kernel
theorem dX5_empty_0 : decode cX5_empty 0 = .ok (.aload_n 0, 1) := by decide +kernel
theorem dX5_empty_1 : decode cX5_empty 1 = .ok (.iconst 0, 1) := by decide +kernel
theorem dX5_empty_2 : decode cX5_empty 2 = .ok (.putfield 15, 3) := by decide +kernel
theorem dX5_empty_5 : decode cX5_empty 5 = .ok (.return_, 1) := by decide +kernel
set_option maxRecDepth 20000 in
theorem dX5_append_0 : decode cX5_append 0 = .ok (.iconst 0, 1) := by decide +kernel
theorem dX5_append_1 : decode cX5_append 1 = .ok (.istore 4, 2) := by decide +kernel
theorem dX5_append_3 : decode cX5_append 3 = .ok (.iload 4, 2) := by decide +kernel
theorem dX5_append_5 : decode cX5_append 5 = .ok (.iload_n 1, 1) := by decide +kernel
theorem dX5_append_6 : decode cX5_append 6 = .ok (.if_icmp .ge 49, 3) := by decide +kernel
theorem dX5_append_9 : decode cX5_append 9 = .ok (.iload 4, 2) := by decide +kernel
theorem dX5_append_11 : decode cX5_append 11 = .ok (.bipush 8, 2) := by decide +kernel
theorem dX5_append_13 : decode cX5_append 13 = .ok (.if_icmp .ge 42, 3) := by decide +kernel
theorem dX5_append_16 : decode cX5_append 16 = .ok (.aload_n 0, 1) := by decide +kernel
theorem dX5_append_17 : decode cX5_append 17 = .ok (.getfield 9, 3) := by decide +kernel
theorem dX5_append_20 : decode cX5_append 20 = .ok (.aload_n 0, 1) := by decide +kernel
theorem dX5_append_21 : decode cX5_append 21 = .ok (.getfield 15, 3) := by decide +kernel
theorem dX5_append_24 : decode cX5_append 24 = .ok (.lload_n 2, 1) := by decide +kernel
theorem dX5_append_25 : decode cX5_append 25 = .ok (.bipush 8, 2) := by decide +kernel
theorem dX5_append_27 : decode cX5_append 27 = .ok (.iload 4, 2) := by decide +kernel
theorem dX5_append_29 : decode cX5_append 29 = .ok (.imul, 1) := by decide +kernel
theorem dX5_append_30 : decode cX5_append 30 = .ok (.lushr, 1) := by decide +kernel
theorem dX5_append_31 : decode cX5_append 31 = .ok (.l2i, 1) := by decide +kernel
theorem dX5_append_32 : decode cX5_append 32 = .ok (.sipush 255, 3) := by decide +kernel
theorem dX5_append_35 : decode cX5_append 35 = .ok (.iand, 1) := by decide +kernel
theorem dX5_append_36 : decode cX5_append 36 = .ok (.invokestatic 28, 3) := by decide +kernel
theorem dX5_append_39 : decode cX5_append 39 = .ok (.aload_n 0, 1) := by decide +kernel
theorem dX5_append_40 : decode cX5_append 40 = .ok (.dup, 1) := by decide +kernel
theorem dX5_append_41 : decode cX5_append 41 = .ok (.getfield 15, 3) := by decide +kernel
theorem dX5_append_44 : decode cX5_append 44 = .ok (.iconst 1, 1) := by decide +kernel
theorem dX5_append_45 : decode cX5_append 45 = .ok (.iadd, 1) := by decide +kernel
theorem dX5_append_46 : decode cX5_append 46 = .ok (.putfield 15, 3) := by decide +kernel
theorem dX5_append_49 : decode cX5_append 49 = .ok (.iinc 4 1, 3) := by decide +kernel
theorem dX5_append_52 : decode cX5_append 52 = .ok (.goto (-49), 3) := by decide +kernel
theorem dX5_append_55 : decode cX5_append 55 = .ok (.return_, 1) := by decide +kernel
set_option maxRecDepth 20000 in
theorem dX5_read_0 : decode cX5_read 0 = .ok (.aload_n 0, 1) := by decide +kernel
theorem dX5_read_1 : decode cX5_read 1 = .ok (.aload_n 0, 1) := by decide +kernel
theorem dX5_read_2 : decode cX5_read 2 = .ok (.iconst 0, 1) := by decide +kernel
theorem dX5_read_3 : decode cX5_read 3 = .ok (.invokevirtual 32, 3) := by decide +kernel
theorem dX5_read_6 : decode cX5_read 6 = .ok (.invokestatic 36, 3) := by decide +kernel
theorem dX5_read_9 : decode cX5_read 9 = .ok (.putfield 19, 3) := by decide +kernel
theorem dX5_read_12 : decode cX5_read 12 = .ok (.aload_n 0, 1) := by decide +kernel
theorem dX5_read_13 : decode cX5_read 13 = .ok (.getfield 19, 3) := by decide +kernel
theorem dX5_read_16 : decode cX5_read 16 = .ok (.ifCond .ge 5, 3) := by decide +kernel
theorem dX5_read_19 : decode cX5_read 19 = .ok (.iconst 0, 1) := by decide +kernel
theorem dX5_read_20 : decode cX5_read 20 = .ok (.ireturn, 1) := by decide +kernel
theorem dX5_read_21 : decode cX5_read 21 = .ok (.aload_n 0, 1) := by decide +kernel
theorem dX5_read_22 : decode cX5_read 22 = .ok (.iconst 1, 1) := by decide +kernel
theorem dX5_read_23 : decode cX5_read 23 = .ok (.iconst 3, 1) := by decide +kernel
theorem dX5_read_24 : decode cX5_read 24 = .ok (.invokevirtual 39, 3) := by decide +kernel
theorem dX5_read_27 : decode cX5_read 27 = .ok (.istore_n 1, 1) := by decide +kernel
theorem dX5_read_28 : decode cX5_read 28 = .ok (.aload_n 0, 1) := by decide +kernel
theorem dX5_read_29 : decode cX5_read 29 = .ok (.aload_n 0, 1) := by decide +kernel
theorem dX5_read_30 : decode cX5_read 30 = .ok (.iconst 1, 1) := by decide +kernel
theorem dX5_read_31 : decode cX5_read 31 = .ok (.iload_n 1, 1) := by decide +kernel
theorem dX5_read_32 : decode cX5_read 32 = .ok (.invokevirtual 43, 3) := by decide +kernel
theorem dX5_read_35 : decode cX5_read 35 = .ok (.putfield 22, 3) := by decide +kernel
theorem dX5_read_38 : decode cX5_read 38 = .ok (.iload_n 1, 1) := by decide +kernel
theorem dX5_read_39 : decode cX5_read 39 = .ok (.iconst 1, 1) := by decide +kernel
theorem dX5_read_40 : decode cX5_read 40 = .ok (.if_icmp .eq 13, 3) := by decide +kernel
theorem dX5_read_43 : decode cX5_read 43 = .ok (.aload_n 0, 1) := by decide +kernel
theorem dX5_read_44 : decode cX5_read 44 = .ok (.getfield 22, 3) := by decide +kernel
theorem dX5_read_47 : decode cX5_read 47 = .ok (.sipush 366, 3) := by decide +kernel
theorem dX5_read_50 : decode cX5_read 50 = .ok (.if_icmp .lt 5, 3) := by decide +kernel
theorem dX5_read_53 : decode cX5_read 53 = .ok (.iconst 1, 1) := by decide +kernel
theorem dX5_read_54 : decode cX5_read 54 = .ok (.ireturn, 1) := by decide +kernel
theorem dX5_read_55 : decode cX5_read 55 = .ok (.aload_n 0, 1) := by decide +kernel
theorem dX5_read_56 : decode cX5_read 56 = .ok (.iload_n 1, 1) := by decide +kernel
theorem dX5_read_57 : decode cX5_read 57 = .ok (.invokevirtual 32, 3) := by decide +kernel
theorem dX5_read_60 : decode cX5_read 60 = .ok (.bipush 44, 2) := by decide +kernel
theorem dX5_read_62 : decode cX5_read 62 = .ok (.if_icmp .eq 5, 3) := by decide +kernel
theorem dX5_read_65 : decode cX5_read 65 = .ok (.iload_n 1, 1) := by decide +kernel
theorem dX5_read_66 : decode cX5_read 66 = .ok (.ireturn, 1) := by decide +kernel
theorem dX5_read_67 : decode cX5_read 67 = .ok (.iload_n 1, 1) := by decide +kernel
theorem dX5_read_68 : decode cX5_read 68 = .ok (.iconst 1, 1) := by decide +kernel
theorem dX5_read_69 : decode cX5_read 69 = .ok (.iadd, 1) := by decide +kernel
theorem dX5_read_70 : decode cX5_read 70 = .ok (.istore_n 2, 1) := by decide +kernel
theorem dX5_read_71 : decode cX5_read 71 = .ok (.aload_n 0, 1) := by decide +kernel
theorem dX5_read_72 : decode cX5_read 72 = .ok (.iload_n 2, 1) := by decide +kernel
theorem dX5_read_73 : decode cX5_read 73 = .ok (.iconst 4, 1) := by decide +kernel
theorem dX5_read_74 : decode cX5_read 74 = .ok (.invokevirtual 39, 3) := by decide +kernel
theorem dX5_read_77 : decode cX5_read 77 = .ok (.istore_n 3, 1) := by decide +kernel
theorem dX5_read_78 : decode cX5_read 78 = .ok (.aload_n 0, 1) := by decide +kernel
theorem dX5_read_79 : decode cX5_read 79 = .ok (.aload_n 0, 1) := by decide +kernel
theorem dX5_read_80 : decode cX5_read 80 = .ok (.iload_n 2, 1) := by decide +kernel
theorem dX5_read_81 : decode cX5_read 81 = .ok (.iload_n 3, 1) := by decide +kernel
theorem dX5_read_82 : decode cX5_read 82 = .ok (.invokevirtual 43, 3) := by decide +kernel
theorem dX5_read_85 : decode cX5_read 85 = .ok (.putfield 25, 3) := by decide +kernel
theorem dX5_read_88 : decode cX5_read 88 = .ok (.iload_n 3, 1) := by decide +kernel
theorem dX5_read_89 : decode cX5_read 89 = .ok (.iload_n 2, 1) := by decide +kernel
theorem dX5_read_90 : decode cX5_read 90 = .ok (.if_icmp .le 15, 3) := by decide +kernel
theorem dX5_read_93 : decode cX5_read 93 = .ok (.iload_n 3, 1) := by decide +kernel
theorem dX5_read_94 : decode cX5_read 94 = .ok (.aload_n 0, 1) := by decide +kernel
theorem dX5_read_95 : decode cX5_read 95 = .ok (.getfield 15, 3) := by decide +kernel
theorem dX5_read_98 : decode cX5_read 98 = .ok (.if_icmp .ne 7, 3) := by decide +kernel
theorem dX5_read_101 : decode cX5_read 101 = .ok (.iconst (-1), 1) := by decide +kernel
theorem dX5_read_102 : decode cX5_read 102 = .ok (.goto 4, 3) := by decide +kernel
theorem dX5_read_105 : decode cX5_read 105 = .ok (.iload_n 3, 1) := by decide +kernel
theorem dX5_read_106 : decode cX5_read 106 = .ok (.ireturn, 1) := by decide +kernel
set_option maxRecDepth 20000 in
theorem dX5_byteAt_0 : decode cX5_byteAt 0 = .ok (.iload_n 1, 1) := by decide +kernel
theorem dX5_byteAt_1 : decode cX5_byteAt 1 = .ok (.ifCond .lt 22, 3) := by decide +kernel
theorem dX5_byteAt_4 : decode cX5_byteAt 4 = .ok (.iload_n 1, 1) := by decide +kernel
theorem dX5_byteAt_5 : decode cX5_byteAt 5 = .ok (.aload_n 0, 1) := by decide +kernel
theorem dX5_byteAt_6 : decode cX5_byteAt 6 = .ok (.getfield 15, 3) := by decide +kernel
theorem dX5_byteAt_9 : decode cX5_byteAt 9 = .ok (.if_icmp .ge 14, 3) := by decide +kernel
theorem dX5_byteAt_12 : decode cX5_byteAt 12 = .ok (.aload_n 0, 1) := by decide +kernel
theorem dX5_byteAt_13 : decode cX5_byteAt 13 = .ok (.getfield 9, 3) := by decide +kernel
theorem dX5_byteAt_16 : decode cX5_byteAt 16 = .ok (.iload_n 1, 1) := by decide +kernel
theorem dX5_byteAt_17 : decode cX5_byteAt 17 = .ok (.invokestatic 46, 3) := by decide +kernel
theorem dX5_byteAt_20 : decode cX5_byteAt 20 = .ok (.goto 4, 3) := by decide +kernel
theorem dX5_byteAt_23 : decode cX5_byteAt 23 = .ok (.iconst (-1), 1) := by decide +kernel
theorem dX5_byteAt_24 : decode cX5_byteAt 24 = .ok (.ireturn, 1) := by decide +kernel
set_option maxRecDepth 20000 in
theorem dX5_isDigit_0 : decode cX5_isDigit 0 = .ok (.aload_n 0, 1) := by decide +kernel
theorem dX5_isDigit_1 : decode cX5_isDigit 1 = .ok (.iload_n 1, 1) := by decide +kernel
theorem dX5_isDigit_2 : decode cX5_isDigit 2 = .ok (.invokevirtual 32, 3) := by decide +kernel
theorem dX5_isDigit_5 : decode cX5_isDigit 5 = .ok (.bipush 48, 2) := by decide +kernel
theorem dX5_isDigit_7 : decode cX5_isDigit 7 = .ok (.if_icmp .lt 17, 3) := by decide +kernel
theorem dX5_isDigit_10 : decode cX5_isDigit 10 = .ok (.aload_n 0, 1) := by decide +kernel
theorem dX5_isDigit_11 : decode cX5_isDigit 11 = .ok (.iload_n 1, 1) := by decide +kernel
theorem dX5_isDigit_12 : decode cX5_isDigit 12 = .ok (.invokevirtual 32, 3) := by decide +kernel
theorem dX5_isDigit_15 : decode cX5_isDigit 15 = .ok (.bipush 57, 2) := by decide +kernel
theorem dX5_isDigit_17 : decode cX5_isDigit 17 = .ok (.if_icmp .gt 7, 3) := by decide +kernel
theorem dX5_isDigit_20 : decode cX5_isDigit 20 = .ok (.iconst 1, 1) := by decide +kernel
theorem dX5_isDigit_21 : decode cX5_isDigit 21 = .ok (.goto 4, 3) := by decide +kernel
theorem dX5_isDigit_24 : decode cX5_isDigit 24 = .ok (.iconst 0, 1) := by decide +kernel
theorem dX5_isDigit_25 : decode cX5_isDigit 25 = .ok (.ireturn, 1) := by decide +kernel
set_option maxRecDepth 20000 in
theorem dX5_endOfDigits_0 : decode cX5_endOfDigits 0 = .ok (.iload_n 1, 1) := by decide +kernel
theorem dX5_endOfDigits_1 : decode cX5_endOfDigits 1 = .ok (.istore_n 3, 1) := by decide +kernel
theorem dX5_endOfDigits_2 : decode cX5_endOfDigits 2 = .ok (.iload_n 3, 1) := by decide +kernel
theorem dX5_endOfDigits_3 : decode cX5_endOfDigits 3 = .ok (.iload_n 1, 1) := by decide +kernel
theorem dX5_endOfDigits_4 : decode cX5_endOfDigits 4 = .ok (.iload_n 2, 1) := by decide +kernel
theorem dX5_endOfDigits_5 : decode cX5_endOfDigits 5 = .ok (.iadd, 1) := by decide +kernel
theorem dX5_endOfDigits_6 : decode cX5_endOfDigits 6 = .ok (.if_icmp .ge 17, 3) := by decide +kernel
theorem dX5_endOfDigits_9 : decode cX5_endOfDigits 9 = .ok (.aload_n 0, 1) := by decide +kernel
theorem dX5_endOfDigits_10 : decode cX5_endOfDigits 10 = .ok (.iload_n 3, 1) := by decide +kernel
theorem dX5_endOfDigits_11 : decode cX5_endOfDigits 11 = .ok (.invokevirtual 50, 3) := by decide +kernel
theorem dX5_endOfDigits_14 : decode cX5_endOfDigits 14 = .ok (.ifCond .eq 9, 3) := by decide +kernel
theorem dX5_endOfDigits_17 : decode cX5_endOfDigits 17 = .ok (.iinc 3 1, 3) := by decide +kernel
theorem dX5_endOfDigits_20 : decode cX5_endOfDigits 20 = .ok (.goto (-18), 3) := by decide +kernel
theorem dX5_endOfDigits_23 : decode cX5_endOfDigits 23 = .ok (.iload_n 3, 1) := by decide +kernel
theorem dX5_endOfDigits_24 : decode cX5_endOfDigits 24 = .ok (.ireturn, 1) := by decide +kernel
set_option maxRecDepth 20000 in
theorem dX5_valueOf_0 : decode cX5_valueOf 0 = .ok (.iconst 0, 1) := by decide +kernel
theorem dX5_valueOf_1 : decode cX5_valueOf 1 = .ok (.istore_n 3, 1) := by decide +kernel
theorem dX5_valueOf_2 : decode cX5_valueOf 2 = .ok (.iload_n 1, 1) := by decide +kernel
theorem dX5_valueOf_3 : decode cX5_valueOf 3 = .ok (.istore 4, 2) := by decide +kernel
theorem dX5_valueOf_5 : decode cX5_valueOf 5 = .ok (.iload 4, 2) := by decide +kernel
theorem dX5_valueOf_7 : decode cX5_valueOf 7 = .ok (.iload_n 2, 1) := by decide +kernel
theorem dX5_valueOf_8 : decode cX5_valueOf 8 = .ok (.if_icmp .ge 24, 3) := by decide +kernel
theorem dX5_valueOf_11 : decode cX5_valueOf 11 = .ok (.bipush 10, 2) := by decide +kernel
theorem dX5_valueOf_13 : decode cX5_valueOf 13 = .ok (.iload_n 3, 1) := by decide +kernel
theorem dX5_valueOf_14 : decode cX5_valueOf 14 = .ok (.imul, 1) := by decide +kernel
theorem dX5_valueOf_15 : decode cX5_valueOf 15 = .ok (.aload_n 0, 1) := by decide +kernel
theorem dX5_valueOf_16 : decode cX5_valueOf 16 = .ok (.iload 4, 2) := by decide +kernel
theorem dX5_valueOf_18 : decode cX5_valueOf 18 = .ok (.invokevirtual 32, 3) := by decide +kernel
theorem dX5_valueOf_21 : decode cX5_valueOf 21 = .ok (.iadd, 1) := by decide +kernel
theorem dX5_valueOf_22 : decode cX5_valueOf 22 = .ok (.bipush 48, 2) := by decide +kernel
theorem dX5_valueOf_24 : decode cX5_valueOf 24 = .ok (.isub, 1) := by decide +kernel
theorem dX5_valueOf_25 : decode cX5_valueOf 25 = .ok (.istore_n 3, 1) := by decide +kernel
theorem dX5_valueOf_26 : decode cX5_valueOf 26 = .ok (.iinc 4 1, 3) := by decide +kernel
theorem dX5_valueOf_29 : decode cX5_valueOf 29 = .ok (.goto (-24), 3) := by decide +kernel
theorem dX5_valueOf_32 : decode cX5_valueOf 32 = .ok (.iload_n 3, 1) := by decide +kernel
theorem dX5_valueOf_33 : decode cX5_valueOf 33 = .ok (.ireturn, 1) := by decide +kernel
theorem dX5_kindOfLetter_0 : decode cX5_kindOfLetter 0 = .ok (.iload_n 0, 1) := by decide +kernel
theorem dX5_kindOfLetter_1 : decode cX5_kindOfLetter 1 = .ok (.tableswitch 103 97 115 #[93, 103, 99, 103, 103, 97, 103, 103, 103, 103, 103, 101, 103, 95, 103, 103, 103, 103, 91], 91) := by decide +kernel
theorem dX5_kindOfLetter_92 : decode cX5_kindOfLetter 92 = .ok (.iconst 0, 1) := by decide +kernel
theorem dX5_kindOfLetter_93 : decode cX5_kindOfLetter 93 = .ok (.ireturn, 1) := by decide +kernel
theorem dX5_kindOfLetter_94 : decode cX5_kindOfLetter 94 = .ok (.iconst 1, 1) := by decide +kernel
theorem dX5_kindOfLetter_95 : decode cX5_kindOfLetter 95 = .ok (.ireturn, 1) := by decide +kernel
theorem dX5_kindOfLetter_96 : decode cX5_kindOfLetter 96 = .ok (.iconst 2, 1) := by decide +kernel
theorem dX5_kindOfLetter_97 : decode cX5_kindOfLetter 97 = .ok (.ireturn, 1) := by decide +kernel
theorem dX5_kindOfLetter_98 : decode cX5_kindOfLetter 98 = .ok (.iconst 3, 1) := by decide +kernel
theorem dX5_kindOfLetter_99 : decode cX5_kindOfLetter 99 = .ok (.ireturn, 1) := by decide +kernel
theorem dX5_kindOfLetter_100 : decode cX5_kindOfLetter 100 = .ok (.iconst 4, 1) := by decide +kernel
theorem dX5_kindOfLetter_101 : decode cX5_kindOfLetter 101 = .ok (.ireturn, 1) := by decide +kernel
theorem dX5_kindOfLetter_102 : decode cX5_kindOfLetter 102 = .ok (.iconst 5, 1) := by decide +kernel
theorem dX5_kindOfLetter_103 : decode cX5_kindOfLetter 103 = .ok (.ireturn, 1) := by decide +kernel
theorem dX5_kindOfLetter_104 : decode cX5_kindOfLetter 104 = .ok (.iconst (-1), 1) := by decide +kernel
theorem dX5_kindOfLetter_105 : decode cX5_kindOfLetter 105 = .ok (.ireturn, 1) := by decide +kernel
set_option maxRecDepth 20000 in
theorem dX6_init_0 : decode cX6_init 0 = .ok (.aload_n 0, 1) := by decide +kernel
theorem dX6_init_1 : decode cX6_init 1 = .ok (.invokespecial 1, 3) := by decide +kernel
theorem dX6_init_4 : decode cX6_init 4 = .ok (.aload_n 0, 1) := by decide +kernel
theorem dX6_init_5 : decode cX6_init 5 = .ok (.new 7, 3) := by decide +kernel
theorem dX6_init_8 : decode cX6_init 8 = .ok (.dup, 1) := by decide +kernel
theorem dX6_init_9 : decode cX6_init 9 = .ok (.invokespecial 9, 3) := by decide +kernel
theorem dX6_init_12 : decode cX6_init 12 = .ok (.putfield 10, 3) := by decide +kernel
theorem dX6_init_15 : decode cX6_init 15 = .ok (.aload_n 0, 1) := by decide +kernel
theorem dX6_init_16 : decode cX6_init 16 = .ok (.new 16, 3) := by decide +kernel
theorem dX6_init_19 : decode cX6_init 19 = .ok (.dup, 1) := by decide +kernel
theorem dX6_init_20 : decode cX6_init 20 = .ok (.invokespecial 18, 3) := by decide +kernel
theorem dX6_init_23 : decode cX6_init 23 = .ok (.putfield 19, 3) := by decide +kernel
theorem dX6_init_26 : decode cX6_init 26 = .ok (.aload_n 0, 1) := by decide +kernel
theorem dX6_init_27 : decode cX6_init 27 = .ok (.new 16, 3) := by decide +kernel
theorem dX6_init_30 : decode cX6_init 30 = .ok (.dup, 1) := by decide +kernel
theorem dX6_init_31 : decode cX6_init 31 = .ok (.invokespecial 18, 3) := by decide +kernel
theorem dX6_init_34 : decode cX6_init 34 = .ok (.putfield 23, 3) := by decide +kernel
theorem dX6_init_37 : decode cX6_init 37 = .ok (.aload_n 0, 1) := by decide +kernel
theorem dX6_init_38 : decode cX6_init 38 = .ok (.iconst 0, 1) := by decide +kernel
theorem dX6_init_39 : decode cX6_init 39 = .ok (.putfield 26, 3) := by decide +kernel
theorem dX6_init_42 : decode cX6_init 42 = .ok (.aload_n 0, 1) := by decide +kernel
theorem dX6_init_43 : decode cX6_init 43 = .ok (.bipush 7, 2) := by decide +kernel
theorem dX6_init_45 : decode cX6_init 45 = .ok (.newarray .int, 2) := by decide +kernel
theorem dX6_init_47 : decode cX6_init 47 = .ok (.putfield 30, 3) := by decide +kernel
theorem dX6_init_50 : decode cX6_init 50 = .ok (.aload_n 0, 1) := by decide +kernel
theorem dX6_init_51 : decode cX6_init 51 = .ok (.new 34, 3) := by decide +kernel
theorem dX6_init_54 : decode cX6_init 54 = .ok (.dup, 1) := by decide +kernel
theorem dX6_init_55 : decode cX6_init 55 = .ok (.invokespecial 36, 3) := by decide +kernel
theorem dX6_init_58 : decode cX6_init 58 = .ok (.putfield 37, 3) := by decide +kernel
theorem dX6_init_61 : decode cX6_init 61 = .ok (.return_, 1) := by decide +kernel
set_option maxRecDepth 20000 in
theorem dX6_feed_0 : decode cX6_feed 0 = .ok (.iconst 0, 1) := by decide +kernel
theorem dX6_feed_1 : decode cX6_feed 1 = .ok (.iconst 0, 1) := by decide +kernel
theorem dX6_feed_2 : decode cX6_feed 2 = .ok (.iload_n 1, 1) := by decide +kernel
theorem dX6_feed_3 : decode cX6_feed 3 = .ok (.iconst 1, 1) := by decide +kernel
theorem dX6_feed_4 : decode cX6_feed 4 = .ok (.if_icmp .ge 7, 3) := by decide +kernel
theorem dX6_feed_7 : decode cX6_feed 7 = .ok (.iconst 1, 1) := by decide +kernel
theorem dX6_feed_8 : decode cX6_feed 8 = .ok (.goto 4, 3) := by decide +kernel
theorem dX6_feed_11 : decode cX6_feed 11 = .ok (.iconst 0, 1) := by decide +kernel
theorem dX6_feed_12 : decode cX6_feed 12 = .ok (.iload_n 1, 1) := by decide +kernel
theorem dX6_feed_13 : decode cX6_feed 13 = .ok (.bipush 8, 2) := by decide +kernel
theorem dX6_feed_15 : decode cX6_feed 15 = .ok (.if_icmp .gt 14, 3) := by decide +kernel
theorem dX6_feed_18 : decode cX6_feed 18 = .ok (.aload_n 0, 1) := by decide +kernel
theorem dX6_feed_19 : decode cX6_feed 19 = .ok (.getfield 10, 3) := by decide +kernel
theorem dX6_feed_22 : decode cX6_feed 22 = .ok (.iload_n 1, 1) := by decide +kernel
theorem dX6_feed_23 : decode cX6_feed 23 = .ok (.invokevirtual 41, 3) := by decide +kernel
theorem dX6_feed_26 : decode cX6_feed 26 = .ok (.ifCond .ne 7, 3) := by decide +kernel
theorem dX6_feed_29 : decode cX6_feed 29 = .ok (.iconst 1, 1) := by decide +kernel
theorem dX6_feed_30 : decode cX6_feed 30 = .ok (.goto 4, 3) := by decide +kernel
theorem dX6_feed_33 : decode cX6_feed 33 = .ok (.iconst 0, 1) := by decide +kernel
theorem dX6_feed_34 : decode cX6_feed 34 = .ok (.invokestatic 45, 3) := by decide +kernel
theorem dX6_feed_37 : decode cX6_feed 37 = .ok (.istore 4, 2) := by decide +kernel
theorem dX6_feed_39 : decode cX6_feed 39 = .ok (.iload 4, 2) := by decide +kernel
theorem dX6_feed_41 : decode cX6_feed 41 = .ok (.ifCond .eq 10, 3) := by decide +kernel
theorem dX6_feed_44 : decode cX6_feed 44 = .ok (.aload_n 0, 1) := by decide +kernel
theorem dX6_feed_45 : decode cX6_feed 45 = .ok (.iload 4, 2) := by decide +kernel
theorem dX6_feed_47 : decode cX6_feed 47 = .ok (.invokevirtual 49, 3) := by decide +kernel
theorem dX6_feed_50 : decode cX6_feed 50 = .ok (.ireturn, 1) := by decide +kernel
theorem dX6_feed_51 : decode cX6_feed 51 = .ok (.aload_n 0, 1) := by decide +kernel
theorem dX6_feed_52 : decode cX6_feed 52 = .ok (.getfield 10, 3) := by decide +kernel
theorem dX6_feed_55 : decode cX6_feed 55 = .ok (.iload_n 1, 1) := by decide +kernel
theorem dX6_feed_56 : decode cX6_feed 56 = .ok (.lload_n 2, 1) := by decide +kernel
theorem dX6_feed_57 : decode cX6_feed 57 = .ok (.invokevirtual 53, 3) := by decide +kernel
theorem dX6_feed_60 : decode cX6_feed 60 = .ok (.aload_n 0, 1) := by decide +kernel
theorem dX6_feed_61 : decode cX6_feed 61 = .ok (.getfield 10, 3) := by decide +kernel
theorem dX6_feed_64 : decode cX6_feed 64 = .ok (.getfield 57, 3) := by decide +kernel
theorem dX6_feed_67 : decode cX6_feed 67 = .ok (.ireturn, 1) := by decide +kernel
set_option maxRecDepth 20000 in
theorem dX6_man_0 : decode cX6_man 0 = .ok (.aload_n 0, 1) := by decide +kernel
theorem dX6_man_1 : decode cX6_man 1 = .ok (.getfield 19, 3) := by decide +kernel
theorem dX6_man_4 : decode cX6_man 4 = .ok (.getfield 61, 3) := by decide +kernel
theorem dX6_man_7 : decode cX6_man 7 = .ok (.getfield 65, 3) := by decide +kernel
theorem dX6_man_10 : decode cX6_man 10 = .ok (.bipush 60, 2) := by decide +kernel
theorem dX6_man_12 : decode cX6_man 12 = .ok (.if_icmp .lt 10, 3) := by decide +kernel
theorem dX6_man_15 : decode cX6_man 15 = .ok (.aload_n 0, 1) := by decide +kernel
theorem dX6_man_16 : decode cX6_man 16 = .ok (.bipush (-6), 2) := by decide +kernel
theorem dX6_man_18 : decode cX6_man 18 = .ok (.invokevirtual 49, 3) := by decide +kernel
theorem dX6_man_21 : decode cX6_man 21 = .ok (.ireturn, 1) := by decide +kernel
theorem dX6_man_22 : decode cX6_man 22 = .ok (.aload_n 0, 1) := by decide +kernel
theorem dX6_man_23 : decode cX6_man 23 = .ok (.getfield 10, 3) := by decide +kernel
theorem dX6_man_26 : decode cX6_man 26 = .ok (.invokevirtual 70, 3) := by decide +kernel
theorem dX6_man_29 : decode cX6_man 29 = .ok (.istore_n 1, 1) := by decide +kernel
theorem dX6_man_30 : decode cX6_man 30 = .ok (.aload_n 0, 1) := by decide +kernel
theorem dX6_man_31 : decode cX6_man 31 = .ok (.getfield 10, 3) := by decide +kernel
theorem dX6_man_34 : decode cX6_man 34 = .ok (.invokevirtual 74, 3) := by decide +kernel
theorem dX6_man_37 : decode cX6_man 37 = .ok (.iload_n 1, 1) := by decide +kernel
theorem dX6_man_38 : decode cX6_man 38 = .ok (.ifCond .lt 8, 3) := by decide +kernel
theorem dX6_man_41 : decode cX6_man 41 = .ok (.bipush (-20), 2) := by decide +kernel
theorem dX6_man_43 : decode cX6_man 43 = .ok (.iload_n 1, 1) := by decide +kernel
theorem dX6_man_44 : decode cX6_man 44 = .ok (.isub, 1) := by decide +kernel
theorem dX6_man_45 : decode cX6_man 45 = .ok (.ireturn, 1) := by decide +kernel
theorem dX6_man_46 : decode cX6_man 46 = .ok (.aload_n 0, 1) := by decide +kernel
theorem dX6_man_47 : decode cX6_man 47 = .ok (.getfield 19, 3) := by decide +kernel
theorem dX6_man_50 : decode cX6_man 50 = .ok (.getfield 61, 3) := by decide +kernel
theorem dX6_man_53 : decode cX6_man 53 = .ok (.aload_n 0, 1) := by decide +kernel
theorem dX6_man_54 : decode cX6_man 54 = .ok (.getfield 10, 3) := by decide +kernel
theorem dX6_man_57 : decode cX6_man 57 = .ok (.getfield 77, 3) := by decide +kernel
theorem dX6_man_60 : decode cX6_man 60 = .ok (.aload_n 0, 1) := by decide +kernel
theorem dX6_man_61 : decode cX6_man 61 = .ok (.getfield 10, 3) := by decide +kernel
theorem dX6_man_64 : decode cX6_man 64 = .ok (.getfield 80, 3) := by decide +kernel
theorem dX6_man_67 : decode cX6_man 67 = .ok (.aload_n 0, 1) := by decide +kernel
theorem dX6_man_68 : decode cX6_man 68 = .ok (.getfield 10, 3) := by decide +kernel
theorem dX6_man_71 : decode cX6_man 71 = .ok (.getfield 83, 3) := by decide +kernel
theorem dX6_man_74 : decode cX6_man 74 = .ok (.invokevirtual 86, 3) := by decide +kernel
theorem dX6_man_77 : decode cX6_man 77 = .ok (.ireturn, 1) := by decide +kernel
set_option maxRecDepth 20000 in
theorem dX6_jar_0 : decode cX6_jar 0 = .ok (.iload_n 1, 1) := by decide +kernel
theorem dX6_jar_1 : decode cX6_jar 1 = .ok (.invokestatic 90, 3) := by decide +kernel
theorem dX6_jar_4 : decode cX6_jar 4 = .ok (.ifCond .ne 7, 3) := by decide +kernel
theorem dX6_jar_7 : decode cX6_jar 7 = .ok (.iconst 1, 1) := by decide +kernel
theorem dX6_jar_8 : decode cX6_jar 8 = .ok (.goto 4, 3) := by decide +kernel
theorem dX6_jar_11 : decode cX6_jar 11 = .ok (.iconst 0, 1) := by decide +kernel
theorem dX6_jar_12 : decode cX6_jar 12 = .ok (.iconst 0, 1) := by decide +kernel
theorem dX6_jar_13 : decode cX6_jar 13 = .ok (.iload_n 3, 1) := by decide +kernel
theorem dX6_jar_14 : decode cX6_jar 14 = .ok (.ifCond .lt 14, 3) := by decide +kernel
theorem dX6_jar_17 : decode cX6_jar 17 = .ok (.iload 4, 2) := by decide +kernel
theorem dX6_jar_19 : decode cX6_jar 19 = .ok (.ifCond .lt 9, 3) := by decide +kernel
theorem dX6_jar_22 : decode cX6_jar 22 = .ok (.iload 5, 2) := by decide +kernel
theorem dX6_jar_24 : decode cX6_jar 24 = .ok (.iconst 1, 1) := by decide +kernel
theorem dX6_jar_25 : decode cX6_jar 25 = .ok (.if_icmp .ge 7, 3) := by decide +kernel
theorem dX6_jar_28 : decode cX6_jar 28 = .ok (.iconst 1, 1) := by decide +kernel
theorem dX6_jar_29 : decode cX6_jar 29 = .ok (.goto 4, 3) := by decide +kernel
theorem dX6_jar_32 : decode cX6_jar 32 = .ok (.iconst 0, 1) := by decide +kernel
theorem dX6_jar_33 : decode cX6_jar 33 = .ok (.iload_n 3, 1) := by decide +kernel
theorem dX6_jar_34 : decode cX6_jar 34 = .ok (.sipush 2000, 3) := by decide +kernel
theorem dX6_jar_37 : decode cX6_jar 37 = .ok (.if_icmp .gt 19, 3) := by decide +kernel
theorem dX6_jar_40 : decode cX6_jar 40 = .ok (.iload 4, 2) := by decide +kernel
theorem dX6_jar_42 : decode cX6_jar 42 = .ok (.sipush 365, 3) := by decide +kernel
theorem dX6_jar_45 : decode cX6_jar 45 = .ok (.if_icmp .gt 11, 3) := by decide +kernel
theorem dX6_jar_48 : decode cX6_jar 48 = .ok (.iload 5, 2) := by decide +kernel
theorem dX6_jar_50 : decode cX6_jar 50 = .ok (.sipush 366, 3) := by decide +kernel
theorem dX6_jar_53 : decode cX6_jar 53 = .ok (.if_icmp .le 7, 3) := by decide +kernel
theorem dX6_jar_56 : decode cX6_jar 56 = .ok (.iconst 1, 1) := by decide +kernel
theorem dX6_jar_57 : decode cX6_jar 57 = .ok (.goto 4, 3) := by decide +kernel
theorem dX6_jar_60 : decode cX6_jar 60 = .ok (.iconst 0, 1) := by decide +kernel
theorem dX6_jar_61 : decode cX6_jar 61 = .ok (.invokestatic 45, 3) := by decide +kernel
theorem dX6_jar_64 : decode cX6_jar 64 = .ok (.istore 6, 2) := by decide +kernel
theorem dX6_jar_66 : decode cX6_jar 66 = .ok (.iload 6, 2) := by decide +kernel
theorem dX6_jar_68 : decode cX6_jar 68 = .ok (.ifCond .eq 10, 3) := by decide +kernel
theorem dX6_jar_71 : decode cX6_jar 71 = .ok (.aload_n 0, 1) := by decide +kernel
theorem dX6_jar_72 : decode cX6_jar 72 = .ok (.iload 6, 2) := by decide +kernel
theorem dX6_jar_74 : decode cX6_jar 74 = .ok (.invokevirtual 49, 3) := by decide +kernel
theorem dX6_jar_77 : decode cX6_jar 77 = .ok (.ireturn, 1) := by decide +kernel
theorem dX6_jar_78 : decode cX6_jar 78 = .ok (.aload_n 0, 1) := by decide +kernel
theorem dX6_jar_79 : decode cX6_jar 79 = .ok (.getfield 19, 3) := by decide +kernel
theorem dX6_jar_82 : decode cX6_jar 82 = .ok (.iload_n 1, 1) := by decide +kernel
theorem dX6_jar_83 : decode cX6_jar 83 = .ok (.invokevirtual 93, 3) := by decide +kernel
theorem dX6_jar_86 : decode cX6_jar 86 = .ok (.iload_n 2, 1) := by decide +kernel
theorem dX6_jar_87 : decode cX6_jar 87 = .ok (.iload_n 3, 1) := by decide +kernel
theorem dX6_jar_88 : decode cX6_jar 88 = .ok (.iload 4, 2) := by decide +kernel
theorem dX6_jar_90 : decode cX6_jar 90 = .ok (.iload 5, 2) := by decide +kernel
theorem dX6_jar_92 : decode cX6_jar 92 = .ok (.invokevirtual 97, 3) := by decide +kernel
theorem dX6_jar_95 : decode cX6_jar 95 = .ok (.iconst 1, 1) := by decide +kernel
theorem dX6_jar_96 : decode cX6_jar 96 = .ok (.ireturn, 1) := by decide +kernel
set_option maxRecDepth 20000 in
theorem dX6_pour_0 : decode cX6_pour 0 = .ok (.iload_n 1, 1) := by decide +kernel
theorem dX6_pour_1 : decode cX6_pour 1 = .ok (.invokestatic 90, 3) := by decide +kernel
theorem dX6_pour_4 : decode cX6_pour 4 = .ok (.ifCond .ne 9, 3) := by decide +kernel
theorem dX6_pour_7 : decode cX6_pour 7 = .ok (.aload_n 0, 1) := by decide +kernel
theorem dX6_pour_8 : decode cX6_pour 8 = .ok (.iconst (-1), 1) := by decide +kernel
theorem dX6_pour_9 : decode cX6_pour 9 = .ok (.invokevirtual 49, 3) := by decide +kernel
theorem dX6_pour_12 : decode cX6_pour 12 = .ok (.ireturn, 1) := by decide +kernel
theorem dX6_pour_13 : decode cX6_pour 13 = .ok (.aload_n 0, 1) := by decide +kernel
theorem dX6_pour_14 : decode cX6_pour 14 = .ok (.getfield 19, 3) := by decide +kernel
theorem dX6_pour_17 : decode cX6_pour 17 = .ok (.iload_n 1, 1) := by decide +kernel
theorem dX6_pour_18 : decode cX6_pour 18 = .ok (.invokevirtual 93, 3) := by decide +kernel
theorem dX6_pour_21 : decode cX6_pour 21 = .ok (.iload_n 2, 1) := by decide +kernel
theorem dX6_pour_22 : decode cX6_pour 22 = .ok (.invokevirtual 103, 3) := by decide +kernel
theorem dX6_pour_25 : decode cX6_pour 25 = .ok (.ifCond .eq 7, 3) := by decide +kernel
theorem dX6_pour_28 : decode cX6_pour 28 = .ok (.iconst 1, 1) := by decide +kernel
theorem dX6_pour_29 : decode cX6_pour 29 = .ok (.goto 4, 3) := by decide +kernel
theorem dX6_pour_32 : decode cX6_pour 32 = .ok (.iconst 0, 1) := by decide +kernel
theorem dX6_pour_33 : decode cX6_pour 33 = .ok (.ireturn, 1) := by decide +kernel
set_option maxRecDepth 20000 in
theorem dX6_number_0 : decode cX6_number 0 = .ok (.iload_n 1, 1) := by decide +kernel
theorem dX6_number_1 : decode cX6_number 1 = .ok (.invokestatic 90, 3) := by decide +kernel
theorem dX6_number_4 : decode cX6_number 4 = .ok (.ifCond .eq 14, 3) := by decide +kernel
theorem dX6_number_7 : decode cX6_number 7 = .ok (.iload_n 2, 1) := by decide +kernel
theorem dX6_number_8 : decode cX6_number 8 = .ok (.ifCond .lt 10, 3) := by decide +kernel
theorem dX6_number_11 : decode cX6_number 11 = .ok (.iload_n 2, 1) := by decide +kernel
theorem dX6_number_12 : decode cX6_number 12 = .ok (.sipush 366, 3) := by decide +kernel
theorem dX6_number_15 : decode cX6_number 15 = .ok (.if_icmp .lt 9, 3) := by decide +kernel
theorem dX6_number_18 : decode cX6_number 18 = .ok (.aload_n 0, 1) := by decide +kernel
theorem dX6_number_19 : decode cX6_number 19 = .ok (.iconst (-1), 1) := by decide +kernel
theorem dX6_number_20 : decode cX6_number 20 = .ok (.invokevirtual 49, 3) := by decide +kernel
theorem dX6_number_23 : decode cX6_number 23 = .ok (.ireturn, 1) := by decide +kernel
theorem dX6_number_24 : decode cX6_number 24 = .ok (.aload_n 0, 1) := by decide +kernel
theorem dX6_number_25 : decode cX6_number 25 = .ok (.getfield 19, 3) := by decide +kernel
theorem dX6_number_28 : decode cX6_number 28 = .ok (.iload_n 1, 1) := by decide +kernel
theorem dX6_number_29 : decode cX6_number 29 = .ok (.invokevirtual 93, 3) := by decide +kernel
theorem dX6_number_32 : decode cX6_number 32 = .ok (.iload_n 2, 1) := by decide +kernel
theorem dX6_number_33 : decode cX6_number 33 = .ok (.invokevirtual 107, 3) := by decide +kernel
theorem dX6_number_36 : decode cX6_number 36 = .ok (.ireturn, 1) := by decide +kernel
set_option maxRecDepth 20000 in
theorem dX6_dayOf_0 : decode cX6_dayOf 0 = .ok (.iload_n 1, 1) := by decide +kernel
theorem dX6_dayOf_1 : decode cX6_dayOf 1 = .ok (.invokestatic 90, 3) := by decide +kernel
theorem dX6_dayOf_4 : decode cX6_dayOf 4 = .ok (.ifCond .ne 7, 3) := by decide +kernel
theorem dX6_dayOf_7 : decode cX6_dayOf 7 = .ok (.iconst 1, 1) := by decide +kernel
theorem dX6_dayOf_8 : decode cX6_dayOf 8 = .ok (.goto 4, 3) := by decide +kernel
theorem dX6_dayOf_11 : decode cX6_dayOf 11 = .ok (.iconst 0, 1) := by decide +kernel
theorem dX6_dayOf_12 : decode cX6_dayOf 12 = .ok (.iconst 0, 1) := by decide +kernel
theorem dX6_dayOf_13 : decode cX6_dayOf 13 = .ok (.iload_n 2, 1) := by decide +kernel
theorem dX6_dayOf_14 : decode cX6_dayOf 14 = .ok (.iconst 1, 1) := by decide +kernel
theorem dX6_dayOf_15 : decode cX6_dayOf 15 = .ok (.if_icmp .ge 7, 3) := by decide +kernel
theorem dX6_dayOf_18 : decode cX6_dayOf 18 = .ok (.iconst 1, 1) := by decide +kernel
theorem dX6_dayOf_19 : decode cX6_dayOf 19 = .ok (.goto 4, 3) := by decide +kernel
theorem dX6_dayOf_22 : decode cX6_dayOf 22 = .ok (.iconst 0, 1) := by decide +kernel
theorem dX6_dayOf_23 : decode cX6_dayOf 23 = .ok (.iload_n 2, 1) := by decide +kernel
theorem dX6_dayOf_24 : decode cX6_dayOf 24 = .ok (.sipush 366, 3) := by decide +kernel
theorem dX6_dayOf_27 : decode cX6_dayOf 27 = .ok (.if_icmp .le 7, 3) := by decide +kernel
theorem dX6_dayOf_30 : decode cX6_dayOf 30 = .ok (.iconst 1, 1) := by decide +kernel
theorem dX6_dayOf_31 : decode cX6_dayOf 31 = .ok (.goto 4, 3) := by decide +kernel
theorem dX6_dayOf_34 : decode cX6_dayOf 34 = .ok (.iconst 0, 1) := by decide +kernel
theorem dX6_dayOf_35 : decode cX6_dayOf 35 = .ok (.invokestatic 45, 3) := by decide +kernel
theorem dX6_dayOf_38 : decode cX6_dayOf 38 = .ok (.istore_n 3, 1) := by decide +kernel
theorem dX6_dayOf_39 : decode cX6_dayOf 39 = .ok (.iload_n 3, 1) := by decide +kernel
theorem dX6_dayOf_40 : decode cX6_dayOf 40 = .ok (.ifCond .eq 9, 3) := by decide +kernel
theorem dX6_dayOf_43 : decode cX6_dayOf 43 = .ok (.aload_n 0, 1) := by decide +kernel
theorem dX6_dayOf_44 : decode cX6_dayOf 44 = .ok (.iload_n 3, 1) := by decide +kernel
theorem dX6_dayOf_45 : decode cX6_dayOf 45 = .ok (.invokevirtual 49, 3) := by decide +kernel
theorem dX6_dayOf_48 : decode cX6_dayOf 48 = .ok (.ireturn, 1) := by decide +kernel
theorem dX6_dayOf_49 : decode cX6_dayOf 49 = .ok (.aload_n 0, 1) := by decide +kernel
theorem dX6_dayOf_50 : decode cX6_dayOf 50 = .ok (.getfield 19, 3) := by decide +kernel
theorem dX6_dayOf_53 : decode cX6_dayOf 53 = .ok (.iload_n 1, 1) := by decide +kernel
theorem dX6_dayOf_54 : decode cX6_dayOf 54 = .ok (.invokevirtual 93, 3) := by decide +kernel
theorem dX6_dayOf_57 : decode cX6_dayOf 57 = .ok (.iload_n 2, 1) := by decide +kernel
theorem dX6_dayOf_58 : decode cX6_dayOf 58 = .ok (.invokevirtual 110, 3) := by decide +kernel
theorem dX6_dayOf_61 : decode cX6_dayOf 61 = .ok (.ireturn, 1) := by decide +kernel
set_option maxRecDepth 20000 in
theorem dX6_mean_0 : decode cX6_mean 0 = .ok (.iload_n 1, 1) := by decide +kernel
theorem dX6_mean_1 : decode cX6_mean 1 = .ok (.invokestatic 90, 3) := by decide +kernel
theorem dX6_mean_4 : decode cX6_mean 4 = .ok (.ifCond .eq 10, 3) := by decide +kernel
theorem dX6_mean_7 : decode cX6_mean 7 = .ok (.iload_n 2, 1) := by decide +kernel
theorem dX6_mean_8 : decode cX6_mean 8 = .ok (.invokestatic 113, 3) := by decide +kernel
theorem dX6_mean_11 : decode cX6_mean 11 = .ok (.ifCond .ne 7, 3) := by decide +kernel
theorem dX6_mean_14 : decode cX6_mean 14 = .ok (.iconst 1, 1) := by decide +kernel
theorem dX6_mean_15 : decode cX6_mean 15 = .ok (.goto 4, 3) := by decide +kernel
theorem dX6_mean_18 : decode cX6_mean 18 = .ok (.iconst 0, 1) := by decide +kernel
theorem dX6_mean_19 : decode cX6_mean 19 = .ok (.iload_n 3, 1) := by decide +kernel
theorem dX6_mean_20 : decode cX6_mean 20 = .ok (.invokestatic 116, 3) := by decide +kernel
theorem dX6_mean_23 : decode cX6_mean 23 = .ok (.ifCond .ne 7, 3) := by decide +kernel
theorem dX6_mean_26 : decode cX6_mean 26 = .ok (.iconst 1, 1) := by decide +kernel
theorem dX6_mean_27 : decode cX6_mean 27 = .ok (.goto 4, 3) := by decide +kernel
theorem dX6_mean_30 : decode cX6_mean 30 = .ok (.iconst 0, 1) := by decide +kernel
theorem dX6_mean_31 : decode cX6_mean 31 = .ok (.iconst 0, 1) := by decide +kernel
theorem dX6_mean_32 : decode cX6_mean 32 = .ok (.iconst 0, 1) := by decide +kernel
theorem dX6_mean_33 : decode cX6_mean 33 = .ok (.invokestatic 45, 3) := by decide +kernel
theorem dX6_mean_36 : decode cX6_mean 36 = .ok (.istore 4, 2) := by decide +kernel
theorem dX6_mean_38 : decode cX6_mean 38 = .ok (.iload 4, 2) := by decide +kernel
theorem dX6_mean_40 : decode cX6_mean 40 = .ok (.ifCond .eq 10, 3) := by decide +kernel
theorem dX6_mean_43 : decode cX6_mean 43 = .ok (.aload_n 0, 1) := by decide +kernel
theorem dX6_mean_44 : decode cX6_mean 44 = .ok (.iload 4, 2) := by decide +kernel
theorem dX6_mean_46 : decode cX6_mean 46 = .ok (.invokevirtual 119, 3) := by decide +kernel
theorem dX6_mean_49 : decode cX6_mean 49 = .ok (.lreturn, 1) := by decide +kernel
theorem dX6_mean_50 : decode cX6_mean 50 = .ok (.aload_n 0, 1) := by decide +kernel
theorem dX6_mean_51 : decode cX6_mean 51 = .ok (.getfield 37, 3) := by decide +kernel
theorem dX6_mean_54 : decode cX6_mean 54 = .ok (.aload_n 0, 1) := by decide +kernel
theorem dX6_mean_55 : decode cX6_mean 55 = .ok (.getfield 19, 3) := by decide +kernel
theorem dX6_mean_58 : decode cX6_mean 58 = .ok (.iload_n 1, 1) := by decide +kernel
theorem dX6_mean_59 : decode cX6_mean 59 = .ok (.invokevirtual 93, 3) := by decide +kernel
theorem dX6_mean_62 : decode cX6_mean 62 = .ok (.iload_n 2, 1) := by decide +kernel
theorem dX6_mean_63 : decode cX6_mean 63 = .ok (.invokevirtual 123, 3) := by decide +kernel
theorem dX6_mean_66 : decode cX6_mean 66 = .ok (.i2l, 1) := by decide +kernel
theorem dX6_mean_67 : decode cX6_mean 67 = .ok (.iload_n 2, 1) := by decide +kernel
theorem dX6_mean_68 : decode cX6_mean 68 = .ok (.invokestatic 126, 3) := by decide +kernel
theorem dX6_mean_71 : decode cX6_mean 71 = .ok (.i2l, 1) := by decide +kernel
theorem dX6_mean_72 : decode cX6_mean 72 = .ok (.invokevirtual 129, 3) := by decide +kernel
theorem dX6_mean_75 : decode cX6_mean 75 = .ok (.aload_n 0, 1) := by decide +kernel
theorem dX6_mean_76 : decode cX6_mean 76 = .ok (.getfield 37, 3) := by decide +kernel
theorem dX6_mean_79 : decode cX6_mean 79 = .ok (.iload_n 3, 1) := by decide +kernel
theorem dX6_mean_80 : decode cX6_mean 80 = .ok (.invokevirtual 133, 3) := by decide +kernel
theorem dX6_mean_83 : decode cX6_mean 83 = .ok (.lreturn, 1) := by decide +kernel
set_option maxRecDepth 20000 in
theorem dX6_lean_0 : decode cX6_lean 0 = .ok (.iload_n 1, 1) := by decide +kernel
theorem dX6_lean_1 : decode cX6_lean 1 = .ok (.invokestatic 90, 3) := by decide +kernel
theorem dX6_lean_4 : decode cX6_lean 4 = .ok (.ifCond .ne 9, 3) := by decide +kernel
theorem dX6_lean_7 : decode cX6_lean 7 = .ok (.aload_n 0, 1) := by decide +kernel
theorem dX6_lean_8 : decode cX6_lean 8 = .ok (.iconst (-1), 1) := by decide +kernel
theorem dX6_lean_9 : decode cX6_lean 9 = .ok (.invokevirtual 119, 3) := by decide +kernel
theorem dX6_lean_12 : decode cX6_lean 12 = .ok (.lreturn, 1) := by decide +kernel
theorem dX6_lean_13 : decode cX6_lean 13 = .ok (.aload_n 0, 1) := by decide +kernel
theorem dX6_lean_14 : decode cX6_lean 14 = .ok (.getfield 19, 3) := by decide +kernel
theorem dX6_lean_17 : decode cX6_lean 17 = .ok (.iload_n 1, 1) := by decide +kernel
theorem dX6_lean_18 : decode cX6_lean 18 = .ok (.invokevirtual 93, 3) := by decide +kernel
theorem dX6_lean_21 : decode cX6_lean 21 = .ok (.invokevirtual 136, 3) := by decide +kernel
theorem dX6_lean_24 : decode cX6_lean 24 = .ok (.lreturn, 1) := by decide +kernel
set_option maxRecDepth 20000 in
theorem dX6_worst_0 : decode cX6_worst 0 = .ok (.iload_n 1, 1) := by decide +kernel
theorem dX6_worst_1 : decode cX6_worst 1 = .ok (.invokestatic 90, 3) := by decide +kernel
theorem dX6_worst_4 : decode cX6_worst 4 = .ok (.ifCond .ne 9, 3) := by decide +kernel
theorem dX6_worst_7 : decode cX6_worst 7 = .ok (.aload_n 0, 1) := by decide +kernel
theorem dX6_worst_8 : decode cX6_worst 8 = .ok (.iconst (-1), 1) := by decide +kernel
theorem dX6_worst_9 : decode cX6_worst 9 = .ok (.invokevirtual 49, 3) := by decide +kernel
theorem dX6_worst_12 : decode cX6_worst 12 = .ok (.ireturn, 1) := by decide +kernel
theorem dX6_worst_13 : decode cX6_worst 13 = .ok (.aload_n 0, 1) := by decide +kernel
theorem dX6_worst_14 : decode cX6_worst 14 = .ok (.getfield 19, 3) := by decide +kernel
theorem dX6_worst_17 : decode cX6_worst 17 = .ok (.iload_n 1, 1) := by decide +kernel
theorem dX6_worst_18 : decode cX6_worst 18 = .ok (.invokevirtual 93, 3) := by decide +kernel
theorem dX6_worst_21 : decode cX6_worst 21 = .ok (.invokevirtual 140, 3) := by decide +kernel
theorem dX6_worst_24 : decode cX6_worst 24 = .ok (.ireturn, 1) := by decide +kernel
set_option maxRecDepth 20000 in
theorem dX6_turned_0 : decode cX6_turned 0 = .ok (.iload_n 1, 1) := by decide +kernel
theorem dX6_turned_1 : decode cX6_turned 1 = .ok (.invokestatic 90, 3) := by decide +kernel
theorem dX6_turned_4 : decode cX6_turned 4 = .ok (.ifCond .ne 9, 3) := by decide +kernel
theorem dX6_turned_7 : decode cX6_turned 7 = .ok (.aload_n 0, 1) := by decide +kernel
theorem dX6_turned_8 : decode cX6_turned 8 = .ok (.iconst (-1), 1) := by decide +kernel
theorem dX6_turned_9 : decode cX6_turned 9 = .ok (.invokevirtual 49, 3) := by decide +kernel
theorem dX6_turned_12 : decode cX6_turned 12 = .ok (.ireturn, 1) := by decide +kernel
theorem dX6_turned_13 : decode cX6_turned 13 = .ok (.aload_n 0, 1) := by decide +kernel
theorem dX6_turned_14 : decode cX6_turned 14 = .ok (.getfield 19, 3) := by decide +kernel
theorem dX6_turned_17 : decode cX6_turned 17 = .ok (.iload_n 1, 1) := by decide +kernel
theorem dX6_turned_18 : decode cX6_turned 18 = .ok (.invokevirtual 93, 3) := by decide +kernel
theorem dX6_turned_21 : decode cX6_turned 21 = .ok (.invokevirtual 143, 3) := by decide +kernel
theorem dX6_turned_24 : decode cX6_turned 24 = .ok (.ireturn, 1) := by decide +kernel
set_option maxRecDepth 20000 in
theorem dX6_manOf_0 : decode cX6_manOf 0 = .ok (.aload_n 0, 1) := by decide +kernel
theorem dX6_manOf_1 : decode cX6_manOf 1 = .ok (.iload_n 1, 1) := by decide +kernel
theorem dX6_manOf_2 : decode cX6_manOf 2 = .ok (.invokevirtual 146, 3) := by decide +kernel
theorem dX6_manOf_5 : decode cX6_manOf 5 = .ok (.ifCond .ne 7, 3) := by decide +kernel
theorem dX6_manOf_8 : decode cX6_manOf 8 = .ok (.iconst 1, 1) := by decide +kernel
theorem dX6_manOf_9 : decode cX6_manOf 9 = .ok (.goto 4, 3) := by decide +kernel
theorem dX6_manOf_12 : decode cX6_manOf 12 = .ok (.iconst 0, 1) := by decide +kernel
theorem dX6_manOf_13 : decode cX6_manOf 13 = .ok (.iload_n 2, 1) := by decide +kernel
theorem dX6_manOf_14 : decode cX6_manOf 14 = .ok (.ifCond .lt 8, 3) := by decide +kernel
theorem dX6_manOf_17 : decode cX6_manOf 17 = .ok (.iload_n 2, 1) := by decide +kernel
theorem dX6_manOf_18 : decode cX6_manOf 18 = .ok (.iconst 2, 1) := by decide +kernel
theorem dX6_manOf_19 : decode cX6_manOf 19 = .ok (.if_icmp .le 7, 3) := by decide +kernel
theorem dX6_manOf_22 : decode cX6_manOf 22 = .ok (.iconst 1, 1) := by decide +kernel
theorem dX6_manOf_23 : decode cX6_manOf 23 = .ok (.goto 4, 3) := by decide +kernel
theorem dX6_manOf_26 : decode cX6_manOf 26 = .ok (.iconst 0, 1) := by decide +kernel
theorem dX6_manOf_27 : decode cX6_manOf 27 = .ok (.iconst 0, 1) := by decide +kernel
theorem dX6_manOf_28 : decode cX6_manOf 28 = .ok (.iconst 0, 1) := by decide +kernel
theorem dX6_manOf_29 : decode cX6_manOf 29 = .ok (.invokestatic 45, 3) := by decide +kernel
theorem dX6_manOf_32 : decode cX6_manOf 32 = .ok (.istore_n 3, 1) := by decide +kernel
theorem dX6_manOf_33 : decode cX6_manOf 33 = .ok (.iload_n 3, 1) := by decide +kernel
theorem dX6_manOf_34 : decode cX6_manOf 34 = .ok (.ifCond .eq 9, 3) := by decide +kernel
theorem dX6_manOf_37 : decode cX6_manOf 37 = .ok (.aload_n 0, 1) := by decide +kernel
theorem dX6_manOf_38 : decode cX6_manOf 38 = .ok (.iload_n 3, 1) := by decide +kernel
theorem dX6_manOf_39 : decode cX6_manOf 39 = .ok (.invokevirtual 49, 3) := by decide +kernel
theorem dX6_manOf_42 : decode cX6_manOf 42 = .ok (.ireturn, 1) := by decide +kernel
theorem dX6_manOf_43 : decode cX6_manOf 43 = .ok (.iload_n 2, 1) := by decide +kernel
theorem dX6_manOf_44 : decode cX6_manOf 44 = .ok (.ifCond .ne 15, 3) := by decide +kernel
theorem dX6_manOf_47 : decode cX6_manOf 47 = .ok (.aload_n 0, 1) := by decide +kernel
theorem dX6_manOf_48 : decode cX6_manOf 48 = .ok (.getfield 19, 3) := by decide +kernel
theorem dX6_manOf_51 : decode cX6_manOf 51 = .ok (.getfield 61, 3) := by decide +kernel
theorem dX6_manOf_54 : decode cX6_manOf 54 = .ok (.iload_n 1, 1) := by decide +kernel
theorem dX6_manOf_55 : decode cX6_manOf 55 = .ok (.invokevirtual 149, 3) := by decide +kernel
theorem dX6_manOf_58 : decode cX6_manOf 58 = .ok (.ireturn, 1) := by decide +kernel
theorem dX6_manOf_59 : decode cX6_manOf 59 = .ok (.iload_n 2, 1) := by decide +kernel
theorem dX6_manOf_60 : decode cX6_manOf 60 = .ok (.iconst 1, 1) := by decide +kernel
theorem dX6_manOf_61 : decode cX6_manOf 61 = .ok (.if_icmp .ne 17, 3) := by decide +kernel
theorem dX6_manOf_64 : decode cX6_manOf 64 = .ok (.aload_n 0, 1) := by decide +kernel
theorem dX6_manOf_65 : decode cX6_manOf 65 = .ok (.getfield 19, 3) := by decide +kernel
theorem dX6_manOf_68 : decode cX6_manOf 68 = .ok (.getfield 61, 3) := by decide +kernel
theorem dX6_manOf_71 : decode cX6_manOf 71 = .ok (.iload_n 1, 1) := by decide +kernel
theorem dX6_manOf_72 : decode cX6_manOf 72 = .ok (.invokevirtual 152, 3) := by decide +kernel
theorem dX6_manOf_75 : decode cX6_manOf 75 = .ok (.goto 14, 3) := by decide +kernel
theorem dX6_manOf_78 : decode cX6_manOf 78 = .ok (.aload_n 0, 1) := by decide +kernel
theorem dX6_manOf_79 : decode cX6_manOf 79 = .ok (.getfield 19, 3) := by decide +kernel
theorem dX6_manOf_82 : decode cX6_manOf 82 = .ok (.getfield 61, 3) := by decide +kernel
theorem dX6_manOf_85 : decode cX6_manOf 85 = .ok (.iload_n 1, 1) := by decide +kernel
theorem dX6_manOf_86 : decode cX6_manOf 86 = .ok (.invokevirtual 155, 3) := by decide +kernel
theorem dX6_manOf_89 : decode cX6_manOf 89 = .ok (.ireturn, 1) := by decide +kernel
set_option maxRecDepth 20000 in
theorem dX6_cut_0 : decode cX6_cut 0 = .ok (.iconst 0, 1) := by decide +kernel
theorem dX6_cut_1 : decode cX6_cut 1 = .ok (.iconst 0, 1) := by decide +kernel
theorem dX6_cut_2 : decode cX6_cut 2 = .ok (.iload_n 1, 1) := by decide +kernel
theorem dX6_cut_3 : decode cX6_cut 3 = .ok (.ifCond .ge 7, 3) := by decide +kernel
theorem dX6_cut_6 : decode cX6_cut 6 = .ok (.iconst 1, 1) := by decide +kernel
theorem dX6_cut_7 : decode cX6_cut 7 = .ok (.goto 4, 3) := by decide +kernel
theorem dX6_cut_10 : decode cX6_cut 10 = .ok (.iconst 0, 1) := by decide +kernel
theorem dX6_cut_11 : decode cX6_cut 11 = .ok (.iload_n 1, 1) := by decide +kernel
theorem dX6_cut_12 : decode cX6_cut 12 = .ok (.sipush 366, 3) := by decide +kernel
theorem dX6_cut_15 : decode cX6_cut 15 = .ok (.if_icmp .le 7, 3) := by decide +kernel
theorem dX6_cut_18 : decode cX6_cut 18 = .ok (.iconst 1, 1) := by decide +kernel
theorem dX6_cut_19 : decode cX6_cut 19 = .ok (.goto 4, 3) := by decide +kernel
theorem dX6_cut_22 : decode cX6_cut 22 = .ok (.iconst 0, 1) := by decide +kernel
theorem dX6_cut_23 : decode cX6_cut 23 = .ok (.invokestatic 45, 3) := by decide +kernel
theorem dX6_cut_26 : decode cX6_cut 26 = .ok (.istore_n 2, 1) := by decide +kernel
theorem dX6_cut_27 : decode cX6_cut 27 = .ok (.iload_n 2, 1) := by decide +kernel
theorem dX6_cut_28 : decode cX6_cut 28 = .ok (.ifCond .eq 9, 3) := by decide +kernel
theorem dX6_cut_31 : decode cX6_cut 31 = .ok (.aload_n 0, 1) := by decide +kernel
theorem dX6_cut_32 : decode cX6_cut 32 = .ok (.iload_n 2, 1) := by decide +kernel
theorem dX6_cut_33 : decode cX6_cut 33 = .ok (.invokevirtual 49, 3) := by decide +kernel
theorem dX6_cut_36 : decode cX6_cut 36 = .ok (.ireturn, 1) := by decide +kernel
theorem dX6_cut_37 : decode cX6_cut 37 = .ok (.aload_n 0, 1) := by decide +kernel
theorem dX6_cut_38 : decode cX6_cut 38 = .ok (.getfield 19, 3) := by decide +kernel
theorem dX6_cut_41 : decode cX6_cut 41 = .ok (.getfield 158, 3) := by decide +kernel
theorem dX6_cut_44 : decode cX6_cut 44 = .ok (.istore_n 3, 1) := by decide +kernel
theorem dX6_cut_45 : decode cX6_cut 45 = .ok (.aload_n 0, 1) := by decide +kernel
theorem dX6_cut_46 : decode cX6_cut 46 = .ok (.getfield 19, 3) := by decide +kernel
theorem dX6_cut_49 : decode cX6_cut 49 = .ok (.iload_n 1, 1) := by decide +kernel
theorem dX6_cut_50 : decode cX6_cut 50 = .ok (.putfield 158, 3) := by decide +kernel
theorem dX6_cut_53 : decode cX6_cut 53 = .ok (.iload_n 3, 1) := by decide +kernel
theorem dX6_cut_54 : decode cX6_cut 54 = .ok (.ireturn, 1) := by decide +kernel
set_option maxRecDepth 20000 in
theorem dX6_law_0 : decode cX6_law 0 = .ok (.iload_n 1, 1) := by decide +kernel
theorem dX6_law_1 : decode cX6_law 1 = .ok (.ifCond .lt 15, 3) := by decide +kernel
theorem dX6_law_4 : decode cX6_law 4 = .ok (.iload_n 1, 1) := by decide +kernel
theorem dX6_law_5 : decode cX6_law 5 = .ok (.getstatic 161, 3) := by decide +kernel
theorem dX6_law_8 : decode cX6_law 8 = .ok (.arraylength, 1) := by decide +kernel
theorem dX6_law_9 : decode cX6_law 9 = .ok (.if_icmp .ge 7, 3) := by decide +kernel
theorem dX6_law_12 : decode cX6_law 12 = .ok (.iconst 1, 1) := by decide +kernel
theorem dX6_law_13 : decode cX6_law 13 = .ok (.goto 4, 3) := by decide +kernel
theorem dX6_law_16 : decode cX6_law 16 = .ok (.iconst 0, 1) := by decide +kernel
theorem dX6_law_17 : decode cX6_law 17 = .ok (.istore_n 3, 1) := by decide +kernel
theorem dX6_law_18 : decode cX6_law 18 = .ok (.iload_n 3, 1) := by decide +kernel
theorem dX6_law_19 : decode cX6_law 19 = .ok (.ifCond .ne 7, 3) := by decide +kernel
theorem dX6_law_22 : decode cX6_law 22 = .ok (.iconst 1, 1) := by decide +kernel
theorem dX6_law_23 : decode cX6_law 23 = .ok (.goto 4, 3) := by decide +kernel
theorem dX6_law_26 : decode cX6_law 26 = .ok (.iconst 0, 1) := by decide +kernel
theorem dX6_law_27 : decode cX6_law 27 = .ok (.iconst 0, 1) := by decide +kernel
theorem dX6_law_28 : decode cX6_law 28 = .ok (.iload_n 2, 1) := by decide +kernel
theorem dX6_law_29 : decode cX6_law 29 = .ok (.ifCond .ge 7, 3) := by decide +kernel
theorem dX6_law_32 : decode cX6_law 32 = .ok (.iconst 1, 1) := by decide +kernel
theorem dX6_law_33 : decode cX6_law 33 = .ok (.goto 4, 3) := by decide +kernel
theorem dX6_law_36 : decode cX6_law 36 = .ok (.iconst 0, 1) := by decide +kernel
theorem dX6_law_37 : decode cX6_law 37 = .ok (.iload_n 2, 1) := by decide +kernel
theorem dX6_law_38 : decode cX6_law 38 = .ok (.getstatic 161, 3) := by decide +kernel
theorem dX6_law_41 : decode cX6_law 41 = .ok (.iload_n 1, 1) := by decide +kernel
theorem dX6_law_42 : decode cX6_law 42 = .ok (.invokestatic 164, 3) := by decide +kernel
theorem dX6_law_45 : decode cX6_law 45 = .ok (.if_icmp .le 7, 3) := by decide +kernel
theorem dX6_law_48 : decode cX6_law 48 = .ok (.iconst 1, 1) := by decide +kernel
theorem dX6_law_49 : decode cX6_law 49 = .ok (.goto 4, 3) := by decide +kernel
theorem dX6_law_52 : decode cX6_law 52 = .ok (.iconst 0, 1) := by decide +kernel
theorem dX6_law_53 : decode cX6_law 53 = .ok (.invokestatic 45, 3) := by decide +kernel
theorem dX6_law_56 : decode cX6_law 56 = .ok (.istore 4, 2) := by decide +kernel
theorem dX6_law_58 : decode cX6_law 58 = .ok (.iload 4, 2) := by decide +kernel
theorem dX6_law_60 : decode cX6_law 60 = .ok (.ifCond .eq 10, 3) := by decide +kernel
theorem dX6_law_63 : decode cX6_law 63 = .ok (.aload_n 0, 1) := by decide +kernel
theorem dX6_law_64 : decode cX6_law 64 = .ok (.iload 4, 2) := by decide +kernel
theorem dX6_law_66 : decode cX6_law 66 = .ok (.invokevirtual 49, 3) := by decide +kernel
theorem dX6_law_69 : decode cX6_law 69 = .ok (.ireturn, 1) := by decide +kernel
theorem dX6_law_70 : decode cX6_law 70 = .ok (.aload_n 0, 1) := by decide +kernel
theorem dX6_law_71 : decode cX6_law 71 = .ok (.getfield 19, 3) := by decide +kernel
theorem dX6_law_74 : decode cX6_law 74 = .ok (.getfield 168, 3) := by decide +kernel
theorem dX6_law_77 : decode cX6_law 77 = .ok (.iload_n 1, 1) := by decide +kernel
theorem dX6_law_78 : decode cX6_law 78 = .ok (.invokestatic 164, 3) := by decide +kernel
theorem dX6_law_81 : decode cX6_law 81 = .ok (.istore 5, 2) := by decide +kernel
theorem dX6_law_83 : decode cX6_law 83 = .ok (.aload_n 0, 1) := by decide +kernel
theorem dX6_law_84 : decode cX6_law 84 = .ok (.getfield 19, 3) := by decide +kernel
theorem dX6_law_87 : decode cX6_law 87 = .ok (.getfield 168, 3) := by decide +kernel
theorem dX6_law_90 : decode cX6_law 90 = .ok (.iload_n 1, 1) := by decide +kernel
theorem dX6_law_91 : decode cX6_law 91 = .ok (.iload_n 2, 1) := by decide +kernel
theorem dX6_law_92 : decode cX6_law 92 = .ok (.invokestatic 171, 3) := by decide +kernel
theorem dX6_law_95 : decode cX6_law 95 = .ok (.iload 5, 2) := by decide +kernel
theorem dX6_law_97 : decode cX6_law 97 = .ok (.ireturn, 1) := by decide +kernel
set_option maxRecDepth 20000 in
theorem dX6_called_0 : decode cX6_called 0 = .ok (.iload_n 1, 1) := by decide +kernel
theorem dX6_called_1 : decode cX6_called 1 = .ok (.invokestatic 90, 3) := by decide +kernel
theorem dX6_called_4 : decode cX6_called 4 = .ok (.ifCond .eq 11, 3) := by decide +kernel
theorem dX6_called_7 : decode cX6_called 7 = .ok (.aload_n 0, 1) := by decide +kernel
theorem dX6_called_8 : decode cX6_called 8 = .ok (.iload_n 2, 1) := by decide +kernel
theorem dX6_called_9 : decode cX6_called 9 = .ok (.invokevirtual 146, 3) := by decide +kernel
theorem dX6_called_12 : decode cX6_called 12 = .ok (.ifCond .ne 9, 3) := by decide +kernel
theorem dX6_called_15 : decode cX6_called 15 = .ok (.aload_n 0, 1) := by decide +kernel
theorem dX6_called_16 : decode cX6_called 16 = .ok (.iconst (-1), 1) := by decide +kernel
theorem dX6_called_17 : decode cX6_called 17 = .ok (.invokevirtual 49, 3) := by decide +kernel
theorem dX6_called_20 : decode cX6_called 20 = .ok (.ireturn, 1) := by decide +kernel
theorem dX6_called_21 : decode cX6_called 21 = .ok (.aload_n 0, 1) := by decide +kernel
theorem dX6_called_22 : decode cX6_called 22 = .ok (.getfield 19, 3) := by decide +kernel
theorem dX6_called_25 : decode cX6_called 25 = .ok (.aload_n 0, 1) := by decide +kernel
theorem dX6_called_26 : decode cX6_called 26 = .ok (.getfield 19, 3) := by decide +kernel
theorem dX6_called_29 : decode cX6_called 29 = .ok (.iload_n 1, 1) := by decide +kernel
theorem dX6_called_30 : decode cX6_called 30 = .ok (.invokevirtual 93, 3) := by decide +kernel
theorem dX6_called_33 : decode cX6_called 33 = .ok (.iload_n 2, 1) := by decide +kernel
theorem dX6_called_34 : decode cX6_called 34 = .ok (.invokevirtual 175, 3) := by decide +kernel
theorem dX6_called_37 : decode cX6_called 37 = .ok (.ifCond .eq 7, 3) := by decide +kernel
theorem dX6_called_40 : decode cX6_called 40 = .ok (.iconst 1, 1) := by decide +kernel
theorem dX6_called_41 : decode cX6_called 41 = .ok (.goto 4, 3) := by decide +kernel
theorem dX6_called_44 : decode cX6_called 44 = .ok (.iconst 0, 1) := by decide +kernel
theorem dX6_called_45 : decode cX6_called 45 = .ok (.ireturn, 1) := by decide +kernel
set_option maxRecDepth 20000 in
theorem dX6_served_0 : decode cX6_served 0 = .ok (.iload_n 1, 1) := by decide +kernel
theorem dX6_served_1 : decode cX6_served 1 = .ok (.invokestatic 90, 3) := by decide +kernel
theorem dX6_served_4 : decode cX6_served 4 = .ok (.ifCond .eq 11, 3) := by decide +kernel
theorem dX6_served_7 : decode cX6_served 7 = .ok (.aload_n 0, 1) := by decide +kernel
theorem dX6_served_8 : decode cX6_served 8 = .ok (.iload_n 2, 1) := by decide +kernel
theorem dX6_served_9 : decode cX6_served 9 = .ok (.invokevirtual 146, 3) := by decide +kernel
theorem dX6_served_12 : decode cX6_served 12 = .ok (.ifCond .ne 9, 3) := by decide +kernel
theorem dX6_served_15 : decode cX6_served 15 = .ok (.aload_n 0, 1) := by decide +kernel
theorem dX6_served_16 : decode cX6_served 16 = .ok (.iconst (-1), 1) := by decide +kernel
theorem dX6_served_17 : decode cX6_served 17 = .ok (.invokevirtual 49, 3) := by decide +kernel
theorem dX6_served_20 : decode cX6_served 20 = .ok (.ireturn, 1) := by decide +kernel
theorem dX6_served_21 : decode cX6_served 21 = .ok (.aload_n 0, 1) := by decide +kernel
theorem dX6_served_22 : decode cX6_served 22 = .ok (.getfield 19, 3) := by decide +kernel
theorem dX6_served_25 : decode cX6_served 25 = .ok (.aload_n 0, 1) := by decide +kernel
theorem dX6_served_26 : decode cX6_served 26 = .ok (.getfield 19, 3) := by decide +kernel
theorem dX6_served_29 : decode cX6_served 29 = .ok (.iload_n 1, 1) := by decide +kernel
theorem dX6_served_30 : decode cX6_served 30 = .ok (.invokevirtual 93, 3) := by decide +kernel
theorem dX6_served_33 : decode cX6_served 33 = .ok (.iload_n 2, 1) := by decide +kernel
theorem dX6_served_34 : decode cX6_served 34 = .ok (.invokevirtual 179, 3) := by decide +kernel
theorem dX6_served_37 : decode cX6_served 37 = .ok (.ireturn, 1) := by decide +kernel
set_option maxRecDepth 20000 in
theorem dX6_wage_0 : decode cX6_wage 0 = .ok (.iload_n 1, 1) := by decide +kernel
theorem dX6_wage_1 : decode cX6_wage 1 = .ok (.invokestatic 90, 3) := by decide +kernel
theorem dX6_wage_4 : decode cX6_wage 4 = .ok (.ifCond .eq 11, 3) := by decide +kernel
theorem dX6_wage_7 : decode cX6_wage 7 = .ok (.aload_n 0, 1) := by decide +kernel
theorem dX6_wage_8 : decode cX6_wage 8 = .ok (.iload_n 2, 1) := by decide +kernel
theorem dX6_wage_9 : decode cX6_wage 9 = .ok (.invokevirtual 146, 3) := by decide +kernel
theorem dX6_wage_12 : decode cX6_wage 12 = .ok (.ifCond .ne 7, 3) := by decide +kernel
theorem dX6_wage_15 : decode cX6_wage 15 = .ok (.iconst 1, 1) := by decide +kernel
theorem dX6_wage_16 : decode cX6_wage 16 = .ok (.goto 4, 3) := by decide +kernel
