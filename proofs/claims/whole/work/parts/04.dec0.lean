theorem dX0_init_0 : decode cX0_init 0 = .ok (.aload_n 0, 1) := by decide +kernel
theorem dX0_init_1 : decode cX0_init 1 = .ok (.invokespecial 3, 3) := by decide +kernel
theorem dX0_init_4 : decode cX0_init 4 = .ok (.aload_n 0, 1) := by decide +kernel
theorem dX0_init_5 : decode cX0_init 5 = .ok (.iconst 1, 1) := by decide +kernel
theorem dX0_init_6 : decode cX0_init 6 = .ok (.putfield 9, 3) := by decide +kernel
theorem dX0_init_9 : decode cX0_init 9 = .ok (.aload_n 0, 1) := by decide +kernel
theorem dX0_init_10 : decode cX0_init 10 = .ok (.bipush 100, 2) := by decide +kernel
theorem dX0_init_12 : decode cX0_init 12 = .ok (.putfield 15, 3) := by decide +kernel
theorem dX0_init_15 : decode cX0_init 15 = .ok (.aload_n 0, 1) := by decide +kernel
theorem dX0_init_16 : decode cX0_init 16 = .ok (.bipush 20, 2) := by decide +kernel
theorem dX0_init_18 : decode cX0_init 18 = .ok (.putfield 18, 3) := by decide +kernel
theorem dX0_init_21 : decode cX0_init 21 = .ok (.aload_n 0, 1) := by decide +kernel
theorem dX0_init_22 : decode cX0_init 22 = .ok (.iconst 1, 1) := by decide +kernel
theorem dX0_init_23 : decode cX0_init 23 = .ok (.putfield 21, 3) := by decide +kernel
theorem dX0_init_26 : decode cX0_init 26 = .ok (.aload_n 0, 1) := by decide +kernel
theorem dX0_init_27 : decode cX0_init 27 = .ok (.iconst 1, 1) := by decide +kernel
theorem dX0_init_28 : decode cX0_init 28 = .ok (.putfield 24, 3) := by decide +kernel
theorem dX0_init_31 : decode cX0_init 31 = .ok (.aload_n 0, 1) := by decide +kernel
theorem dX0_init_32 : decode cX0_init 32 = .ok (.sipush 366, 3) := by decide +kernel
theorem dX0_init_35 : decode cX0_init 35 = .ok (.newarray .int, 2) := by decide +kernel
theorem dX0_init_37 : decode cX0_init 37 = .ok (.putfield 28, 3) := by decide +kernel
theorem dX0_init_40 : decode cX0_init 40 = .ok (.aload_n 0, 1) := by decide +kernel
theorem dX0_init_41 : decode cX0_init 41 = .ok (.sipush 367, 3) := by decide +kernel
theorem dX0_init_44 : decode cX0_init 44 = .ok (.newarray .int, 2) := by decide +kernel
theorem dX0_init_46 : decode cX0_init 46 = .ok (.putfield 32, 3) := by decide +kernel
theorem dX0_init_49 : decode cX0_init 49 = .ok (.aload_n 0, 1) := by decide +kernel
theorem dX0_init_50 : decode cX0_init 50 = .ok (.sipush 366, 3) := by decide +kernel
theorem dX0_init_53 : decode cX0_init 53 = .ok (.newarray .int, 2) := by decide +kernel
theorem dX0_init_55 : decode cX0_init 55 = .ok (.putfield 35, 3) := by decide +kernel
theorem dX0_init_58 : decode cX0_init 58 = .ok (.aload_n 0, 1) := by decide +kernel
theorem dX0_init_59 : decode cX0_init 59 = .ok (.bipush 6, 2) := by decide +kernel
theorem dX0_init_61 : decode cX0_init 61 = .ok (.newarray .long, 2) := by decide +kernel
theorem dX0_init_63 : decode cX0_init 63 = .ok (.putfield 38, 3) := by decide +kernel
theorem dX0_init_66 : decode cX0_init 66 = .ok (.aload_n 0, 1) := by decide +kernel
theorem dX0_init_67 : decode cX0_init 67 = .ok (.iconst 0, 1) := by decide +kernel
theorem dX0_init_68 : decode cX0_init 68 = .ok (.putfield 42, 3) := by decide +kernel
theorem dX0_init_71 : decode cX0_init 71 = .ok (.aload_n 0, 1) := by decide +kernel
theorem dX0_init_72 : decode cX0_init 72 = .ok (.invokevirtual 45, 3) := by decide +kernel
theorem dX0_init_75 : decode cX0_init 75 = .ok (.return_, 1) := by decide +kernel
set_option maxRecDepth 20000 in
theorem dX0_prepare_0 : decode cX0_prepare 0 = .ok (.aload_n 0, 1) := by decide +kernel
theorem dX0_prepare_1 : decode cX0_prepare 1 = .ok (.iload_n 1, 1) := by decide +kernel
theorem dX0_prepare_2 : decode cX0_prepare 2 = .ok (.putfield 9, 3) := by decide +kernel
theorem dX0_prepare_5 : decode cX0_prepare 5 = .ok (.aload_n 0, 1) := by decide +kernel
theorem dX0_prepare_6 : decode cX0_prepare 6 = .ok (.iload_n 2, 1) := by decide +kernel
theorem dX0_prepare_7 : decode cX0_prepare 7 = .ok (.putfield 15, 3) := by decide +kernel
theorem dX0_prepare_10 : decode cX0_prepare 10 = .ok (.aload_n 0, 1) := by decide +kernel
theorem dX0_prepare_11 : decode cX0_prepare 11 = .ok (.iload_n 3, 1) := by decide +kernel
theorem dX0_prepare_12 : decode cX0_prepare 12 = .ok (.putfield 18, 3) := by decide +kernel
theorem dX0_prepare_15 : decode cX0_prepare 15 = .ok (.aload_n 0, 1) := by decide +kernel
theorem dX0_prepare_16 : decode cX0_prepare 16 = .ok (.iload 4, 2) := by decide +kernel
theorem dX0_prepare_18 : decode cX0_prepare 18 = .ok (.putfield 21, 3) := by decide +kernel
theorem dX0_prepare_21 : decode cX0_prepare 21 = .ok (.aload_n 0, 1) := by decide +kernel
theorem dX0_prepare_22 : decode cX0_prepare 22 = .ok (.invokevirtual 45, 3) := by decide +kernel
theorem dX0_prepare_25 : decode cX0_prepare 25 = .ok (.return_, 1) := by decide +kernel
set_option maxRecDepth 20000 in
theorem dX0_turnOver_0 : decode cX0_turnOver 0 = .ok (.aload_n 0, 1) := by decide +kernel
theorem dX0_turnOver_1 : decode cX0_turnOver 1 = .ok (.getfield 24, 3) := by decide +kernel
theorem dX0_turnOver_4 : decode cX0_turnOver 4 = .ok (.iload_n 1, 1) := by decide +kernel
theorem dX0_turnOver_5 : decode cX0_turnOver 5 = .ok (.if_icmp .ne 5, 3) := by decide +kernel
theorem dX0_turnOver_8 : decode cX0_turnOver 8 = .ok (.iconst 0, 1) := by decide +kernel
theorem dX0_turnOver_9 : decode cX0_turnOver 9 = .ok (.ireturn, 1) := by decide +kernel
theorem dX0_turnOver_10 : decode cX0_turnOver 10 = .ok (.aload_n 0, 1) := by decide +kernel
theorem dX0_turnOver_11 : decode cX0_turnOver 11 = .ok (.iload_n 1, 1) := by decide +kernel
theorem dX0_turnOver_12 : decode cX0_turnOver 12 = .ok (.putfield 24, 3) := by decide +kernel
theorem dX0_turnOver_15 : decode cX0_turnOver 15 = .ok (.aload_n 0, 1) := by decide +kernel
theorem dX0_turnOver_16 : decode cX0_turnOver 16 = .ok (.invokevirtual 45, 3) := by decide +kernel
theorem dX0_turnOver_19 : decode cX0_turnOver 19 = .ok (.iconst 1, 1) := by decide +kernel
theorem dX0_turnOver_20 : decode cX0_turnOver 20 = .ok (.ireturn, 1) := by decide +kernel
set_option maxRecDepth 20000 in
theorem dX0_copyJar_0 : decode cX0_copyJar 0 = .ok (.aload_n 0, 1) := by decide +kernel
theorem dX0_copyJar_1 : decode cX0_copyJar 1 = .ok (.aload_n 1, 1) := by decide +kernel
theorem dX0_copyJar_2 : decode cX0_copyJar 2 = .ok (.getfield 9, 3) := by decide +kernel
theorem dX0_copyJar_5 : decode cX0_copyJar 5 = .ok (.putfield 9, 3) := by decide +kernel
theorem dX0_copyJar_8 : decode cX0_copyJar 8 = .ok (.aload_n 0, 1) := by decide +kernel
theorem dX0_copyJar_9 : decode cX0_copyJar 9 = .ok (.aload_n 1, 1) := by decide +kernel
theorem dX0_copyJar_10 : decode cX0_copyJar 10 = .ok (.getfield 15, 3) := by decide +kernel
theorem dX0_copyJar_13 : decode cX0_copyJar 13 = .ok (.putfield 15, 3) := by decide +kernel
theorem dX0_copyJar_16 : decode cX0_copyJar 16 = .ok (.aload_n 0, 1) := by decide +kernel
theorem dX0_copyJar_17 : decode cX0_copyJar 17 = .ok (.aload_n 1, 1) := by decide +kernel
theorem dX0_copyJar_18 : decode cX0_copyJar 18 = .ok (.getfield 18, 3) := by decide +kernel
theorem dX0_copyJar_21 : decode cX0_copyJar 21 = .ok (.putfield 18, 3) := by decide +kernel
theorem dX0_copyJar_24 : decode cX0_copyJar 24 = .ok (.aload_n 0, 1) := by decide +kernel
theorem dX0_copyJar_25 : decode cX0_copyJar 25 = .ok (.aload_n 1, 1) := by decide +kernel
theorem dX0_copyJar_26 : decode cX0_copyJar 26 = .ok (.getfield 21, 3) := by decide +kernel
theorem dX0_copyJar_29 : decode cX0_copyJar 29 = .ok (.putfield 21, 3) := by decide +kernel
theorem dX0_copyJar_32 : decode cX0_copyJar 32 = .ok (.aload_n 0, 1) := by decide +kernel
theorem dX0_copyJar_33 : decode cX0_copyJar 33 = .ok (.aload_n 1, 1) := by decide +kernel
theorem dX0_copyJar_34 : decode cX0_copyJar 34 = .ok (.getfield 24, 3) := by decide +kernel
theorem dX0_copyJar_37 : decode cX0_copyJar 37 = .ok (.putfield 24, 3) := by decide +kernel
theorem dX0_copyJar_40 : decode cX0_copyJar 40 = .ok (.aload_n 1, 1) := by decide +kernel
theorem dX0_copyJar_41 : decode cX0_copyJar 41 = .ok (.getfield 28, 3) := by decide +kernel
theorem dX0_copyJar_44 : decode cX0_copyJar 44 = .ok (.aload_n 0, 1) := by decide +kernel
theorem dX0_copyJar_45 : decode cX0_copyJar 45 = .ok (.getfield 28, 3) := by decide +kernel
theorem dX0_copyJar_48 : decode cX0_copyJar 48 = .ok (.invokestatic 48, 3) := by decide +kernel
theorem dX0_copyJar_51 : decode cX0_copyJar 51 = .ok (.aload_n 1, 1) := by decide +kernel
theorem dX0_copyJar_52 : decode cX0_copyJar 52 = .ok (.getfield 32, 3) := by decide +kernel
theorem dX0_copyJar_55 : decode cX0_copyJar 55 = .ok (.aload_n 0, 1) := by decide +kernel
theorem dX0_copyJar_56 : decode cX0_copyJar 56 = .ok (.getfield 32, 3) := by decide +kernel
theorem dX0_copyJar_59 : decode cX0_copyJar 59 = .ok (.invokestatic 48, 3) := by decide +kernel
theorem dX0_copyJar_62 : decode cX0_copyJar 62 = .ok (.return_, 1) := by decide +kernel
set_option maxRecDepth 20000 in
theorem dX0_draw_0 : decode cX0_draw 0 = .ok (.aload_n 0, 1) := by decide +kernel
theorem dX0_draw_1 : decode cX0_draw 1 = .ok (.aload_n 0, 1) := by decide +kernel
theorem dX0_draw_2 : decode cX0_draw 2 = .ok (.getfield 9, 3) := by decide +kernel
theorem dX0_draw_5 : decode cX0_draw 5 = .ok (.putfield 42, 3) := by decide +kernel
theorem dX0_draw_8 : decode cX0_draw 8 = .ok (.aload_n 0, 1) := by decide +kernel
theorem dX0_draw_9 : decode cX0_draw 9 = .ok (.invokevirtual 52, 3) := by decide +kernel
theorem dX0_draw_12 : decode cX0_draw 12 = .ok (.aload_n 0, 1) := by decide +kernel
theorem dX0_draw_13 : decode cX0_draw 13 = .ok (.invokevirtual 55, 3) := by decide +kernel
theorem dX0_draw_16 : decode cX0_draw 16 = .ok (.aload_n 0, 1) := by decide +kernel
theorem dX0_draw_17 : decode cX0_draw 17 = .ok (.getfield 24, 3) := by decide +kernel
theorem dX0_draw_20 : decode cX0_draw 20 = .ok (.ifCond .eq 7, 3) := by decide +kernel
theorem dX0_draw_23 : decode cX0_draw 23 = .ok (.aload_n 0, 1) := by decide +kernel
theorem dX0_draw_24 : decode cX0_draw 24 = .ok (.invokevirtual 58, 3) := by decide +kernel
theorem dX0_draw_27 : decode cX0_draw 27 = .ok (.aload_n 0, 1) := by decide +kernel
theorem dX0_draw_28 : decode cX0_draw 28 = .ok (.invokevirtual 61, 3) := by decide +kernel
theorem dX0_draw_31 : decode cX0_draw 31 = .ok (.return_, 1) := by decide +kernel
theorem dX0_lot_0 : decode cX0_lot 0 = .ok (.aload_n 0, 1) := by decide +kernel
theorem dX0_lot_1 : decode cX0_lot 1 = .ok (.aload_n 0, 1) := by decide +kernel
theorem dX0_lot_2 : decode cX0_lot 2 = .ok (.getfield 42, 3) := by decide +kernel
theorem dX0_lot_5 : decode cX0_lot 5 = .ok (.ldc 64, 2) := by decide +kernel
theorem dX0_lot_7 : decode cX0_lot 7 = .ok (.imul, 1) := by decide +kernel
theorem dX0_lot_8 : decode cX0_lot 8 = .ok (.ldc 65, 2) := by decide +kernel
theorem dX0_lot_10 : decode cX0_lot 10 = .ok (.iadd, 1) := by decide +kernel
theorem dX0_lot_11 : decode cX0_lot 11 = .ok (.putfield 42, 3) := by decide +kernel
theorem dX0_lot_14 : decode cX0_lot 14 = .ok (.iload_n 1, 1) := by decide +kernel
theorem dX0_lot_15 : decode cX0_lot 15 = .ok (.iconst 1, 1) := by decide +kernel
theorem dX0_lot_16 : decode cX0_lot 16 = .ok (.if_icmp .ge 7, 3) := by decide +kernel
theorem dX0_lot_19 : decode cX0_lot 19 = .ok (.iconst 0, 1) := by decide +kernel
theorem dX0_lot_20 : decode cX0_lot 20 = .ok (.goto 16, 3) := by decide +kernel
theorem dX0_lot_23 : decode cX0_lot 23 = .ok (.aload_n 0, 1) := by decide +kernel
theorem dX0_lot_24 : decode cX0_lot 24 = .ok (.getfield 42, 3) := by decide +kernel
theorem dX0_lot_27 : decode cX0_lot 27 = .ok (.ldc 66, 2) := by decide +kernel
theorem dX0_lot_29 : decode cX0_lot 29 = .ok (.iand, 1) := by decide +kernel
theorem dX0_lot_30 : decode cX0_lot 30 = .ok (.sipush 256, 3) := by decide +kernel
theorem dX0_lot_33 : decode cX0_lot 33 = .ok (.idiv, 1) := by decide +kernel
theorem dX0_lot_34 : decode cX0_lot 34 = .ok (.iload_n 1, 1) := by decide +kernel
theorem dX0_lot_35 : decode cX0_lot 35 = .ok (.irem, 1) := by decide +kernel
theorem dX0_lot_36 : decode cX0_lot 36 = .ok (.ireturn, 1) := by decide +kernel
set_option maxRecDepth 20000 in
theorem dX0_layDays_0 : decode cX0_layDays 0 = .ok (.iconst 0, 1) := by decide +kernel
theorem dX0_layDays_1 : decode cX0_layDays 1 = .ok (.istore_n 1, 1) := by decide +kernel
theorem dX0_layDays_2 : decode cX0_layDays 2 = .ok (.iload_n 1, 1) := by decide +kernel
theorem dX0_layDays_3 : decode cX0_layDays 3 = .ok (.sipush 366, 3) := by decide +kernel
theorem dX0_layDays_6 : decode cX0_layDays 6 = .ok (.if_icmp .ge 18, 3) := by decide +kernel
theorem dX0_layDays_9 : decode cX0_layDays 9 = .ok (.aload_n 0, 1) := by decide +kernel
theorem dX0_layDays_10 : decode cX0_layDays 10 = .ok (.getfield 35, 3) := by decide +kernel
theorem dX0_layDays_13 : decode cX0_layDays 13 = .ok (.iload_n 1, 1) := by decide +kernel
theorem dX0_layDays_14 : decode cX0_layDays 14 = .ok (.iload_n 1, 1) := by decide +kernel
theorem dX0_layDays_15 : decode cX0_layDays 15 = .ok (.invokestatic 67, 3) := by decide +kernel
theorem dX0_layDays_18 : decode cX0_layDays 18 = .ok (.iinc 1 1, 3) := by decide +kernel
theorem dX0_layDays_21 : decode cX0_layDays 21 = .ok (.goto (-19), 3) := by decide +kernel
theorem dX0_layDays_24 : decode cX0_layDays 24 = .ok (.return_, 1) := by decide +kernel
set_option maxRecDepth 20000 in
theorem dX0_shakeRow_0 : decode cX0_shakeRow 0 = .ok (.iconst 0, 1) := by decide +kernel
theorem dX0_shakeRow_1 : decode cX0_shakeRow 1 = .ok (.istore_n 1, 1) := by decide +kernel
theorem dX0_shakeRow_2 : decode cX0_shakeRow 2 = .ok (.iload_n 1, 1) := by decide +kernel
theorem dX0_shakeRow_3 : decode cX0_shakeRow 3 = .ok (.aload_n 0, 1) := by decide +kernel
theorem dX0_shakeRow_4 : decode cX0_shakeRow 4 = .ok (.getfield 15, 3) := by decide +kernel
theorem dX0_shakeRow_7 : decode cX0_shakeRow 7 = .ok (.if_icmp .ge 53, 3) := by decide +kernel
theorem dX0_shakeRow_10 : decode cX0_shakeRow 10 = .ok (.aload_n 0, 1) := by decide +kernel
theorem dX0_shakeRow_11 : decode cX0_shakeRow 11 = .ok (.sipush 366, 3) := by decide +kernel
theorem dX0_shakeRow_14 : decode cX0_shakeRow 14 = .ok (.invokevirtual 71, 3) := by decide +kernel
theorem dX0_shakeRow_17 : decode cX0_shakeRow 17 = .ok (.istore_n 2, 1) := by decide +kernel
theorem dX0_shakeRow_18 : decode cX0_shakeRow 18 = .ok (.aload_n 0, 1) := by decide +kernel
theorem dX0_shakeRow_19 : decode cX0_shakeRow 19 = .ok (.iconst 2, 1) := by decide +kernel
theorem dX0_shakeRow_20 : decode cX0_shakeRow 20 = .ok (.aload_n 0, 1) := by decide +kernel
theorem dX0_shakeRow_21 : decode cX0_shakeRow 21 = .ok (.getfield 18, 3) := by decide +kernel
theorem dX0_shakeRow_24 : decode cX0_shakeRow 24 = .ok (.imul, 1) := by decide +kernel
theorem dX0_shakeRow_25 : decode cX0_shakeRow 25 = .ok (.iconst 1, 1) := by decide +kernel
theorem dX0_shakeRow_26 : decode cX0_shakeRow 26 = .ok (.iadd, 1) := by decide +kernel
theorem dX0_shakeRow_27 : decode cX0_shakeRow 27 = .ok (.invokevirtual 71, 3) := by decide +kernel
theorem dX0_shakeRow_30 : decode cX0_shakeRow 30 = .ok (.aload_n 0, 1) := by decide +kernel
theorem dX0_shakeRow_31 : decode cX0_shakeRow 31 = .ok (.getfield 18, 3) := by decide +kernel
theorem dX0_shakeRow_34 : decode cX0_shakeRow 34 = .ok (.isub, 1) := by decide +kernel
theorem dX0_shakeRow_35 : decode cX0_shakeRow 35 = .ok (.istore_n 3, 1) := by decide +kernel
theorem dX0_shakeRow_36 : decode cX0_shakeRow 36 = .ok (.aload_n 0, 1) := by decide +kernel
theorem dX0_shakeRow_37 : decode cX0_shakeRow 37 = .ok (.iload_n 2, 1) := by decide +kernel
theorem dX0_shakeRow_38 : decode cX0_shakeRow 38 = .ok (.iconst 0, 1) := by decide +kernel
theorem dX0_shakeRow_39 : decode cX0_shakeRow 39 = .ok (.sipush 365, 3) := by decide +kernel
theorem dX0_shakeRow_42 : decode cX0_shakeRow 42 = .ok (.iload_n 2, 1) := by decide +kernel
theorem dX0_shakeRow_43 : decode cX0_shakeRow 43 = .ok (.iload_n 3, 1) := by decide +kernel
theorem dX0_shakeRow_44 : decode cX0_shakeRow 44 = .ok (.iadd, 1) := by decide +kernel
theorem dX0_shakeRow_45 : decode cX0_shakeRow 45 = .ok (.invokestatic 75, 3) := by decide +kernel
theorem dX0_shakeRow_48 : decode cX0_shakeRow 48 = .ok (.invokestatic 81, 3) := by decide +kernel
theorem dX0_shakeRow_51 : decode cX0_shakeRow 51 = .ok (.invokevirtual 84, 3) := by decide +kernel
theorem dX0_shakeRow_54 : decode cX0_shakeRow 54 = .ok (.iinc 1 1, 3) := by decide +kernel
theorem dX0_shakeRow_57 : decode cX0_shakeRow 57 = .ok (.goto (-55), 3) := by decide +kernel
theorem dX0_shakeRow_60 : decode cX0_shakeRow 60 = .ok (.return_, 1) := by decide +kernel
set_option maxRecDepth 20000 in
theorem dX0_turnRow_0 : decode cX0_turnRow 0 = .ok (.iconst 0, 1) := by decide +kernel
theorem dX0_turnRow_1 : decode cX0_turnRow 1 = .ok (.istore_n 1, 1) := by decide +kernel
theorem dX0_turnRow_2 : decode cX0_turnRow 2 = .ok (.iload_n 1, 1) := by decide +kernel
theorem dX0_turnRow_3 : decode cX0_turnRow 3 = .ok (.sipush 183, 3) := by decide +kernel
theorem dX0_turnRow_6 : decode cX0_turnRow 6 = .ok (.if_icmp .ge 19, 3) := by decide +kernel
theorem dX0_turnRow_9 : decode cX0_turnRow 9 = .ok (.aload_n 0, 1) := by decide +kernel
theorem dX0_turnRow_10 : decode cX0_turnRow 10 = .ok (.iload_n 1, 1) := by decide +kernel
theorem dX0_turnRow_11 : decode cX0_turnRow 11 = .ok (.sipush 365, 3) := by decide +kernel
theorem dX0_turnRow_14 : decode cX0_turnRow 14 = .ok (.iload_n 1, 1) := by decide +kernel
theorem dX0_turnRow_15 : decode cX0_turnRow 15 = .ok (.isub, 1) := by decide +kernel
theorem dX0_turnRow_16 : decode cX0_turnRow 16 = .ok (.invokevirtual 84, 3) := by decide +kernel
theorem dX0_turnRow_19 : decode cX0_turnRow 19 = .ok (.iinc 1 1, 3) := by decide +kernel
theorem dX0_turnRow_22 : decode cX0_turnRow 22 = .ok (.goto (-20), 3) := by decide +kernel
theorem dX0_turnRow_25 : decode cX0_turnRow 25 = .ok (.return_, 1) := by decide +kernel
set_option maxRecDepth 20000 in
theorem dX0_drawRow_0 : decode cX0_drawRow 0 = .ok (.sipush 366, 3) := by decide +kernel
theorem dX0_drawRow_3 : decode cX0_drawRow 3 = .ok (.istore_n 1, 1) := by decide +kernel
theorem dX0_drawRow_4 : decode cX0_drawRow 4 = .ok (.iload_n 1, 1) := by decide +kernel
theorem dX0_drawRow_5 : decode cX0_drawRow 5 = .ok (.ifCond .le 73, 3) := by decide +kernel
theorem dX0_drawRow_8 : decode cX0_drawRow 8 = .ok (.aload_n 0, 1) := by decide +kernel
theorem dX0_drawRow_9 : decode cX0_drawRow 9 = .ok (.aload_n 0, 1) := by decide +kernel
theorem dX0_drawRow_10 : decode cX0_drawRow 10 = .ok (.getfield 21, 3) := by decide +kernel
theorem dX0_drawRow_13 : decode cX0_drawRow 13 = .ok (.iload_n 1, 1) := by decide +kernel
theorem dX0_drawRow_14 : decode cX0_drawRow 14 = .ok (.invokestatic 75, 3) := by decide +kernel
theorem dX0_drawRow_17 : decode cX0_drawRow 17 = .ok (.invokevirtual 71, 3) := by decide +kernel
theorem dX0_drawRow_20 : decode cX0_drawRow 20 = .ok (.istore_n 2, 1) := by decide +kernel
theorem dX0_drawRow_21 : decode cX0_drawRow 21 = .ok (.iload_n 1, 1) := by decide +kernel
theorem dX0_drawRow_22 : decode cX0_drawRow 22 = .ok (.iconst 1, 1) := by decide +kernel
theorem dX0_drawRow_23 : decode cX0_drawRow 23 = .ok (.isub, 1) := by decide +kernel
theorem dX0_drawRow_24 : decode cX0_drawRow 24 = .ok (.iload_n 2, 1) := by decide +kernel
theorem dX0_drawRow_25 : decode cX0_drawRow 25 = .ok (.isub, 1) := by decide +kernel
theorem dX0_drawRow_26 : decode cX0_drawRow 26 = .ok (.istore_n 3, 1) := by decide +kernel
theorem dX0_drawRow_27 : decode cX0_drawRow 27 = .ok (.aload_n 0, 1) := by decide +kernel
theorem dX0_drawRow_28 : decode cX0_drawRow 28 = .ok (.getfield 35, 3) := by decide +kernel
theorem dX0_drawRow_31 : decode cX0_drawRow 31 = .ok (.iload_n 3, 1) := by decide +kernel
theorem dX0_drawRow_32 : decode cX0_drawRow 32 = .ok (.invokestatic 88, 3) := by decide +kernel
theorem dX0_drawRow_35 : decode cX0_drawRow 35 = .ok (.istore 4, 2) := by decide +kernel
theorem dX0_drawRow_37 : decode cX0_drawRow 37 = .ok (.sipush 367, 3) := by decide +kernel
theorem dX0_drawRow_40 : decode cX0_drawRow 40 = .ok (.iload_n 1, 1) := by decide +kernel
theorem dX0_drawRow_41 : decode cX0_drawRow 41 = .ok (.isub, 1) := by decide +kernel
theorem dX0_drawRow_42 : decode cX0_drawRow 42 = .ok (.istore 5, 2) := by decide +kernel
theorem dX0_drawRow_44 : decode cX0_drawRow 44 = .ok (.aload_n 0, 1) := by decide +kernel
theorem dX0_drawRow_45 : decode cX0_drawRow 45 = .ok (.getfield 28, 3) := by decide +kernel
theorem dX0_drawRow_48 : decode cX0_drawRow 48 = .ok (.iload 4, 2) := by decide +kernel
theorem dX0_drawRow_50 : decode cX0_drawRow 50 = .ok (.iload 5, 2) := by decide +kernel
theorem dX0_drawRow_52 : decode cX0_drawRow 52 = .ok (.invokestatic 67, 3) := by decide +kernel
theorem dX0_drawRow_55 : decode cX0_drawRow 55 = .ok (.aload_n 0, 1) := by decide +kernel
theorem dX0_drawRow_56 : decode cX0_drawRow 56 = .ok (.getfield 32, 3) := by decide +kernel
theorem dX0_drawRow_59 : decode cX0_drawRow 59 = .ok (.iload 5, 2) := by decide +kernel
theorem dX0_drawRow_61 : decode cX0_drawRow 61 = .ok (.iload 4, 2) := by decide +kernel
theorem dX0_drawRow_63 : decode cX0_drawRow 63 = .ok (.invokestatic 67, 3) := by decide +kernel
theorem dX0_drawRow_66 : decode cX0_drawRow 66 = .ok (.aload_n 0, 1) := by decide +kernel
theorem dX0_drawRow_67 : decode cX0_drawRow 67 = .ok (.iload_n 3, 1) := by decide +kernel
theorem dX0_drawRow_68 : decode cX0_drawRow 68 = .ok (.iload_n 2, 1) := by decide +kernel
theorem dX0_drawRow_69 : decode cX0_drawRow 69 = .ok (.invokevirtual 92, 3) := by decide +kernel
theorem dX0_drawRow_72 : decode cX0_drawRow 72 = .ok (.iinc 1 (-1), 3) := by decide +kernel
theorem dX0_drawRow_75 : decode cX0_drawRow 75 = .ok (.goto (-71), 3) := by decide +kernel
theorem dX0_drawRow_78 : decode cX0_drawRow 78 = .ok (.return_, 1) := by decide +kernel
set_option maxRecDepth 20000 in
theorem dX0_swap_0 : decode cX0_swap 0 = .ok (.aload_n 0, 1) := by decide +kernel
theorem dX0_swap_1 : decode cX0_swap 1 = .ok (.getfield 35, 3) := by decide +kernel
theorem dX0_swap_4 : decode cX0_swap 4 = .ok (.iload_n 1, 1) := by decide +kernel
theorem dX0_swap_5 : decode cX0_swap 5 = .ok (.invokestatic 88, 3) := by decide +kernel
theorem dX0_swap_8 : decode cX0_swap 8 = .ok (.istore_n 3, 1) := by decide +kernel
theorem dX0_swap_9 : decode cX0_swap 9 = .ok (.aload_n 0, 1) := by decide +kernel
theorem dX0_swap_10 : decode cX0_swap 10 = .ok (.getfield 35, 3) := by decide +kernel
theorem dX0_swap_13 : decode cX0_swap 13 = .ok (.iload_n 1, 1) := by decide +kernel
theorem dX0_swap_14 : decode cX0_swap 14 = .ok (.aload_n 0, 1) := by decide +kernel
theorem dX0_swap_15 : decode cX0_swap 15 = .ok (.getfield 35, 3) := by decide +kernel
theorem dX0_swap_18 : decode cX0_swap 18 = .ok (.iload_n 2, 1) := by decide +kernel
theorem dX0_swap_19 : decode cX0_swap 19 = .ok (.invokestatic 88, 3) := by decide +kernel
theorem dX0_swap_22 : decode cX0_swap 22 = .ok (.invokestatic 67, 3) := by decide +kernel
theorem dX0_swap_25 : decode cX0_swap 25 = .ok (.aload_n 0, 1) := by decide +kernel
theorem dX0_swap_26 : decode cX0_swap 26 = .ok (.getfield 35, 3) := by decide +kernel
theorem dX0_swap_29 : decode cX0_swap 29 = .ok (.iload_n 2, 1) := by decide +kernel
theorem dX0_swap_30 : decode cX0_swap 30 = .ok (.iload_n 3, 1) := by decide +kernel
theorem dX0_swap_31 : decode cX0_swap 31 = .ok (.invokestatic 67, 3) := by decide +kernel
theorem dX0_swap_34 : decode cX0_swap 34 = .ok (.return_, 1) := by decide +kernel
theorem dX0_closeGap_0 : decode cX0_closeGap 0 = .ok (.iload_n 1, 1) := by decide +kernel
theorem dX0_closeGap_1 : decode cX0_closeGap 1 = .ok (.ifCond .lt 32, 3) := by decide +kernel
theorem dX0_closeGap_4 : decode cX0_closeGap 4 = .ok (.iload_n 2, 1) := by decide +kernel
theorem dX0_closeGap_5 : decode cX0_closeGap 5 = .ok (.ifCond .le 28, 3) := by decide +kernel
theorem dX0_closeGap_8 : decode cX0_closeGap 8 = .ok (.iload_n 2, 1) := by decide +kernel
theorem dX0_closeGap_9 : decode cX0_closeGap 9 = .ok (.sipush 366, 3) := by decide +kernel
theorem dX0_closeGap_12 : decode cX0_closeGap 12 = .ok (.iload_n 1, 1) := by decide +kernel
theorem dX0_closeGap_13 : decode cX0_closeGap 13 = .ok (.isub, 1) := by decide +kernel
theorem dX0_closeGap_14 : decode cX0_closeGap 14 = .ok (.if_icmp .ge 19, 3) := by decide +kernel
theorem dX0_closeGap_17 : decode cX0_closeGap 17 = .ok (.aload_n 0, 1) := by decide +kernel
theorem dX0_closeGap_18 : decode cX0_closeGap 18 = .ok (.getfield 35, 3) := by decide +kernel
theorem dX0_closeGap_21 : decode cX0_closeGap 21 = .ok (.iload_n 1, 1) := by decide +kernel
theorem dX0_closeGap_22 : decode cX0_closeGap 22 = .ok (.iconst 1, 1) := by decide +kernel
theorem dX0_closeGap_23 : decode cX0_closeGap 23 = .ok (.iadd, 1) := by decide +kernel
theorem dX0_closeGap_24 : decode cX0_closeGap 24 = .ok (.aload_n 0, 1) := by decide +kernel
theorem dX0_closeGap_25 : decode cX0_closeGap 25 = .ok (.getfield 35, 3) := by decide +kernel
theorem dX0_closeGap_28 : decode cX0_closeGap 28 = .ok (.iload_n 1, 1) := by decide +kernel
theorem dX0_closeGap_29 : decode cX0_closeGap 29 = .ok (.iload_n 2, 1) := by decide +kernel
theorem dX0_closeGap_30 : decode cX0_closeGap 30 = .ok (.invokestatic 95, 3) := by decide +kernel
theorem dX0_closeGap_33 : decode cX0_closeGap 33 = .ok (.return_, 1) := by decide +kernel
set_option maxRecDepth 20000 in
theorem dX0_numberAt_0 : decode cX0_numberAt 0 = .ok (.aload_n 0, 1) := by decide +kernel
theorem dX0_numberAt_1 : decode cX0_numberAt 1 = .ok (.getfield 28, 3) := by decide +kernel
theorem dX0_numberAt_4 : decode cX0_numberAt 4 = .ok (.iload_n 1, 1) := by decide +kernel
theorem dX0_numberAt_5 : decode cX0_numberAt 5 = .ok (.invokestatic 88, 3) := by decide +kernel
theorem dX0_numberAt_8 : decode cX0_numberAt 8 = .ok (.ireturn, 1) := by decide +kernel
set_option maxRecDepth 20000 in
theorem dX0_dayAt_0 : decode cX0_dayAt 0 = .ok (.aload_n 0, 1) := by decide +kernel
theorem dX0_dayAt_1 : decode cX0_dayAt 1 = .ok (.getfield 32, 3) := by decide +kernel
theorem dX0_dayAt_4 : decode cX0_dayAt 4 = .ok (.iload_n 1, 1) := by decide +kernel
theorem dX0_dayAt_5 : decode cX0_dayAt 5 = .ok (.invokestatic 88, 3) := by decide +kernel
theorem dX0_dayAt_8 : decode cX0_dayAt 8 = .ok (.ireturn, 1) := by decide +kernel
set_option maxRecDepth 20000 in
theorem dX0_monthSum_0 : decode cX0_monthSum 0 = .ok (.iconst 0, 1) := by decide +kernel
theorem dX0_monthSum_1 : decode cX0_monthSum 1 = .ok (.istore_n 2, 1) := by decide +kernel
theorem dX0_monthSum_2 : decode cX0_monthSum 2 = .ok (.getstatic 101, 3) := by decide +kernel
theorem dX0_monthSum_5 : decode cX0_monthSum 5 = .ok (.iload_n 1, 1) := by decide +kernel
theorem dX0_monthSum_6 : decode cX0_monthSum 6 = .ok (.invokestatic 88, 3) := by decide +kernel
theorem dX0_monthSum_9 : decode cX0_monthSum 9 = .ok (.istore_n 3, 1) := by decide +kernel
theorem dX0_monthSum_10 : decode cX0_monthSum 10 = .ok (.iload_n 3, 1) := by decide +kernel
theorem dX0_monthSum_11 : decode cX0_monthSum 11 = .ok (.getstatic 101, 3) := by decide +kernel
theorem dX0_monthSum_14 : decode cX0_monthSum 14 = .ok (.iload_n 1, 1) := by decide +kernel
theorem dX0_monthSum_15 : decode cX0_monthSum 15 = .ok (.iconst 1, 1) := by decide +kernel
theorem dX0_monthSum_16 : decode cX0_monthSum 16 = .ok (.iadd, 1) := by decide +kernel
theorem dX0_monthSum_17 : decode cX0_monthSum 17 = .ok (.invokestatic 88, 3) := by decide +kernel
theorem dX0_monthSum_20 : decode cX0_monthSum 20 = .ok (.if_icmp .ge 17, 3) := by decide +kernel
theorem dX0_monthSum_23 : decode cX0_monthSum 23 = .ok (.iload_n 2, 1) := by decide +kernel
theorem dX0_monthSum_24 : decode cX0_monthSum 24 = .ok (.aload_n 0, 1) := by decide +kernel
theorem dX0_monthSum_25 : decode cX0_monthSum 25 = .ok (.iload_n 3, 1) := by decide +kernel
theorem dX0_monthSum_26 : decode cX0_monthSum 26 = .ok (.invokevirtual 104, 3) := by decide +kernel
theorem dX0_monthSum_29 : decode cX0_monthSum 29 = .ok (.iadd, 1) := by decide +kernel
theorem dX0_monthSum_30 : decode cX0_monthSum 30 = .ok (.istore_n 2, 1) := by decide +kernel
theorem dX0_monthSum_31 : decode cX0_monthSum 31 = .ok (.iinc 3 1, 3) := by decide +kernel
theorem dX0_monthSum_34 : decode cX0_monthSum 34 = .ok (.goto (-24), 3) := by decide +kernel
theorem dX0_monthSum_37 : decode cX0_monthSum 37 = .ok (.iload_n 2, 1) := by decide +kernel
theorem dX0_monthSum_38 : decode cX0_monthSum 38 = .ok (.ireturn, 1) := by decide +kernel
set_option maxRecDepth 20000 in
theorem dX0_leaning_0 : decode cX0_leaning 0 = .ok (.lconst 0, 1) := by decide +kernel
theorem dX0_leaning_1 : decode cX0_leaning 1 = .ok (.lstore_n 1, 1) := by decide +kernel
theorem dX0_leaning_2 : decode cX0_leaning 2 = .ok (.iconst 0, 1) := by decide +kernel
theorem dX0_leaning_3 : decode cX0_leaning 3 = .ok (.istore_n 3, 1) := by decide +kernel
theorem dX0_leaning_4 : decode cX0_leaning 4 = .ok (.iload_n 3, 1) := by decide +kernel
theorem dX0_leaning_5 : decode cX0_leaning 5 = .ok (.sipush 366, 3) := by decide +kernel
theorem dX0_leaning_8 : decode cX0_leaning 8 = .ok (.if_icmp .ge 37, 3) := by decide +kernel
theorem dX0_leaning_11 : decode cX0_leaning 11 = .ok (.lload_n 1, 1) := by decide +kernel
theorem dX0_leaning_12 : decode cX0_leaning 12 = .ok (.ldc2_w 107, 3) := by decide +kernel
theorem dX0_leaning_15 : decode cX0_leaning 15 = .ok (.iload_n 3, 1) := by decide +kernel
theorem dX0_leaning_16 : decode cX0_leaning 16 = .ok (.i2l, 1) := by decide +kernel
theorem dX0_leaning_17 : decode cX0_leaning 17 = .ok (.lmul, 1) := by decide +kernel
theorem dX0_leaning_18 : decode cX0_leaning 18 = .ok (.ldc2_w 109, 3) := by decide +kernel
theorem dX0_leaning_21 : decode cX0_leaning 21 = .ok (.lsub, 1) := by decide +kernel
theorem dX0_leaning_22 : decode cX0_leaning 22 = .ok (.ldc2_w 107, 3) := by decide +kernel
theorem dX0_leaning_25 : decode cX0_leaning 25 = .ok (.aload_n 0, 1) := by decide +kernel
theorem dX0_leaning_26 : decode cX0_leaning 26 = .ok (.iload_n 3, 1) := by decide +kernel
theorem dX0_leaning_27 : decode cX0_leaning 27 = .ok (.invokevirtual 104, 3) := by decide +kernel
theorem dX0_leaning_30 : decode cX0_leaning 30 = .ok (.i2l, 1) := by decide +kernel
theorem dX0_leaning_31 : decode cX0_leaning 31 = .ok (.lmul, 1) := by decide +kernel
theorem dX0_leaning_32 : decode cX0_leaning 32 = .ok (.ldc2_w 111, 3) := by decide +kernel
theorem dX0_leaning_35 : decode cX0_leaning 35 = .ok (.lsub, 1) := by decide +kernel
theorem dX0_leaning_36 : decode cX0_leaning 36 = .ok (.lmul, 1) := by decide +kernel
theorem dX0_leaning_37 : decode cX0_leaning 37 = .ok (.ladd, 1) := by decide +kernel
theorem dX0_leaning_38 : decode cX0_leaning 38 = .ok (.lstore_n 1, 1) := by decide +kernel
theorem dX0_leaning_39 : decode cX0_leaning 39 = .ok (.iinc 3 1, 3) := by decide +kernel
theorem dX0_leaning_42 : decode cX0_leaning 42 = .ok (.goto (-38), 3) := by decide +kernel
theorem dX0_leaning_45 : decode cX0_leaning 45 = .ok (.lload_n 1, 1) := by decide +kernel
theorem dX0_leaning_46 : decode cX0_leaning 46 = .ok (.lreturn, 1) := by decide +kernel
set_option maxRecDepth 20000 in
theorem dX0_worstMonth_0 : decode cX0_worstMonth 0 = .ok (.iconst 0, 1) := by decide +kernel
theorem dX0_worstMonth_1 : decode cX0_worstMonth 1 = .ok (.istore_n 1, 1) := by decide +kernel
theorem dX0_worstMonth_2 : decode cX0_worstMonth 2 = .ok (.iconst 1, 1) := by decide +kernel
theorem dX0_worstMonth_3 : decode cX0_worstMonth 3 = .ok (.istore_n 2, 1) := by decide +kernel
theorem dX0_worstMonth_4 : decode cX0_worstMonth 4 = .ok (.iload_n 2, 1) := by decide +kernel
theorem dX0_worstMonth_5 : decode cX0_worstMonth 5 = .ok (.bipush 12, 2) := by decide +kernel
theorem dX0_worstMonth_7 : decode cX0_worstMonth 7 = .ok (.if_icmp .ge 37, 3) := by decide +kernel
theorem dX0_worstMonth_10 : decode cX0_worstMonth 10 = .ok (.aload_n 0, 1) := by decide +kernel
theorem dX0_worstMonth_11 : decode cX0_worstMonth 11 = .ok (.iload_n 2, 1) := by decide +kernel
theorem dX0_worstMonth_12 : decode cX0_worstMonth 12 = .ok (.invokevirtual 113, 3) := by decide +kernel
theorem dX0_worstMonth_15 : decode cX0_worstMonth 15 = .ok (.iload_n 1, 1) := by decide +kernel
theorem dX0_worstMonth_16 : decode cX0_worstMonth 16 = .ok (.invokestatic 117, 3) := by decide +kernel
theorem dX0_worstMonth_19 : decode cX0_worstMonth 19 = .ok (.i2l, 1) := by decide +kernel
theorem dX0_worstMonth_20 : decode cX0_worstMonth 20 = .ok (.lmul, 1) := by decide +kernel
theorem dX0_worstMonth_21 : decode cX0_worstMonth 21 = .ok (.aload_n 0, 1) := by decide +kernel
theorem dX0_worstMonth_22 : decode cX0_worstMonth 22 = .ok (.iload_n 1, 1) := by decide +kernel
theorem dX0_worstMonth_23 : decode cX0_worstMonth 23 = .ok (.invokevirtual 113, 3) := by decide +kernel
theorem dX0_worstMonth_26 : decode cX0_worstMonth 26 = .ok (.iload_n 2, 1) := by decide +kernel
theorem dX0_worstMonth_27 : decode cX0_worstMonth 27 = .ok (.invokestatic 117, 3) := by decide +kernel
theorem dX0_worstMonth_30 : decode cX0_worstMonth 30 = .ok (.i2l, 1) := by decide +kernel
theorem dX0_worstMonth_31 : decode cX0_worstMonth 31 = .ok (.lmul, 1) := by decide +kernel
theorem dX0_worstMonth_32 : decode cX0_worstMonth 32 = .ok (.lcmp, 1) := by decide +kernel
theorem dX0_worstMonth_33 : decode cX0_worstMonth 33 = .ok (.ifCond .le 5, 3) := by decide +kernel
theorem dX0_worstMonth_36 : decode cX0_worstMonth 36 = .ok (.iload_n 2, 1) := by decide +kernel
theorem dX0_worstMonth_37 : decode cX0_worstMonth 37 = .ok (.istore_n 1, 1) := by decide +kernel
theorem dX0_worstMonth_38 : decode cX0_worstMonth 38 = .ok (.iinc 2 1, 3) := by decide +kernel
theorem dX0_worstMonth_41 : decode cX0_worstMonth 41 = .ok (.goto (-37), 3) := by decide +kernel
theorem dX0_worstMonth_44 : decode cX0_worstMonth 44 = .ok (.iload_n 1, 1) := by decide +kernel
theorem dX0_worstMonth_45 : decode cX0_worstMonth 45 = .ok (.ireturn, 1) := by decide +kernel
set_option maxRecDepth 20000 in
theorem dX0_monthDistance_0 : decode cX0_monthDistance 0 = .ok (.ldc2_w 107, 3) := by decide +kernel
theorem dX0_monthDistance_3 : decode cX0_monthDistance 3 = .ok (.aload_n 0, 1) := by decide +kernel
theorem dX0_monthDistance_4 : decode cX0_monthDistance 4 = .ok (.iload_n 1, 1) := by decide +kernel
theorem dX0_monthDistance_5 : decode cX0_monthDistance 5 = .ok (.invokevirtual 120, 3) := by decide +kernel
theorem dX0_monthDistance_8 : decode cX0_monthDistance 8 = .ok (.i2l, 1) := by decide +kernel
theorem dX0_monthDistance_9 : decode cX0_monthDistance 9 = .ok (.lmul, 1) := by decide +kernel
theorem dX0_monthDistance_10 : decode cX0_monthDistance 10 = .ok (.ldc2_w 111, 3) := by decide +kernel
theorem dX0_monthDistance_13 : decode cX0_monthDistance 13 = .ok (.iload_n 1, 1) := by decide +kernel
theorem dX0_monthDistance_14 : decode cX0_monthDistance 14 = .ok (.invokestatic 117, 3) := by decide +kernel
theorem dX0_monthDistance_17 : decode cX0_monthDistance 17 = .ok (.i2l, 1) := by decide +kernel
theorem dX0_monthDistance_18 : decode cX0_monthDistance 18 = .ok (.lmul, 1) := by decide +kernel
theorem dX0_monthDistance_19 : decode cX0_monthDistance 19 = .ok (.lsub, 1) := by decide +kernel
theorem dX0_monthDistance_20 : decode cX0_monthDistance 20 = .ok (.invokestatic 123, 3) := by decide +kernel
theorem dX0_monthDistance_23 : decode cX0_monthDistance 23 = .ok (.lreturn, 1) := by decide +kernel
set_option maxRecDepth 20000 in
theorem dX0_turnedPairs_0 : decode cX0_turnedPairs 0 = .ok (.aload_n 0, 1) := by decide +kernel
theorem dX0_turnedPairs_1 : decode cX0_turnedPairs 1 = .ok (.getfield 38, 3) := by decide +kernel
theorem dX0_turnedPairs_4 : decode cX0_turnedPairs 4 = .ok (.lconst 0, 1) := by decide +kernel
theorem dX0_turnedPairs_5 : decode cX0_turnedPairs 5 = .ok (.invokestatic 127, 3) := by decide +kernel
theorem dX0_turnedPairs_8 : decode cX0_turnedPairs 8 = .ok (.iconst 0, 1) := by decide +kernel
theorem dX0_turnedPairs_9 : decode cX0_turnedPairs 9 = .ok (.istore_n 1, 1) := by decide +kernel
theorem dX0_turnedPairs_10 : decode cX0_turnedPairs 10 = .ok (.iconst 0, 1) := by decide +kernel
theorem dX0_turnedPairs_11 : decode cX0_turnedPairs 11 = .ok (.istore_n 2, 1) := by decide +kernel
theorem dX0_turnedPairs_12 : decode cX0_turnedPairs 12 = .ok (.iload_n 2, 1) := by decide +kernel
theorem dX0_turnedPairs_13 : decode cX0_turnedPairs 13 = .ok (.sipush 366, 3) := by decide +kernel
theorem dX0_turnedPairs_16 : decode cX0_turnedPairs 16 = .ok (.if_icmp .ge 28, 3) := by decide +kernel
theorem dX0_turnedPairs_19 : decode cX0_turnedPairs 19 = .ok (.aload_n 0, 1) := by decide +kernel
theorem dX0_turnedPairs_20 : decode cX0_turnedPairs 20 = .ok (.iload_n 2, 1) := by decide +kernel
theorem dX0_turnedPairs_21 : decode cX0_turnedPairs 21 = .ok (.invokevirtual 104, 3) := by decide +kernel
theorem dX0_turnedPairs_24 : decode cX0_turnedPairs 24 = .ok (.istore_n 3, 1) := by decide +kernel
theorem dX0_turnedPairs_25 : decode cX0_turnedPairs 25 = .ok (.iload_n 1, 1) := by decide +kernel
theorem dX0_turnedPairs_26 : decode cX0_turnedPairs 26 = .ok (.aload_n 0, 1) := by decide +kernel
theorem dX0_turnedPairs_27 : decode cX0_turnedPairs 27 = .ok (.iload_n 3, 1) := by decide +kernel
theorem dX0_turnedPairs_28 : decode cX0_turnedPairs 28 = .ok (.invokevirtual 133, 3) := by decide +kernel
theorem dX0_turnedPairs_31 : decode cX0_turnedPairs 31 = .ok (.iadd, 1) := by decide +kernel
theorem dX0_turnedPairs_32 : decode cX0_turnedPairs 32 = .ok (.istore_n 1, 1) := by decide +kernel
theorem dX0_turnedPairs_33 : decode cX0_turnedPairs 33 = .ok (.aload_n 0, 1) := by decide +kernel
theorem dX0_turnedPairs_34 : decode cX0_turnedPairs 34 = .ok (.iload_n 3, 1) := by decide +kernel
theorem dX0_turnedPairs_35 : decode cX0_turnedPairs 35 = .ok (.invokevirtual 136, 3) := by decide +kernel
theorem dX0_turnedPairs_38 : decode cX0_turnedPairs 38 = .ok (.iinc 2 1, 3) := by decide +kernel
theorem dX0_turnedPairs_41 : decode cX0_turnedPairs 41 = .ok (.goto (-29), 3) := by decide +kernel
theorem dX0_turnedPairs_44 : decode cX0_turnedPairs 44 = .ok (.iload_n 1, 1) := by decide +kernel
theorem dX0_turnedPairs_45 : decode cX0_turnedPairs 45 = .ok (.ireturn, 1) := by decide +kernel
set_option maxRecDepth 20000 in
theorem dX0_seenAbove_0 : decode cX0_seenAbove 0 = .ok (.iload_n 1, 1) := by decide +kernel
theorem dX0_seenAbove_1 : decode cX0_seenAbove 1 = .ok (.bipush 6, 2) := by decide +kernel
theorem dX0_seenAbove_3 : decode cX0_seenAbove 3 = .ok (.ishr, 1) := by decide +kernel
theorem dX0_seenAbove_4 : decode cX0_seenAbove 4 = .ok (.istore_n 2, 1) := by decide +kernel
theorem dX0_seenAbove_5 : decode cX0_seenAbove 5 = .ok (.iload_n 2, 1) := by decide +kernel
theorem dX0_seenAbove_6 : decode cX0_seenAbove 6 = .ok (.ifCond .lt 12, 3) := by decide +kernel
theorem dX0_seenAbove_9 : decode cX0_seenAbove 9 = .ok (.iload_n 2, 1) := by decide +kernel
theorem dX0_seenAbove_10 : decode cX0_seenAbove 10 = .ok (.aload_n 0, 1) := by decide +kernel
theorem dX0_seenAbove_11 : decode cX0_seenAbove 11 = .ok (.getfield 38, 3) := by decide +kernel
theorem dX0_seenAbove_14 : decode cX0_seenAbove 14 = .ok (.arraylength, 1) := by decide +kernel
theorem dX0_seenAbove_15 : decode cX0_seenAbove 15 = .ok (.if_icmp .lt 5, 3) := by decide +kernel
theorem dX0_seenAbove_18 : decode cX0_seenAbove 18 = .ok (.iconst 0, 1) := by decide +kernel
theorem dX0_seenAbove_19 : decode cX0_seenAbove 19 = .ok (.ireturn, 1) := by decide +kernel
theorem dX0_seenAbove_20 : decode cX0_seenAbove 20 = .ok (.aload_n 0, 1) := by decide +kernel
theorem dX0_seenAbove_21 : decode cX0_seenAbove 21 = .ok (.getfield 38, 3) := by decide +kernel
theorem dX0_seenAbove_24 : decode cX0_seenAbove 24 = .ok (.iload_n 2, 1) := by decide +kernel
theorem dX0_seenAbove_25 : decode cX0_seenAbove 25 = .ok (.laload, 1) := by decide +kernel
theorem dX0_seenAbove_26 : decode cX0_seenAbove 26 = .ok (.iload_n 1, 1) := by decide +kernel
theorem dX0_seenAbove_27 : decode cX0_seenAbove 27 = .ok (.bipush 63, 2) := by decide +kernel
theorem dX0_seenAbove_29 : decode cX0_seenAbove 29 = .ok (.iand, 1) := by decide +kernel
theorem dX0_seenAbove_30 : decode cX0_seenAbove 30 = .ok (.lushr, 1) := by decide +kernel
theorem dX0_seenAbove_31 : decode cX0_seenAbove 31 = .ok (.iconst 1, 1) := by decide +kernel
theorem dX0_seenAbove_32 : decode cX0_seenAbove 32 = .ok (.lushr, 1) := by decide +kernel
theorem dX0_seenAbove_33 : decode cX0_seenAbove 33 = .ok (.invokestatic 140, 3) := by decide +kernel
theorem dX0_seenAbove_36 : decode cX0_seenAbove 36 = .ok (.istore_n 3, 1) := by decide +kernel
theorem dX0_seenAbove_37 : decode cX0_seenAbove 37 = .ok (.iload_n 2, 1) := by decide +kernel
theorem dX0_seenAbove_38 : decode cX0_seenAbove 38 = .ok (.iconst 1, 1) := by decide +kernel
theorem dX0_seenAbove_39 : decode cX0_seenAbove 39 = .ok (.iadd, 1) := by decide +kernel
theorem dX0_seenAbove_40 : decode cX0_seenAbove 40 = .ok (.istore 4, 2) := by decide +kernel
theorem dX0_seenAbove_42 : decode cX0_seenAbove 42 = .ok (.iload 4, 2) := by decide +kernel
theorem dX0_seenAbove_44 : decode cX0_seenAbove 44 = .ok (.aload_n 0, 1) := by decide +kernel
theorem dX0_seenAbove_45 : decode cX0_seenAbove 45 = .ok (.getfield 38, 3) := by decide +kernel
theorem dX0_seenAbove_48 : decode cX0_seenAbove 48 = .ok (.arraylength, 1) := by decide +kernel
theorem dX0_seenAbove_49 : decode cX0_seenAbove 49 = .ok (.if_icmp .ge 22, 3) := by decide +kernel
theorem dX0_seenAbove_52 : decode cX0_seenAbove 52 = .ok (.iload_n 3, 1) := by decide +kernel
theorem dX0_seenAbove_53 : decode cX0_seenAbove 53 = .ok (.aload_n 0, 1) := by decide +kernel
theorem dX0_seenAbove_54 : decode cX0_seenAbove 54 = .ok (.getfield 38, 3) := by decide +kernel
theorem dX0_seenAbove_57 : decode cX0_seenAbove 57 = .ok (.iload 4, 2) := by decide +kernel
theorem dX0_seenAbove_59 : decode cX0_seenAbove 59 = .ok (.laload, 1) := by decide +kernel
theorem dX0_seenAbove_60 : decode cX0_seenAbove 60 = .ok (.invokestatic 140, 3) := by decide +kernel
theorem dX0_seenAbove_63 : decode cX0_seenAbove 63 = .ok (.iadd, 1) := by decide +kernel
theorem dX0_seenAbove_64 : decode cX0_seenAbove 64 = .ok (.istore_n 3, 1) := by decide +kernel
theorem dX0_seenAbove_65 : decode cX0_seenAbove 65 = .ok (.iinc 4 1, 3) := by decide +kernel
theorem dX0_seenAbove_68 : decode cX0_seenAbove 68 = .ok (.goto (-26), 3) := by decide +kernel
theorem dX0_seenAbove_71 : decode cX0_seenAbove 71 = .ok (.iload_n 3, 1) := by decide +kernel
theorem dX0_seenAbove_72 : decode cX0_seenAbove 72 = .ok (.ireturn, 1) := by decide +kernel
theorem dX0_markSeen_0 : decode cX0_markSeen 0 = .ok (.iload_n 1, 1) := by decide +kernel
theorem dX0_markSeen_1 : decode cX0_markSeen 1 = .ok (.bipush 6, 2) := by decide +kernel
theorem dX0_markSeen_3 : decode cX0_markSeen 3 = .ok (.ishr, 1) := by decide +kernel
theorem dX0_markSeen_4 : decode cX0_markSeen 4 = .ok (.istore_n 2, 1) := by decide +kernel
theorem dX0_markSeen_5 : decode cX0_markSeen 5 = .ok (.iload_n 2, 1) := by decide +kernel
theorem dX0_markSeen_6 : decode cX0_markSeen 6 = .ok (.ifCond .lt 27, 3) := by decide +kernel
theorem dX0_markSeen_9 : decode cX0_markSeen 9 = .ok (.iload_n 2, 1) := by decide +kernel
theorem dX0_markSeen_10 : decode cX0_markSeen 10 = .ok (.aload_n 0, 1) := by decide +kernel
theorem dX0_markSeen_11 : decode cX0_markSeen 11 = .ok (.getfield 38, 3) := by decide +kernel
theorem dX0_markSeen_14 : decode cX0_markSeen 14 = .ok (.arraylength, 1) := by decide +kernel
theorem dX0_markSeen_15 : decode cX0_markSeen 15 = .ok (.if_icmp .ge 18, 3) := by decide +kernel
theorem dX0_markSeen_18 : decode cX0_markSeen 18 = .ok (.aload_n 0, 1) := by decide +kernel
theorem dX0_markSeen_19 : decode cX0_markSeen 19 = .ok (.getfield 38, 3) := by decide +kernel
theorem dX0_markSeen_22 : decode cX0_markSeen 22 = .ok (.iload_n 2, 1) := by decide +kernel
theorem dX0_markSeen_23 : decode cX0_markSeen 23 = .ok (.dup2, 1) := by decide +kernel
theorem dX0_markSeen_24 : decode cX0_markSeen 24 = .ok (.laload, 1) := by decide +kernel
theorem dX0_markSeen_25 : decode cX0_markSeen 25 = .ok (.lconst 1, 1) := by decide +kernel
theorem dX0_markSeen_26 : decode cX0_markSeen 26 = .ok (.iload_n 1, 1) := by decide +kernel
theorem dX0_markSeen_27 : decode cX0_markSeen 27 = .ok (.bipush 63, 2) := by decide +kernel
theorem dX0_markSeen_29 : decode cX0_markSeen 29 = .ok (.iand, 1) := by decide +kernel
theorem dX0_markSeen_30 : decode cX0_markSeen 30 = .ok (.lshl, 1) := by decide +kernel
theorem dX0_markSeen_31 : decode cX0_markSeen 31 = .ok (.lor, 1) := by decide +kernel
theorem dX0_markSeen_32 : decode cX0_markSeen 32 = .ok (.lastore, 1) := by decide +kernel
theorem dX0_markSeen_33 : decode cX0_markSeen 33 = .ok (.return_, 1) := by decide +kernel
set_option maxRecDepth 20000 in
theorem dX1_init_0 : decode cX1_init 0 = .ok (.aload_n 0, 1) := by decide +kernel
theorem dX1_init_1 : decode cX1_init 1 = .ok (.invokespecial 3, 3) := by decide +kernel
theorem dX1_init_4 : decode cX1_init 4 = .ok (.aload_n 0, 1) := by decide +kernel
theorem dX1_init_5 : decode cX1_init 5 = .ok (.new 9, 3) := by decide +kernel
theorem dX1_init_8 : decode cX1_init 8 = .ok (.dup, 1) := by decide +kernel
theorem dX1_init_9 : decode cX1_init 9 = .ok (.invokespecial 11, 3) := by decide +kernel
theorem dX1_init_12 : decode cX1_init 12 = .ok (.putfield 12, 3) := by decide +kernel
theorem dX1_init_15 : decode cX1_init 15 = .ok (.aload_n 0, 1) := by decide +kernel
theorem dX1_init_16 : decode cX1_init 16 = .ok (.new 9, 3) := by decide +kernel
theorem dX1_init_19 : decode cX1_init 19 = .ok (.dup, 1) := by decide +kernel
theorem dX1_init_20 : decode cX1_init 20 = .ok (.invokespecial 11, 3) := by decide +kernel
theorem dX1_init_23 : decode cX1_init 23 = .ok (.putfield 18, 3) := by decide +kernel
theorem dX1_init_26 : decode cX1_init 26 = .ok (.aload_n 0, 1) := by decide +kernel
theorem dX1_init_27 : decode cX1_init 27 = .ok (.new 21, 3) := by decide +kernel
theorem dX1_init_30 : decode cX1_init 30 = .ok (.dup, 1) := by decide +kernel
theorem dX1_init_31 : decode cX1_init 31 = .ok (.invokespecial 23, 3) := by decide +kernel
theorem dX1_init_34 : decode cX1_init 34 = .ok (.putfield 24, 3) := by decide +kernel
theorem dX1_init_37 : decode cX1_init 37 = .ok (.aload_n 0, 1) := by decide +kernel
theorem dX1_init_38 : decode cX1_init 38 = .ok (.getstatic 28, 3) := by decide +kernel
theorem dX1_init_41 : decode cX1_init 41 = .ok (.invokevirtual 32, 3) := by decide +kernel
theorem dX1_init_44 : decode cX1_init 44 = .ok (.checkcast 33, 3) := by decide +kernel
theorem dX1_init_47 : decode cX1_init 47 = .ok (.putfield 37, 3) := by decide +kernel
theorem dX1_init_50 : decode cX1_init 50 = .ok (.aload_n 0, 1) := by decide +kernel
theorem dX1_init_51 : decode cX1_init 51 = .ok (.sipush 195, 3) := by decide +kernel
theorem dX1_init_54 : decode cX1_init 54 = .ok (.putfield 40, 3) := by decide +kernel
theorem dX1_init_57 : decode cX1_init 57 = .ok (.aload_n 0, 1) := by decide +kernel
theorem dX1_init_58 : decode cX1_init 58 = .ok (.iconst 3, 1) := by decide +kernel
theorem dX1_init_59 : decode cX1_init 59 = .ok (.putfield 44, 3) := by decide +kernel
theorem dX1_init_62 : decode cX1_init 62 = .ok (.aload_n 0, 1) := by decide +kernel
theorem dX1_init_63 : decode cX1_init 63 = .ok (.new 47, 3) := by decide +kernel
theorem dX1_init_66 : decode cX1_init 66 = .ok (.dup, 1) := by decide +kernel
theorem dX1_init_67 : decode cX1_init 67 = .ok (.invokespecial 49, 3) := by decide +kernel
theorem dX1_init_70 : decode cX1_init 70 = .ok (.putfield 50, 3) := by decide +kernel
theorem dX1_init_73 : decode cX1_init 73 = .ok (.aload_n 0, 1) := by decide +kernel
theorem dX1_init_74 : decode cX1_init 74 = .ok (.new 54, 3) := by decide +kernel
theorem dX1_init_77 : decode cX1_init 77 = .ok (.dup, 1) := by decide +kernel
theorem dX1_init_78 : decode cX1_init 78 = .ok (.invokespecial 56, 3) := by decide +kernel
theorem dX1_init_81 : decode cX1_init 81 = .ok (.putfield 57, 3) := by decide +kernel
theorem dX1_init_84 : decode cX1_init 84 = .ok (.return_, 1) := by decide +kernel
set_option maxRecDepth 20000 in
theorem dX1_copyLottery_0 : decode cX1_copyLottery 0 = .ok (.aload_n 0, 1) := by decide +kernel
theorem dX1_copyLottery_1 : decode cX1_copyLottery 1 = .ok (.getfield 12, 3) := by decide +kernel
theorem dX1_copyLottery_4 : decode cX1_copyLottery 4 = .ok (.aload_n 1, 1) := by decide +kernel
theorem dX1_copyLottery_5 : decode cX1_copyLottery 5 = .ok (.getfield 12, 3) := by decide +kernel
theorem dX1_copyLottery_8 : decode cX1_copyLottery 8 = .ok (.invokevirtual 61, 3) := by decide +kernel
theorem dX1_copyLottery_11 : decode cX1_copyLottery 11 = .ok (.aload_n 0, 1) := by decide +kernel
theorem dX1_copyLottery_12 : decode cX1_copyLottery 12 = .ok (.getfield 18, 3) := by decide +kernel
theorem dX1_copyLottery_15 : decode cX1_copyLottery 15 = .ok (.aload_n 1, 1) := by decide +kernel
theorem dX1_copyLottery_16 : decode cX1_copyLottery 16 = .ok (.getfield 18, 3) := by decide +kernel
theorem dX1_copyLottery_19 : decode cX1_copyLottery 19 = .ok (.invokevirtual 61, 3) := by decide +kernel
theorem dX1_copyLottery_22 : decode cX1_copyLottery 22 = .ok (.aload_n 0, 1) := by decide +kernel
theorem dX1_copyLottery_23 : decode cX1_copyLottery 23 = .ok (.getfield 24, 3) := by decide +kernel
theorem dX1_copyLottery_26 : decode cX1_copyLottery 26 = .ok (.aload_n 1, 1) := by decide +kernel
theorem dX1_copyLottery_27 : decode cX1_copyLottery 27 = .ok (.getfield 24, 3) := by decide +kernel
theorem dX1_copyLottery_30 : decode cX1_copyLottery 30 = .ok (.invokevirtual 65, 3) := by decide +kernel
theorem dX1_copyLottery_33 : decode cX1_copyLottery 33 = .ok (.aload_n 1, 1) := by decide +kernel
theorem dX1_copyLottery_34 : decode cX1_copyLottery 34 = .ok (.getfield 37, 3) := by decide +kernel
theorem dX1_copyLottery_37 : decode cX1_copyLottery 37 = .ok (.aload_n 0, 1) := by decide +kernel
theorem dX1_copyLottery_38 : decode cX1_copyLottery 38 = .ok (.getfield 37, 3) := by decide +kernel
theorem dX1_copyLottery_41 : decode cX1_copyLottery 41 = .ok (.invokestatic 69, 3) := by decide +kernel
theorem dX1_copyLottery_44 : decode cX1_copyLottery 44 = .ok (.aload_n 0, 1) := by decide +kernel
theorem dX1_copyLottery_45 : decode cX1_copyLottery 45 = .ok (.aload_n 1, 1) := by decide +kernel
theorem dX1_copyLottery_46 : decode cX1_copyLottery 46 = .ok (.getfield 40, 3) := by decide +kernel
theorem dX1_copyLottery_49 : decode cX1_copyLottery 49 = .ok (.putfield 40, 3) := by decide +kernel
theorem dX1_copyLottery_52 : decode cX1_copyLottery 52 = .ok (.aload_n 0, 1) := by decide +kernel
theorem dX1_copyLottery_53 : decode cX1_copyLottery 53 = .ok (.aload_n 1, 1) := by decide +kernel
theorem dX1_copyLottery_54 : decode cX1_copyLottery 54 = .ok (.getfield 44, 3) := by decide +kernel
theorem dX1_copyLottery_57 : decode cX1_copyLottery 57 = .ok (.putfield 44, 3) := by decide +kernel
theorem dX1_copyLottery_60 : decode cX1_copyLottery 60 = .ok (.return_, 1) := by decide +kernel
theorem dX1_jarAt_0 : decode cX1_jarAt 0 = .ok (.iload_n 1, 1) := by decide +kernel
theorem dX1_jarAt_1 : decode cX1_jarAt 1 = .ok (.ifCond .ne 10, 3) := by decide +kernel
theorem dX1_jarAt_4 : decode cX1_jarAt 4 = .ok (.aload_n 0, 1) := by decide +kernel
theorem dX1_jarAt_5 : decode cX1_jarAt 5 = .ok (.getfield 12, 3) := by decide +kernel
theorem dX1_jarAt_8 : decode cX1_jarAt 8 = .ok (.goto 7, 3) := by decide +kernel
theorem dX1_jarAt_11 : decode cX1_jarAt 11 = .ok (.aload_n 0, 1) := by decide +kernel
theorem dX1_jarAt_12 : decode cX1_jarAt 12 = .ok (.getfield 18, 3) := by decide +kernel
theorem dX1_jarAt_15 : decode cX1_jarAt 15 = .ok (.areturn, 1) := by decide +kernel
set_option maxRecDepth 20000 in
theorem dX1_numberOfMan_0 : decode cX1_numberOfMan 0 = .ok (.aload_n 1, 1) := by decide +kernel
theorem dX1_numberOfMan_1 : decode cX1_numberOfMan 1 = .ok (.aload_n 0, 1) := by decide +kernel
theorem dX1_numberOfMan_2 : decode cX1_numberOfMan 2 = .ok (.getfield 24, 3) := by decide +kernel
theorem dX1_numberOfMan_5 : decode cX1_numberOfMan 5 = .ok (.iload_n 2, 1) := by decide +kernel
theorem dX1_numberOfMan_6 : decode cX1_numberOfMan 6 = .ok (.invokevirtual 73, 3) := by decide +kernel
theorem dX1_numberOfMan_9 : decode cX1_numberOfMan 9 = .ok (.invokevirtual 77, 3) := by decide +kernel
theorem dX1_numberOfMan_12 : decode cX1_numberOfMan 12 = .ok (.ireturn, 1) := by decide +kernel
theorem dX1_isEven_0 : decode cX1_isEven 0 = .ok (.iload_n 0, 1) := by decide +kernel
theorem dX1_isEven_1 : decode cX1_isEven 1 = .ok (.iconst 2, 1) := by decide +kernel
theorem dX1_isEven_2 : decode cX1_isEven 2 = .ok (.irem, 1) := by decide +kernel
theorem dX1_isEven_3 : decode cX1_isEven 3 = .ok (.ifCond .ne 7, 3) := by decide +kernel
theorem dX1_isEven_6 : decode cX1_isEven 6 = .ok (.iconst 1, 1) := by decide +kernel
theorem dX1_isEven_7 : decode cX1_isEven 7 = .ok (.goto 4, 3) := by decide +kernel
theorem dX1_isEven_10 : decode cX1_isEven 10 = .ok (.iconst 0, 1) := by decide +kernel
theorem dX1_isEven_11 : decode cX1_isEven 11 = .ok (.ireturn, 1) := by decide +kernel
theorem dX1_isCalled_0 : decode cX1_isCalled 0 = .ok (.iload_n 1, 1) := by decide +kernel
theorem dX1_isCalled_1 : decode cX1_isCalled 1 = .ok (.aload_n 0, 1) := by decide +kernel
theorem dX1_isCalled_2 : decode cX1_isCalled 2 = .ok (.getfield 40, 3) := by decide +kernel
theorem dX1_isCalled_5 : decode cX1_isCalled 5 = .ok (.if_icmp .gt 7, 3) := by decide +kernel
theorem dX1_isCalled_8 : decode cX1_isCalled 8 = .ok (.iconst 1, 1) := by decide +kernel
theorem dX1_isCalled_9 : decode cX1_isCalled 9 = .ok (.goto 4, 3) := by decide +kernel
theorem dX1_isCalled_12 : decode cX1_isCalled 12 = .ok (.iconst 0, 1) := by decide +kernel
theorem dX1_isCalled_13 : decode cX1_isCalled 13 = .ok (.ireturn, 1) := by decide +kernel
set_option maxRecDepth 20000 in
theorem dX1_isCalledBy_0 : decode cX1_isCalledBy 0 = .ok (.aload_n 0, 1) := by decide +kernel
theorem dX1_isCalledBy_1 : decode cX1_isCalledBy 1 = .ok (.aload_n 0, 1) := by decide +kernel
theorem dX1_isCalledBy_2 : decode cX1_isCalledBy 2 = .ok (.aload_n 1, 1) := by decide +kernel
theorem dX1_isCalledBy_3 : decode cX1_isCalledBy 3 = .ok (.iload_n 2, 1) := by decide +kernel
theorem dX1_isCalledBy_4 : decode cX1_isCalledBy 4 = .ok (.invokevirtual 80, 3) := by decide +kernel
theorem dX1_isCalledBy_7 : decode cX1_isCalledBy 7 = .ok (.invokevirtual 84, 3) := by decide +kernel
theorem dX1_isCalledBy_10 : decode cX1_isCalledBy 10 = .ok (.ireturn, 1) := by decide +kernel
set_option maxRecDepth 20000 in
theorem dX1_serviceOf_0 : decode cX1_serviceOf 0 = .ok (.aload_n 0, 1) := by decide +kernel
theorem dX1_serviceOf_1 : decode cX1_serviceOf 1 = .ok (.aload_n 0, 1) := by decide +kernel
theorem dX1_serviceOf_2 : decode cX1_serviceOf 2 = .ok (.getfield 24, 3) := by decide +kernel
theorem dX1_serviceOf_5 : decode cX1_serviceOf 5 = .ok (.iload_n 2, 1) := by decide +kernel
theorem dX1_serviceOf_6 : decode cX1_serviceOf 6 = .ok (.invokevirtual 88, 3) := by decide +kernel
theorem dX1_serviceOf_9 : decode cX1_serviceOf 9 = .ok (.aload_n 0, 1) := by decide +kernel
theorem dX1_serviceOf_10 : decode cX1_serviceOf 10 = .ok (.aload_n 1, 1) := by decide +kernel
theorem dX1_serviceOf_11 : decode cX1_serviceOf 11 = .ok (.iload_n 2, 1) := by decide +kernel
theorem dX1_serviceOf_12 : decode cX1_serviceOf 12 = .ok (.invokevirtual 80, 3) := by decide +kernel
theorem dX1_serviceOf_15 : decode cX1_serviceOf 15 = .ok (.invokevirtual 91, 3) := by decide +kernel
theorem dX1_serviceOf_18 : decode cX1_serviceOf 18 = .ok (.ireturn, 1) := by decide +kernel
set_option maxRecDepth 20000 in
theorem dX1_serviceBy_0 : decode cX1_serviceBy 0 = .ok (.aload_n 0, 1) := by decide +kernel
theorem dX1_serviceBy_1 : decode cX1_serviceBy 1 = .ok (.iload_n 2, 1) := by decide +kernel
theorem dX1_serviceBy_2 : decode cX1_serviceBy 2 = .ok (.invokevirtual 84, 3) := by decide +kernel
theorem dX1_serviceBy_5 : decode cX1_serviceBy 5 = .ok (.istore_n 3, 1) := by decide +kernel
theorem dX1_serviceBy_6 : decode cX1_serviceBy 6 = .ok (.iload_n 1, 1) := by decide +kernel
theorem dX1_serviceBy_7 : decode cX1_serviceBy 7 = .ok (.tableswitch 86 0 5 #[37, 47, 86, 49, 59, 69], 37) := by decide +kernel
theorem dX1_serviceBy_44 : decode cX1_serviceBy 44 = .ok (.iload_n 3, 1) := by decide +kernel
theorem dX1_serviceBy_45 : decode cX1_serviceBy 45 = .ok (.ifCond .eq 7, 3) := by decide +kernel
theorem dX1_serviceBy_48 : decode cX1_serviceBy 48 = .ok (.iconst 1, 1) := by decide +kernel
theorem dX1_serviceBy_49 : decode cX1_serviceBy 49 = .ok (.goto 4, 3) := by decide +kernel
theorem dX1_serviceBy_52 : decode cX1_serviceBy 52 = .ok (.iconst 0, 1) := by decide +kernel
theorem dX1_serviceBy_53 : decode cX1_serviceBy 53 = .ok (.ireturn, 1) := by decide +kernel
theorem dX1_serviceBy_54 : decode cX1_serviceBy 54 = .ok (.iconst 1, 1) := by decide +kernel
theorem dX1_serviceBy_55 : decode cX1_serviceBy 55 = .ok (.ireturn, 1) := by decide +kernel
theorem dX1_serviceBy_56 : decode cX1_serviceBy 56 = .ok (.iload_n 3, 1) := by decide +kernel
theorem dX1_serviceBy_57 : decode cX1_serviceBy 57 = .ok (.ifCond .eq 7, 3) := by decide +kernel
theorem dX1_serviceBy_60 : decode cX1_serviceBy 60 = .ok (.iconst 3, 1) := by decide +kernel
theorem dX1_serviceBy_61 : decode cX1_serviceBy 61 = .ok (.goto 4, 3) := by decide +kernel
theorem dX1_serviceBy_64 : decode cX1_serviceBy 64 = .ok (.iconst 0, 1) := by decide +kernel
theorem dX1_serviceBy_65 : decode cX1_serviceBy 65 = .ok (.ireturn, 1) := by decide +kernel
theorem dX1_serviceBy_66 : decode cX1_serviceBy 66 = .ok (.iload_n 3, 1) := by decide +kernel
theorem dX1_serviceBy_67 : decode cX1_serviceBy 67 = .ok (.ifCond .eq 7, 3) := by decide +kernel
theorem dX1_serviceBy_70 : decode cX1_serviceBy 70 = .ok (.iconst 2, 1) := by decide +kernel
theorem dX1_serviceBy_71 : decode cX1_serviceBy 71 = .ok (.goto 4, 3) := by decide +kernel
theorem dX1_serviceBy_74 : decode cX1_serviceBy 74 = .ok (.iconst 1, 1) := by decide +kernel
theorem dX1_serviceBy_75 : decode cX1_serviceBy 75 = .ok (.ireturn, 1) := by decide +kernel
theorem dX1_serviceBy_76 : decode cX1_serviceBy 76 = .ok (.iload_n 3, 1) := by decide +kernel
theorem dX1_serviceBy_77 : decode cX1_serviceBy 77 = .ok (.ifCond .eq 14, 3) := by decide +kernel
theorem dX1_serviceBy_80 : decode cX1_serviceBy 80 = .ok (.iload_n 2, 1) := by decide +kernel
theorem dX1_serviceBy_81 : decode cX1_serviceBy 81 = .ok (.invokestatic 95, 3) := by decide +kernel
theorem dX1_serviceBy_84 : decode cX1_serviceBy 84 = .ok (.ifCond .eq 7, 3) := by decide +kernel
theorem dX1_serviceBy_87 : decode cX1_serviceBy 87 = .ok (.iconst 1, 1) := by decide +kernel
theorem dX1_serviceBy_88 : decode cX1_serviceBy 88 = .ok (.goto 4, 3) := by decide +kernel
theorem dX1_serviceBy_91 : decode cX1_serviceBy 91 = .ok (.iconst 0, 1) := by decide +kernel
theorem dX1_serviceBy_92 : decode cX1_serviceBy 92 = .ok (.ireturn, 1) := by decide +kernel
theorem dX1_serviceBy_93 : decode cX1_serviceBy 93 = .ok (.iconst 0, 1) := by decide +kernel
theorem dX1_serviceBy_94 : decode cX1_serviceBy 94 = .ok (.ireturn, 1) := by decide +kernel
set_option maxRecDepth 20000 in
theorem dX1_hasServed_0 : decode cX1_hasServed 0 = .ok (.aload_n 0, 1) := by decide +kernel
theorem dX1_hasServed_1 : decode cX1_hasServed 1 = .ok (.iload_n 1, 1) := by decide +kernel
theorem dX1_hasServed_2 : decode cX1_hasServed 2 = .ok (.iload_n 2, 1) := by decide +kernel
theorem dX1_hasServed_3 : decode cX1_hasServed 3 = .ok (.invokevirtual 91, 3) := by decide +kernel
theorem dX1_hasServed_6 : decode cX1_hasServed 6 = .ok (.istore_n 3, 1) := by decide +kernel
theorem dX1_hasServed_7 : decode cX1_hasServed 7 = .ok (.iload_n 3, 1) := by decide +kernel
theorem dX1_hasServed_8 : decode cX1_hasServed 8 = .ok (.iconst 1, 1) := by decide +kernel
theorem dX1_hasServed_9 : decode cX1_hasServed 9 = .ok (.if_icmp .eq 8, 3) := by decide +kernel
theorem dX1_hasServed_12 : decode cX1_hasServed 12 = .ok (.iload_n 3, 1) := by decide +kernel
theorem dX1_hasServed_13 : decode cX1_hasServed 13 = .ok (.iconst 2, 1) := by decide +kernel
theorem dX1_hasServed_14 : decode cX1_hasServed 14 = .ok (.if_icmp .ne 7, 3) := by decide +kernel
theorem dX1_hasServed_17 : decode cX1_hasServed 17 = .ok (.iconst 1, 1) := by decide +kernel
theorem dX1_hasServed_18 : decode cX1_hasServed 18 = .ok (.goto 4, 3) := by decide +kernel
theorem dX1_hasServed_21 : decode cX1_hasServed 21 = .ok (.iconst 0, 1) := by decide +kernel
theorem dX1_hasServed_22 : decode cX1_hasServed 22 = .ok (.ireturn, 1) := by decide +kernel
set_option maxRecDepth 20000 in
theorem dX1_menWhoServed_0 : decode cX1_menWhoServed 0 = .ok (.iconst 0, 1) := by decide +kernel
theorem dX1_menWhoServed_1 : decode cX1_menWhoServed 1 = .ok (.istore_n 2, 1) := by decide +kernel
theorem dX1_menWhoServed_2 : decode cX1_menWhoServed 2 = .ok (.iconst 0, 1) := by decide +kernel
theorem dX1_menWhoServed_3 : decode cX1_menWhoServed 3 = .ok (.istore_n 3, 1) := by decide +kernel
theorem dX1_menWhoServed_4 : decode cX1_menWhoServed 4 = .ok (.iload_n 3, 1) := by decide +kernel
theorem dX1_menWhoServed_5 : decode cX1_menWhoServed 5 = .ok (.aload_n 0, 1) := by decide +kernel
theorem dX1_menWhoServed_6 : decode cX1_menWhoServed 6 = .ok (.getfield 24, 3) := by decide +kernel
theorem dX1_menWhoServed_9 : decode cX1_menWhoServed 9 = .ok (.getfield 98, 3) := by decide +kernel
theorem dX1_menWhoServed_12 : decode cX1_menWhoServed 12 = .ok (.if_icmp .ge 33, 3) := by decide +kernel
theorem dX1_menWhoServed_15 : decode cX1_menWhoServed 15 = .ok (.aload_n 0, 1) := by decide +kernel
theorem dX1_menWhoServed_16 : decode cX1_menWhoServed 16 = .ok (.aload_n 0, 1) := by decide +kernel
theorem dX1_menWhoServed_17 : decode cX1_menWhoServed 17 = .ok (.getfield 24, 3) := by decide +kernel
theorem dX1_menWhoServed_20 : decode cX1_menWhoServed 20 = .ok (.iload_n 3, 1) := by decide +kernel
theorem dX1_menWhoServed_21 : decode cX1_menWhoServed 21 = .ok (.invokevirtual 88, 3) := by decide +kernel
theorem dX1_menWhoServed_24 : decode cX1_menWhoServed 24 = .ok (.aload_n 0, 1) := by decide +kernel
theorem dX1_menWhoServed_25 : decode cX1_menWhoServed 25 = .ok (.aload_n 1, 1) := by decide +kernel
theorem dX1_menWhoServed_26 : decode cX1_menWhoServed 26 = .ok (.iload_n 3, 1) := by decide +kernel
theorem dX1_menWhoServed_27 : decode cX1_menWhoServed 27 = .ok (.invokevirtual 80, 3) := by decide +kernel
theorem dX1_menWhoServed_30 : decode cX1_menWhoServed 30 = .ok (.invokevirtual 101, 3) := by decide +kernel
theorem dX1_menWhoServed_33 : decode cX1_menWhoServed 33 = .ok (.ifCond .eq 6, 3) := by decide +kernel
theorem dX1_menWhoServed_36 : decode cX1_menWhoServed 36 = .ok (.iinc 2 1, 3) := by decide +kernel
theorem dX1_menWhoServed_39 : decode cX1_menWhoServed 39 = .ok (.iinc 3 1, 3) := by decide +kernel
theorem dX1_menWhoServed_42 : decode cX1_menWhoServed 42 = .ok (.goto (-38), 3) := by decide +kernel
theorem dX1_menWhoServed_45 : decode cX1_menWhoServed 45 = .ok (.iload_n 2, 1) := by decide +kernel
theorem dX1_menWhoServed_46 : decode cX1_menWhoServed 46 = .ok (.ireturn, 1) := by decide +kernel
set_option maxRecDepth 20000 in
theorem dX1_lossLeft_0 : decode cX1_lossLeft 0 = .ok (.aload_n 0, 1) := by decide +kernel
theorem dX1_lossLeft_1 : decode cX1_lossLeft 1 = .ok (.getfield 37, 3) := by decide +kernel
theorem dX1_lossLeft_4 : decode cX1_lossLeft 4 = .ok (.iconst 1, 1) := by decide +kernel
theorem dX1_lossLeft_5 : decode cX1_lossLeft 5 = .ok (.invokestatic 105, 3) := by decide +kernel
theorem dX1_lossLeft_8 : decode cX1_lossLeft 8 = .ok (.iconst 0, 1) := by decide +kernel
theorem dX1_lossLeft_9 : decode cX1_lossLeft 9 = .ok (.bipush 100, 2) := by decide +kernel
theorem dX1_lossLeft_11 : decode cX1_lossLeft 11 = .ok (.aload_n 0, 1) := by decide +kernel
theorem dX1_lossLeft_12 : decode cX1_lossLeft 12 = .ok (.getfield 37, 3) := by decide +kernel
theorem dX1_lossLeft_15 : decode cX1_lossLeft 15 = .ok (.iconst 2, 1) := by decide +kernel
theorem dX1_lossLeft_16 : decode cX1_lossLeft 16 = .ok (.invokestatic 105, 3) := by decide +kernel
theorem dX1_lossLeft_19 : decode cX1_lossLeft 19 = .ok (.iload_n 1, 1) := by decide +kernel
theorem dX1_lossLeft_20 : decode cX1_lossLeft 20 = .ok (.imul, 1) := by decide +kernel
theorem dX1_lossLeft_21 : decode cX1_lossLeft 21 = .ok (.isub, 1) := by decide +kernel
theorem dX1_lossLeft_22 : decode cX1_lossLeft 22 = .ok (.invokestatic 109, 3) := by decide +kernel
theorem dX1_lossLeft_25 : decode cX1_lossLeft 25 = .ok (.imul, 1) := by decide +kernel
theorem dX1_lossLeft_26 : decode cX1_lossLeft 26 = .ok (.bipush 100, 2) := by decide +kernel
theorem dX1_lossLeft_28 : decode cX1_lossLeft 28 = .ok (.idiv, 1) := by decide +kernel
theorem dX1_lossLeft_29 : decode cX1_lossLeft 29 = .ok (.ireturn, 1) := by decide +kernel
set_option maxRecDepth 20000 in
theorem dX1_changeByService_0 : decode cX1_changeByService 0 = .ok (.iload_n 1, 1) := by decide +kernel
theorem dX1_changeByService_1 : decode cX1_changeByService 1 = .ok (.tableswitch 52 1 3 #[27, 34, 43], 27) := by decide +kernel
theorem dX1_changeByService_28 : decode cX1_changeByService 28 = .ok (.aload_n 0, 1) := by decide +kernel
theorem dX1_changeByService_29 : decode cX1_changeByService 29 = .ok (.iload_n 2, 1) := by decide +kernel
theorem dX1_changeByService_30 : decode cX1_changeByService 30 = .ok (.invokevirtual 114, 3) := by decide +kernel
theorem dX1_changeByService_33 : decode cX1_changeByService 33 = .ok (.ineg, 1) := by decide +kernel
theorem dX1_changeByService_34 : decode cX1_changeByService 34 = .ok (.ireturn, 1) := by decide +kernel
theorem dX1_changeByService_35 : decode cX1_changeByService 35 = .ok (.aload_n 0, 1) := by decide +kernel
theorem dX1_changeByService_36 : decode cX1_changeByService 36 = .ok (.iload_n 2, 1) := by decide +kernel
theorem dX1_changeByService_37 : decode cX1_changeByService 37 = .ok (.invokevirtual 114, 3) := by decide +kernel
theorem dX1_changeByService_40 : decode cX1_changeByService 40 = .ok (.iconst 2, 1) := by decide +kernel
theorem dX1_changeByService_41 : decode cX1_changeByService 41 = .ok (.idiv, 1) := by decide +kernel
theorem dX1_changeByService_42 : decode cX1_changeByService 42 = .ok (.ineg, 1) := by decide +kernel
theorem dX1_changeByService_43 : decode cX1_changeByService 43 = .ok (.ireturn, 1) := by decide +kernel
theorem dX1_changeByService_44 : decode cX1_changeByService 44 = .ok (.aload_n 0, 1) := by decide +kernel
theorem dX1_changeByService_45 : decode cX1_changeByService 45 = .ok (.getfield 37, 3) := by decide +kernel
theorem dX1_changeByService_48 : decode cX1_changeByService 48 = .ok (.iconst 3, 1) := by decide +kernel
theorem dX1_changeByService_49 : decode cX1_changeByService 49 = .ok (.invokestatic 105, 3) := by decide +kernel
theorem dX1_changeByService_52 : decode cX1_changeByService 52 = .ok (.ireturn, 1) := by decide +kernel
theorem dX1_changeByService_53 : decode cX1_changeByService 53 = .ok (.iconst 0, 1) := by decide +kernel
theorem dX1_changeByService_54 : decode cX1_changeByService 54 = .ok (.ireturn, 1) := by decide +kernel
set_option maxRecDepth 20000 in
theorem dX1_wageOf_0 : decode cX1_wageOf 0 = .ok (.aload_n 0, 1) := by decide +kernel
theorem dX1_wageOf_1 : decode cX1_wageOf 1 = .ok (.aload_n 1, 1) := by decide +kernel
theorem dX1_wageOf_2 : decode cX1_wageOf 2 = .ok (.iload_n 2, 1) := by decide +kernel
theorem dX1_wageOf_3 : decode cX1_wageOf 3 = .ok (.invokevirtual 80, 3) := by decide +kernel
theorem dX1_wageOf_6 : decode cX1_wageOf 6 = .ok (.istore 4, 2) := by decide +kernel
theorem dX1_wageOf_8 : decode cX1_wageOf 8 = .ok (.aload_n 0, 1) := by decide +kernel
theorem dX1_wageOf_9 : decode cX1_wageOf 9 = .ok (.getfield 24, 3) := by decide +kernel
theorem dX1_wageOf_12 : decode cX1_wageOf 12 = .ok (.iload_n 2, 1) := by decide +kernel
theorem dX1_wageOf_13 : decode cX1_wageOf 13 = .ok (.invokevirtual 117, 3) := by decide +kernel
theorem dX1_wageOf_16 : decode cX1_wageOf 16 = .ok (.aload_n 0, 1) := by decide +kernel
theorem dX1_wageOf_17 : decode cX1_wageOf 17 = .ok (.getfield 37, 3) := by decide +kernel
theorem dX1_wageOf_20 : decode cX1_wageOf 20 = .ok (.iconst 0, 1) := by decide +kernel
theorem dX1_wageOf_21 : decode cX1_wageOf 21 = .ok (.invokestatic 105, 3) := by decide +kernel
theorem dX1_wageOf_24 : decode cX1_wageOf 24 = .ok (.iload_n 3, 1) := by decide +kernel
theorem dX1_wageOf_25 : decode cX1_wageOf 25 = .ok (.imul, 1) := by decide +kernel
theorem dX1_wageOf_26 : decode cX1_wageOf 26 = .ok (.iadd, 1) := by decide +kernel
theorem dX1_wageOf_27 : decode cX1_wageOf 27 = .ok (.istore 5, 2) := by decide +kernel
theorem dX1_wageOf_29 : decode cX1_wageOf 29 = .ok (.aload_n 0, 1) := by decide +kernel
theorem dX1_wageOf_30 : decode cX1_wageOf 30 = .ok (.iload 4, 2) := by decide +kernel
theorem dX1_wageOf_32 : decode cX1_wageOf 32 = .ok (.invokevirtual 84, 3) := by decide +kernel
theorem dX1_wageOf_35 : decode cX1_wageOf 35 = .ok (.ifCond .eq 14, 3) := by decide +kernel
theorem dX1_wageOf_38 : decode cX1_wageOf 38 = .ok (.aload_n 0, 1) := by decide +kernel
theorem dX1_wageOf_39 : decode cX1_wageOf 39 = .ok (.getfield 37, 3) := by decide +kernel
theorem dX1_wageOf_42 : decode cX1_wageOf 42 = .ok (.iconst 4, 1) := by decide +kernel
theorem dX1_wageOf_43 : decode cX1_wageOf 43 = .ok (.invokestatic 105, 3) := by decide +kernel
theorem dX1_wageOf_46 : decode cX1_wageOf 46 = .ok (.goto 4, 3) := by decide +kernel
theorem dX1_wageOf_49 : decode cX1_wageOf 49 = .ok (.iconst 0, 1) := by decide +kernel
theorem dX1_wageOf_50 : decode cX1_wageOf 50 = .ok (.istore 6, 2) := by decide +kernel
theorem dX1_wageOf_52 : decode cX1_wageOf 52 = .ok (.iload 5, 2) := by decide +kernel
theorem dX1_wageOf_54 : decode cX1_wageOf 54 = .ok (.aload_n 0, 1) := by decide +kernel
theorem dX1_wageOf_55 : decode cX1_wageOf 55 = .ok (.aload_n 0, 1) := by decide +kernel
theorem dX1_wageOf_56 : decode cX1_wageOf 56 = .ok (.aload_n 0, 1) := by decide +kernel
theorem dX1_wageOf_57 : decode cX1_wageOf 57 = .ok (.getfield 24, 3) := by decide +kernel
theorem dX1_wageOf_60 : decode cX1_wageOf 60 = .ok (.iload_n 2, 1) := by decide +kernel
theorem dX1_wageOf_61 : decode cX1_wageOf 61 = .ok (.invokevirtual 88, 3) := by decide +kernel
theorem dX1_wageOf_64 : decode cX1_wageOf 64 = .ok (.iload 4, 2) := by decide +kernel
theorem dX1_wageOf_66 : decode cX1_wageOf 66 = .ok (.invokevirtual 91, 3) := by decide +kernel
theorem dX1_wageOf_69 : decode cX1_wageOf 69 = .ok (.iload_n 3, 1) := by decide +kernel
theorem dX1_wageOf_70 : decode cX1_wageOf 70 = .ok (.invokevirtual 120, 3) := by decide +kernel
theorem dX1_wageOf_73 : decode cX1_wageOf 73 = .ok (.iadd, 1) := by decide +kernel
theorem dX1_wageOf_74 : decode cX1_wageOf 74 = .ok (.iload 6, 2) := by decide +kernel
theorem dX1_wageOf_76 : decode cX1_wageOf 76 = .ok (.isub, 1) := by decide +kernel
theorem dX1_wageOf_77 : decode cX1_wageOf 77 = .ok (.ireturn, 1) := by decide +kernel
set_option maxRecDepth 20000 in
theorem dX1_findDoes_0 : decode cX1_findDoes 0 = .ok (.aload_n 0, 1) := by decide +kernel
theorem dX1_findDoes_1 : decode cX1_findDoes 1 = .ok (.getfield 50, 3) := by decide +kernel
theorem dX1_findDoes_4 : decode cX1_findDoes 4 = .ok (.invokevirtual 123, 3) := by decide +kernel
theorem dX1_findDoes_7 : decode cX1_findDoes 7 = .ok (.iconst 0, 1) := by decide +kernel
theorem dX1_findDoes_8 : decode cX1_findDoes 8 = .ok (.istore 4, 2) := by decide +kernel
theorem dX1_findDoes_10 : decode cX1_findDoes 10 = .ok (.iload 4, 2) := by decide +kernel
theorem dX1_findDoes_12 : decode cX1_findDoes 12 = .ok (.aload_n 0, 1) := by decide +kernel
theorem dX1_findDoes_13 : decode cX1_findDoes 13 = .ok (.getfield 24, 3) := by decide +kernel
theorem dX1_findDoes_16 : decode cX1_findDoes 16 = .ok (.getfield 98, 3) := by decide +kernel
theorem dX1_findDoes_19 : decode cX1_findDoes 19 = .ok (.if_icmp .ge 32, 3) := by decide +kernel
theorem dX1_findDoes_22 : decode cX1_findDoes 22 = .ok (.aload_n 0, 1) := by decide +kernel
theorem dX1_findDoes_23 : decode cX1_findDoes 23 = .ok (.getfield 50, 3) := by decide +kernel
theorem dX1_findDoes_26 : decode cX1_findDoes 26 = .ok (.aload_n 0, 1) := by decide +kernel
theorem dX1_findDoes_27 : decode cX1_findDoes 27 = .ok (.aload_n 1, 1) := by decide +kernel
theorem dX1_findDoes_28 : decode cX1_findDoes 28 = .ok (.iload 4, 2) := by decide +kernel
theorem dX1_findDoes_30 : decode cX1_findDoes 30 = .ok (.invokevirtual 126, 3) := by decide +kernel
theorem dX1_findDoes_33 : decode cX1_findDoes 33 = .ok (.aload_n 0, 1) := by decide +kernel
theorem dX1_findDoes_34 : decode cX1_findDoes 34 = .ok (.aload_n 1, 1) := by decide +kernel
theorem dX1_findDoes_35 : decode cX1_findDoes 35 = .ok (.iload 4, 2) := by decide +kernel
theorem dX1_findDoes_37 : decode cX1_findDoes 37 = .ok (.iload_n 2, 1) := by decide +kernel
theorem dX1_findDoes_38 : decode cX1_findDoes 38 = .ok (.invokevirtual 130, 3) := by decide +kernel
theorem dX1_findDoes_41 : decode cX1_findDoes 41 = .ok (.i2l, 1) := by decide +kernel
theorem dX1_findDoes_42 : decode cX1_findDoes 42 = .ok (.invokevirtual 134, 3) := by decide +kernel
theorem dX1_findDoes_45 : decode cX1_findDoes 45 = .ok (.iinc 4 1, 3) := by decide +kernel
theorem dX1_findDoes_48 : decode cX1_findDoes 48 = .ok (.goto (-38), 3) := by decide +kernel
theorem dX1_findDoes_51 : decode cX1_findDoes 51 = .ok (.aload_n 0, 1) := by decide +kernel
theorem dX1_findDoes_52 : decode cX1_findDoes 52 = .ok (.getfield 50, 3) := by decide +kernel
theorem dX1_findDoes_55 : decode cX1_findDoes 55 = .ok (.aload_n 3, 1) := by decide +kernel
theorem dX1_findDoes_56 : decode cX1_findDoes 56 = .ok (.invokevirtual 138, 3) := by decide +kernel
theorem dX1_findDoes_59 : decode cX1_findDoes 59 = .ok (.ireturn, 1) := by decide +kernel
set_option maxRecDepth 20000 in
theorem dX1_findShare_0 : decode cX1_findShare 0 = .ok (.aload_n 0, 1) := by decide +kernel
theorem dX1_findShare_1 : decode cX1_findShare 1 = .ok (.getfield 50, 3) := by decide +kernel
theorem dX1_findShare_4 : decode cX1_findShare 4 = .ok (.invokevirtual 123, 3) := by decide +kernel
theorem dX1_findShare_7 : decode cX1_findShare 7 = .ok (.iconst 0, 1) := by decide +kernel
theorem dX1_findShare_8 : decode cX1_findShare 8 = .ok (.istore_n 3, 1) := by decide +kernel
theorem dX1_findShare_9 : decode cX1_findShare 9 = .ok (.iload_n 3, 1) := by decide +kernel
theorem dX1_findShare_10 : decode cX1_findShare 10 = .ok (.aload_n 0, 1) := by decide +kernel
theorem dX1_findShare_11 : decode cX1_findShare 11 = .ok (.getfield 24, 3) := by decide +kernel
theorem dX1_findShare_14 : decode cX1_findShare 14 = .ok (.getfield 98, 3) := by decide +kernel
theorem dX1_findShare_17 : decode cX1_findShare 17 = .ok (.if_icmp .ge 52, 3) := by decide +kernel
theorem dX1_findShare_20 : decode cX1_findShare 20 = .ok (.aload_n 0, 1) := by decide +kernel
theorem dX1_findShare_21 : decode cX1_findShare 21 = .ok (.aload_n 1, 1) := by decide +kernel
theorem dX1_findShare_22 : decode cX1_findShare 22 = .ok (.iload_n 3, 1) := by decide +kernel
theorem dX1_findShare_23 : decode cX1_findShare 23 = .ok (.invokevirtual 80, 3) := by decide +kernel
theorem dX1_findShare_26 : decode cX1_findShare 26 = .ok (.istore 4, 2) := by decide +kernel
theorem dX1_findShare_28 : decode cX1_findShare 28 = .ok (.aload_n 0, 1) := by decide +kernel
theorem dX1_findShare_29 : decode cX1_findShare 29 = .ok (.getfield 50, 3) := by decide +kernel
theorem dX1_findShare_32 : decode cX1_findShare 32 = .ok (.aload_n 0, 1) := by decide +kernel
theorem dX1_findShare_33 : decode cX1_findShare 33 = .ok (.iload 4, 2) := by decide +kernel
theorem dX1_findShare_35 : decode cX1_findShare 35 = .ok (.invokevirtual 84, 3) := by decide +kernel
theorem dX1_findShare_38 : decode cX1_findShare 38 = .ok (.aload_n 0, 1) := by decide +kernel
theorem dX1_findShare_39 : decode cX1_findShare 39 = .ok (.aload_n 0, 1) := by decide +kernel
theorem dX1_findShare_40 : decode cX1_findShare 40 = .ok (.getfield 24, 3) := by decide +kernel
theorem dX1_findShare_43 : decode cX1_findShare 43 = .ok (.iload_n 3, 1) := by decide +kernel
theorem dX1_findShare_44 : decode cX1_findShare 44 = .ok (.invokevirtual 88, 3) := by decide +kernel
theorem dX1_findShare_47 : decode cX1_findShare 47 = .ok (.iload 4, 2) := by decide +kernel
theorem dX1_findShare_49 : decode cX1_findShare 49 = .ok (.invokevirtual 101, 3) := by decide +kernel
theorem dX1_findShare_52 : decode cX1_findShare 52 = .ok (.ifCond .eq 7, 3) := by decide +kernel
theorem dX1_findShare_55 : decode cX1_findShare 55 = .ok (.lconst 1, 1) := by decide +kernel
theorem dX1_findShare_56 : decode cX1_findShare 56 = .ok (.goto 4, 3) := by decide +kernel
theorem dX1_findShare_59 : decode cX1_findShare 59 = .ok (.lconst 0, 1) := by decide +kernel
theorem dX1_findShare_60 : decode cX1_findShare 60 = .ok (.invokevirtual 134, 3) := by decide +kernel
theorem dX1_findShare_63 : decode cX1_findShare 63 = .ok (.iinc 3 1, 3) := by decide +kernel
theorem dX1_findShare_66 : decode cX1_findShare 66 = .ok (.goto (-57), 3) := by decide +kernel
theorem dX1_findShare_69 : decode cX1_findShare 69 = .ok (.aload_n 0, 1) := by decide +kernel
theorem dX1_findShare_70 : decode cX1_findShare 70 = .ok (.getfield 50, 3) := by decide +kernel
theorem dX1_findShare_73 : decode cX1_findShare 73 = .ok (.aload_n 2, 1) := by decide +kernel
theorem dX1_findShare_74 : decode cX1_findShare 74 = .ok (.invokevirtual 138, 3) := by decide +kernel
theorem dX1_findShare_77 : decode cX1_findShare 77 = .ok (.ireturn, 1) := by decide +kernel
set_option maxRecDepth 20000 in
theorem dX1_findServing_0 : decode cX1_findServing 0 = .ok (.aload_n 0, 1) := by decide +kernel
theorem dX1_findServing_1 : decode cX1_findServing 1 = .ok (.aload_n 1, 1) := by decide +kernel
theorem dX1_findServing_2 : decode cX1_findServing 2 = .ok (.aload_n 0, 1) := by decide +kernel
theorem dX1_findServing_3 : decode cX1_findServing 3 = .ok (.getfield 57, 3) := by decide +kernel
theorem dX1_findServing_6 : decode cX1_findServing 6 = .ok (.invokevirtual 142, 3) := by decide +kernel
theorem dX1_findServing_9 : decode cX1_findServing 9 = .ok (.ifCond .eq 25, 3) := by decide +kernel
theorem dX1_findServing_12 : decode cX1_findServing 12 = .ok (.aload_n 0, 1) := by decide +kernel
theorem dX1_findServing_13 : decode cX1_findServing 13 = .ok (.getfield 57, 3) := by decide +kernel
theorem dX1_findServing_16 : decode cX1_findServing 16 = .ok (.getfield 146, 3) := by decide +kernel
theorem dX1_findServing_19 : decode cX1_findServing 19 = .ok (.lconst 0, 1) := by decide +kernel
theorem dX1_findServing_20 : decode cX1_findServing 20 = .ok (.lcmp, 1) := by decide +kernel
theorem dX1_findServing_21 : decode cX1_findServing 21 = .ok (.ifCond .eq 13, 3) := by decide +kernel
theorem dX1_findServing_24 : decode cX1_findServing 24 = .ok (.aload_n 0, 1) := by decide +kernel
theorem dX1_findServing_25 : decode cX1_findServing 25 = .ok (.aload_n 1, 1) := by decide +kernel
theorem dX1_findServing_26 : decode cX1_findServing 26 = .ok (.iload_n 2, 1) := by decide +kernel
theorem dX1_findServing_27 : decode cX1_findServing 27 = .ok (.aload_n 3, 1) := by decide +kernel
theorem dX1_findServing_28 : decode cX1_findServing 28 = .ok (.invokevirtual 150, 3) := by decide +kernel
theorem dX1_findServing_31 : decode cX1_findServing 31 = .ok (.ifCond .ne 5, 3) := by decide +kernel
theorem dX1_findServing_34 : decode cX1_findServing 34 = .ok (.iconst 0, 1) := by decide +kernel
theorem dX1_findServing_35 : decode cX1_findServing 35 = .ok (.ireturn, 1) := by decide +kernel
theorem dX1_findServing_36 : decode cX1_findServing 36 = .ok (.aload_n 3, 1) := by decide +kernel
theorem dX1_findServing_37 : decode cX1_findServing 37 = .ok (.aload_n 3, 1) := by decide +kernel
theorem dX1_findServing_38 : decode cX1_findServing 38 = .ok (.getfield 146, 3) := by decide +kernel
theorem dX1_findServing_41 : decode cX1_findServing 41 = .ok (.aload_n 0, 1) := by decide +kernel
theorem dX1_findServing_42 : decode cX1_findServing 42 = .ok (.getfield 57, 3) := by decide +kernel
theorem dX1_findServing_45 : decode cX1_findServing 45 = .ok (.getfield 154, 3) := by decide +kernel
theorem dX1_findServing_48 : decode cX1_findServing 48 = .ok (.lmul, 1) := by decide +kernel
theorem dX1_findServing_49 : decode cX1_findServing 49 = .ok (.aload_n 3, 1) := by decide +kernel
theorem dX1_findServing_50 : decode cX1_findServing 50 = .ok (.getfield 154, 3) := by decide +kernel
theorem dX1_findServing_53 : decode cX1_findServing 53 = .ok (.aload_n 0, 1) := by decide +kernel
theorem dX1_findServing_54 : decode cX1_findServing 54 = .ok (.getfield 57, 3) := by decide +kernel
theorem dX1_findServing_57 : decode cX1_findServing 57 = .ok (.getfield 146, 3) := by decide +kernel
theorem dX1_findServing_60 : decode cX1_findServing 60 = .ok (.lmul, 1) := by decide +kernel
theorem dX1_findServing_61 : decode cX1_findServing 61 = .ok (.invokevirtual 157, 3) := by decide +kernel
theorem dX1_findServing_64 : decode cX1_findServing 64 = .ok (.iconst 1, 1) := by decide +kernel
theorem dX1_findServing_65 : decode cX1_findServing 65 = .ok (.ireturn, 1) := by decide +kernel
set_option maxRecDepth 20000 in
theorem dX1_findTruly_0 : decode cX1_findTruly 0 = .ok (.aload_n 3, 1) := by decide +kernel
theorem dX1_findTruly_1 : decode cX1_findTruly 1 = .ok (.aload_n 0, 1) := by decide +kernel
theorem dX1_findTruly_2 : decode cX1_findTruly 2 = .ok (.iload_n 2, 1) := by decide +kernel
theorem dX1_findTruly_3 : decode cX1_findTruly 3 = .ok (.invokevirtual 114, 3) := by decide +kernel
theorem dX1_findTruly_6 : decode cX1_findTruly 6 = .ok (.ineg, 1) := by decide +kernel
theorem dX1_findTruly_7 : decode cX1_findTruly 7 = .ok (.aload_n 0, 1) := by decide +kernel
theorem dX1_findTruly_8 : decode cX1_findTruly 8 = .ok (.getfield 37, 3) := by decide +kernel
theorem dX1_findTruly_11 : decode cX1_findTruly 11 = .ok (.iconst 4, 1) := by decide +kernel
theorem dX1_findTruly_12 : decode cX1_findTruly 12 = .ok (.invokestatic 105, 3) := by decide +kernel
theorem dX1_findTruly_15 : decode cX1_findTruly 15 = .ok (.isub, 1) := by decide +kernel
theorem dX1_findTruly_16 : decode cX1_findTruly 16 = .ok (.i2l, 1) := by decide +kernel
theorem dX1_findTruly_17 : decode cX1_findTruly 17 = .ok (.lconst 1, 1) := by decide +kernel
theorem dX1_findTruly_18 : decode cX1_findTruly 18 = .ok (.invokevirtual 157, 3) := by decide +kernel
theorem dX1_findTruly_21 : decode cX1_findTruly 21 = .ok (.iconst 0, 1) := by decide +kernel
theorem dX1_findTruly_22 : decode cX1_findTruly 22 = .ok (.istore 4, 2) := by decide +kernel
theorem dX1_findTruly_24 : decode cX1_findTruly 24 = .ok (.iload 4, 2) := by decide +kernel
theorem dX1_findTruly_26 : decode cX1_findTruly 26 = .ok (.aload_n 0, 1) := by decide +kernel
theorem dX1_findTruly_27 : decode cX1_findTruly 27 = .ok (.getfield 24, 3) := by decide +kernel
theorem dX1_findTruly_30 : decode cX1_findTruly 30 = .ok (.getfield 98, 3) := by decide +kernel
theorem dX1_findTruly_33 : decode cX1_findTruly 33 = .ok (.if_icmp .ge 34, 3) := by decide +kernel
theorem dX1_findTruly_36 : decode cX1_findTruly 36 = .ok (.aload_n 0, 1) := by decide +kernel
theorem dX1_findTruly_37 : decode cX1_findTruly 37 = .ok (.aload_n 0, 1) := by decide +kernel
theorem dX1_findTruly_38 : decode cX1_findTruly 38 = .ok (.getfield 24, 3) := by decide +kernel
theorem dX1_findTruly_41 : decode cX1_findTruly 41 = .ok (.iload 4, 2) := by decide +kernel
theorem dX1_findTruly_43 : decode cX1_findTruly 43 = .ok (.invokevirtual 88, 3) := by decide +kernel
theorem dX1_findTruly_46 : decode cX1_findTruly 46 = .ok (.aload_n 0, 1) := by decide +kernel
theorem dX1_findTruly_47 : decode cX1_findTruly 47 = .ok (.aload_n 1, 1) := by decide +kernel
theorem dX1_findTruly_48 : decode cX1_findTruly 48 = .ok (.iload 4, 2) := by decide +kernel
theorem dX1_findTruly_50 : decode cX1_findTruly 50 = .ok (.invokevirtual 80, 3) := by decide +kernel
theorem dX1_findTruly_53 : decode cX1_findTruly 53 = .ok (.invokevirtual 161, 3) := by decide +kernel
theorem dX1_findTruly_56 : decode cX1_findTruly 56 = .ok (.ifCond .eq 5, 3) := by decide +kernel
theorem dX1_findTruly_59 : decode cX1_findTruly 59 = .ok (.iconst 1, 1) := by decide +kernel
theorem dX1_findTruly_60 : decode cX1_findTruly 60 = .ok (.ireturn, 1) := by decide +kernel
theorem dX1_findTruly_61 : decode cX1_findTruly 61 = .ok (.iinc 4 1, 3) := by decide +kernel
theorem dX1_findTruly_64 : decode cX1_findTruly 64 = .ok (.goto (-40), 3) := by decide +kernel
theorem dX1_findTruly_67 : decode cX1_findTruly 67 = .ok (.iconst 0, 1) := by decide +kernel
theorem dX1_findTruly_68 : decode cX1_findTruly 68 = .ok (.ireturn, 1) := by decide +kernel
set_option maxRecDepth 20000 in
theorem dX1_servesOnlyIfCalled_0 : decode cX1_servesOnlyIfCalled 0 = .ok (.iload_n 1, 1) := by decide +kernel
theorem dX1_servesOnlyIfCalled_1 : decode cX1_servesOnlyIfCalled 1 = .ok (.ifCond .eq 15, 3) := by decide +kernel
theorem dX1_servesOnlyIfCalled_4 : decode cX1_servesOnlyIfCalled 4 = .ok (.iload_n 1, 1) := by decide +kernel
theorem dX1_servesOnlyIfCalled_5 : decode cX1_servesOnlyIfCalled 5 = .ok (.iconst 5, 1) := by decide +kernel
theorem dX1_servesOnlyIfCalled_6 : decode cX1_servesOnlyIfCalled 6 = .ok (.if_icmp .ne 14, 3) := by decide +kernel
theorem dX1_servesOnlyIfCalled_9 : decode cX1_servesOnlyIfCalled 9 = .ok (.iload_n 2, 1) := by decide +kernel
theorem dX1_servesOnlyIfCalled_10 : decode cX1_servesOnlyIfCalled 10 = .ok (.invokestatic 95, 3) := by decide +kernel
theorem dX1_servesOnlyIfCalled_13 : decode cX1_servesOnlyIfCalled 13 = .ok (.ifCond .eq 7, 3) := by decide +kernel
theorem dX1_servesOnlyIfCalled_16 : decode cX1_servesOnlyIfCalled 16 = .ok (.iconst 1, 1) := by decide +kernel
theorem dX1_servesOnlyIfCalled_17 : decode cX1_servesOnlyIfCalled 17 = .ok (.goto 4, 3) := by decide +kernel
theorem dX1_servesOnlyIfCalled_20 : decode cX1_servesOnlyIfCalled 20 = .ok (.iconst 0, 1) := by decide +kernel
theorem dX1_servesOnlyIfCalled_21 : decode cX1_servesOnlyIfCalled 21 = .ok (.ireturn, 1) := by decide +kernel
set_option maxRecDepth 20000 in
theorem dX1_menOfMonth_0 : decode cX1_menOfMonth 0 = .ok (.iconst 0, 1) := by decide +kernel
theorem dX1_menOfMonth_1 : decode cX1_menOfMonth 1 = .ok (.istore_n 2, 1) := by decide +kernel
theorem dX1_menOfMonth_2 : decode cX1_menOfMonth 2 = .ok (.iconst 0, 1) := by decide +kernel
theorem dX1_menOfMonth_3 : decode cX1_menOfMonth 3 = .ok (.istore_n 3, 1) := by decide +kernel
theorem dX1_menOfMonth_4 : decode cX1_menOfMonth 4 = .ok (.iload_n 3, 1) := by decide +kernel
theorem dX1_menOfMonth_5 : decode cX1_menOfMonth 5 = .ok (.aload_n 0, 1) := by decide +kernel
theorem dX1_menOfMonth_6 : decode cX1_menOfMonth 6 = .ok (.getfield 24, 3) := by decide +kernel
theorem dX1_menOfMonth_9 : decode cX1_menOfMonth 9 = .ok (.getfield 98, 3) := by decide +kernel
theorem dX1_menOfMonth_12 : decode cX1_menOfMonth 12 = .ok (.if_icmp .ge 27, 3) := by decide +kernel
theorem dX1_menOfMonth_15 : decode cX1_menOfMonth 15 = .ok (.aload_n 0, 1) := by decide +kernel
theorem dX1_menOfMonth_16 : decode cX1_menOfMonth 16 = .ok (.getfield 24, 3) := by decide +kernel
theorem dX1_menOfMonth_19 : decode cX1_menOfMonth 19 = .ok (.iload_n 3, 1) := by decide +kernel
theorem dX1_menOfMonth_20 : decode cX1_menOfMonth 20 = .ok (.invokevirtual 73, 3) := by decide +kernel
theorem dX1_menOfMonth_23 : decode cX1_menOfMonth 23 = .ok (.invokestatic 164, 3) := by decide +kernel
theorem dX1_menOfMonth_26 : decode cX1_menOfMonth 26 = .ok (.iload_n 1, 1) := by decide +kernel
theorem dX1_menOfMonth_27 : decode cX1_menOfMonth 27 = .ok (.if_icmp .ne 6, 3) := by decide +kernel
theorem dX1_menOfMonth_30 : decode cX1_menOfMonth 30 = .ok (.iinc 2 1, 3) := by decide +kernel
theorem dX1_menOfMonth_33 : decode cX1_menOfMonth 33 = .ok (.iinc 3 1, 3) := by decide +kernel
theorem dX1_menOfMonth_36 : decode cX1_menOfMonth 36 = .ok (.goto (-32), 3) := by decide +kernel
theorem dX1_menOfMonth_39 : decode cX1_menOfMonth 39 = .ok (.iload_n 2, 1) := by decide +kernel
theorem dX1_menOfMonth_40 : decode cX1_menOfMonth 40 = .ok (.ireturn, 1) := by decide +kernel
set_option maxRecDepth 20000 in
theorem dX1_isShown_0 : decode cX1_isShown 0 = .ok (.aload_n 0, 1) := by decide +kernel
theorem dX1_isShown_1 : decode cX1_isShown 1 = .ok (.iload_n 1, 1) := by decide +kernel
theorem dX1_isShown_2 : decode cX1_isShown 2 = .ok (.invokevirtual 167, 3) := by decide +kernel
theorem dX1_isShown_5 : decode cX1_isShown 5 = .ok (.aload_n 0, 1) := by decide +kernel
theorem dX1_isShown_6 : decode cX1_isShown 6 = .ok (.getfield 44, 3) := by decide +kernel
theorem dX1_isShown_9 : decode cX1_isShown 9 = .ok (.if_icmp .lt 7, 3) := by decide +kernel
theorem dX1_isShown_12 : decode cX1_isShown 12 = .ok (.iconst 1, 1) := by decide +kernel
theorem dX1_isShown_13 : decode cX1_isShown 13 = .ok (.goto 4, 3) := by decide +kernel
theorem dX1_isShown_16 : decode cX1_isShown 16 = .ok (.iconst 0, 1) := by decide +kernel
theorem dX1_isShown_17 : decode cX1_isShown 17 = .ok (.ireturn, 1) := by decide +kernel
set_option maxRecDepth 20000 in
theorem dX1_findGroup_0 : decode cX1_findGroup 0 = .ok (.lconst 0, 1) := by decide +kernel
theorem dX1_findGroup_1 : decode cX1_findGroup 1 = .ok (.lstore 5, 2) := by decide +kernel
theorem dX1_findGroup_3 : decode cX1_findGroup 3 = .ok (.iconst 0, 1) := by decide +kernel
theorem dX1_findGroup_4 : decode cX1_findGroup 4 = .ok (.istore 7, 2) := by decide +kernel
theorem dX1_findGroup_6 : decode cX1_findGroup 6 = .ok (.iload 7, 2) := by decide +kernel
theorem dX1_findGroup_8 : decode cX1_findGroup 8 = .ok (.aload_n 0, 1) := by decide +kernel
theorem dX1_findGroup_9 : decode cX1_findGroup 9 = .ok (.getfield 24, 3) := by decide +kernel
theorem dX1_findGroup_12 : decode cX1_findGroup 12 = .ok (.getfield 98, 3) := by decide +kernel
theorem dX1_findGroup_15 : decode cX1_findGroup 15 = .ok (.if_icmp .ge 39, 3) := by decide +kernel
theorem dX1_findGroup_18 : decode cX1_findGroup 18 = .ok (.aload_n 0, 1) := by decide +kernel
theorem dX1_findGroup_19 : decode cX1_findGroup 19 = .ok (.getfield 24, 3) := by decide +kernel
theorem dX1_findGroup_22 : decode cX1_findGroup 22 = .ok (.iload 7, 2) := by decide +kernel
theorem dX1_findGroup_24 : decode cX1_findGroup 24 = .ok (.invokevirtual 73, 3) := by decide +kernel
theorem dX1_findGroup_27 : decode cX1_findGroup 27 = .ok (.invokestatic 164, 3) := by decide +kernel
theorem dX1_findGroup_30 : decode cX1_findGroup 30 = .ok (.iload_n 2, 1) := by decide +kernel
theorem dX1_findGroup_31 : decode cX1_findGroup 31 = .ok (.if_icmp .ne 17, 3) := by decide +kernel
theorem dX1_findGroup_34 : decode cX1_findGroup 34 = .ok (.lload 5, 2) := by decide +kernel
theorem dX1_findGroup_36 : decode cX1_findGroup 36 = .ok (.aload_n 0, 1) := by decide +kernel
theorem dX1_findGroup_37 : decode cX1_findGroup 37 = .ok (.aload_n 1, 1) := by decide +kernel
theorem dX1_findGroup_38 : decode cX1_findGroup 38 = .ok (.iload 7, 2) := by decide +kernel
theorem dX1_findGroup_40 : decode cX1_findGroup 40 = .ok (.iload_n 3, 1) := by decide +kernel
theorem dX1_findGroup_41 : decode cX1_findGroup 41 = .ok (.invokevirtual 130, 3) := by decide +kernel
theorem dX1_findGroup_44 : decode cX1_findGroup 44 = .ok (.i2l, 1) := by decide +kernel
theorem dX1_findGroup_45 : decode cX1_findGroup 45 = .ok (.ladd, 1) := by decide +kernel
theorem dX1_findGroup_46 : decode cX1_findGroup 46 = .ok (.lstore 5, 2) := by decide +kernel
theorem dX1_findGroup_48 : decode cX1_findGroup 48 = .ok (.iinc 7 1, 3) := by decide +kernel
theorem dX1_findGroup_51 : decode cX1_findGroup 51 = .ok (.goto (-45), 3) := by decide +kernel
theorem dX1_findGroup_54 : decode cX1_findGroup 54 = .ok (.aload 4, 2) := by decide +kernel
theorem dX1_findGroup_56 : decode cX1_findGroup 56 = .ok (.lload 5, 2) := by decide +kernel
theorem dX1_findGroup_58 : decode cX1_findGroup 58 = .ok (.aload_n 0, 1) := by decide +kernel
theorem dX1_findGroup_59 : decode cX1_findGroup 59 = .ok (.iload_n 2, 1) := by decide +kernel
theorem dX1_findGroup_60 : decode cX1_findGroup 60 = .ok (.invokevirtual 167, 3) := by decide +kernel
theorem dX1_findGroup_63 : decode cX1_findGroup 63 = .ok (.i2l, 1) := by decide +kernel
theorem dX1_findGroup_64 : decode cX1_findGroup 64 = .ok (.invokevirtual 157, 3) := by decide +kernel
theorem dX1_findGroup_67 : decode cX1_findGroup 67 = .ok (.return_, 1) := by decide +kernel
set_option maxRecDepth 20000 in
theorem dX1_menWithNumberUpTo_0 : decode cX1_menWithNumberUpTo 0 = .ok (.iconst 0, 1) := by decide +kernel
theorem dX1_menWithNumberUpTo_1 : decode cX1_menWithNumberUpTo 1 = .ok (.istore_n 3, 1) := by decide +kernel
theorem dX1_menWithNumberUpTo_2 : decode cX1_menWithNumberUpTo 2 = .ok (.iconst 0, 1) := by decide +kernel
theorem dX1_menWithNumberUpTo_3 : decode cX1_menWithNumberUpTo 3 = .ok (.istore 4, 2) := by decide +kernel
theorem dX1_menWithNumberUpTo_5 : decode cX1_menWithNumberUpTo 5 = .ok (.iload 4, 2) := by decide +kernel
theorem dX1_menWithNumberUpTo_7 : decode cX1_menWithNumberUpTo 7 = .ok (.aload_n 0, 1) := by decide +kernel
theorem dX1_menWithNumberUpTo_8 : decode cX1_menWithNumberUpTo 8 = .ok (.getfield 24, 3) := by decide +kernel
theorem dX1_menWithNumberUpTo_11 : decode cX1_menWithNumberUpTo 11 = .ok (.getfield 98, 3) := by decide +kernel
theorem dX1_menWithNumberUpTo_14 : decode cX1_menWithNumberUpTo 14 = .ok (.if_icmp .ge 23, 3) := by decide +kernel
theorem dX1_menWithNumberUpTo_17 : decode cX1_menWithNumberUpTo 17 = .ok (.aload_n 0, 1) := by decide +kernel
theorem dX1_menWithNumberUpTo_18 : decode cX1_menWithNumberUpTo 18 = .ok (.aload_n 1, 1) := by decide +kernel
theorem dX1_menWithNumberUpTo_19 : decode cX1_menWithNumberUpTo 19 = .ok (.iload 4, 2) := by decide +kernel
theorem dX1_menWithNumberUpTo_21 : decode cX1_menWithNumberUpTo 21 = .ok (.invokevirtual 80, 3) := by decide +kernel
theorem dX1_menWithNumberUpTo_24 : decode cX1_menWithNumberUpTo 24 = .ok (.iload_n 2, 1) := by decide +kernel
theorem dX1_menWithNumberUpTo_25 : decode cX1_menWithNumberUpTo 25 = .ok (.if_icmp .gt 6, 3) := by decide +kernel
theorem dX1_menWithNumberUpTo_28 : decode cX1_menWithNumberUpTo 28 = .ok (.iinc 3 1, 3) := by decide +kernel
theorem dX1_menWithNumberUpTo_31 : decode cX1_menWithNumberUpTo 31 = .ok (.iinc 4 1, 3) := by decide +kernel
theorem dX1_menWithNumberUpTo_34 : decode cX1_menWithNumberUpTo 34 = .ok (.goto (-29), 3) := by decide +kernel
theorem dX1_menWithNumberUpTo_37 : decode cX1_menWithNumberUpTo 37 = .ok (.iload_n 3, 1) := by decide +kernel
theorem dX1_menWithNumberUpTo_38 : decode cX1_menWithNumberUpTo 38 = .ok (.ireturn, 1) := by decide +kernel
set_option maxRecDepth 20000 in
theorem dX1_leastCutFor_0 : decode cX1_leastCutFor 0 = .ok (.iload_n 2, 1) := by decide +kernel
