theorem d_D_init_0 : decode c_D_init 0 = .ok (.aload_n 0, 1) := by decide +kernel
theorem d_D_init_1 : decode c_D_init 1 = .ok (.invokespecial 3, 3) := by decide +kernel
theorem d_D_init_4 : decode c_D_init 4 = .ok (.aload_n 0, 1) := by decide +kernel
theorem d_D_init_5 : decode c_D_init 5 = .ok (.sipush 984, 3) := by decide +kernel
theorem d_D_init_8 : decode c_D_init 8 = .ok (.newarray .int, 2) := by decide +kernel
theorem d_D_init_10 : decode c_D_init 10 = .ok (.putfield 9, 3) := by decide +kernel
theorem d_D_init_13 : decode c_D_init 13 = .ok (.aload_n 0, 1) := by decide +kernel
theorem d_D_init_14 : decode c_D_init 14 = .ok (.bipush 123, 2) := by decide +kernel
theorem d_D_init_16 : decode c_D_init 16 = .ok (.newarray .int, 2) := by decide +kernel
theorem d_D_init_18 : decode c_D_init 18 = .ok (.putfield 15, 3) := by decide +kernel
theorem d_D_init_21 : decode c_D_init 21 = .ok (.aload_n 0, 1) := by decide +kernel
theorem d_D_init_22 : decode c_D_init 22 = .ok (.bipush 41, 2) := by decide +kernel
theorem d_D_init_24 : decode c_D_init 24 = .ok (.newarray .int, 2) := by decide +kernel
theorem d_D_init_26 : decode c_D_init 26 = .ok (.putfield 18, 3) := by decide +kernel
theorem d_D_init_29 : decode c_D_init 29 = .ok (.aload_n 0, 1) := by decide +kernel
theorem d_D_init_30 : decode c_D_init 30 = .ok (.bipush 41, 2) := by decide +kernel
theorem d_D_init_32 : decode c_D_init 32 = .ok (.newarray .int, 2) := by decide +kernel
theorem d_D_init_34 : decode c_D_init 34 = .ok (.putfield 21, 3) := by decide +kernel
theorem d_D_init_37 : decode c_D_init 37 = .ok (.aload_n 0, 1) := by decide +kernel
theorem d_D_init_38 : decode c_D_init 38 = .ok (.iconst 0, 1) := by decide +kernel
theorem d_D_init_39 : decode c_D_init 39 = .ok (.putfield 24, 3) := by decide +kernel
theorem d_D_init_42 : decode c_D_init 42 = .ok (.return_, 1) := by decide +kernel
theorem d_F_init_0 : decode c_F_init 0 = .ok (.aload_n 0, 1) := by decide +kernel
theorem d_F_init_1 : decode c_F_init 1 = .ok (.invokespecial 3, 3) := by decide +kernel
theorem d_F_init_4 : decode c_F_init 4 = .ok (.aload_n 0, 1) := by decide +kernel
theorem d_F_init_5 : decode c_F_init 5 = .ok (.iconst 5, 1) := by decide +kernel
theorem d_F_init_6 : decode c_F_init 6 = .ok (.newarray .int, 2) := by decide +kernel
theorem d_F_init_8 : decode c_F_init 8 = .ok (.putfield 9, 3) := by decide +kernel
theorem d_F_init_11 : decode c_F_init 11 = .ok (.aload_n 0, 1) := by decide +kernel
theorem d_F_init_12 : decode c_F_init 12 = .ok (.iconst 5, 1) := by decide +kernel
theorem d_F_init_13 : decode c_F_init 13 = .ok (.newarray .int, 2) := by decide +kernel
theorem d_F_init_15 : decode c_F_init 15 = .ok (.putfield 15, 3) := by decide +kernel
theorem d_F_init_18 : decode c_F_init 18 = .ok (.aload_n 0, 1) := by decide +kernel
theorem d_F_init_19 : decode c_F_init 19 = .ok (.iconst 5, 1) := by decide +kernel
theorem d_F_init_20 : decode c_F_init 20 = .ok (.newarray .long, 2) := by decide +kernel
theorem d_F_init_22 : decode c_F_init 22 = .ok (.putfield 18, 3) := by decide +kernel
theorem d_F_init_25 : decode c_F_init 25 = .ok (.aload_n 0, 1) := by decide +kernel
theorem d_F_init_26 : decode c_F_init 26 = .ok (.iconst 0, 1) := by decide +kernel
theorem d_F_init_27 : decode c_F_init 27 = .ok (.putfield 22, 3) := by decide +kernel
theorem d_F_init_30 : decode c_F_init 30 = .ok (.aload_n 0, 1) := by decide +kernel
theorem d_F_init_31 : decode c_F_init 31 = .ok (.iconst 0, 1) := by decide +kernel
theorem d_F_init_32 : decode c_F_init 32 = .ok (.putfield 26, 3) := by decide +kernel
theorem d_F_init_35 : decode c_F_init 35 = .ok (.aload_n 0, 1) := by decide +kernel
theorem d_F_init_36 : decode c_F_init 36 = .ok (.iconst 0, 1) := by decide +kernel
theorem d_F_init_37 : decode c_F_init 37 = .ok (.putfield 29, 3) := by decide +kernel
theorem d_F_init_40 : decode c_F_init 40 = .ok (.return_, 1) := by decide +kernel
theorem d_Q_init_0 : decode c_Q_init 0 = .ok (.aload_n 0, 1) := by decide +kernel
theorem d_Q_init_1 : decode c_Q_init 1 = .ok (.invokespecial 3, 3) := by decide +kernel
theorem d_Q_init_4 : decode c_Q_init 4 = .ok (.aload_n 0, 1) := by decide +kernel
theorem d_Q_init_5 : decode c_Q_init 5 = .ok (.bipush 6, 2) := by decide +kernel
theorem d_Q_init_7 : decode c_Q_init 7 = .ok (.newarray .int, 2) := by decide +kernel
theorem d_Q_init_9 : decode c_Q_init 9 = .ok (.putfield 9, 3) := by decide +kernel
theorem d_Q_init_12 : decode c_Q_init 12 = .ok (.aload_n 0, 1) := by decide +kernel
theorem d_Q_init_13 : decode c_Q_init 13 = .ok (.bipush 6, 2) := by decide +kernel
theorem d_Q_init_15 : decode c_Q_init 15 = .ok (.newarray .int, 2) := by decide +kernel
theorem d_Q_init_17 : decode c_Q_init 17 = .ok (.putfield 15, 3) := by decide +kernel
theorem d_Q_init_20 : decode c_Q_init 20 = .ok (.aload_n 0, 1) := by decide +kernel
theorem d_Q_init_21 : decode c_Q_init 21 = .ok (.bipush 6, 2) := by decide +kernel
theorem d_Q_init_23 : decode c_Q_init 23 = .ok (.newarray .int, 2) := by decide +kernel
theorem d_Q_init_25 : decode c_Q_init 25 = .ok (.putfield 18, 3) := by decide +kernel
theorem d_Q_init_28 : decode c_Q_init 28 = .ok (.aload_n 0, 1) := by decide +kernel
theorem d_Q_init_29 : decode c_Q_init 29 = .ok (.bipush 6, 2) := by decide +kernel
theorem d_Q_init_31 : decode c_Q_init 31 = .ok (.newarray .float, 2) := by decide +kernel
theorem d_Q_init_33 : decode c_Q_init 33 = .ok (.putfield 21, 3) := by decide +kernel
theorem d_Q_init_36 : decode c_Q_init 36 = .ok (.aload_n 0, 1) := by decide +kernel
theorem d_Q_init_37 : decode c_Q_init 37 = .ok (.bipush 6, 2) := by decide +kernel
theorem d_Q_init_39 : decode c_Q_init 39 = .ok (.newarray .boolean, 2) := by decide +kernel
theorem d_Q_init_41 : decode c_Q_init 41 = .ok (.putfield 25, 3) := by decide +kernel
theorem d_Q_init_44 : decode c_Q_init 44 = .ok (.aload_n 0, 1) := by decide +kernel
theorem d_Q_init_45 : decode c_Q_init 45 = .ok (.iconst 0, 1) := by decide +kernel
theorem d_Q_init_46 : decode c_Q_init 46 = .ok (.putfield 29, 3) := by decide +kernel
theorem d_Q_init_49 : decode c_Q_init 49 = .ok (.aload_n 0, 1) := by decide +kernel
theorem d_Q_init_50 : decode c_Q_init 50 = .ok (.iconst 0, 1) := by decide +kernel
theorem d_Q_init_51 : decode c_Q_init 51 = .ok (.putfield 33, 3) := by decide +kernel
theorem d_Q_init_54 : decode c_Q_init 54 = .ok (.return_, 1) := by decide +kernel
theorem d_H_init_0 : decode c_H_init 0 = .ok (.aload_n 0, 1) := by decide +kernel
theorem d_H_init_1 : decode c_H_init 1 = .ok (.invokespecial 3, 3) := by decide +kernel
theorem d_H_init_4 : decode c_H_init 4 = .ok (.aload_n 0, 1) := by decide +kernel
theorem d_H_init_5 : decode c_H_init 5 = .ok (.bipush 8, 2) := by decide +kernel
theorem d_H_init_7 : decode c_H_init 7 = .ok (.newarray .int, 2) := by decide +kernel
theorem d_H_init_9 : decode c_H_init 9 = .ok (.putfield 9, 3) := by decide +kernel
theorem d_H_init_12 : decode c_H_init 12 = .ok (.aload_n 0, 1) := by decide +kernel
theorem d_H_init_13 : decode c_H_init 13 = .ok (.bipush 8, 2) := by decide +kernel
theorem d_H_init_15 : decode c_H_init 15 = .ok (.newarray .float, 2) := by decide +kernel
theorem d_H_init_17 : decode c_H_init 17 = .ok (.putfield 15, 3) := by decide +kernel
theorem d_H_init_20 : decode c_H_init 20 = .ok (.aload_n 0, 1) := by decide +kernel
theorem d_H_init_21 : decode c_H_init 21 = .ok (.iconst 0, 1) := by decide +kernel
theorem d_H_init_22 : decode c_H_init 22 = .ok (.putfield 19, 3) := by decide +kernel
theorem d_H_init_25 : decode c_H_init 25 = .ok (.aload_n 0, 1) := by decide +kernel
theorem d_H_init_26 : decode c_H_init 26 = .ok (.iconst 0, 1) := by decide +kernel
theorem d_H_init_27 : decode c_H_init 27 = .ok (.putfield 23, 3) := by decide +kernel
theorem d_H_init_30 : decode c_H_init 30 = .ok (.return_, 1) := by decide +kernel
theorem d_V_init_0 : decode c_V_init 0 = .ok (.aload_n 0, 1) := by decide +kernel
theorem d_V_init_1 : decode c_V_init 1 = .ok (.invokespecial 1, 3) := by decide +kernel
theorem d_V_init_4 : decode c_V_init 4 = .ok (.aload_n 0, 1) := by decide +kernel
theorem d_V_init_5 : decode c_V_init 5 = .ok (.new 7, 3) := by decide +kernel
theorem d_V_init_8 : decode c_V_init 8 = .ok (.dup, 1) := by decide +kernel
theorem d_V_init_9 : decode c_V_init 9 = .ok (.invokespecial 9, 3) := by decide +kernel
theorem d_V_init_12 : decode c_V_init 12 = .ok (.putfield 10, 3) := by decide +kernel
theorem d_V_init_15 : decode c_V_init 15 = .ok (.aload_n 0, 1) := by decide +kernel
theorem d_V_init_16 : decode c_V_init 16 = .ok (.new 16, 3) := by decide +kernel
theorem d_V_init_19 : decode c_V_init 19 = .ok (.dup, 1) := by decide +kernel
theorem d_V_init_20 : decode c_V_init 20 = .ok (.invokespecial 18, 3) := by decide +kernel
theorem d_V_init_23 : decode c_V_init 23 = .ok (.putfield 19, 3) := by decide +kernel
theorem d_V_init_26 : decode c_V_init 26 = .ok (.aload_n 0, 1) := by decide +kernel
theorem d_V_init_27 : decode c_V_init 27 = .ok (.lconst 0, 1) := by decide +kernel
theorem d_V_init_28 : decode c_V_init 28 = .ok (.putfield 23, 3) := by decide +kernel
theorem d_V_init_31 : decode c_V_init 31 = .ok (.return_, 1) := by decide +kernel
theorem d_R_init_0 : decode c_R_init 0 = .ok (.aload_n 0, 1) := by decide +kernel
theorem d_R_init_1 : decode c_R_init 1 = .ok (.invokespecial 3, 3) := by decide +kernel
theorem d_R_init_4 : decode c_R_init 4 = .ok (.aload_n 0, 1) := by decide +kernel
theorem d_R_init_5 : decode c_R_init 5 = .ok (.bipush 16, 2) := by decide +kernel
theorem d_R_init_7 : decode c_R_init 7 = .ok (.newarray .int, 2) := by decide +kernel
theorem d_R_init_9 : decode c_R_init 9 = .ok (.putfield 9, 3) := by decide +kernel
theorem d_R_init_12 : decode c_R_init 12 = .ok (.aload_n 0, 1) := by decide +kernel
theorem d_R_init_13 : decode c_R_init 13 = .ok (.iconst 3, 1) := by decide +kernel
theorem d_R_init_14 : decode c_R_init 14 = .ok (.newarray .int, 2) := by decide +kernel
theorem d_R_init_16 : decode c_R_init 16 = .ok (.putfield 15, 3) := by decide +kernel
theorem d_R_init_19 : decode c_R_init 19 = .ok (.aload_n 0, 1) := by decide +kernel
theorem d_R_init_20 : decode c_R_init 20 = .ok (.bipush 8, 2) := by decide +kernel
theorem d_R_init_22 : decode c_R_init 22 = .ok (.newarray .int, 2) := by decide +kernel
theorem d_R_init_24 : decode c_R_init 24 = .ok (.putfield 18, 3) := by decide +kernel
theorem d_R_init_27 : decode c_R_init 27 = .ok (.return_, 1) := by decide +kernel
theorem d_S_init_0 : decode c_S_init 0 = .ok (.aload_n 0, 1) := by decide +kernel
theorem d_S_init_1 : decode c_S_init 1 = .ok (.invokespecial 3, 3) := by decide +kernel
theorem d_S_init_4 : decode c_S_init 4 = .ok (.aload_n 0, 1) := by decide +kernel
theorem d_S_init_5 : decode c_S_init 5 = .ok (.bipush 6, 2) := by decide +kernel
theorem d_S_init_7 : decode c_S_init 7 = .ok (.newarray .int, 2) := by decide +kernel
theorem d_S_init_9 : decode c_S_init 9 = .ok (.putfield 9, 3) := by decide +kernel
theorem d_S_init_12 : decode c_S_init 12 = .ok (.aload_n 0, 1) := by decide +kernel
theorem d_S_init_13 : decode c_S_init 13 = .ok (.bipush 6, 2) := by decide +kernel
theorem d_S_init_15 : decode c_S_init 15 = .ok (.newarray .long, 2) := by decide +kernel
theorem d_S_init_17 : decode c_S_init 17 = .ok (.putfield 15, 3) := by decide +kernel
theorem d_S_init_20 : decode c_S_init 20 = .ok (.aload_n 0, 1) := by decide +kernel
theorem d_S_init_21 : decode c_S_init 21 = .ok (.iconst 0, 1) := by decide +kernel
theorem d_S_init_22 : decode c_S_init 22 = .ok (.putfield 19, 3) := by decide +kernel
theorem d_S_init_25 : decode c_S_init 25 = .ok (.return_, 1) := by decide +kernel
theorem d_S_allIds_0 : decode c_S_allIds 0 = .ok (.lconst 0, 1) := by decide +kernel
theorem d_S_allIds_1 : decode c_S_allIds 1 = .ok (.lstore_n 1, 1) := by decide +kernel
theorem d_S_allIds_2 : decode c_S_allIds 2 = .ok (.iconst 0, 1) := by decide +kernel
theorem d_S_allIds_3 : decode c_S_allIds 3 = .ok (.istore_n 3, 1) := by decide +kernel
theorem d_S_allIds_4 : decode c_S_allIds 4 = .ok (.iload_n 3, 1) := by decide +kernel
theorem d_S_allIds_5 : decode c_S_allIds 5 = .ok (.aload_n 0, 1) := by decide +kernel
theorem d_S_allIds_6 : decode c_S_allIds 6 = .ok (.getfield 19, 3) := by decide +kernel
theorem d_S_allIds_9 : decode c_S_allIds 9 = .ok (.if_icmp .ge 18, 3) := by decide +kernel
theorem d_S_allIds_12 : decode c_S_allIds 12 = .ok (.lload_n 1, 1) := by decide +kernel
theorem d_S_allIds_13 : decode c_S_allIds 13 = .ok (.aload_n 0, 1) := by decide +kernel
theorem d_S_allIds_14 : decode c_S_allIds 14 = .ok (.getfield 15, 3) := by decide +kernel
theorem d_S_allIds_17 : decode c_S_allIds 17 = .ok (.iload_n 3, 1) := by decide +kernel
theorem d_S_allIds_18 : decode c_S_allIds 18 = .ok (.laload, 1) := by decide +kernel
theorem d_S_allIds_19 : decode c_S_allIds 19 = .ok (.lor, 1) := by decide +kernel
theorem d_S_allIds_20 : decode c_S_allIds 20 = .ok (.lstore_n 1, 1) := by decide +kernel
theorem d_S_allIds_21 : decode c_S_allIds 21 = .ok (.iinc 3 1, 3) := by decide +kernel
theorem d_S_allIds_24 : decode c_S_allIds 24 = .ok (.goto (-20), 3) := by decide +kernel
theorem d_S_allIds_27 : decode c_S_allIds 27 = .ok (.lload_n 1, 1) := by decide +kernel
theorem d_S_allIds_28 : decode c_S_allIds 28 = .ok (.lreturn, 1) := by decide +kernel
theorem d_S_append_0 : decode c_S_append 0 = .ok (.aload_n 0, 1) := by decide +kernel
theorem d_S_append_1 : decode c_S_append 1 = .ok (.getfield 9, 3) := by decide +kernel
theorem d_S_append_4 : decode c_S_append 4 = .ok (.aload_n 0, 1) := by decide +kernel
theorem d_S_append_5 : decode c_S_append 5 = .ok (.getfield 19, 3) := by decide +kernel
theorem d_S_append_8 : decode c_S_append 8 = .ok (.iload_n 1, 1) := by decide +kernel
theorem d_S_append_9 : decode c_S_append 9 = .ok (.iastore, 1) := by decide +kernel
theorem d_S_append_10 : decode c_S_append 10 = .ok (.aload_n 0, 1) := by decide +kernel
theorem d_S_append_11 : decode c_S_append 11 = .ok (.getfield 15, 3) := by decide +kernel
theorem d_S_append_14 : decode c_S_append 14 = .ok (.aload_n 0, 1) := by decide +kernel
theorem d_S_append_15 : decode c_S_append 15 = .ok (.getfield 19, 3) := by decide +kernel
theorem d_S_append_18 : decode c_S_append 18 = .ok (.lload_n 2, 1) := by decide +kernel
theorem d_S_append_19 : decode c_S_append 19 = .ok (.lastore, 1) := by decide +kernel
theorem d_S_append_20 : decode c_S_append 20 = .ok (.aload_n 0, 1) := by decide +kernel
theorem d_S_append_21 : decode c_S_append 21 = .ok (.dup, 1) := by decide +kernel
theorem d_S_append_22 : decode c_S_append 22 = .ok (.getfield 19, 3) := by decide +kernel
theorem d_S_append_25 : decode c_S_append 25 = .ok (.iconst 1, 1) := by decide +kernel
theorem d_S_append_26 : decode c_S_append 26 = .ok (.iadd, 1) := by decide +kernel
theorem d_S_append_27 : decode c_S_append 27 = .ok (.putfield 19, 3) := by decide +kernel
theorem d_S_append_30 : decode c_S_append 30 = .ok (.return_, 1) := by decide +kernel
theorem d_J_bitCount_0 : decode c_J_bitCount 0 = .ok (.lload_n 0, 1) := by decide +kernel
theorem d_J_bitCount_1 : decode c_J_bitCount 1 = .ok (.lload_n 0, 1) := by decide +kernel
theorem d_J_bitCount_2 : decode c_J_bitCount 2 = .ok (.iconst 1, 1) := by decide +kernel
theorem d_J_bitCount_3 : decode c_J_bitCount 3 = .ok (.lushr, 1) := by decide +kernel
theorem d_J_bitCount_4 : decode c_J_bitCount 4 = .ok (.ldc2_w 314, 3) := by decide +kernel
theorem d_J_bitCount_7 : decode c_J_bitCount 7 = .ok (.land, 1) := by decide +kernel
theorem d_J_bitCount_8 : decode c_J_bitCount 8 = .ok (.lsub, 1) := by decide +kernel
theorem d_J_bitCount_9 : decode c_J_bitCount 9 = .ok (.lstore_n 0, 1) := by decide +kernel
theorem d_J_bitCount_10 : decode c_J_bitCount 10 = .ok (.lload_n 0, 1) := by decide +kernel
theorem d_J_bitCount_11 : decode c_J_bitCount 11 = .ok (.ldc2_w 316, 3) := by decide +kernel
theorem d_J_bitCount_14 : decode c_J_bitCount 14 = .ok (.land, 1) := by decide +kernel
theorem d_J_bitCount_15 : decode c_J_bitCount 15 = .ok (.lload_n 0, 1) := by decide +kernel
theorem d_J_bitCount_16 : decode c_J_bitCount 16 = .ok (.iconst 2, 1) := by decide +kernel
theorem d_J_bitCount_17 : decode c_J_bitCount 17 = .ok (.lushr, 1) := by decide +kernel
theorem d_J_bitCount_18 : decode c_J_bitCount 18 = .ok (.ldc2_w 316, 3) := by decide +kernel
theorem d_J_bitCount_21 : decode c_J_bitCount 21 = .ok (.land, 1) := by decide +kernel
theorem d_J_bitCount_22 : decode c_J_bitCount 22 = .ok (.ladd, 1) := by decide +kernel
theorem d_J_bitCount_23 : decode c_J_bitCount 23 = .ok (.lstore_n 0, 1) := by decide +kernel
theorem d_J_bitCount_24 : decode c_J_bitCount 24 = .ok (.lload_n 0, 1) := by decide +kernel
theorem d_J_bitCount_25 : decode c_J_bitCount 25 = .ok (.lload_n 0, 1) := by decide +kernel
theorem d_J_bitCount_26 : decode c_J_bitCount 26 = .ok (.iconst 4, 1) := by decide +kernel
theorem d_J_bitCount_27 : decode c_J_bitCount 27 = .ok (.lushr, 1) := by decide +kernel
theorem d_J_bitCount_28 : decode c_J_bitCount 28 = .ok (.ladd, 1) := by decide +kernel
theorem d_J_bitCount_29 : decode c_J_bitCount 29 = .ok (.ldc2_w 318, 3) := by decide +kernel
theorem d_J_bitCount_32 : decode c_J_bitCount 32 = .ok (.land, 1) := by decide +kernel
theorem d_J_bitCount_33 : decode c_J_bitCount 33 = .ok (.lstore_n 0, 1) := by decide +kernel
theorem d_J_bitCount_34 : decode c_J_bitCount 34 = .ok (.lload_n 0, 1) := by decide +kernel
theorem d_J_bitCount_35 : decode c_J_bitCount 35 = .ok (.lload_n 0, 1) := by decide +kernel
theorem d_J_bitCount_36 : decode c_J_bitCount 36 = .ok (.bipush 8, 2) := by decide +kernel
theorem d_J_bitCount_38 : decode c_J_bitCount 38 = .ok (.lushr, 1) := by decide +kernel
theorem d_J_bitCount_39 : decode c_J_bitCount 39 = .ok (.ladd, 1) := by decide +kernel
theorem d_J_bitCount_40 : decode c_J_bitCount 40 = .ok (.lstore_n 0, 1) := by decide +kernel
theorem d_J_bitCount_41 : decode c_J_bitCount 41 = .ok (.lload_n 0, 1) := by decide +kernel
theorem d_J_bitCount_42 : decode c_J_bitCount 42 = .ok (.lload_n 0, 1) := by decide +kernel
theorem d_J_bitCount_43 : decode c_J_bitCount 43 = .ok (.bipush 16, 2) := by decide +kernel
theorem d_J_bitCount_45 : decode c_J_bitCount 45 = .ok (.lushr, 1) := by decide +kernel
theorem d_J_bitCount_46 : decode c_J_bitCount 46 = .ok (.ladd, 1) := by decide +kernel
theorem d_J_bitCount_47 : decode c_J_bitCount 47 = .ok (.lstore_n 0, 1) := by decide +kernel
theorem d_J_bitCount_48 : decode c_J_bitCount 48 = .ok (.lload_n 0, 1) := by decide +kernel
theorem d_J_bitCount_49 : decode c_J_bitCount 49 = .ok (.lload_n 0, 1) := by decide +kernel
theorem d_J_bitCount_50 : decode c_J_bitCount 50 = .ok (.bipush 32, 2) := by decide +kernel
theorem d_J_bitCount_52 : decode c_J_bitCount 52 = .ok (.lushr, 1) := by decide +kernel
theorem d_J_bitCount_53 : decode c_J_bitCount 53 = .ok (.ladd, 1) := by decide +kernel
theorem d_J_bitCount_54 : decode c_J_bitCount 54 = .ok (.lstore_n 0, 1) := by decide +kernel
theorem d_J_bitCount_55 : decode c_J_bitCount 55 = .ok (.lload_n 0, 1) := by decide +kernel
theorem d_J_bitCount_56 : decode c_J_bitCount 56 = .ok (.l2i, 1) := by decide +kernel
theorem d_J_bitCount_57 : decode c_J_bitCount 57 = .ok (.bipush 127, 2) := by decide +kernel
theorem d_J_bitCount_59 : decode c_J_bitCount 59 = .ok (.iand, 1) := by decide +kernel
theorem d_J_bitCount_60 : decode c_J_bitCount 60 = .ok (.ireturn, 1) := by decide +kernel
theorem d_R_sameAs_0 : decode c_R_sameAs 0 = .ok (.aload_n 0, 1) := by decide +kernel
theorem d_R_sameAs_1 : decode c_R_sameAs 1 = .ok (.getfield 9, 3) := by decide +kernel
theorem d_R_sameAs_4 : decode c_R_sameAs 4 = .ok (.aload_n 1, 1) := by decide +kernel
theorem d_R_sameAs_5 : decode c_R_sameAs 5 = .ok (.getfield 9, 3) := by decide +kernel
theorem d_R_sameAs_8 : decode c_R_sameAs 8 = .ok (.invokestatic 21, 3) := by decide +kernel
theorem d_R_sameAs_11 : decode c_R_sameAs 11 = .ok (.ifCond .eq 35, 3) := by decide +kernel
theorem d_R_sameAs_14 : decode c_R_sameAs 14 = .ok (.aload_n 0, 1) := by decide +kernel
theorem d_R_sameAs_15 : decode c_R_sameAs 15 = .ok (.getfield 15, 3) := by decide +kernel
theorem d_R_sameAs_18 : decode c_R_sameAs 18 = .ok (.aload_n 1, 1) := by decide +kernel
theorem d_R_sameAs_19 : decode c_R_sameAs 19 = .ok (.getfield 15, 3) := by decide +kernel
theorem d_R_sameAs_22 : decode c_R_sameAs 22 = .ok (.invokestatic 21, 3) := by decide +kernel
theorem d_R_sameAs_25 : decode c_R_sameAs 25 = .ok (.ifCond .eq 21, 3) := by decide +kernel
theorem d_R_sameAs_28 : decode c_R_sameAs 28 = .ok (.aload_n 0, 1) := by decide +kernel
theorem d_R_sameAs_29 : decode c_R_sameAs 29 = .ok (.getfield 18, 3) := by decide +kernel
theorem d_R_sameAs_32 : decode c_R_sameAs 32 = .ok (.aload_n 1, 1) := by decide +kernel
theorem d_R_sameAs_33 : decode c_R_sameAs 33 = .ok (.getfield 18, 3) := by decide +kernel
theorem d_R_sameAs_36 : decode c_R_sameAs 36 = .ok (.invokestatic 21, 3) := by decide +kernel
theorem d_R_sameAs_39 : decode c_R_sameAs 39 = .ok (.ifCond .eq 7, 3) := by decide +kernel
theorem d_R_sameAs_42 : decode c_R_sameAs 42 = .ok (.iconst 1, 1) := by decide +kernel
theorem d_R_sameAs_43 : decode c_R_sameAs 43 = .ok (.goto 4, 3) := by decide +kernel
theorem d_R_sameAs_46 : decode c_R_sameAs 46 = .ok (.iconst 0, 1) := by decide +kernel
theorem d_R_sameAs_47 : decode c_R_sameAs 47 = .ok (.ireturn, 1) := by decide +kernel
theorem d_R_sameRow_0 : decode c_R_sameRow 0 = .ok (.iconst 0, 1) := by decide +kernel
theorem d_R_sameRow_1 : decode c_R_sameRow 1 = .ok (.istore_n 2, 1) := by decide +kernel
theorem d_R_sameRow_2 : decode c_R_sameRow 2 = .ok (.iload_n 2, 1) := by decide +kernel
theorem d_R_sameRow_3 : decode c_R_sameRow 3 = .ok (.aload_n 0, 1) := by decide +kernel
theorem d_R_sameRow_4 : decode c_R_sameRow 4 = .ok (.arraylength, 1) := by decide +kernel
theorem d_R_sameRow_5 : decode c_R_sameRow 5 = .ok (.if_icmp .ge 26, 3) := by decide +kernel
theorem d_R_sameRow_8 : decode c_R_sameRow 8 = .ok (.iload_n 2, 1) := by decide +kernel
theorem d_R_sameRow_9 : decode c_R_sameRow 9 = .ok (.aload_n 1, 1) := by decide +kernel
theorem d_R_sameRow_10 : decode c_R_sameRow 10 = .ok (.arraylength, 1) := by decide +kernel
theorem d_R_sameRow_11 : decode c_R_sameRow 11 = .ok (.if_icmp .ge 20, 3) := by decide +kernel
theorem d_R_sameRow_14 : decode c_R_sameRow 14 = .ok (.aload_n 0, 1) := by decide +kernel
theorem d_R_sameRow_15 : decode c_R_sameRow 15 = .ok (.iload_n 2, 1) := by decide +kernel
theorem d_R_sameRow_16 : decode c_R_sameRow 16 = .ok (.iaload, 1) := by decide +kernel
theorem d_R_sameRow_17 : decode c_R_sameRow 17 = .ok (.aload_n 1, 1) := by decide +kernel
theorem d_R_sameRow_18 : decode c_R_sameRow 18 = .ok (.iload_n 2, 1) := by decide +kernel
theorem d_R_sameRow_19 : decode c_R_sameRow 19 = .ok (.iaload, 1) := by decide +kernel
theorem d_R_sameRow_20 : decode c_R_sameRow 20 = .ok (.if_icmp .eq 5, 3) := by decide +kernel
theorem d_R_sameRow_23 : decode c_R_sameRow 23 = .ok (.iconst 0, 1) := by decide +kernel
theorem d_R_sameRow_24 : decode c_R_sameRow 24 = .ok (.ireturn, 1) := by decide +kernel
theorem d_R_sameRow_25 : decode c_R_sameRow 25 = .ok (.iinc 2 1, 3) := by decide +kernel
theorem d_R_sameRow_28 : decode c_R_sameRow 28 = .ok (.goto (-26), 3) := by decide +kernel
theorem d_R_sameRow_31 : decode c_R_sameRow 31 = .ok (.iconst 1, 1) := by decide +kernel
theorem d_R_sameRow_32 : decode c_R_sameRow 32 = .ok (.ireturn, 1) := by decide +kernel
theorem d_V_takeOver_0 : decode c_V_takeOver 0 = .ok (.aload_n 0, 1) := by decide +kernel
theorem d_V_takeOver_1 : decode c_V_takeOver 1 = .ok (.getfield 10, 3) := by decide +kernel
theorem d_V_takeOver_4 : decode c_V_takeOver 4 = .ok (.aload_n 1, 1) := by decide +kernel
theorem d_V_takeOver_5 : decode c_V_takeOver 5 = .ok (.getfield 10, 3) := by decide +kernel
theorem d_V_takeOver_8 : decode c_V_takeOver 8 = .ok (.invokevirtual 33, 3) := by decide +kernel
theorem d_V_takeOver_11 : decode c_V_takeOver 11 = .ok (.aload_n 0, 1) := by decide +kernel
theorem d_V_takeOver_12 : decode c_V_takeOver 12 = .ok (.getfield 19, 3) := by decide +kernel
theorem d_V_takeOver_15 : decode c_V_takeOver 15 = .ok (.aload_n 1, 1) := by decide +kernel
theorem d_V_takeOver_16 : decode c_V_takeOver 16 = .ok (.getfield 19, 3) := by decide +kernel
theorem d_V_takeOver_19 : decode c_V_takeOver 19 = .ok (.invokevirtual 37, 3) := by decide +kernel
theorem d_V_takeOver_22 : decode c_V_takeOver 22 = .ok (.aload_n 0, 1) := by decide +kernel
theorem d_V_takeOver_23 : decode c_V_takeOver 23 = .ok (.aload_n 1, 1) := by decide +kernel
theorem d_V_takeOver_24 : decode c_V_takeOver 24 = .ok (.getfield 23, 3) := by decide +kernel
theorem d_V_takeOver_27 : decode c_V_takeOver 27 = .ok (.putfield 23, 3) := by decide +kernel
theorem d_V_takeOver_30 : decode c_V_takeOver 30 = .ok (.return_, 1) := by decide +kernel
theorem d_R_takeOver_0 : decode c_R_takeOver 0 = .ok (.aload_n 1, 1) := by decide +kernel
theorem d_R_takeOver_1 : decode c_R_takeOver 1 = .ok (.getfield 9, 3) := by decide +kernel
theorem d_R_takeOver_4 : decode c_R_takeOver 4 = .ok (.iconst 0, 1) := by decide +kernel
theorem d_R_takeOver_5 : decode c_R_takeOver 5 = .ok (.aload_n 0, 1) := by decide +kernel
theorem d_R_takeOver_6 : decode c_R_takeOver 6 = .ok (.getfield 9, 3) := by decide +kernel
theorem d_R_takeOver_9 : decode c_R_takeOver 9 = .ok (.iconst 0, 1) := by decide +kernel
theorem d_R_takeOver_10 : decode c_R_takeOver 10 = .ok (.bipush 16, 2) := by decide +kernel
theorem d_R_takeOver_12 : decode c_R_takeOver 12 = .ok (.invokestatic 25, 3) := by decide +kernel
theorem d_R_takeOver_15 : decode c_R_takeOver 15 = .ok (.aload_n 1, 1) := by decide +kernel
theorem d_R_takeOver_16 : decode c_R_takeOver 16 = .ok (.getfield 15, 3) := by decide +kernel
theorem d_R_takeOver_19 : decode c_R_takeOver 19 = .ok (.iconst 0, 1) := by decide +kernel
theorem d_R_takeOver_20 : decode c_R_takeOver 20 = .ok (.aload_n 0, 1) := by decide +kernel
theorem d_R_takeOver_21 : decode c_R_takeOver 21 = .ok (.getfield 15, 3) := by decide +kernel
theorem d_R_takeOver_24 : decode c_R_takeOver 24 = .ok (.iconst 0, 1) := by decide +kernel
theorem d_R_takeOver_25 : decode c_R_takeOver 25 = .ok (.iconst 3, 1) := by decide +kernel
theorem d_R_takeOver_26 : decode c_R_takeOver 26 = .ok (.invokestatic 25, 3) := by decide +kernel
theorem d_R_takeOver_29 : decode c_R_takeOver 29 = .ok (.aload_n 1, 1) := by decide +kernel
theorem d_R_takeOver_30 : decode c_R_takeOver 30 = .ok (.getfield 18, 3) := by decide +kernel
theorem d_R_takeOver_33 : decode c_R_takeOver 33 = .ok (.iconst 0, 1) := by decide +kernel
theorem d_R_takeOver_34 : decode c_R_takeOver 34 = .ok (.aload_n 0, 1) := by decide +kernel
theorem d_R_takeOver_35 : decode c_R_takeOver 35 = .ok (.getfield 18, 3) := by decide +kernel
theorem d_R_takeOver_38 : decode c_R_takeOver 38 = .ok (.iconst 0, 1) := by decide +kernel
theorem d_R_takeOver_39 : decode c_R_takeOver 39 = .ok (.bipush 8, 2) := by decide +kernel
theorem d_R_takeOver_41 : decode c_R_takeOver 41 = .ok (.invokestatic 25, 3) := by decide +kernel
theorem d_R_takeOver_44 : decode c_R_takeOver 44 = .ok (.return_, 1) := by decide +kernel
theorem d_S_takeOver_0 : decode c_S_takeOver 0 = .ok (.aload_n 1, 1) := by decide +kernel
theorem d_S_takeOver_1 : decode c_S_takeOver 1 = .ok (.getfield 9, 3) := by decide +kernel
theorem d_S_takeOver_4 : decode c_S_takeOver 4 = .ok (.iconst 0, 1) := by decide +kernel
theorem d_S_takeOver_5 : decode c_S_takeOver 5 = .ok (.aload_n 0, 1) := by decide +kernel
theorem d_S_takeOver_6 : decode c_S_takeOver 6 = .ok (.getfield 9, 3) := by decide +kernel
theorem d_S_takeOver_9 : decode c_S_takeOver 9 = .ok (.iconst 0, 1) := by decide +kernel
theorem d_S_takeOver_10 : decode c_S_takeOver 10 = .ok (.bipush 6, 2) := by decide +kernel
theorem d_S_takeOver_12 : decode c_S_takeOver 12 = .ok (.invokestatic 23, 3) := by decide +kernel
theorem d_S_takeOver_15 : decode c_S_takeOver 15 = .ok (.aload_n 1, 1) := by decide +kernel
theorem d_S_takeOver_16 : decode c_S_takeOver 16 = .ok (.getfield 15, 3) := by decide +kernel
theorem d_S_takeOver_19 : decode c_S_takeOver 19 = .ok (.iconst 0, 1) := by decide +kernel
theorem d_S_takeOver_20 : decode c_S_takeOver 20 = .ok (.aload_n 0, 1) := by decide +kernel
theorem d_S_takeOver_21 : decode c_S_takeOver 21 = .ok (.getfield 15, 3) := by decide +kernel
theorem d_S_takeOver_24 : decode c_S_takeOver 24 = .ok (.iconst 0, 1) := by decide +kernel
theorem d_S_takeOver_25 : decode c_S_takeOver 25 = .ok (.bipush 6, 2) := by decide +kernel
theorem d_S_takeOver_27 : decode c_S_takeOver 27 = .ok (.invokestatic 23, 3) := by decide +kernel
theorem d_S_takeOver_30 : decode c_S_takeOver 30 = .ok (.aload_n 0, 1) := by decide +kernel
theorem d_S_takeOver_31 : decode c_S_takeOver 31 = .ok (.aload_n 1, 1) := by decide +kernel
theorem d_S_takeOver_32 : decode c_S_takeOver 32 = .ok (.getfield 19, 3) := by decide +kernel
theorem d_S_takeOver_35 : decode c_S_takeOver 35 = .ok (.putfield 19, 3) := by decide +kernel
theorem d_S_takeOver_38 : decode c_S_takeOver 38 = .ok (.return_, 1) := by decide +kernel
theorem d_F_dropAllBut_0 : decode c_F_dropAllBut 0 = .ok (.aload_n 0, 1) := by decide +kernel
theorem d_F_dropAllBut_1 : decode c_F_dropAllBut 1 = .ok (.getfield 22, 3) := by decide +kernel
theorem d_F_dropAllBut_4 : decode c_F_dropAllBut 4 = .ok (.iconst 1, 1) := by decide +kernel
theorem d_F_dropAllBut_5 : decode c_F_dropAllBut 5 = .ok (.isub, 1) := by decide +kernel
theorem d_F_dropAllBut_6 : decode c_F_dropAllBut 6 = .ok (.istore_n 2, 1) := by decide +kernel
theorem d_F_dropAllBut_7 : decode c_F_dropAllBut 7 = .ok (.iload_n 2, 1) := by decide +kernel
theorem d_F_dropAllBut_8 : decode c_F_dropAllBut 8 = .ok (.ifCond .lt 27, 3) := by decide +kernel
theorem d_F_dropAllBut_11 : decode c_F_dropAllBut 11 = .ok (.aload_n 1, 1) := by decide +kernel
theorem d_F_dropAllBut_12 : decode c_F_dropAllBut 12 = .ok (.aload_n 0, 1) := by decide +kernel
theorem d_F_dropAllBut_13 : decode c_F_dropAllBut 13 = .ok (.getfield 9, 3) := by decide +kernel
theorem d_F_dropAllBut_16 : decode c_F_dropAllBut 16 = .ok (.iload_n 2, 1) := by decide +kernel
theorem d_F_dropAllBut_17 : decode c_F_dropAllBut 17 = .ok (.iaload, 1) := by decide +kernel
theorem d_F_dropAllBut_18 : decode c_F_dropAllBut 18 = .ok (.invokevirtual 40, 3) := by decide +kernel
theorem d_F_dropAllBut_21 : decode c_F_dropAllBut 21 = .ok (.ifCond .ne 8, 3) := by decide +kernel
theorem d_F_dropAllBut_24 : decode c_F_dropAllBut 24 = .ok (.aload_n 0, 1) := by decide +kernel
theorem d_F_dropAllBut_25 : decode c_F_dropAllBut 25 = .ok (.iload_n 2, 1) := by decide +kernel
theorem d_F_dropAllBut_26 : decode c_F_dropAllBut 26 = .ok (.invokevirtual 32, 3) := by decide +kernel
theorem d_F_dropAllBut_29 : decode c_F_dropAllBut 29 = .ok (.iinc 2 (-1), 3) := by decide +kernel
theorem d_F_dropAllBut_32 : decode c_F_dropAllBut 32 = .ok (.goto (-25), 3) := by decide +kernel
theorem d_F_dropAllBut_35 : decode c_F_dropAllBut 35 = .ok (.return_, 1) := by decide +kernel
theorem d_S_hasNumber_0 : decode c_S_hasNumber 0 = .ok (.iconst 0, 1) := by decide +kernel
theorem d_S_hasNumber_1 : decode c_S_hasNumber 1 = .ok (.istore_n 2, 1) := by decide +kernel
theorem d_S_hasNumber_2 : decode c_S_hasNumber 2 = .ok (.iload_n 2, 1) := by decide +kernel
theorem d_S_hasNumber_3 : decode c_S_hasNumber 3 = .ok (.aload_n 0, 1) := by decide +kernel
theorem d_S_hasNumber_4 : decode c_S_hasNumber 4 = .ok (.getfield 19, 3) := by decide +kernel
theorem d_S_hasNumber_7 : decode c_S_hasNumber 7 = .ok (.if_icmp .ge 21, 3) := by decide +kernel
theorem d_S_hasNumber_10 : decode c_S_hasNumber 10 = .ok (.aload_n 0, 1) := by decide +kernel
theorem d_S_hasNumber_11 : decode c_S_hasNumber 11 = .ok (.getfield 9, 3) := by decide +kernel
theorem d_S_hasNumber_14 : decode c_S_hasNumber 14 = .ok (.iload_n 2, 1) := by decide +kernel
theorem d_S_hasNumber_15 : decode c_S_hasNumber 15 = .ok (.iaload, 1) := by decide +kernel
theorem d_S_hasNumber_16 : decode c_S_hasNumber 16 = .ok (.iload_n 1, 1) := by decide +kernel
theorem d_S_hasNumber_17 : decode c_S_hasNumber 17 = .ok (.if_icmp .ne 5, 3) := by decide +kernel
theorem d_S_hasNumber_20 : decode c_S_hasNumber 20 = .ok (.iconst 1, 1) := by decide +kernel
theorem d_S_hasNumber_21 : decode c_S_hasNumber 21 = .ok (.ireturn, 1) := by decide +kernel
theorem d_S_hasNumber_22 : decode c_S_hasNumber 22 = .ok (.iinc 2 1, 3) := by decide +kernel
theorem d_S_hasNumber_25 : decode c_S_hasNumber 25 = .ok (.goto (-23), 3) := by decide +kernel
theorem d_S_hasNumber_28 : decode c_S_hasNumber 28 = .ok (.iconst 0, 1) := by decide +kernel
theorem d_S_hasNumber_29 : decode c_S_hasNumber 29 = .ok (.ireturn, 1) := by decide +kernel
theorem d_F_drop_0 : decode c_F_drop 0 = .ok (.iload_n 1, 1) := by decide +kernel
theorem d_F_drop_1 : decode c_F_drop 1 = .ok (.istore_n 2, 1) := by decide +kernel
theorem d_F_drop_2 : decode c_F_drop 2 = .ok (.iload_n 2, 1) := by decide +kernel
theorem d_F_drop_3 : decode c_F_drop 3 = .ok (.aload_n 0, 1) := by decide +kernel
theorem d_F_drop_4 : decode c_F_drop 4 = .ok (.getfield 22, 3) := by decide +kernel
theorem d_F_drop_7 : decode c_F_drop 7 = .ok (.iconst 1, 1) := by decide +kernel
theorem d_F_drop_8 : decode c_F_drop 8 = .ok (.isub, 1) := by decide +kernel
theorem d_F_drop_9 : decode c_F_drop 9 = .ok (.if_icmp .ge 51, 3) := by decide +kernel
theorem d_F_drop_12 : decode c_F_drop 12 = .ok (.aload_n 0, 1) := by decide +kernel
theorem d_F_drop_13 : decode c_F_drop 13 = .ok (.getfield 9, 3) := by decide +kernel
theorem d_F_drop_16 : decode c_F_drop 16 = .ok (.iload_n 2, 1) := by decide +kernel
theorem d_F_drop_17 : decode c_F_drop 17 = .ok (.aload_n 0, 1) := by decide +kernel
theorem d_F_drop_18 : decode c_F_drop 18 = .ok (.getfield 9, 3) := by decide +kernel
theorem d_F_drop_21 : decode c_F_drop 21 = .ok (.iload_n 2, 1) := by decide +kernel
theorem d_F_drop_22 : decode c_F_drop 22 = .ok (.iconst 1, 1) := by decide +kernel
theorem d_F_drop_23 : decode c_F_drop 23 = .ok (.iadd, 1) := by decide +kernel
theorem d_F_drop_24 : decode c_F_drop 24 = .ok (.iaload, 1) := by decide +kernel
theorem d_F_drop_25 : decode c_F_drop 25 = .ok (.iastore, 1) := by decide +kernel
theorem d_F_drop_26 : decode c_F_drop 26 = .ok (.aload_n 0, 1) := by decide +kernel
theorem d_F_drop_27 : decode c_F_drop 27 = .ok (.getfield 15, 3) := by decide +kernel
theorem d_F_drop_30 : decode c_F_drop 30 = .ok (.iload_n 2, 1) := by decide +kernel
theorem d_F_drop_31 : decode c_F_drop 31 = .ok (.aload_n 0, 1) := by decide +kernel
theorem d_F_drop_32 : decode c_F_drop 32 = .ok (.getfield 15, 3) := by decide +kernel
theorem d_F_drop_35 : decode c_F_drop 35 = .ok (.iload_n 2, 1) := by decide +kernel
theorem d_F_drop_36 : decode c_F_drop 36 = .ok (.iconst 1, 1) := by decide +kernel
theorem d_F_drop_37 : decode c_F_drop 37 = .ok (.iadd, 1) := by decide +kernel
theorem d_F_drop_38 : decode c_F_drop 38 = .ok (.iaload, 1) := by decide +kernel
theorem d_F_drop_39 : decode c_F_drop 39 = .ok (.iastore, 1) := by decide +kernel
theorem d_F_drop_40 : decode c_F_drop 40 = .ok (.aload_n 0, 1) := by decide +kernel
theorem d_F_drop_41 : decode c_F_drop 41 = .ok (.getfield 18, 3) := by decide +kernel
theorem d_F_drop_44 : decode c_F_drop 44 = .ok (.iload_n 2, 1) := by decide +kernel
theorem d_F_drop_45 : decode c_F_drop 45 = .ok (.aload_n 0, 1) := by decide +kernel
theorem d_F_drop_46 : decode c_F_drop 46 = .ok (.getfield 18, 3) := by decide +kernel
theorem d_F_drop_49 : decode c_F_drop 49 = .ok (.iload_n 2, 1) := by decide +kernel
theorem d_F_drop_50 : decode c_F_drop 50 = .ok (.iconst 1, 1) := by decide +kernel
theorem d_F_drop_51 : decode c_F_drop 51 = .ok (.iadd, 1) := by decide +kernel
theorem d_F_drop_52 : decode c_F_drop 52 = .ok (.laload, 1) := by decide +kernel
theorem d_F_drop_53 : decode c_F_drop 53 = .ok (.lastore, 1) := by decide +kernel
theorem d_F_drop_54 : decode c_F_drop 54 = .ok (.iinc 2 1, 3) := by decide +kernel
theorem d_F_drop_57 : decode c_F_drop 57 = .ok (.goto (-55), 3) := by decide +kernel
theorem d_F_drop_60 : decode c_F_drop 60 = .ok (.aload_n 0, 1) := by decide +kernel
theorem d_F_drop_61 : decode c_F_drop 61 = .ok (.dup, 1) := by decide +kernel
theorem d_F_drop_62 : decode c_F_drop 62 = .ok (.getfield 22, 3) := by decide +kernel
theorem d_F_drop_65 : decode c_F_drop 65 = .ok (.iconst 1, 1) := by decide +kernel
theorem d_F_drop_66 : decode c_F_drop 66 = .ok (.isub, 1) := by decide +kernel
theorem d_F_drop_67 : decode c_F_drop 67 = .ok (.putfield 22, 3) := by decide +kernel
theorem d_F_drop_70 : decode c_F_drop 70 = .ok (.return_, 1) := by decide +kernel
theorem d_V_livingIds_0 : decode c_V_livingIds 0 = .ok (.aload_n 0, 1) := by decide +kernel
theorem d_V_livingIds_1 : decode c_V_livingIds 1 = .ok (.getfield 19, 3) := by decide +kernel
theorem d_V_livingIds_4 : decode c_V_livingIds 4 = .ok (.invokevirtual 27, 3) := by decide +kernel
theorem d_V_livingIds_7 : decode c_V_livingIds 7 = .ok (.aload_n 0, 1) := by decide +kernel
theorem d_V_livingIds_8 : decode c_V_livingIds 8 = .ok (.getfield 23, 3) := by decide +kernel
theorem d_V_livingIds_11 : decode c_V_livingIds 11 = .ok (.ldc2_w 31, 3) := by decide +kernel
theorem d_V_livingIds_14 : decode c_V_livingIds 14 = .ok (.lxor, 1) := by decide +kernel
theorem d_V_livingIds_15 : decode c_V_livingIds 15 = .ok (.land, 1) := by decide +kernel
theorem d_V_livingIds_16 : decode c_V_livingIds 16 = .ok (.lreturn, 1) := by decide +kernel
theorem d_R_join_0 : decode c_R_join 0 = .ok (.aload_n 0, 1) := by decide +kernel
theorem d_R_join_1 : decode c_R_join 1 = .ok (.getfield 9, 3) := by decide +kernel
theorem d_R_join_4 : decode c_R_join 4 = .ok (.iload_n 1, 1) := by decide +kernel
theorem d_R_join_5 : decode c_R_join 5 = .ok (.iaload, 1) := by decide +kernel
theorem d_R_join_6 : decode c_R_join 6 = .ok (.istore 4, 2) := by decide +kernel
theorem d_R_join_8 : decode c_R_join 8 = .ok (.aload_n 0, 1) := by decide +kernel
theorem d_R_join_9 : decode c_R_join 9 = .ok (.getfield 9, 3) := by decide +kernel
theorem d_R_join_12 : decode c_R_join 12 = .ok (.iload_n 1, 1) := by decide +kernel
theorem d_R_join_13 : decode c_R_join 13 = .ok (.iload_n 3, 1) := by decide +kernel
theorem d_R_join_14 : decode c_R_join 14 = .ok (.ifCond .eq 12, 3) := by decide +kernel
theorem d_R_join_17 : decode c_R_join 17 = .ok (.iload 4, 2) := by decide +kernel
theorem d_R_join_19 : decode c_R_join 19 = .ok (.iconst 1, 1) := by decide +kernel
theorem d_R_join_20 : decode c_R_join 20 = .ok (.iload_n 2, 1) := by decide +kernel
theorem d_R_join_21 : decode c_R_join 21 = .ok (.ishl, 1) := by decide +kernel
theorem d_R_join_22 : decode c_R_join 22 = .ok (.ior, 1) := by decide +kernel
theorem d_R_join_23 : decode c_R_join 23 = .ok (.goto 11, 3) := by decide +kernel
theorem d_R_join_26 : decode c_R_join 26 = .ok (.iload 4, 2) := by decide +kernel
theorem d_R_join_28 : decode c_R_join 28 = .ok (.iconst 1, 1) := by decide +kernel
theorem d_R_join_29 : decode c_R_join 29 = .ok (.iload_n 2, 1) := by decide +kernel
theorem d_R_join_30 : decode c_R_join 30 = .ok (.ishl, 1) := by decide +kernel
theorem d_R_join_31 : decode c_R_join 31 = .ok (.iconst (-1), 1) := by decide +kernel
theorem d_R_join_32 : decode c_R_join 32 = .ok (.ixor, 1) := by decide +kernel
theorem d_R_join_33 : decode c_R_join 33 = .ok (.iand, 1) := by decide +kernel
theorem d_R_join_34 : decode c_R_join 34 = .ok (.iastore, 1) := by decide +kernel
theorem d_R_join_35 : decode c_R_join 35 = .ok (.aload_n 0, 1) := by decide +kernel
theorem d_R_join_36 : decode c_R_join 36 = .ok (.getfield 9, 3) := by decide +kernel
theorem d_R_join_39 : decode c_R_join 39 = .ok (.iload_n 1, 1) := by decide +kernel
theorem d_R_join_40 : decode c_R_join 40 = .ok (.iaload, 1) := by decide +kernel
theorem d_R_join_41 : decode c_R_join 41 = .ok (.iload 4, 2) := by decide +kernel
theorem d_R_join_43 : decode c_R_join 43 = .ok (.if_icmp .eq 7, 3) := by decide +kernel
theorem d_R_join_46 : decode c_R_join 46 = .ok (.iconst 1, 1) := by decide +kernel
theorem d_R_join_47 : decode c_R_join 47 = .ok (.goto 4, 3) := by decide +kernel
theorem d_R_join_50 : decode c_R_join 50 = .ok (.iconst 0, 1) := by decide +kernel
theorem d_R_join_51 : decode c_R_join 51 = .ok (.ireturn, 1) := by decide +kernel
theorem d_D_codePlace_0 : decode c_D_codePlace 0 = .ok (.iload_n 0, 1) := by decide +kernel
theorem d_D_codePlace_1 : decode c_D_codePlace 1 = .ok (.iload_n 1, 1) := by decide +kernel
theorem d_D_codePlace_2 : decode c_D_codePlace 2 = .ok (.invokestatic 28, 3) := by decide +kernel
theorem d_D_codePlace_5 : decode c_D_codePlace 5 = .ok (.bipush 8, 2) := by decide +kernel
theorem d_D_codePlace_7 : decode c_D_codePlace 7 = .ok (.imul, 1) := by decide +kernel
theorem d_D_codePlace_8 : decode c_D_codePlace 8 = .ok (.iload_n 2, 1) := by decide +kernel
theorem d_D_codePlace_9 : decode c_D_codePlace 9 = .ok (.iadd, 1) := by decide +kernel
theorem d_D_codePlace_10 : decode c_D_codePlace 10 = .ok (.ireturn, 1) := by decide +kernel
theorem d_D_valuePlace_0 : decode c_D_valuePlace 0 = .ok (.iload_n 0, 1) := by decide +kernel
theorem d_D_valuePlace_1 : decode c_D_valuePlace 1 = .ok (.iconst 3, 1) := by decide +kernel
theorem d_D_valuePlace_2 : decode c_D_valuePlace 2 = .ok (.imul, 1) := by decide +kernel
theorem d_D_valuePlace_3 : decode c_D_valuePlace 3 = .ok (.iload_n 1, 1) := by decide +kernel
theorem d_D_valuePlace_4 : decode c_D_valuePlace 4 = .ok (.iadd, 1) := by decide +kernel
theorem d_D_valuePlace_5 : decode c_D_valuePlace 5 = .ok (.ireturn, 1) := by decide +kernel
theorem d_D_finishDraft_0 : decode c_D_finishDraft 0 = .ok (.aload_n 0, 1) := by decide +kernel
theorem d_D_finishDraft_1 : decode c_D_finishDraft 1 = .ok (.getfield 24, 3) := by decide +kernel
theorem d_D_finishDraft_4 : decode c_D_finishDraft 4 = .ok (.istore_n 2, 1) := by decide +kernel
theorem d_D_finishDraft_5 : decode c_D_finishDraft 5 = .ok (.iload_n 1, 1) := by decide +kernel
theorem d_D_finishDraft_6 : decode c_D_finishDraft 6 = .ok (.iconst (-1), 1) := by decide +kernel
theorem d_D_finishDraft_7 : decode c_D_finishDraft 7 = .ok (.if_icmp .eq 39, 3) := by decide +kernel
theorem d_D_finishDraft_10 : decode c_D_finishDraft 10 = .ok (.aload_n 0, 1) := by decide +kernel
theorem d_D_finishDraft_11 : decode c_D_finishDraft 11 = .ok (.getfield 21, 3) := by decide +kernel
theorem d_D_finishDraft_14 : decode c_D_finishDraft 14 = .ok (.iload_n 2, 1) := by decide +kernel
theorem d_D_finishDraft_15 : decode c_D_finishDraft 15 = .ok (.dup2, 1) := by decide +kernel
theorem d_D_finishDraft_16 : decode c_D_finishDraft 16 = .ok (.iaload, 1) := by decide +kernel
theorem d_D_finishDraft_17 : decode c_D_finishDraft 17 = .ok (.aload_n 0, 1) := by decide +kernel
theorem d_D_finishDraft_18 : decode c_D_finishDraft 18 = .ok (.getfield 21, 3) := by decide +kernel
theorem d_D_finishDraft_21 : decode c_D_finishDraft 21 = .ok (.iload_n 1, 1) := by decide +kernel
theorem d_D_finishDraft_22 : decode c_D_finishDraft 22 = .ok (.iaload, 1) := by decide +kernel
theorem d_D_finishDraft_23 : decode c_D_finishDraft 23 = .ok (.ior, 1) := by decide +kernel
theorem d_D_finishDraft_24 : decode c_D_finishDraft 24 = .ok (.iastore, 1) := by decide +kernel
theorem d_D_finishDraft_25 : decode c_D_finishDraft 25 = .ok (.aload_n 0, 1) := by decide +kernel
theorem d_D_finishDraft_26 : decode c_D_finishDraft 26 = .ok (.getfield 18, 3) := by decide +kernel
theorem d_D_finishDraft_29 : decode c_D_finishDraft 29 = .ok (.iload_n 2, 1) := by decide +kernel
theorem d_D_finishDraft_30 : decode c_D_finishDraft 30 = .ok (.iaload, 1) := by decide +kernel
theorem d_D_finishDraft_31 : decode c_D_finishDraft 31 = .ok (.ifCond .ne 15, 3) := by decide +kernel
theorem d_D_finishDraft_34 : decode c_D_finishDraft 34 = .ok (.aload_n 0, 1) := by decide +kernel
theorem d_D_finishDraft_35 : decode c_D_finishDraft 35 = .ok (.getfield 18, 3) := by decide +kernel
theorem d_D_finishDraft_38 : decode c_D_finishDraft 38 = .ok (.iload_n 2, 1) := by decide +kernel
theorem d_D_finishDraft_39 : decode c_D_finishDraft 39 = .ok (.aload_n 0, 1) := by decide +kernel
theorem d_D_finishDraft_40 : decode c_D_finishDraft 40 = .ok (.getfield 18, 3) := by decide +kernel
theorem d_D_finishDraft_43 : decode c_D_finishDraft 43 = .ok (.iload_n 1, 1) := by decide +kernel
theorem d_D_finishDraft_44 : decode c_D_finishDraft 44 = .ok (.iaload, 1) := by decide +kernel
theorem d_D_finishDraft_45 : decode c_D_finishDraft 45 = .ok (.iastore, 1) := by decide +kernel
theorem d_D_finishDraft_46 : decode c_D_finishDraft 46 = .ok (.aload_n 0, 1) := by decide +kernel
theorem d_D_finishDraft_47 : decode c_D_finishDraft 47 = .ok (.dup, 1) := by decide +kernel
theorem d_D_finishDraft_48 : decode c_D_finishDraft 48 = .ok (.getfield 24, 3) := by decide +kernel
theorem d_D_finishDraft_51 : decode c_D_finishDraft 51 = .ok (.iconst 1, 1) := by decide +kernel
theorem d_D_finishDraft_52 : decode c_D_finishDraft 52 = .ok (.iadd, 1) := by decide +kernel
theorem d_D_finishDraft_53 : decode c_D_finishDraft 53 = .ok (.putfield 24, 3) := by decide +kernel
theorem d_D_finishDraft_56 : decode c_D_finishDraft 56 = .ok (.iload_n 2, 1) := by decide +kernel
theorem d_D_finishDraft_57 : decode c_D_finishDraft 57 = .ok (.ireturn, 1) := by decide +kernel
theorem d_Q_insert_0 : decode c_Q_insert 0 = .ok (.aload_n 0, 1) := by decide +kernel
theorem d_Q_insert_1 : decode c_Q_insert 1 = .ok (.getfield 33, 3) := by decide +kernel
theorem d_Q_insert_4 : decode c_Q_insert 4 = .ok (.istore 5, 2) := by decide +kernel
theorem d_Q_insert_6 : decode c_Q_insert 6 = .ok (.iload 5, 2) := by decide +kernel
theorem d_Q_insert_8 : decode c_Q_insert 8 = .ok (.ifCond .le 32, 3) := by decide +kernel
theorem d_Q_insert_11 : decode c_Q_insert 11 = .ok (.aload_n 0, 1) := by decide +kernel
theorem d_Q_insert_12 : decode c_Q_insert 12 = .ok (.iload 5, 2) := by decide +kernel
theorem d_Q_insert_14 : decode c_Q_insert 14 = .ok (.iconst 1, 1) := by decide +kernel
theorem d_Q_insert_15 : decode c_Q_insert 15 = .ok (.isub, 1) := by decide +kernel
theorem d_Q_insert_16 : decode c_Q_insert 16 = .ok (.iload_n 2, 1) := by decide +kernel
theorem d_Q_insert_17 : decode c_Q_insert 17 = .ok (.iload_n 3, 1) := by decide +kernel
theorem d_Q_insert_18 : decode c_Q_insert 18 = .ok (.invokevirtual 37, 3) := by decide +kernel
theorem d_Q_insert_21 : decode c_Q_insert 21 = .ok (.ifCond .eq 19, 3) := by decide +kernel
theorem d_Q_insert_24 : decode c_Q_insert 24 = .ok (.aload_n 0, 1) := by decide +kernel
theorem d_Q_insert_25 : decode c_Q_insert 25 = .ok (.iload 5, 2) := by decide +kernel
theorem d_Q_insert_27 : decode c_Q_insert 27 = .ok (.iconst 1, 1) := by decide +kernel
theorem d_Q_insert_28 : decode c_Q_insert 28 = .ok (.isub, 1) := by decide +kernel
theorem d_Q_insert_29 : decode c_Q_insert 29 = .ok (.iload 5, 2) := by decide +kernel
theorem d_Q_insert_31 : decode c_Q_insert 31 = .ok (.invokevirtual 41, 3) := by decide +kernel
theorem d_Q_insert_34 : decode c_Q_insert 34 = .ok (.iinc 5 (-1), 3) := by decide +kernel
theorem d_Q_insert_37 : decode c_Q_insert 37 = .ok (.goto (-31), 3) := by decide +kernel
theorem d_Q_insert_40 : decode c_Q_insert 40 = .ok (.aload_n 0, 1) := by decide +kernel
theorem d_Q_insert_41 : decode c_Q_insert 41 = .ok (.getfield 9, 3) := by decide +kernel
theorem d_Q_insert_44 : decode c_Q_insert 44 = .ok (.iload 5, 2) := by decide +kernel
theorem d_Q_insert_46 : decode c_Q_insert 46 = .ok (.iload_n 1, 1) := by decide +kernel
theorem d_Q_insert_47 : decode c_Q_insert 47 = .ok (.iastore, 1) := by decide +kernel
theorem d_Q_insert_48 : decode c_Q_insert 48 = .ok (.aload_n 0, 1) := by decide +kernel
theorem d_Q_insert_49 : decode c_Q_insert 49 = .ok (.getfield 15, 3) := by decide +kernel
theorem d_Q_insert_52 : decode c_Q_insert 52 = .ok (.iload 5, 2) := by decide +kernel
theorem d_Q_insert_54 : decode c_Q_insert 54 = .ok (.iload_n 2, 1) := by decide +kernel
theorem d_Q_insert_55 : decode c_Q_insert 55 = .ok (.iastore, 1) := by decide +kernel
theorem d_Q_insert_56 : decode c_Q_insert 56 = .ok (.aload_n 0, 1) := by decide +kernel
theorem d_Q_insert_57 : decode c_Q_insert 57 = .ok (.getfield 18, 3) := by decide +kernel
theorem d_Q_insert_60 : decode c_Q_insert 60 = .ok (.iload 5, 2) := by decide +kernel
theorem d_Q_insert_62 : decode c_Q_insert 62 = .ok (.iload_n 3, 1) := by decide +kernel
theorem d_Q_insert_63 : decode c_Q_insert 63 = .ok (.iastore, 1) := by decide +kernel
theorem d_Q_insert_64 : decode c_Q_insert 64 = .ok (.aload_n 0, 1) := by decide +kernel
theorem d_Q_insert_65 : decode c_Q_insert 65 = .ok (.getfield 21, 3) := by decide +kernel
theorem d_Q_insert_68 : decode c_Q_insert 68 = .ok (.iload 5, 2) := by decide +kernel
theorem d_Q_insert_70 : decode c_Q_insert 70 = .ok (.fload 4, 2) := by decide +kernel
theorem d_Q_insert_72 : decode c_Q_insert 72 = .ok (.fastore, 1) := by decide +kernel
theorem d_Q_insert_73 : decode c_Q_insert 73 = .ok (.aload_n 0, 1) := by decide +kernel
theorem d_Q_insert_74 : decode c_Q_insert 74 = .ok (.dup, 1) := by decide +kernel
theorem d_Q_insert_75 : decode c_Q_insert 75 = .ok (.getfield 33, 3) := by decide +kernel
theorem d_Q_insert_78 : decode c_Q_insert 78 = .ok (.iconst 1, 1) := by decide +kernel
theorem d_Q_insert_79 : decode c_Q_insert 79 = .ok (.iadd, 1) := by decide +kernel
theorem d_Q_insert_80 : decode c_Q_insert 80 = .ok (.putfield 33, 3) := by decide +kernel
theorem d_Q_insert_83 : decode c_Q_insert 83 = .ok (.return_, 1) := by decide +kernel
theorem d_Q_comesLater_0 : decode c_Q_comesLater 0 = .ok (.aload_n 0, 1) := by decide +kernel
theorem d_Q_comesLater_1 : decode c_Q_comesLater 1 = .ok (.getfield 15, 3) := by decide +kernel
theorem d_Q_comesLater_4 : decode c_Q_comesLater 4 = .ok (.iload_n 1, 1) := by decide +kernel
theorem d_Q_comesLater_5 : decode c_Q_comesLater 5 = .ok (.iaload, 1) := by decide +kernel
theorem d_Q_comesLater_6 : decode c_Q_comesLater 6 = .ok (.iload_n 2, 1) := by decide +kernel
theorem d_Q_comesLater_7 : decode c_Q_comesLater 7 = .ok (.if_icmp .gt 23, 3) := by decide +kernel
theorem d_Q_comesLater_10 : decode c_Q_comesLater 10 = .ok (.aload_n 0, 1) := by decide +kernel
theorem d_Q_comesLater_11 : decode c_Q_comesLater 11 = .ok (.getfield 15, 3) := by decide +kernel
theorem d_Q_comesLater_14 : decode c_Q_comesLater 14 = .ok (.iload_n 1, 1) := by decide +kernel
theorem d_Q_comesLater_15 : decode c_Q_comesLater 15 = .ok (.iaload, 1) := by decide +kernel
theorem d_Q_comesLater_16 : decode c_Q_comesLater 16 = .ok (.iload_n 2, 1) := by decide +kernel
theorem d_Q_comesLater_17 : decode c_Q_comesLater 17 = .ok (.if_icmp .ne 17, 3) := by decide +kernel
theorem d_Q_comesLater_20 : decode c_Q_comesLater 20 = .ok (.aload_n 0, 1) := by decide +kernel
theorem d_Q_comesLater_21 : decode c_Q_comesLater 21 = .ok (.getfield 18, 3) := by decide +kernel
theorem d_Q_comesLater_24 : decode c_Q_comesLater 24 = .ok (.iload_n 1, 1) := by decide +kernel
theorem d_Q_comesLater_25 : decode c_Q_comesLater 25 = .ok (.iaload, 1) := by decide +kernel
theorem d_Q_comesLater_26 : decode c_Q_comesLater 26 = .ok (.iload_n 3, 1) := by decide +kernel
theorem d_Q_comesLater_27 : decode c_Q_comesLater 27 = .ok (.if_icmp .le 7, 3) := by decide +kernel
theorem d_Q_comesLater_30 : decode c_Q_comesLater 30 = .ok (.iconst 1, 1) := by decide +kernel
theorem d_Q_comesLater_31 : decode c_Q_comesLater 31 = .ok (.goto 4, 3) := by decide +kernel
theorem d_Q_comesLater_34 : decode c_Q_comesLater 34 = .ok (.iconst 0, 1) := by decide +kernel
theorem d_Q_comesLater_35 : decode c_Q_comesLater 35 = .ok (.ireturn, 1) := by decide +kernel
theorem d_Q_move_0 : decode c_Q_move 0 = .ok (.aload_n 0, 1) := by decide +kernel
theorem d_Q_move_1 : decode c_Q_move 1 = .ok (.getfield 9, 3) := by decide +kernel
theorem d_Q_move_4 : decode c_Q_move 4 = .ok (.iload_n 2, 1) := by decide +kernel
theorem d_Q_move_5 : decode c_Q_move 5 = .ok (.aload_n 0, 1) := by decide +kernel
theorem d_Q_move_6 : decode c_Q_move 6 = .ok (.getfield 9, 3) := by decide +kernel
theorem d_Q_move_9 : decode c_Q_move 9 = .ok (.iload_n 1, 1) := by decide +kernel
theorem d_Q_move_10 : decode c_Q_move 10 = .ok (.iaload, 1) := by decide +kernel
theorem d_Q_move_11 : decode c_Q_move 11 = .ok (.iastore, 1) := by decide +kernel
theorem d_Q_move_12 : decode c_Q_move 12 = .ok (.aload_n 0, 1) := by decide +kernel
theorem d_Q_move_13 : decode c_Q_move 13 = .ok (.getfield 15, 3) := by decide +kernel
theorem d_Q_move_16 : decode c_Q_move 16 = .ok (.iload_n 2, 1) := by decide +kernel
theorem d_Q_move_17 : decode c_Q_move 17 = .ok (.aload_n 0, 1) := by decide +kernel
theorem d_Q_move_18 : decode c_Q_move 18 = .ok (.getfield 15, 3) := by decide +kernel
theorem d_Q_move_21 : decode c_Q_move 21 = .ok (.iload_n 1, 1) := by decide +kernel
theorem d_Q_move_22 : decode c_Q_move 22 = .ok (.iaload, 1) := by decide +kernel
theorem d_Q_move_23 : decode c_Q_move 23 = .ok (.iastore, 1) := by decide +kernel
theorem d_Q_move_24 : decode c_Q_move 24 = .ok (.aload_n 0, 1) := by decide +kernel
theorem d_Q_move_25 : decode c_Q_move 25 = .ok (.getfield 18, 3) := by decide +kernel
theorem d_Q_move_28 : decode c_Q_move 28 = .ok (.iload_n 2, 1) := by decide +kernel
theorem d_Q_move_29 : decode c_Q_move 29 = .ok (.aload_n 0, 1) := by decide +kernel
theorem d_Q_move_30 : decode c_Q_move 30 = .ok (.getfield 18, 3) := by decide +kernel
theorem d_Q_move_33 : decode c_Q_move 33 = .ok (.iload_n 1, 1) := by decide +kernel
theorem d_Q_move_34 : decode c_Q_move 34 = .ok (.iaload, 1) := by decide +kernel
theorem d_Q_move_35 : decode c_Q_move 35 = .ok (.iastore, 1) := by decide +kernel
theorem d_Q_move_36 : decode c_Q_move 36 = .ok (.aload_n 0, 1) := by decide +kernel
theorem d_Q_move_37 : decode c_Q_move 37 = .ok (.getfield 21, 3) := by decide +kernel
theorem d_Q_move_40 : decode c_Q_move 40 = .ok (.iload_n 2, 1) := by decide +kernel
theorem d_Q_move_41 : decode c_Q_move 41 = .ok (.aload_n 0, 1) := by decide +kernel
theorem d_Q_move_42 : decode c_Q_move 42 = .ok (.getfield 21, 3) := by decide +kernel
theorem d_Q_move_45 : decode c_Q_move 45 = .ok (.iload_n 1, 1) := by decide +kernel
theorem d_Q_move_46 : decode c_Q_move 46 = .ok (.faload, 1) := by decide +kernel
theorem d_Q_move_47 : decode c_Q_move 47 = .ok (.fastore, 1) := by decide +kernel
theorem d_Q_move_48 : decode c_Q_move 48 = .ok (.return_, 1) := by decide +kernel
theorem d_H_restart_0 : decode c_H_restart 0 = .ok (.aload_n 0, 1) := by decide +kernel
theorem d_H_restart_1 : decode c_H_restart 1 = .ok (.iload_n 1, 1) := by decide +kernel
theorem d_H_restart_2 : decode c_H_restart 2 = .ok (.putfield 23, 3) := by decide +kernel
theorem d_H_restart_5 : decode c_H_restart 5 = .ok (.aload_n 0, 1) := by decide +kernel
theorem d_H_restart_6 : decode c_H_restart 6 = .ok (.iconst 0, 1) := by decide +kernel
theorem d_H_restart_7 : decode c_H_restart 7 = .ok (.putfield 19, 3) := by decide +kernel
theorem d_H_restart_10 : decode c_H_restart 10 = .ok (.return_, 1) := by decide +kernel
theorem d_Q_openFor_0 : decode c_Q_openFor 0 = .ok (.aload_n 0, 1) := by decide +kernel
theorem d_Q_openFor_1 : decode c_Q_openFor 1 = .ok (.iconst 0, 1) := by decide +kernel
theorem d_Q_openFor_2 : decode c_Q_openFor 2 = .ok (.putfield 29, 3) := by decide +kernel
theorem d_Q_openFor_5 : decode c_Q_openFor 5 = .ok (.iconst 0, 1) := by decide +kernel
theorem d_Q_openFor_6 : decode c_Q_openFor 6 = .ok (.istore_n 3, 1) := by decide +kernel
theorem d_Q_openFor_7 : decode c_Q_openFor 7 = .ok (.iload_n 3, 1) := by decide +kernel
theorem d_Q_openFor_8 : decode c_Q_openFor 8 = .ok (.aload_n 0, 1) := by decide +kernel
theorem d_Q_openFor_9 : decode c_Q_openFor 9 = .ok (.getfield 33, 3) := by decide +kernel
theorem d_Q_openFor_12 : decode c_Q_openFor 12 = .ok (.if_icmp .ge 50, 3) := by decide +kernel
theorem d_Q_openFor_15 : decode c_Q_openFor 15 = .ok (.aload_n 0, 1) := by decide +kernel
theorem d_Q_openFor_16 : decode c_Q_openFor 16 = .ok (.getfield 25, 3) := by decide +kernel
theorem d_Q_openFor_19 : decode c_Q_openFor 19 = .ok (.iload_n 3, 1) := by decide +kernel
theorem d_Q_openFor_20 : decode c_Q_openFor 20 = .ok (.aload_n 2, 1) := by decide +kernel
theorem d_Q_openFor_21 : decode c_Q_openFor 21 = .ok (.aload_n 0, 1) := by decide +kernel
theorem d_Q_openFor_22 : decode c_Q_openFor 22 = .ok (.getfield 18, 3) := by decide +kernel
theorem d_Q_openFor_25 : decode c_Q_openFor 25 = .ok (.iload_n 3, 1) := by decide +kernel
theorem d_Q_openFor_26 : decode c_Q_openFor 26 = .ok (.iaload, 1) := by decide +kernel
theorem d_Q_openFor_27 : decode c_Q_openFor 27 = .ok (.iload_n 1, 1) := by decide +kernel
theorem d_Q_openFor_28 : decode c_Q_openFor 28 = .ok (.invokevirtual 45, 3) := by decide +kernel
theorem d_Q_openFor_31 : decode c_Q_openFor 31 = .ok (.bastore, 1) := by decide +kernel
theorem d_Q_openFor_32 : decode c_Q_openFor 32 = .ok (.aload_n 0, 1) := by decide +kernel
theorem d_Q_openFor_33 : decode c_Q_openFor 33 = .ok (.getfield 25, 3) := by decide +kernel
theorem d_Q_openFor_36 : decode c_Q_openFor 36 = .ok (.iload_n 3, 1) := by decide +kernel
theorem d_Q_openFor_37 : decode c_Q_openFor 37 = .ok (.baload, 1) := by decide +kernel
theorem d_Q_openFor_38 : decode c_Q_openFor 38 = .ok (.ifCond .ne 18, 3) := by decide +kernel
theorem d_Q_openFor_41 : decode c_Q_openFor 41 = .ok (.aload_n 0, 1) := by decide +kernel
theorem d_Q_openFor_42 : decode c_Q_openFor 42 = .ok (.getfield 9, 3) := by decide +kernel
theorem d_Q_openFor_45 : decode c_Q_openFor 45 = .ok (.iload_n 3, 1) := by decide +kernel
theorem d_Q_openFor_46 : decode c_Q_openFor 46 = .ok (.iaload, 1) := by decide +kernel
theorem d_Q_openFor_47 : decode c_Q_openFor 47 = .ok (.iconst 1, 1) := by decide +kernel
theorem d_Q_openFor_48 : decode c_Q_openFor 48 = .ok (.if_icmp .ne 8, 3) := by decide +kernel
theorem d_Q_openFor_51 : decode c_Q_openFor 51 = .ok (.aload_n 0, 1) := by decide +kernel
theorem d_Q_openFor_52 : decode c_Q_openFor 52 = .ok (.iconst 1, 1) := by decide +kernel
theorem d_Q_openFor_53 : decode c_Q_openFor 53 = .ok (.putfield 29, 3) := by decide +kernel
theorem d_Q_openFor_56 : decode c_Q_openFor 56 = .ok (.iinc 3 1, 3) := by decide +kernel
theorem d_Q_openFor_59 : decode c_Q_openFor 59 = .ok (.goto (-52), 3) := by decide +kernel
theorem d_Q_openFor_62 : decode c_Q_openFor 62 = .ok (.return_, 1) := by decide +kernel
theorem d_R_isOpen_0 : decode c_R_isOpen 0 = .ok (.aload_n 0, 1) := by decide +kernel
theorem d_R_isOpen_1 : decode c_R_isOpen 1 = .ok (.getfield 18, 3) := by decide +kernel
theorem d_R_isOpen_4 : decode c_R_isOpen 4 = .ok (.iload_n 2, 1) := by decide +kernel
theorem d_R_isOpen_5 : decode c_R_isOpen 5 = .ok (.iaload, 1) := by decide +kernel
theorem d_R_isOpen_6 : decode c_R_isOpen 6 = .ok (.aload_n 0, 1) := by decide +kernel
theorem d_R_isOpen_7 : decode c_R_isOpen 7 = .ok (.getfield 15, 3) := by decide +kernel
theorem d_R_isOpen_10 : decode c_R_isOpen 10 = .ok (.iload_n 1, 1) := by decide +kernel
theorem d_R_isOpen_11 : decode c_R_isOpen 11 = .ok (.iaload, 1) := by decide +kernel
theorem d_R_isOpen_12 : decode c_R_isOpen 12 = .ok (.if_icmp .lt 7, 3) := by decide +kernel
theorem d_R_isOpen_15 : decode c_R_isOpen 15 = .ok (.iconst 1, 1) := by decide +kernel
theorem d_R_isOpen_16 : decode c_R_isOpen 16 = .ok (.goto 4, 3) := by decide +kernel
theorem d_R_isOpen_19 : decode c_R_isOpen 19 = .ok (.iconst 0, 1) := by decide +kernel
theorem d_R_isOpen_20 : decode c_R_isOpen 20 = .ok (.ireturn, 1) := by decide +kernel
theorem d_F_placeOf_0 : decode c_F_placeOf 0 = .ok (.iconst 0, 1) := by decide +kernel
theorem d_F_placeOf_1 : decode c_F_placeOf 1 = .ok (.istore_n 3, 1) := by decide +kernel
theorem d_F_placeOf_2 : decode c_F_placeOf 2 = .ok (.iload_n 3, 1) := by decide +kernel
theorem d_F_placeOf_3 : decode c_F_placeOf 3 = .ok (.aload_n 0, 1) := by decide +kernel
theorem d_F_placeOf_4 : decode c_F_placeOf 4 = .ok (.getfield 22, 3) := by decide +kernel
theorem d_F_placeOf_7 : decode c_F_placeOf 7 = .ok (.if_icmp .ge 31, 3) := by decide +kernel
theorem d_F_placeOf_10 : decode c_F_placeOf 10 = .ok (.aload_n 0, 1) := by decide +kernel
theorem d_F_placeOf_11 : decode c_F_placeOf 11 = .ok (.getfield 9, 3) := by decide +kernel
theorem d_F_placeOf_14 : decode c_F_placeOf 14 = .ok (.iload_n 3, 1) := by decide +kernel
theorem d_F_placeOf_15 : decode c_F_placeOf 15 = .ok (.iaload, 1) := by decide +kernel
theorem d_F_placeOf_16 : decode c_F_placeOf 16 = .ok (.iload_n 1, 1) := by decide +kernel
theorem d_F_placeOf_17 : decode c_F_placeOf 17 = .ok (.if_icmp .ne 15, 3) := by decide +kernel
theorem d_F_placeOf_20 : decode c_F_placeOf 20 = .ok (.aload_n 0, 1) := by decide +kernel
theorem d_F_placeOf_21 : decode c_F_placeOf 21 = .ok (.getfield 15, 3) := by decide +kernel
theorem d_F_placeOf_24 : decode c_F_placeOf 24 = .ok (.iload_n 3, 1) := by decide +kernel
theorem d_F_placeOf_25 : decode c_F_placeOf 25 = .ok (.iaload, 1) := by decide +kernel
theorem d_F_placeOf_26 : decode c_F_placeOf 26 = .ok (.iload_n 2, 1) := by decide +kernel
theorem d_F_placeOf_27 : decode c_F_placeOf 27 = .ok (.if_icmp .ne 5, 3) := by decide +kernel
theorem d_F_placeOf_30 : decode c_F_placeOf 30 = .ok (.iload_n 3, 1) := by decide +kernel
theorem d_F_placeOf_31 : decode c_F_placeOf 31 = .ok (.ireturn, 1) := by decide +kernel
theorem d_F_placeOf_32 : decode c_F_placeOf 32 = .ok (.iinc 3 1, 3) := by decide +kernel
theorem d_F_placeOf_35 : decode c_F_placeOf 35 = .ok (.goto (-33), 3) := by decide +kernel
theorem d_F_placeOf_38 : decode c_F_placeOf 38 = .ok (.iconst (-1), 1) := by decide +kernel
theorem d_F_placeOf_39 : decode c_F_placeOf 39 = .ok (.ireturn, 1) := by decide +kernel
theorem d_F_reuse_0 : decode c_F_reuse 0 = .ok (.aload_n 0, 1) := by decide +kernel
theorem d_F_reuse_1 : decode c_F_reuse 1 = .ok (.getfield 9, 3) := by decide +kernel
theorem d_F_reuse_4 : decode c_F_reuse 4 = .ok (.iload_n 1, 1) := by decide +kernel
theorem d_F_reuse_5 : decode c_F_reuse 5 = .ok (.iaload, 1) := by decide +kernel
theorem d_F_reuse_6 : decode c_F_reuse 6 = .ok (.istore_n 2, 1) := by decide +kernel
theorem d_F_reuse_7 : decode c_F_reuse 7 = .ok (.aload_n 0, 1) := by decide +kernel
theorem d_F_reuse_8 : decode c_F_reuse 8 = .ok (.getfield 15, 3) := by decide +kernel
theorem d_F_reuse_11 : decode c_F_reuse 11 = .ok (.iload_n 1, 1) := by decide +kernel
theorem d_F_reuse_12 : decode c_F_reuse 12 = .ok (.iaload, 1) := by decide +kernel
theorem d_F_reuse_13 : decode c_F_reuse 13 = .ok (.istore_n 3, 1) := by decide +kernel
theorem d_F_reuse_14 : decode c_F_reuse 14 = .ok (.aload_n 0, 1) := by decide +kernel
theorem d_F_reuse_15 : decode c_F_reuse 15 = .ok (.getfield 18, 3) := by decide +kernel
theorem d_F_reuse_18 : decode c_F_reuse 18 = .ok (.iload_n 1, 1) := by decide +kernel
theorem d_F_reuse_19 : decode c_F_reuse 19 = .ok (.laload, 1) := by decide +kernel
theorem d_F_reuse_20 : decode c_F_reuse 20 = .ok (.lstore 4, 2) := by decide +kernel
theorem d_F_reuse_22 : decode c_F_reuse 22 = .ok (.aload_n 0, 1) := by decide +kernel
theorem d_F_reuse_23 : decode c_F_reuse 23 = .ok (.iload_n 1, 1) := by decide +kernel
theorem d_F_reuse_24 : decode c_F_reuse 24 = .ok (.invokevirtual 32, 3) := by decide +kernel
theorem d_F_reuse_27 : decode c_F_reuse 27 = .ok (.aload_n 0, 1) := by decide +kernel
theorem d_F_reuse_28 : decode c_F_reuse 28 = .ok (.iload_n 2, 1) := by decide +kernel
theorem d_F_reuse_29 : decode c_F_reuse 29 = .ok (.iload_n 3, 1) := by decide +kernel
theorem d_F_reuse_30 : decode c_F_reuse 30 = .ok (.lload 4, 2) := by decide +kernel
theorem d_F_reuse_32 : decode c_F_reuse 32 = .ok (.invokevirtual 36, 3) := by decide +kernel
theorem d_F_reuse_35 : decode c_F_reuse 35 = .ok (.aload_n 0, 1) := by decide +kernel
theorem d_F_reuse_36 : decode c_F_reuse 36 = .ok (.dup, 1) := by decide +kernel
theorem d_F_reuse_37 : decode c_F_reuse 37 = .ok (.getfield 29, 3) := by decide +kernel
theorem d_F_reuse_40 : decode c_F_reuse 40 = .ok (.iconst 1, 1) := by decide +kernel
theorem d_F_reuse_41 : decode c_F_reuse 41 = .ok (.iadd, 1) := by decide +kernel
theorem d_F_reuse_42 : decode c_F_reuse 42 = .ok (.putfield 29, 3) := by decide +kernel
theorem d_F_reuse_45 : decode c_F_reuse 45 = .ok (.lload 4, 2) := by decide +kernel
theorem d_F_reuse_47 : decode c_F_reuse 47 = .ok (.lreturn, 1) := by decide +kernel
theorem d_F_append_0 : decode c_F_append 0 = .ok (.aload_n 0, 1) := by decide +kernel
theorem d_F_append_1 : decode c_F_append 1 = .ok (.getfield 9, 3) := by decide +kernel
theorem d_F_append_4 : decode c_F_append 4 = .ok (.aload_n 0, 1) := by decide +kernel
theorem d_F_append_5 : decode c_F_append 5 = .ok (.getfield 22, 3) := by decide +kernel
theorem d_F_append_8 : decode c_F_append 8 = .ok (.iload_n 1, 1) := by decide +kernel
theorem d_F_append_9 : decode c_F_append 9 = .ok (.iastore, 1) := by decide +kernel
theorem d_F_append_10 : decode c_F_append 10 = .ok (.aload_n 0, 1) := by decide +kernel
theorem d_F_append_11 : decode c_F_append 11 = .ok (.getfield 15, 3) := by decide +kernel
theorem d_F_append_14 : decode c_F_append 14 = .ok (.aload_n 0, 1) := by decide +kernel
theorem d_F_append_15 : decode c_F_append 15 = .ok (.getfield 22, 3) := by decide +kernel
theorem d_F_append_18 : decode c_F_append 18 = .ok (.iload_n 2, 1) := by decide +kernel
theorem d_F_append_19 : decode c_F_append 19 = .ok (.iastore, 1) := by decide +kernel
theorem d_F_append_20 : decode c_F_append 20 = .ok (.aload_n 0, 1) := by decide +kernel
theorem d_F_append_21 : decode c_F_append 21 = .ok (.getfield 18, 3) := by decide +kernel
theorem d_F_append_24 : decode c_F_append 24 = .ok (.aload_n 0, 1) := by decide +kernel
theorem d_F_append_25 : decode c_F_append 25 = .ok (.getfield 22, 3) := by decide +kernel
theorem d_F_append_28 : decode c_F_append 28 = .ok (.lload_n 3, 1) := by decide +kernel
theorem d_F_append_29 : decode c_F_append 29 = .ok (.lastore, 1) := by decide +kernel
theorem d_F_append_30 : decode c_F_append 30 = .ok (.aload_n 0, 1) := by decide +kernel
theorem d_F_append_31 : decode c_F_append 31 = .ok (.dup, 1) := by decide +kernel
theorem d_F_append_32 : decode c_F_append 32 = .ok (.getfield 22, 3) := by decide +kernel
theorem d_F_append_35 : decode c_F_append 35 = .ok (.iconst 1, 1) := by decide +kernel
theorem d_F_append_36 : decode c_F_append 36 = .ok (.iadd, 1) := by decide +kernel
theorem d_F_append_37 : decode c_F_append 37 = .ok (.putfield 22, 3) := by decide +kernel
theorem d_F_append_40 : decode c_F_append 40 = .ok (.return_, 1) := by decide +kernel
theorem d_R_tokensOf_0 : decode c_R_tokensOf 0 = .ok (.iconst 1, 1) := by decide +kernel
theorem d_R_tokensOf_1 : decode c_R_tokensOf 1 = .ok (.iload_n 1, 1) := by decide +kernel
theorem d_R_tokensOf_2 : decode c_R_tokensOf 2 = .ok (.ishl, 1) := by decide +kernel
theorem d_R_tokensOf_3 : decode c_R_tokensOf 3 = .ok (.istore_n 2, 1) := by decide +kernel
theorem d_R_tokensOf_4 : decode c_R_tokensOf 4 = .ok (.iconst 0, 1) := by decide +kernel
theorem d_R_tokensOf_5 : decode c_R_tokensOf 5 = .ok (.istore_n 3, 1) := by decide +kernel
theorem d_R_tokensOf_6 : decode c_R_tokensOf 6 = .ok (.iload_n 3, 1) := by decide +kernel
theorem d_R_tokensOf_7 : decode c_R_tokensOf 7 = .ok (.bipush 8, 2) := by decide +kernel
theorem d_R_tokensOf_9 : decode c_R_tokensOf 9 = .ok (.if_icmp .ge 44, 3) := by decide +kernel
theorem d_R_tokensOf_12 : decode c_R_tokensOf 12 = .ok (.iconst 0, 1) := by decide +kernel
theorem d_R_tokensOf_13 : decode c_R_tokensOf 13 = .ok (.istore 4, 2) := by decide +kernel
theorem d_R_tokensOf_15 : decode c_R_tokensOf 15 = .ok (.iload 4, 2) := by decide +kernel
theorem d_R_tokensOf_17 : decode c_R_tokensOf 17 = .ok (.bipush 16, 2) := by decide +kernel
theorem d_R_tokensOf_19 : decode c_R_tokensOf 19 = .ok (.if_icmp .ge 28, 3) := by decide +kernel
theorem d_R_tokensOf_22 : decode c_R_tokensOf 22 = .ok (.iload_n 2, 1) := by decide +kernel
theorem d_R_tokensOf_23 : decode c_R_tokensOf 23 = .ok (.iload 4, 2) := by decide +kernel
theorem d_R_tokensOf_25 : decode c_R_tokensOf 25 = .ok (.iushr, 1) := by decide +kernel
theorem d_R_tokensOf_26 : decode c_R_tokensOf 26 = .ok (.iconst 1, 1) := by decide +kernel
theorem d_R_tokensOf_27 : decode c_R_tokensOf 27 = .ok (.iand, 1) := by decide +kernel
theorem d_R_tokensOf_28 : decode c_R_tokensOf 28 = .ok (.ifCond .eq 13, 3) := by decide +kernel
theorem d_R_tokensOf_31 : decode c_R_tokensOf 31 = .ok (.iload_n 2, 1) := by decide +kernel
theorem d_R_tokensOf_32 : decode c_R_tokensOf 32 = .ok (.aload_n 0, 1) := by decide +kernel
theorem d_R_tokensOf_33 : decode c_R_tokensOf 33 = .ok (.getfield 9, 3) := by decide +kernel
theorem d_R_tokensOf_36 : decode c_R_tokensOf 36 = .ok (.iload 4, 2) := by decide +kernel
theorem d_R_tokensOf_38 : decode c_R_tokensOf 38 = .ok (.iaload, 1) := by decide +kernel
theorem d_R_tokensOf_39 : decode c_R_tokensOf 39 = .ok (.ior, 1) := by decide +kernel
theorem d_R_tokensOf_40 : decode c_R_tokensOf 40 = .ok (.istore_n 2, 1) := by decide +kernel
theorem d_R_tokensOf_41 : decode c_R_tokensOf 41 = .ok (.iinc 4 1, 3) := by decide +kernel
theorem d_R_tokensOf_44 : decode c_R_tokensOf 44 = .ok (.goto (-29), 3) := by decide +kernel
theorem d_R_tokensOf_47 : decode c_R_tokensOf 47 = .ok (.iinc 3 1, 3) := by decide +kernel
theorem d_R_tokensOf_50 : decode c_R_tokensOf 50 = .ok (.goto (-44), 3) := by decide +kernel
theorem d_R_tokensOf_53 : decode c_R_tokensOf 53 = .ok (.iload_n 2, 1) := by decide +kernel
theorem d_R_tokensOf_54 : decode c_R_tokensOf 54 = .ok (.ireturn, 1) := by decide +kernel
theorem d_D_readableOf_0 : decode c_D_readableOf 0 = .ok (.lconst 0, 1) := by decide +kernel
theorem d_D_readableOf_1 : decode c_D_readableOf 1 = .ok (.lstore 4, 2) := by decide +kernel
theorem d_D_readableOf_3 : decode c_D_readableOf 3 = .ok (.iconst 0, 1) := by decide +kernel
theorem d_D_readableOf_4 : decode c_D_readableOf 4 = .ok (.istore 6, 2) := by decide +kernel
theorem d_D_readableOf_6 : decode c_D_readableOf 6 = .ok (.iload 6, 2) := by decide +kernel
theorem d_D_readableOf_8 : decode c_D_readableOf 8 = .ok (.aload_n 0, 1) := by decide +kernel
theorem d_D_readableOf_9 : decode c_D_readableOf 9 = .ok (.getfield 24, 3) := by decide +kernel
theorem d_D_readableOf_12 : decode c_D_readableOf 12 = .ok (.if_icmp .ge 37, 3) := by decide +kernel
theorem d_D_readableOf_15 : decode c_D_readableOf 15 = .ok (.lload_n 1, 1) := by decide +kernel
theorem d_D_readableOf_16 : decode c_D_readableOf 16 = .ok (.iload 6, 2) := by decide +kernel
theorem d_D_readableOf_18 : decode c_D_readableOf 18 = .ok (.invokestatic 32, 3) := by decide +kernel
theorem d_D_readableOf_21 : decode c_D_readableOf 21 = .ok (.ifCond .eq 22, 3) := by decide +kernel
theorem d_D_readableOf_24 : decode c_D_readableOf 24 = .ok (.aload_n 0, 1) := by decide +kernel
theorem d_D_readableOf_25 : decode c_D_readableOf 25 = .ok (.iload 6, 2) := by decide +kernel
theorem d_D_readableOf_27 : decode c_D_readableOf 27 = .ok (.iload_n 3, 1) := by decide +kernel
theorem d_D_readableOf_28 : decode c_D_readableOf 28 = .ok (.invokevirtual 36, 3) := by decide +kernel
theorem d_D_readableOf_31 : decode c_D_readableOf 31 = .ok (.ifCond .eq 12, 3) := by decide +kernel
theorem d_D_readableOf_34 : decode c_D_readableOf 34 = .ok (.lload 4, 2) := by decide +kernel
theorem d_D_readableOf_36 : decode c_D_readableOf 36 = .ok (.lconst 1, 1) := by decide +kernel
theorem d_D_readableOf_37 : decode c_D_readableOf 37 = .ok (.iload 6, 2) := by decide +kernel
theorem d_D_readableOf_39 : decode c_D_readableOf 39 = .ok (.lshl, 1) := by decide +kernel
theorem d_D_readableOf_40 : decode c_D_readableOf 40 = .ok (.lor, 1) := by decide +kernel
theorem d_D_readableOf_41 : decode c_D_readableOf 41 = .ok (.lstore 4, 2) := by decide +kernel
theorem d_D_readableOf_43 : decode c_D_readableOf 43 = .ok (.iinc 6 1, 3) := by decide +kernel
theorem d_D_readableOf_46 : decode c_D_readableOf 46 = .ok (.goto (-40), 3) := by decide +kernel
theorem d_D_readableOf_49 : decode c_D_readableOf 49 = .ok (.lload 4, 2) := by decide +kernel
theorem d_D_readableOf_51 : decode c_D_readableOf 51 = .ok (.lreturn, 1) := by decide +kernel
theorem d_D_mayRead_0 : decode c_D_mayRead 0 = .ok (.aload_n 0, 1) := by decide +kernel
theorem d_D_mayRead_1 : decode c_D_mayRead 1 = .ok (.getfield 21, 3) := by decide +kernel
theorem d_D_mayRead_4 : decode c_D_mayRead 4 = .ok (.iload_n 1, 1) := by decide +kernel
theorem d_D_mayRead_5 : decode c_D_mayRead 5 = .ok (.iaload, 1) := by decide +kernel
theorem d_D_mayRead_6 : decode c_D_mayRead 6 = .ok (.iload_n 2, 1) := by decide +kernel
theorem d_D_mayRead_7 : decode c_D_mayRead 7 = .ok (.iand, 1) := by decide +kernel
theorem d_D_mayRead_8 : decode c_D_mayRead 8 = .ok (.ifCond .ne 18, 3) := by decide +kernel
theorem d_D_mayRead_11 : decode c_D_mayRead 11 = .ok (.aload_n 0, 1) := by decide +kernel
theorem d_D_mayRead_12 : decode c_D_mayRead 12 = .ok (.getfield 18, 3) := by decide +kernel
theorem d_D_mayRead_15 : decode c_D_mayRead 15 = .ok (.iload_n 1, 1) := by decide +kernel
theorem d_D_mayRead_16 : decode c_D_mayRead 16 = .ok (.iaload, 1) := by decide +kernel
theorem d_D_mayRead_17 : decode c_D_mayRead 17 = .ok (.iload_n 2, 1) := by decide +kernel
theorem d_D_mayRead_18 : decode c_D_mayRead 18 = .ok (.iand, 1) := by decide +kernel
theorem d_D_mayRead_19 : decode c_D_mayRead 19 = .ok (.ifCond .eq 7, 3) := by decide +kernel
theorem d_D_mayRead_22 : decode c_D_mayRead 22 = .ok (.iconst 1, 1) := by decide +kernel
theorem d_D_mayRead_23 : decode c_D_mayRead 23 = .ok (.goto 4, 3) := by decide +kernel
theorem d_D_mayRead_26 : decode c_D_mayRead 26 = .ok (.iconst 0, 1) := by decide +kernel
theorem d_D_mayRead_27 : decode c_D_mayRead 27 = .ok (.ireturn, 1) := by decide +kernel
theorem d_F_keepNew_0 : decode c_F_keepNew 0 = .ok (.aload_n 0, 1) := by decide +kernel
theorem d_F_keepNew_1 : decode c_F_keepNew 1 = .ok (.getfield 22, 3) := by decide +kernel
theorem d_F_keepNew_4 : decode c_F_keepNew 4 = .ok (.iconst 5, 1) := by decide +kernel
theorem d_F_keepNew_5 : decode c_F_keepNew 5 = .ok (.if_icmp .ne 8, 3) := by decide +kernel
theorem d_F_keepNew_8 : decode c_F_keepNew 8 = .ok (.aload_n 0, 1) := by decide +kernel
theorem d_F_keepNew_9 : decode c_F_keepNew 9 = .ok (.iconst 0, 1) := by decide +kernel
theorem d_F_keepNew_10 : decode c_F_keepNew 10 = .ok (.invokevirtual 32, 3) := by decide +kernel
theorem d_F_keepNew_13 : decode c_F_keepNew 13 = .ok (.aload_n 0, 1) := by decide +kernel
theorem d_F_keepNew_14 : decode c_F_keepNew 14 = .ok (.iload_n 1, 1) := by decide +kernel
theorem d_F_keepNew_15 : decode c_F_keepNew 15 = .ok (.iload_n 2, 1) := by decide +kernel
theorem d_F_keepNew_16 : decode c_F_keepNew 16 = .ok (.lload_n 3, 1) := by decide +kernel
theorem d_F_keepNew_17 : decode c_F_keepNew 17 = .ok (.invokevirtual 36, 3) := by decide +kernel
theorem d_F_keepNew_20 : decode c_F_keepNew 20 = .ok (.aload_n 0, 1) := by decide +kernel
theorem d_F_keepNew_21 : decode c_F_keepNew 21 = .ok (.dup, 1) := by decide +kernel
theorem d_F_keepNew_22 : decode c_F_keepNew 22 = .ok (.getfield 26, 3) := by decide +kernel
theorem d_F_keepNew_25 : decode c_F_keepNew 25 = .ok (.iconst 1, 1) := by decide +kernel
theorem d_F_keepNew_26 : decode c_F_keepNew 26 = .ok (.iadd, 1) := by decide +kernel
theorem d_F_keepNew_27 : decode c_F_keepNew 27 = .ok (.putfield 26, 3) := by decide +kernel
theorem d_F_keepNew_30 : decode c_F_keepNew 30 = .ok (.return_, 1) := by decide +kernel
theorem d_Q_scoreOf_0 : decode c_Q_scoreOf 0 = .ok (.fconst 0, 1) := by decide +kernel
theorem d_Q_scoreOf_1 : decode c_Q_scoreOf 1 = .ok (.fstore 4, 2) := by decide +kernel
theorem d_Q_scoreOf_3 : decode c_Q_scoreOf 3 = .ok (.iconst 0, 1) := by decide +kernel
theorem d_Q_scoreOf_4 : decode c_Q_scoreOf 4 = .ok (.istore 5, 2) := by decide +kernel
theorem d_Q_scoreOf_6 : decode c_Q_scoreOf 6 = .ok (.iload 5, 2) := by decide +kernel
theorem d_Q_scoreOf_8 : decode c_Q_scoreOf 8 = .ok (.aload_n 0, 1) := by decide +kernel
theorem d_Q_scoreOf_9 : decode c_Q_scoreOf 9 = .ok (.getfield 33, 3) := by decide +kernel
theorem d_Q_scoreOf_12 : decode c_Q_scoreOf 12 = .ok (.if_icmp .ge 69, 3) := by decide +kernel
theorem d_Q_scoreOf_15 : decode c_Q_scoreOf 15 = .ok (.aload_n 0, 1) := by decide +kernel
theorem d_Q_scoreOf_16 : decode c_Q_scoreOf 16 = .ok (.getfield 25, 3) := by decide +kernel
theorem d_Q_scoreOf_19 : decode c_Q_scoreOf 19 = .ok (.iload 5, 2) := by decide +kernel
theorem d_Q_scoreOf_21 : decode c_Q_scoreOf 21 = .ok (.baload, 1) := by decide +kernel
theorem d_Q_scoreOf_22 : decode c_Q_scoreOf 22 = .ok (.ifCond .eq 53, 3) := by decide +kernel
theorem d_Q_scoreOf_25 : decode c_Q_scoreOf 25 = .ok (.aload_n 0, 1) := by decide +kernel
theorem d_Q_scoreOf_26 : decode c_Q_scoreOf 26 = .ok (.getfield 9, 3) := by decide +kernel
theorem d_Q_scoreOf_29 : decode c_Q_scoreOf 29 = .ok (.iload 5, 2) := by decide +kernel
theorem d_Q_scoreOf_31 : decode c_Q_scoreOf 31 = .ok (.iaload, 1) := by decide +kernel
theorem d_Q_scoreOf_32 : decode c_Q_scoreOf 32 = .ok (.ifCond .ne 43, 3) := by decide +kernel
theorem d_Q_scoreOf_35 : decode c_Q_scoreOf 35 = .ok (.aload_n 3, 1) := by decide +kernel
theorem d_Q_scoreOf_36 : decode c_Q_scoreOf 36 = .ok (.lload_n 1, 1) := by decide +kernel
theorem d_Q_scoreOf_37 : decode c_Q_scoreOf 37 = .ok (.aload_n 0, 1) := by decide +kernel
theorem d_Q_scoreOf_38 : decode c_Q_scoreOf 38 = .ok (.getfield 18, 3) := by decide +kernel
theorem d_Q_scoreOf_41 : decode c_Q_scoreOf 41 = .ok (.iload 5, 2) := by decide +kernel
theorem d_Q_scoreOf_43 : decode c_Q_scoreOf 43 = .ok (.iaload, 1) := by decide +kernel
theorem d_Q_scoreOf_44 : decode c_Q_scoreOf 44 = .ok (.aload_n 0, 1) := by decide +kernel
theorem d_Q_scoreOf_45 : decode c_Q_scoreOf 45 = .ok (.getfield 15, 3) := by decide +kernel
theorem d_Q_scoreOf_48 : decode c_Q_scoreOf 48 = .ok (.iload 5, 2) := by decide +kernel
theorem d_Q_scoreOf_50 : decode c_Q_scoreOf 50 = .ok (.iaload, 1) := by decide +kernel
theorem d_Q_scoreOf_51 : decode c_Q_scoreOf 51 = .ok (.invokevirtual 60, 3) := by decide +kernel
theorem d_Q_scoreOf_54 : decode c_Q_scoreOf 54 = .ok (.i2f, 1) := by decide +kernel
theorem d_Q_scoreOf_55 : decode c_Q_scoreOf 55 = .ok (.ldc 64, 2) := by decide +kernel
theorem d_Q_scoreOf_57 : decode c_Q_scoreOf 57 = .ok (.fdiv, 1) := by decide +kernel
theorem d_Q_scoreOf_58 : decode c_Q_scoreOf 58 = .ok (.fstore 6, 2) := by decide +kernel
theorem d_Q_scoreOf_60 : decode c_Q_scoreOf 60 = .ok (.fload 4, 2) := by decide +kernel
theorem d_Q_scoreOf_62 : decode c_Q_scoreOf 62 = .ok (.aload_n 0, 1) := by decide +kernel
theorem d_Q_scoreOf_63 : decode c_Q_scoreOf 63 = .ok (.getfield 21, 3) := by decide +kernel
theorem d_Q_scoreOf_66 : decode c_Q_scoreOf 66 = .ok (.iload 5, 2) := by decide +kernel
theorem d_Q_scoreOf_68 : decode c_Q_scoreOf 68 = .ok (.faload, 1) := by decide +kernel
theorem d_Q_scoreOf_69 : decode c_Q_scoreOf 69 = .ok (.fload 6, 2) := by decide +kernel
theorem d_Q_scoreOf_71 : decode c_Q_scoreOf 71 = .ok (.fmul, 1) := by decide +kernel
theorem d_Q_scoreOf_72 : decode c_Q_scoreOf 72 = .ok (.fadd, 1) := by decide +kernel
theorem d_Q_scoreOf_73 : decode c_Q_scoreOf 73 = .ok (.fstore 4, 2) := by decide +kernel
theorem d_Q_scoreOf_75 : decode c_Q_scoreOf 75 = .ok (.iinc 5 1, 3) := by decide +kernel
theorem d_Q_scoreOf_78 : decode c_Q_scoreOf 78 = .ok (.goto (-72), 3) := by decide +kernel
theorem d_Q_scoreOf_81 : decode c_Q_scoreOf 81 = .ok (.fload 4, 2) := by decide +kernel
theorem d_Q_scoreOf_83 : decode c_Q_scoreOf 83 = .ok (.freturn, 1) := by decide +kernel
theorem d_D_greatestCode_0 : decode c_D_greatestCode 0 = .ok (.iconst 0, 1) := by decide +kernel
theorem d_D_greatestCode_1 : decode c_D_greatestCode 1 = .ok (.istore 5, 2) := by decide +kernel
theorem d_D_greatestCode_3 : decode c_D_greatestCode 3 = .ok (.lload_n 1, 1) := by decide +kernel
theorem d_D_greatestCode_4 : decode c_D_greatestCode 4 = .ok (.lstore 6, 2) := by decide +kernel
theorem d_D_greatestCode_6 : decode c_D_greatestCode 6 = .ok (.iconst 0, 1) := by decide +kernel
theorem d_D_greatestCode_7 : decode c_D_greatestCode 7 = .ok (.istore 8, 2) := by decide +kernel
theorem d_D_greatestCode_9 : decode c_D_greatestCode 9 = .ok (.iload 8, 2) := by decide +kernel
theorem d_D_greatestCode_11 : decode c_D_greatestCode 11 = .ok (.iconst 4, 1) := by decide +kernel
theorem d_D_greatestCode_12 : decode c_D_greatestCode 12 = .ok (.if_icmp .ge 48, 3) := by decide +kernel
theorem d_D_greatestCode_15 : decode c_D_greatestCode 15 = .ok (.lload 6, 2) := by decide +kernel
theorem d_D_greatestCode_17 : decode c_D_greatestCode 17 = .ok (.lconst 0, 1) := by decide +kernel
theorem d_D_greatestCode_18 : decode c_D_greatestCode 18 = .ok (.lcmp, 1) := by decide +kernel
theorem d_D_greatestCode_19 : decode c_D_greatestCode 19 = .ok (.ifCond .eq 41, 3) := by decide +kernel
theorem d_D_greatestCode_22 : decode c_D_greatestCode 22 = .ok (.iload 5, 2) := by decide +kernel
theorem d_D_greatestCode_24 : decode c_D_greatestCode 24 = .ok (.aload_n 0, 1) := by decide +kernel
theorem d_D_greatestCode_25 : decode c_D_greatestCode 25 = .ok (.getfield 9, 3) := by decide +kernel
theorem d_D_greatestCode_28 : decode c_D_greatestCode 28 = .ok (.lload 6, 2) := by decide +kernel
theorem d_D_greatestCode_30 : decode c_D_greatestCode 30 = .ok (.invokestatic 40, 3) := by decide +kernel
theorem d_D_greatestCode_33 : decode c_D_greatestCode 33 = .ok (.iload_n 3, 1) := by decide +kernel
theorem d_D_greatestCode_34 : decode c_D_greatestCode 34 = .ok (.iload 4, 2) := by decide +kernel
theorem d_D_greatestCode_36 : decode c_D_greatestCode 36 = .ok (.invokestatic 44, 3) := by decide +kernel
theorem d_D_greatestCode_39 : decode c_D_greatestCode 39 = .ok (.iaload, 1) := by decide +kernel
theorem d_D_greatestCode_40 : decode c_D_greatestCode 40 = .ok (.invokestatic 48, 3) := by decide +kernel
theorem d_D_greatestCode_43 : decode c_D_greatestCode 43 = .ok (.istore 5, 2) := by decide +kernel
theorem d_D_greatestCode_45 : decode c_D_greatestCode 45 = .ok (.lload 6, 2) := by decide +kernel
theorem d_D_greatestCode_47 : decode c_D_greatestCode 47 = .ok (.lload 6, 2) := by decide +kernel
theorem d_D_greatestCode_49 : decode c_D_greatestCode 49 = .ok (.lconst 1, 1) := by decide +kernel
theorem d_D_greatestCode_50 : decode c_D_greatestCode 50 = .ok (.lsub, 1) := by decide +kernel
theorem d_D_greatestCode_51 : decode c_D_greatestCode 51 = .ok (.land, 1) := by decide +kernel
theorem d_D_greatestCode_52 : decode c_D_greatestCode 52 = .ok (.lstore 6, 2) := by decide +kernel
theorem d_D_greatestCode_54 : decode c_D_greatestCode 54 = .ok (.iinc 8 1, 3) := by decide +kernel
theorem d_D_greatestCode_57 : decode c_D_greatestCode 57 = .ok (.goto (-48), 3) := by decide +kernel
theorem d_D_greatestCode_60 : decode c_D_greatestCode 60 = .ok (.iload 5, 2) := by decide +kernel
theorem d_D_greatestCode_62 : decode c_D_greatestCode 62 = .ok (.ireturn, 1) := by decide +kernel
theorem d_H_lastScore_0 : decode c_H_lastScore 0 = .ok (.aload_n 0, 1) := by decide +kernel
theorem d_H_lastScore_1 : decode c_H_lastScore 1 = .ok (.getfield 19, 3) := by decide +kernel
theorem d_H_lastScore_4 : decode c_H_lastScore 4 = .ok (.ifCond .le 17, 3) := by decide +kernel
theorem d_H_lastScore_7 : decode c_H_lastScore 7 = .ok (.aload_n 0, 1) := by decide +kernel
theorem d_H_lastScore_8 : decode c_H_lastScore 8 = .ok (.getfield 15, 3) := by decide +kernel
theorem d_H_lastScore_11 : decode c_H_lastScore 11 = .ok (.aload_n 0, 1) := by decide +kernel
theorem d_H_lastScore_12 : decode c_H_lastScore 12 = .ok (.getfield 19, 3) := by decide +kernel
theorem d_H_lastScore_15 : decode c_H_lastScore 15 = .ok (.iconst 1, 1) := by decide +kernel
theorem d_H_lastScore_16 : decode c_H_lastScore 16 = .ok (.isub, 1) := by decide +kernel
theorem d_H_lastScore_17 : decode c_H_lastScore 17 = .ok (.faload, 1) := by decide +kernel
theorem d_H_lastScore_18 : decode c_H_lastScore 18 = .ok (.goto 4, 3) := by decide +kernel
theorem d_H_lastScore_21 : decode c_H_lastScore 21 = .ok (.fconst 0, 1) := by decide +kernel
theorem d_H_lastScore_22 : decode c_H_lastScore 22 = .ok (.freturn, 1) := by decide +kernel
theorem d_Q_finds_0 : decode c_Q_finds 0 = .ok (.iconst 0, 1) := by decide +kernel
theorem d_Q_finds_1 : decode c_Q_finds 1 = .ok (.istore_n 3, 1) := by decide +kernel
theorem d_Q_finds_2 : decode c_Q_finds 2 = .ok (.iconst 0, 1) := by decide +kernel
theorem d_Q_finds_3 : decode c_Q_finds 3 = .ok (.istore 4, 2) := by decide +kernel
theorem d_Q_finds_5 : decode c_Q_finds 5 = .ok (.iload 4, 2) := by decide +kernel
theorem d_Q_finds_7 : decode c_Q_finds 7 = .ok (.aload_n 0, 1) := by decide +kernel
theorem d_Q_finds_8 : decode c_Q_finds 8 = .ok (.getfield 33, 3) := by decide +kernel
theorem d_Q_finds_11 : decode c_Q_finds 11 = .ok (.if_icmp .ge 113, 3) := by decide +kernel
theorem d_Q_finds_14 : decode c_Q_finds 14 = .ok (.aload_n 2, 1) := by decide +kernel
theorem d_Q_finds_15 : decode c_Q_finds 15 = .ok (.getfield 51, 3) := by decide +kernel
theorem d_Q_finds_18 : decode c_Q_finds 18 = .ok (.iload_n 1, 1) := by decide +kernel
theorem d_Q_finds_19 : decode c_Q_finds 19 = .ok (.aload_n 0, 1) := by decide +kernel
theorem d_Q_finds_20 : decode c_Q_finds 20 = .ok (.getfield 18, 3) := by decide +kernel
theorem d_Q_finds_23 : decode c_Q_finds 23 = .ok (.iload 4, 2) := by decide +kernel
theorem d_Q_finds_25 : decode c_Q_finds 25 = .ok (.iaload, 1) := by decide +kernel
theorem d_Q_finds_26 : decode c_Q_finds 26 = .ok (.aload_n 0, 1) := by decide +kernel
theorem d_Q_finds_27 : decode c_Q_finds 27 = .ok (.getfield 15, 3) := by decide +kernel
theorem d_Q_finds_30 : decode c_Q_finds 30 = .ok (.iload 4, 2) := by decide +kernel
theorem d_Q_finds_32 : decode c_Q_finds 32 = .ok (.iaload, 1) := by decide +kernel
theorem d_Q_finds_33 : decode c_Q_finds 33 = .ok (.invokestatic 56, 3) := by decide +kernel
theorem d_Q_finds_36 : decode c_Q_finds 36 = .ok (.iaload, 1) := by decide +kernel
theorem d_Q_finds_37 : decode c_Q_finds 37 = .ok (.ifCond .le 7, 3) := by decide +kernel
theorem d_Q_finds_40 : decode c_Q_finds 40 = .ok (.iconst 1, 1) := by decide +kernel
theorem d_Q_finds_41 : decode c_Q_finds 41 = .ok (.goto 4, 3) := by decide +kernel
theorem d_Q_finds_44 : decode c_Q_finds 44 = .ok (.iconst 0, 1) := by decide +kernel
theorem d_Q_finds_45 : decode c_Q_finds 45 = .ok (.istore 5, 2) := by decide +kernel
theorem d_Q_finds_47 : decode c_Q_finds 47 = .ok (.aload_n 0, 1) := by decide +kernel
theorem d_Q_finds_48 : decode c_Q_finds 48 = .ok (.getfield 25, 3) := by decide +kernel
theorem d_Q_finds_51 : decode c_Q_finds 51 = .ok (.iload 4, 2) := by decide +kernel
theorem d_Q_finds_53 : decode c_Q_finds 53 = .ok (.baload, 1) := by decide +kernel
theorem d_Q_finds_54 : decode c_Q_finds 54 = .ok (.ifCond .eq 37, 3) := by decide +kernel
theorem d_Q_finds_57 : decode c_Q_finds 57 = .ok (.aload_n 0, 1) := by decide +kernel
theorem d_Q_finds_58 : decode c_Q_finds 58 = .ok (.getfield 9, 3) := by decide +kernel
theorem d_Q_finds_61 : decode c_Q_finds 61 = .ok (.iload 4, 2) := by decide +kernel
theorem d_Q_finds_63 : decode c_Q_finds 63 = .ok (.iaload, 1) := by decide +kernel
theorem d_Q_finds_64 : decode c_Q_finds 64 = .ok (.iconst 1, 1) := by decide +kernel
theorem d_Q_finds_65 : decode c_Q_finds 65 = .ok (.if_icmp .ne 8, 3) := by decide +kernel
theorem d_Q_finds_68 : decode c_Q_finds 68 = .ok (.iload 5, 2) := by decide +kernel
theorem d_Q_finds_70 : decode c_Q_finds 70 = .ok (.ifCond .eq 19, 3) := by decide +kernel
theorem d_Q_finds_73 : decode c_Q_finds 73 = .ok (.aload_n 0, 1) := by decide +kernel
theorem d_Q_finds_74 : decode c_Q_finds 74 = .ok (.getfield 9, 3) := by decide +kernel
theorem d_Q_finds_77 : decode c_Q_finds 77 = .ok (.iload 4, 2) := by decide +kernel
theorem d_Q_finds_79 : decode c_Q_finds 79 = .ok (.iaload, 1) := by decide +kernel
theorem d_Q_finds_80 : decode c_Q_finds 80 = .ok (.iconst 2, 1) := by decide +kernel
theorem d_Q_finds_81 : decode c_Q_finds 81 = .ok (.if_icmp .ne 10, 3) := by decide +kernel
theorem d_Q_finds_84 : decode c_Q_finds 84 = .ok (.iload 5, 2) := by decide +kernel
theorem d_Q_finds_86 : decode c_Q_finds 86 = .ok (.ifCond .eq 5, 3) := by decide +kernel
theorem d_Q_finds_89 : decode c_Q_finds 89 = .ok (.iconst 0, 1) := by decide +kernel
theorem d_Q_finds_90 : decode c_Q_finds 90 = .ok (.ireturn, 1) := by decide +kernel
theorem d_Q_finds_91 : decode c_Q_finds 91 = .ok (.aload_n 0, 1) := by decide +kernel
theorem d_Q_finds_92 : decode c_Q_finds 92 = .ok (.getfield 25, 3) := by decide +kernel
theorem d_Q_finds_95 : decode c_Q_finds 95 = .ok (.iload 4, 2) := by decide +kernel
theorem d_Q_finds_97 : decode c_Q_finds 97 = .ok (.baload, 1) := by decide +kernel
theorem d_Q_finds_98 : decode c_Q_finds 98 = .ok (.ifCond .eq 20, 3) := by decide +kernel
theorem d_Q_finds_101 : decode c_Q_finds 101 = .ok (.aload_n 0, 1) := by decide +kernel
theorem d_Q_finds_102 : decode c_Q_finds 102 = .ok (.getfield 9, 3) := by decide +kernel
theorem d_Q_finds_105 : decode c_Q_finds 105 = .ok (.iload 4, 2) := by decide +kernel
theorem d_Q_finds_107 : decode c_Q_finds 107 = .ok (.iaload, 1) := by decide +kernel
theorem d_Q_finds_108 : decode c_Q_finds 108 = .ok (.ifCond .ne 10, 3) := by decide +kernel
theorem d_Q_finds_111 : decode c_Q_finds 111 = .ok (.iload 5, 2) := by decide +kernel
theorem d_Q_finds_113 : decode c_Q_finds 113 = .ok (.ifCond .eq 5, 3) := by decide +kernel
theorem d_Q_finds_116 : decode c_Q_finds 116 = .ok (.iconst 1, 1) := by decide +kernel
theorem d_Q_finds_117 : decode c_Q_finds 117 = .ok (.istore_n 3, 1) := by decide +kernel
theorem d_Q_finds_118 : decode c_Q_finds 118 = .ok (.iinc 4 1, 3) := by decide +kernel
theorem d_Q_finds_121 : decode c_Q_finds 121 = .ok (.goto (-116), 3) := by decide +kernel
theorem d_Q_finds_124 : decode c_Q_finds 124 = .ok (.iload_n 3, 1) := by decide +kernel
theorem d_Q_finds_125 : decode c_Q_finds 125 = .ok (.ifCond .eq 14, 3) := by decide +kernel
theorem d_Q_finds_128 : decode c_Q_finds 128 = .ok (.aload_n 0, 1) := by decide +kernel
theorem d_Q_finds_129 : decode c_Q_finds 129 = .ok (.getfield 29, 3) := by decide +kernel
theorem d_Q_finds_132 : decode c_Q_finds 132 = .ok (.ifCond .ne 7, 3) := by decide +kernel
theorem d_Q_finds_135 : decode c_Q_finds 135 = .ok (.iconst 1, 1) := by decide +kernel
theorem d_Q_finds_136 : decode c_Q_finds 136 = .ok (.goto 4, 3) := by decide +kernel
theorem d_Q_finds_139 : decode c_Q_finds 139 = .ok (.iconst 0, 1) := by decide +kernel
theorem d_Q_finds_140 : decode c_Q_finds 140 = .ok (.ireturn, 1) := by decide +kernel
theorem d_H_take_0 : decode c_H_take 0 = .ok (.aload_n 0, 1) := by decide +kernel
theorem d_H_take_1 : decode c_H_take 1 = .ok (.getfield 19, 3) := by decide +kernel
theorem d_H_take_4 : decode c_H_take 4 = .ok (.aload_n 0, 1) := by decide +kernel
theorem d_H_take_5 : decode c_H_take 5 = .ok (.getfield 23, 3) := by decide +kernel
theorem d_H_take_8 : decode c_H_take 8 = .ok (.if_icmp .ne 13, 3) := by decide +kernel
theorem d_H_take_11 : decode c_H_take 11 = .ok (.fload_n 2, 1) := by decide +kernel
theorem d_H_take_12 : decode c_H_take 12 = .ok (.aload_n 0, 1) := by decide +kernel
theorem d_H_take_13 : decode c_H_take 13 = .ok (.invokevirtual 26, 3) := by decide +kernel
theorem d_H_take_16 : decode c_H_take 16 = .ok (.fcmp .g, 1) := by decide +kernel
theorem d_H_take_17 : decode c_H_take 17 = .ok (.ifCond .gt 4, 3) := by decide +kernel
theorem d_H_take_20 : decode c_H_take 20 = .ok (.return_, 1) := by decide +kernel
theorem d_H_take_21 : decode c_H_take 21 = .ok (.aload_n 0, 1) := by decide +kernel
theorem d_H_take_22 : decode c_H_take 22 = .ok (.getfield 19, 3) := by decide +kernel
theorem d_H_take_25 : decode c_H_take 25 = .ok (.aload_n 0, 1) := by decide +kernel
theorem d_H_take_26 : decode c_H_take 26 = .ok (.getfield 23, 3) := by decide +kernel
theorem d_H_take_29 : decode c_H_take 29 = .ok (.if_icmp .ge 10, 3) := by decide +kernel
theorem d_H_take_32 : decode c_H_take 32 = .ok (.aload_n 0, 1) := by decide +kernel
theorem d_H_take_33 : decode c_H_take 33 = .ok (.getfield 19, 3) := by decide +kernel
theorem d_H_take_36 : decode c_H_take 36 = .ok (.goto 9, 3) := by decide +kernel
theorem d_H_take_39 : decode c_H_take 39 = .ok (.aload_n 0, 1) := by decide +kernel
theorem d_H_take_40 : decode c_H_take 40 = .ok (.getfield 23, 3) := by decide +kernel
theorem d_H_take_43 : decode c_H_take 43 = .ok (.iconst 1, 1) := by decide +kernel
theorem d_H_take_44 : decode c_H_take 44 = .ok (.isub, 1) := by decide +kernel
theorem d_H_take_45 : decode c_H_take 45 = .ok (.istore_n 3, 1) := by decide +kernel
theorem d_H_take_46 : decode c_H_take 46 = .ok (.iload_n 3, 1) := by decide +kernel
theorem d_H_take_47 : decode c_H_take 47 = .ok (.ifCond .le 50, 3) := by decide +kernel
theorem d_H_take_50 : decode c_H_take 50 = .ok (.aload_n 0, 1) := by decide +kernel
theorem d_H_take_51 : decode c_H_take 51 = .ok (.getfield 15, 3) := by decide +kernel
theorem d_H_take_54 : decode c_H_take 54 = .ok (.iload_n 3, 1) := by decide +kernel
theorem d_H_take_55 : decode c_H_take 55 = .ok (.iconst 1, 1) := by decide +kernel
theorem d_H_take_56 : decode c_H_take 56 = .ok (.isub, 1) := by decide +kernel
theorem d_H_take_57 : decode c_H_take 57 = .ok (.faload, 1) := by decide +kernel
theorem d_H_take_58 : decode c_H_take 58 = .ok (.fload_n 2, 1) := by decide +kernel
theorem d_H_take_59 : decode c_H_take 59 = .ok (.fcmp .g, 1) := by decide +kernel
theorem d_H_take_60 : decode c_H_take 60 = .ok (.ifCond .ge 37, 3) := by decide +kernel
theorem d_H_take_63 : decode c_H_take 63 = .ok (.aload_n 0, 1) := by decide +kernel
theorem d_H_take_64 : decode c_H_take 64 = .ok (.getfield 9, 3) := by decide +kernel
theorem d_H_take_67 : decode c_H_take 67 = .ok (.iload_n 3, 1) := by decide +kernel
theorem d_H_take_68 : decode c_H_take 68 = .ok (.aload_n 0, 1) := by decide +kernel
theorem d_H_take_69 : decode c_H_take 69 = .ok (.getfield 9, 3) := by decide +kernel
theorem d_H_take_72 : decode c_H_take 72 = .ok (.iload_n 3, 1) := by decide +kernel
theorem d_H_take_73 : decode c_H_take 73 = .ok (.iconst 1, 1) := by decide +kernel
theorem d_H_take_74 : decode c_H_take 74 = .ok (.isub, 1) := by decide +kernel
theorem d_H_take_75 : decode c_H_take 75 = .ok (.iaload, 1) := by decide +kernel
theorem d_H_take_76 : decode c_H_take 76 = .ok (.iastore, 1) := by decide +kernel
theorem d_H_take_77 : decode c_H_take 77 = .ok (.aload_n 0, 1) := by decide +kernel
theorem d_H_take_78 : decode c_H_take 78 = .ok (.getfield 15, 3) := by decide +kernel
theorem d_H_take_81 : decode c_H_take 81 = .ok (.iload_n 3, 1) := by decide +kernel
theorem d_H_take_82 : decode c_H_take 82 = .ok (.aload_n 0, 1) := by decide +kernel
theorem d_H_take_83 : decode c_H_take 83 = .ok (.getfield 15, 3) := by decide +kernel
theorem d_H_take_86 : decode c_H_take 86 = .ok (.iload_n 3, 1) := by decide +kernel
theorem d_H_take_87 : decode c_H_take 87 = .ok (.iconst 1, 1) := by decide +kernel
theorem d_H_take_88 : decode c_H_take 88 = .ok (.isub, 1) := by decide +kernel
theorem d_H_take_89 : decode c_H_take 89 = .ok (.faload, 1) := by decide +kernel
theorem d_H_take_90 : decode c_H_take 90 = .ok (.fastore, 1) := by decide +kernel
theorem d_H_take_91 : decode c_H_take 91 = .ok (.iinc 3 (-1), 3) := by decide +kernel
theorem d_H_take_94 : decode c_H_take 94 = .ok (.goto (-48), 3) := by decide +kernel
theorem d_H_take_97 : decode c_H_take 97 = .ok (.aload_n 0, 1) := by decide +kernel
theorem d_H_take_98 : decode c_H_take 98 = .ok (.getfield 9, 3) := by decide +kernel
theorem d_H_take_101 : decode c_H_take 101 = .ok (.iload_n 3, 1) := by decide +kernel
theorem d_H_take_102 : decode c_H_take 102 = .ok (.iload_n 1, 1) := by decide +kernel
theorem d_H_take_103 : decode c_H_take 103 = .ok (.iastore, 1) := by decide +kernel
theorem d_H_take_104 : decode c_H_take 104 = .ok (.aload_n 0, 1) := by decide +kernel
theorem d_H_take_105 : decode c_H_take 105 = .ok (.getfield 15, 3) := by decide +kernel
theorem d_H_take_108 : decode c_H_take 108 = .ok (.iload_n 3, 1) := by decide +kernel
theorem d_H_take_109 : decode c_H_take 109 = .ok (.fload_n 2, 1) := by decide +kernel
theorem d_H_take_110 : decode c_H_take 110 = .ok (.fastore, 1) := by decide +kernel
theorem d_H_take_111 : decode c_H_take 111 = .ok (.aload_n 0, 1) := by decide +kernel
theorem d_H_take_112 : decode c_H_take 112 = .ok (.aload_n 0, 1) := by decide +kernel
theorem d_H_take_113 : decode c_H_take 113 = .ok (.getfield 19, 3) := by decide +kernel
theorem d_H_take_116 : decode c_H_take 116 = .ok (.iconst 1, 1) := by decide +kernel
theorem d_H_take_117 : decode c_H_take 117 = .ok (.iadd, 1) := by decide +kernel
theorem d_H_take_118 : decode c_H_take 118 = .ok (.aload_n 0, 1) := by decide +kernel
theorem d_H_take_119 : decode c_H_take 119 = .ok (.getfield 23, 3) := by decide +kernel
theorem d_H_take_122 : decode c_H_take 122 = .ok (.invokestatic 30, 3) := by decide +kernel
theorem d_H_take_125 : decode c_H_take 125 = .ok (.putfield 19, 3) := by decide +kernel
theorem d_H_take_128 : decode c_H_take 128 = .ok (.return_, 1) := by decide +kernel
