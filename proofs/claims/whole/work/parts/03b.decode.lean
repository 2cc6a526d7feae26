theorem d_X_init_0 : decode c_X_init 0 = .ok (.aload_n 0, 1) := by decide +kernel
theorem d_X_init_1 : decode c_X_init 1 = .ok (.invokespecial 3, 3) := by decide +kernel
theorem d_X_init_4 : decode c_X_init 4 = .ok (.aload_n 0, 1) := by decide +kernel
theorem d_X_init_5 : decode c_X_init 5 = .ok (.new 9, 3) := by decide +kernel
theorem d_X_init_8 : decode c_X_init 8 = .ok (.dup, 1) := by decide +kernel
theorem d_X_init_9 : decode c_X_init 9 = .ok (.invokespecial 11, 3) := by decide +kernel
theorem d_X_init_12 : decode c_X_init 12 = .ok (.putfield 12, 3) := by decide +kernel
theorem d_X_init_15 : decode c_X_init 15 = .ok (.aload_n 0, 1) := by decide +kernel
theorem d_X_init_16 : decode c_X_init 16 = .ok (.new 16, 3) := by decide +kernel
theorem d_X_init_19 : decode c_X_init 19 = .ok (.dup, 1) := by decide +kernel
theorem d_X_init_20 : decode c_X_init 20 = .ok (.invokespecial 18, 3) := by decide +kernel
theorem d_X_init_23 : decode c_X_init 23 = .ok (.putfield 19, 3) := by decide +kernel
theorem d_X_init_26 : decode c_X_init 26 = .ok (.aload_n 0, 1) := by decide +kernel
theorem d_X_init_27 : decode c_X_init 27 = .ok (.new 23, 3) := by decide +kernel
theorem d_X_init_30 : decode c_X_init 30 = .ok (.dup, 1) := by decide +kernel
theorem d_X_init_31 : decode c_X_init 31 = .ok (.invokespecial 25, 3) := by decide +kernel
theorem d_X_init_34 : decode c_X_init 34 = .ok (.putfield 26, 3) := by decide +kernel
theorem d_X_init_37 : decode c_X_init 37 = .ok (.aload_n 0, 1) := by decide +kernel
theorem d_X_init_38 : decode c_X_init 38 = .ok (.new 30, 3) := by decide +kernel
theorem d_X_init_41 : decode c_X_init 41 = .ok (.dup, 1) := by decide +kernel
theorem d_X_init_42 : decode c_X_init 42 = .ok (.invokespecial 32, 3) := by decide +kernel
theorem d_X_init_45 : decode c_X_init 45 = .ok (.putfield 33, 3) := by decide +kernel
theorem d_X_init_48 : decode c_X_init 48 = .ok (.aload_n 0, 1) := by decide +kernel
theorem d_X_init_49 : decode c_X_init 49 = .ok (.new 37, 3) := by decide +kernel
theorem d_X_init_52 : decode c_X_init 52 = .ok (.dup, 1) := by decide +kernel
theorem d_X_init_53 : decode c_X_init 53 = .ok (.invokespecial 39, 3) := by decide +kernel
theorem d_X_init_56 : decode c_X_init 56 = .ok (.putfield 40, 3) := by decide +kernel
theorem d_X_init_59 : decode c_X_init 59 = .ok (.aload_n 0, 1) := by decide +kernel
theorem d_X_init_60 : decode c_X_init 60 = .ok (.new 37, 3) := by decide +kernel
theorem d_X_init_63 : decode c_X_init 63 = .ok (.dup, 1) := by decide +kernel
theorem d_X_init_64 : decode c_X_init 64 = .ok (.invokespecial 39, 3) := by decide +kernel
theorem d_X_init_67 : decode c_X_init 67 = .ok (.putfield 44, 3) := by decide +kernel
theorem d_X_init_70 : decode c_X_init 70 = .ok (.aload_n 0, 1) := by decide +kernel
theorem d_X_init_71 : decode c_X_init 71 = .ok (.lconst 0, 1) := by decide +kernel
theorem d_X_init_72 : decode c_X_init 72 = .ok (.putfield 47, 3) := by decide +kernel
theorem d_X_init_75 : decode c_X_init 75 = .ok (.aload_n 0, 1) := by decide +kernel
theorem d_X_init_76 : decode c_X_init 76 = .ok (.iconst 0, 1) := by decide +kernel
theorem d_X_init_77 : decode c_X_init 77 = .ok (.putfield 51, 3) := by decide +kernel
theorem d_X_init_80 : decode c_X_init 80 = .ok (.aload_n 0, 1) := by decide +kernel
theorem d_X_init_81 : decode c_X_init 81 = .ok (.iconst 0, 1) := by decide +kernel
theorem d_X_init_82 : decode c_X_init 82 = .ok (.putfield 55, 3) := by decide +kernel
theorem d_X_init_85 : decode c_X_init 85 = .ok (.aload_n 0, 1) := by decide +kernel
theorem d_X_init_86 : decode c_X_init 86 = .ok (.iconst 0, 1) := by decide +kernel
theorem d_X_init_87 : decode c_X_init 87 = .ok (.putfield 58, 3) := by decide +kernel
theorem d_X_init_90 : decode c_X_init 90 = .ok (.return_, 1) := by decide +kernel
theorem d_X_merge_0 : decode c_X_merge 0 = .ok (.aload_n 0, 1) := by decide +kernel
theorem d_X_merge_1 : decode c_X_merge 1 = .ok (.getfield 40, 3) := by decide +kernel
theorem d_X_merge_4 : decode c_X_merge 4 = .ok (.getfield 135, 3) := by decide +kernel
theorem d_X_merge_7 : decode c_X_merge 7 = .ok (.invokevirtual 154, 3) := by decide +kernel
theorem d_X_merge_10 : decode c_X_merge 10 = .ok (.lstore_n 1, 1) := by decide +kernel
theorem d_X_merge_11 : decode c_X_merge 11 = .ok (.lload_n 1, 1) := by decide +kernel
theorem d_X_merge_12 : decode c_X_merge 12 = .ok (.aload_n 0, 1) := by decide +kernel
theorem d_X_merge_13 : decode c_X_merge 13 = .ok (.getfield 40, 3) := by decide +kernel
theorem d_X_merge_16 : decode c_X_merge 16 = .ok (.getfield 123, 3) := by decide +kernel
theorem d_X_merge_19 : decode c_X_merge 19 = .ok (.land, 1) := by decide +kernel
theorem d_X_merge_20 : decode c_X_merge 20 = .ok (.lstore_n 3, 1) := by decide +kernel
theorem d_X_merge_21 : decode c_X_merge 21 = .ok (.aload_n 0, 1) := by decide +kernel
theorem d_X_merge_22 : decode c_X_merge 22 = .ok (.getfield 40, 3) := by decide +kernel
theorem d_X_merge_25 : decode c_X_merge 25 = .ok (.getfield 135, 3) := by decide +kernel
theorem d_X_merge_28 : decode c_X_merge 28 = .ok (.getfield 139, 3) := by decide +kernel
theorem d_X_merge_31 : decode c_X_merge 31 = .ok (.iconst 2, 1) := by decide +kernel
theorem d_X_merge_32 : decode c_X_merge 32 = .ok (.if_icmp .ge 11, 3) := by decide +kernel
theorem d_X_merge_35 : decode c_X_merge 35 = .ok (.lload_n 3, 1) := by decide +kernel
theorem d_X_merge_36 : decode c_X_merge 36 = .ok (.lconst 0, 1) := by decide +kernel
theorem d_X_merge_37 : decode c_X_merge 37 = .ok (.lcmp, 1) := by decide +kernel
theorem d_X_merge_38 : decode c_X_merge 38 = .ok (.ifCond .ne 5, 3) := by decide +kernel
theorem d_X_merge_41 : decode c_X_merge 41 = .ok (.iconst 0, 1) := by decide +kernel
theorem d_X_merge_42 : decode c_X_merge 42 = .ok (.ireturn, 1) := by decide +kernel
theorem d_X_merge_43 : decode c_X_merge 43 = .ok (.aload_n 0, 1) := by decide +kernel
theorem d_X_merge_44 : decode c_X_merge 44 = .ok (.getfield 40, 3) := by decide +kernel
theorem d_X_merge_47 : decode c_X_merge 47 = .ok (.getfield 135, 3) := by decide +kernel
theorem d_X_merge_50 : decode c_X_merge 50 = .ok (.iconst 0, 1) := by decide +kernel
theorem d_X_merge_51 : decode c_X_merge 51 = .ok (.putfield 139, 3) := by decide +kernel
theorem d_X_merge_54 : decode c_X_merge 54 = .ok (.aload_n 0, 1) := by decide +kernel
theorem d_X_merge_55 : decode c_X_merge 55 = .ok (.lload_n 1, 1) := by decide +kernel
theorem d_X_merge_56 : decode c_X_merge 56 = .ok (.lload_n 3, 1) := by decide +kernel
theorem d_X_merge_57 : decode c_X_merge 57 = .ok (.ldc2_w 133, 3) := by decide +kernel
theorem d_X_merge_60 : decode c_X_merge 60 = .ok (.lxor, 1) := by decide +kernel
theorem d_X_merge_61 : decode c_X_merge 61 = .ok (.land, 1) := by decide +kernel
theorem d_X_merge_62 : decode c_X_merge 62 = .ok (.invokevirtual 150, 3) := by decide +kernel
theorem d_X_merge_65 : decode c_X_merge 65 = .ok (.lload_n 3, 1) := by decide +kernel
theorem d_X_merge_66 : decode c_X_merge 66 = .ok (.invokestatic 144, 3) := by decide +kernel
theorem d_X_merge_69 : decode c_X_merge 69 = .ok (.ireturn, 1) := by decide +kernel
theorem d_X_appendSegment_0 : decode c_X_appendSegment 0 = .ok (.lload_n 1, 1) := by decide +kernel
theorem d_X_appendSegment_1 : decode c_X_appendSegment 1 = .ok (.lconst 0, 1) := by decide +kernel
theorem d_X_appendSegment_2 : decode c_X_appendSegment 2 = .ok (.lcmp, 1) := by decide +kernel
theorem d_X_appendSegment_3 : decode c_X_appendSegment 3 = .ok (.ifCond .eq 28, 3) := by decide +kernel
theorem d_X_appendSegment_6 : decode c_X_appendSegment 6 = .ok (.aload_n 0, 1) := by decide +kernel
theorem d_X_appendSegment_7 : decode c_X_appendSegment 7 = .ok (.getfield 40, 3) := by decide +kernel
theorem d_X_appendSegment_10 : decode c_X_appendSegment 10 = .ok (.getfield 135, 3) := by decide +kernel
theorem d_X_appendSegment_13 : decode c_X_appendSegment 13 = .ok (.aload_n 0, 1) := by decide +kernel
theorem d_X_appendSegment_14 : decode c_X_appendSegment 14 = .ok (.getfield 51, 3) := by decide +kernel
theorem d_X_appendSegment_17 : decode c_X_appendSegment 17 = .ok (.lload_n 1, 1) := by decide +kernel
theorem d_X_appendSegment_18 : decode c_X_appendSegment 18 = .ok (.invokevirtual 237, 3) := by decide +kernel
theorem d_X_appendSegment_21 : decode c_X_appendSegment 21 = .ok (.aload_n 0, 1) := by decide +kernel
theorem d_X_appendSegment_22 : decode c_X_appendSegment 22 = .ok (.dup, 1) := by decide +kernel
theorem d_X_appendSegment_23 : decode c_X_appendSegment 23 = .ok (.getfield 51, 3) := by decide +kernel
theorem d_X_appendSegment_26 : decode c_X_appendSegment 26 = .ok (.iconst 1, 1) := by decide +kernel
theorem d_X_appendSegment_27 : decode c_X_appendSegment 27 = .ok (.iadd, 1) := by decide +kernel
theorem d_X_appendSegment_28 : decode c_X_appendSegment 28 = .ok (.putfield 51, 3) := by decide +kernel
theorem d_X_appendSegment_31 : decode c_X_appendSegment 31 = .ok (.return_, 1) := by decide +kernel
theorem d_X_refresh_0 : decode c_X_refresh 0 = .ok (.aload_n 0, 1) := by decide +kernel
theorem d_X_refresh_1 : decode c_X_refresh 1 = .ok (.getfield 40, 3) := by decide +kernel
theorem d_X_refresh_4 : decode c_X_refresh 4 = .ok (.getfield 68, 3) := by decide +kernel
theorem d_X_refresh_7 : decode c_X_refresh 7 = .ok (.aload_n 0, 1) := by decide +kernel
theorem d_X_refresh_8 : decode c_X_refresh 8 = .ok (.getfield 44, 3) := by decide +kernel
theorem d_X_refresh_11 : decode c_X_refresh 11 = .ok (.getfield 68, 3) := by decide +kernel
theorem d_X_refresh_14 : decode c_X_refresh 14 = .ok (.invokevirtual 158, 3) := by decide +kernel
theorem d_X_refresh_17 : decode c_X_refresh 17 = .ok (.istore_n 1, 1) := by decide +kernel
theorem d_X_refresh_18 : decode c_X_refresh 18 = .ok (.aload_n 0, 1) := by decide +kernel
theorem d_X_refresh_19 : decode c_X_refresh 19 = .ok (.getfield 44, 3) := by decide +kernel
theorem d_X_refresh_22 : decode c_X_refresh 22 = .ok (.aload_n 0, 1) := by decide +kernel
theorem d_X_refresh_23 : decode c_X_refresh 23 = .ok (.getfield 40, 3) := by decide +kernel
theorem d_X_refresh_26 : decode c_X_refresh 26 = .ok (.invokevirtual 162, 3) := by decide +kernel
theorem d_X_refresh_29 : decode c_X_refresh 29 = .ok (.iload_n 1, 1) := by decide +kernel
theorem d_X_refresh_30 : decode c_X_refresh 30 = .ok (.ifCond .eq 20, 3) := by decide +kernel
theorem d_X_refresh_33 : decode c_X_refresh 33 = .ok (.aload_n 0, 1) := by decide +kernel
theorem d_X_refresh_34 : decode c_X_refresh 34 = .ok (.getfield 19, 3) := by decide +kernel
theorem d_X_refresh_37 : decode c_X_refresh 37 = .ok (.aload_n 0, 1) := by decide +kernel
theorem d_X_refresh_38 : decode c_X_refresh 38 = .ok (.getfield 44, 3) := by decide +kernel
theorem d_X_refresh_41 : decode c_X_refresh 41 = .ok (.getfield 135, 3) := by decide +kernel
theorem d_X_refresh_44 : decode c_X_refresh 44 = .ok (.invokevirtual 166, 3) := by decide +kernel
theorem d_X_refresh_47 : decode c_X_refresh 47 = .ok (.goto 11, 3) := by decide +kernel
theorem d_X_refresh_50 : decode c_X_refresh 50 = .ok (.aload_n 0, 1) := by decide +kernel
theorem d_X_refresh_51 : decode c_X_refresh 51 = .ok (.getfield 19, 3) := by decide +kernel
theorem d_X_refresh_54 : decode c_X_refresh 54 = .ok (.iconst 0, 1) := by decide +kernel
theorem d_X_refresh_55 : decode c_X_refresh 55 = .ok (.putfield 170, 3) := by decide +kernel
theorem d_X_refresh_58 : decode c_X_refresh 58 = .ok (.aload_n 0, 1) := by decide +kernel
theorem d_X_refresh_59 : decode c_X_refresh 59 = .ok (.getfield 44, 3) := by decide +kernel
theorem d_X_refresh_62 : decode c_X_refresh 62 = .ok (.invokevirtual 173, 3) := by decide +kernel
theorem d_X_refresh_65 : decode c_X_refresh 65 = .ok (.invokestatic 144, 3) := by decide +kernel
theorem d_X_refresh_68 : decode c_X_refresh 68 = .ok (.ireturn, 1) := by decide +kernel
theorem d_X_clear_0 : decode c_X_clear 0 = .ok (.aload_n 0, 1) := by decide +kernel
theorem d_X_clear_1 : decode c_X_clear 1 = .ok (.getfield 26, 3) := by decide +kernel
theorem d_X_clear_4 : decode c_X_clear 4 = .ok (.getfield 176, 3) := by decide +kernel
theorem d_X_clear_7 : decode c_X_clear 7 = .ok (.istore_n 1, 1) := by decide +kernel
theorem d_X_clear_8 : decode c_X_clear 8 = .ok (.aload_n 0, 1) := by decide +kernel
theorem d_X_clear_9 : decode c_X_clear 9 = .ok (.getfield 26, 3) := by decide +kernel
theorem d_X_clear_12 : decode c_X_clear 12 = .ok (.iconst 0, 1) := by decide +kernel
theorem d_X_clear_13 : decode c_X_clear 13 = .ok (.putfield 176, 3) := by decide +kernel
theorem d_X_clear_16 : decode c_X_clear 16 = .ok (.iload_n 1, 1) := by decide +kernel
theorem d_X_clear_17 : decode c_X_clear 17 = .ok (.ireturn, 1) := by decide +kernel
theorem d_X_member_0 : decode c_X_member 0 = .ok (.iload_n 1, 1) := by decide +kernel
theorem d_X_member_1 : decode c_X_member 1 = .ok (.bipush 16, 2) := by decide +kernel
theorem d_X_member_3 : decode c_X_member 3 = .ok (.invokestatic 61, 3) := by decide +kernel
theorem d_X_member_6 : decode c_X_member 6 = .ok (.ifCond .eq 23, 3) := by decide +kernel
theorem d_X_member_9 : decode c_X_member 9 = .ok (.iload_n 2, 1) := by decide +kernel
theorem d_X_member_10 : decode c_X_member 10 = .ok (.bipush 16, 2) := by decide +kernel
theorem d_X_member_12 : decode c_X_member 12 = .ok (.invokestatic 61, 3) := by decide +kernel
theorem d_X_member_15 : decode c_X_member 15 = .ok (.ifCond .eq 14, 3) := by decide +kernel
theorem d_X_member_18 : decode c_X_member 18 = .ok (.iload_n 2, 1) := by decide +kernel
theorem d_X_member_19 : decode c_X_member 19 = .ok (.bipush 8, 2) := by decide +kernel
theorem d_X_member_21 : decode c_X_member 21 = .ok (.if_icmp .lt 8, 3) := by decide +kernel
theorem d_X_member_24 : decode c_X_member 24 = .ok (.iload_n 1, 1) := by decide +kernel
theorem d_X_member_25 : decode c_X_member 25 = .ok (.iload_n 2, 1) := by decide +kernel
theorem d_X_member_26 : decode c_X_member 26 = .ok (.if_icmp .ne 11, 3) := by decide +kernel
theorem d_X_member_29 : decode c_X_member 29 = .ok (.new 65, 3) := by decide +kernel
theorem d_X_member_32 : decode c_X_member 32 = .ok (.dup, 1) := by decide +kernel
theorem d_X_member_33 : decode c_X_member 33 = .ok (.invokespecial 67, 3) := by decide +kernel
theorem d_X_member_36 : decode c_X_member 36 = .ok (.athrow, 1) := by decide +kernel
theorem d_X_member_37 : decode c_X_member 37 = .ok (.aload_n 0, 1) := by decide +kernel
theorem d_X_member_38 : decode c_X_member 38 = .ok (.getfield 40, 3) := by decide +kernel
theorem d_X_member_41 : decode c_X_member 41 = .ok (.getfield 68, 3) := by decide +kernel
theorem d_X_member_44 : decode c_X_member 44 = .ok (.iload_n 1, 1) := by decide +kernel
theorem d_X_member_45 : decode c_X_member 45 = .ok (.iload_n 2, 1) := by decide +kernel
theorem d_X_member_46 : decode c_X_member 46 = .ok (.iload_n 3, 1) := by decide +kernel
theorem d_X_member_47 : decode c_X_member 47 = .ok (.invokevirtual 72, 3) := by decide +kernel
theorem d_X_member_50 : decode c_X_member 50 = .ok (.ireturn, 1) := by decide +kernel
theorem d_X_isBelow_0 : decode c_X_isBelow 0 = .ok (.iload_n 0, 1) := by decide +kernel
theorem d_X_isBelow_1 : decode c_X_isBelow 1 = .ok (.ifCond .lt 12, 3) := by decide +kernel
theorem d_X_isBelow_4 : decode c_X_isBelow 4 = .ok (.iload_n 0, 1) := by decide +kernel
theorem d_X_isBelow_5 : decode c_X_isBelow 5 = .ok (.iload_n 1, 1) := by decide +kernel
theorem d_X_isBelow_6 : decode c_X_isBelow 6 = .ok (.if_icmp .ge 7, 3) := by decide +kernel
theorem d_X_isBelow_9 : decode c_X_isBelow 9 = .ok (.iconst 1, 1) := by decide +kernel
theorem d_X_isBelow_10 : decode c_X_isBelow 10 = .ok (.goto 4, 3) := by decide +kernel
theorem d_X_isBelow_13 : decode c_X_isBelow 13 = .ok (.iconst 0, 1) := by decide +kernel
theorem d_X_isBelow_14 : decode c_X_isBelow 14 = .ok (.ireturn, 1) := by decide +kernel
theorem d_X_level_0 : decode c_X_level 0 = .ok (.iload_n 1, 1) := by decide +kernel
theorem d_X_level_1 : decode c_X_level 1 = .ok (.iconst 2, 1) := by decide +kernel
theorem d_X_level_2 : decode c_X_level 2 = .ok (.invokestatic 61, 3) := by decide +kernel
theorem d_X_level_5 : decode c_X_level 5 = .ok (.ifCond .eq 28, 3) := by decide +kernel
theorem d_X_level_8 : decode c_X_level 8 = .ok (.iload_n 2, 1) := by decide +kernel
theorem d_X_level_9 : decode c_X_level 9 = .ok (.iload_n 1, 1) := by decide +kernel
theorem d_X_level_10 : decode c_X_level 10 = .ok (.ifCond .ne 7, 3) := by decide +kernel
theorem d_X_level_13 : decode c_X_level 13 = .ok (.iconst 3, 1) := by decide +kernel
theorem d_X_level_14 : decode c_X_level 14 = .ok (.goto 5, 3) := by decide +kernel
theorem d_X_level_17 : decode c_X_level 17 = .ok (.bipush 8, 2) := by decide +kernel
theorem d_X_level_19 : decode c_X_level 19 = .ok (.invokestatic 61, 3) := by decide +kernel
theorem d_X_level_22 : decode c_X_level 22 = .ok (.ifCond .eq 11, 3) := by decide +kernel
theorem d_X_level_25 : decode c_X_level 25 = .ok (.iload_n 3, 1) := by decide +kernel
theorem d_X_level_26 : decode c_X_level 26 = .ok (.iconst 4, 1) := by decide +kernel
theorem d_X_level_27 : decode c_X_level 27 = .ok (.invokestatic 61, 3) := by decide +kernel
theorem d_X_level_30 : decode c_X_level 30 = .ok (.ifCond .ne 11, 3) := by decide +kernel
theorem d_X_level_33 : decode c_X_level 33 = .ok (.new 65, 3) := by decide +kernel
theorem d_X_level_36 : decode c_X_level 36 = .ok (.dup, 1) := by decide +kernel
theorem d_X_level_37 : decode c_X_level 37 = .ok (.invokespecial 67, 3) := by decide +kernel
theorem d_X_level_40 : decode c_X_level 40 = .ok (.athrow, 1) := by decide +kernel
theorem d_X_level_41 : decode c_X_level 41 = .ok (.iload_n 1, 1) := by decide +kernel
theorem d_X_level_42 : decode c_X_level 42 = .ok (.ifCond .ne 16, 3) := by decide +kernel
theorem d_X_level_45 : decode c_X_level 45 = .ok (.aload_n 0, 1) := by decide +kernel
theorem d_X_level_46 : decode c_X_level 46 = .ok (.getfield 40, 3) := by decide +kernel
theorem d_X_level_49 : decode c_X_level 49 = .ok (.getfield 68, 3) := by decide +kernel
theorem d_X_level_52 : decode c_X_level 52 = .ok (.getfield 78, 3) := by decide +kernel
theorem d_X_level_55 : decode c_X_level 55 = .ok (.goto 13, 3) := by decide +kernel
theorem d_X_level_58 : decode c_X_level 58 = .ok (.aload_n 0, 1) := by decide +kernel
theorem d_X_level_59 : decode c_X_level 59 = .ok (.getfield 40, 3) := by decide +kernel
theorem d_X_level_62 : decode c_X_level 62 = .ok (.getfield 68, 3) := by decide +kernel
theorem d_X_level_65 : decode c_X_level 65 = .ok (.getfield 82, 3) := by decide +kernel
theorem d_X_level_68 : decode c_X_level 68 = .ok (.astore 4, 2) := by decide +kernel
theorem d_X_level_70 : decode c_X_level 70 = .ok (.aload 4, 2) := by decide +kernel
theorem d_X_level_72 : decode c_X_level 72 = .ok (.iload_n 2, 1) := by decide +kernel
theorem d_X_level_73 : decode c_X_level 73 = .ok (.iaload, 1) := by decide +kernel
theorem d_X_level_74 : decode c_X_level 74 = .ok (.istore 5, 2) := by decide +kernel
theorem d_X_level_76 : decode c_X_level 76 = .ok (.aload 4, 2) := by decide +kernel
theorem d_X_level_78 : decode c_X_level 78 = .ok (.iload_n 2, 1) := by decide +kernel
theorem d_X_level_79 : decode c_X_level 79 = .ok (.iload_n 3, 1) := by decide +kernel
theorem d_X_level_80 : decode c_X_level 80 = .ok (.iastore, 1) := by decide +kernel
theorem d_X_level_81 : decode c_X_level 81 = .ok (.iload 5, 2) := by decide +kernel
theorem d_X_level_83 : decode c_X_level 83 = .ok (.ireturn, 1) := by decide +kernel
theorem d_X_weigh_0 : decode c_X_weigh 0 = .ok (.iload_n 1, 1) := by decide +kernel
theorem d_X_weigh_1 : decode c_X_weigh 1 = .ok (.iconst 3, 1) := by decide +kernel
theorem d_X_weigh_2 : decode c_X_weigh 2 = .ok (.invokestatic 61, 3) := by decide +kernel
theorem d_X_weigh_5 : decode c_X_weigh 5 = .ok (.ifCond .eq 19, 3) := by decide +kernel
theorem d_X_weigh_8 : decode c_X_weigh 8 = .ok (.iload_n 2, 1) := by decide +kernel
theorem d_X_weigh_9 : decode c_X_weigh 9 = .ok (.bipush 8, 2) := by decide +kernel
theorem d_X_weigh_11 : decode c_X_weigh 11 = .ok (.invokestatic 61, 3) := by decide +kernel
theorem d_X_weigh_14 : decode c_X_weigh 14 = .ok (.ifCond .eq 10, 3) := by decide +kernel
theorem d_X_weigh_17 : decode c_X_weigh 17 = .ok (.dload_n 3, 1) := by decide +kernel
theorem d_X_weigh_18 : decode c_X_weigh 18 = .ok (.invokestatic 85, 3) := by decide +kernel
theorem d_X_weigh_21 : decode c_X_weigh 21 = .ok (.ifCond .ne 11, 3) := by decide +kernel
theorem d_X_weigh_24 : decode c_X_weigh 24 = .ok (.new 65, 3) := by decide +kernel
theorem d_X_weigh_27 : decode c_X_weigh 27 = .ok (.dup, 1) := by decide +kernel
theorem d_X_weigh_28 : decode c_X_weigh 28 = .ok (.invokespecial 67, 3) := by decide +kernel
theorem d_X_weigh_31 : decode c_X_weigh 31 = .ok (.athrow, 1) := by decide +kernel
theorem d_X_weigh_32 : decode c_X_weigh 32 = .ok (.dload_n 3, 1) := by decide +kernel
theorem d_X_weigh_33 : decode c_X_weigh 33 = .ok (.invokestatic 89, 3) := by decide +kernel
theorem d_X_weigh_36 : decode c_X_weigh 36 = .ok (.istore 5, 2) := by decide +kernel
theorem d_X_weigh_38 : decode c_X_weigh 38 = .ok (.aload_n 0, 1) := by decide +kernel
theorem d_X_weigh_39 : decode c_X_weigh 39 = .ok (.getfield 12, 3) := by decide +kernel
theorem d_X_weigh_42 : decode c_X_weigh 42 = .ok (.getfield 93, 3) := by decide +kernel
theorem d_X_weigh_45 : decode c_X_weigh 45 = .ok (.aload_n 0, 1) := by decide +kernel
theorem d_X_weigh_46 : decode c_X_weigh 46 = .ok (.getfield 12, 3) := by decide +kernel
theorem d_X_weigh_49 : decode c_X_weigh 49 = .ok (.getfield 96, 3) := by decide +kernel
theorem d_X_weigh_52 : decode c_X_weigh 52 = .ok (.iload_n 1, 1) := by decide +kernel
theorem d_X_weigh_53 : decode c_X_weigh 53 = .ok (.iload_n 2, 1) := by decide +kernel
theorem d_X_weigh_54 : decode c_X_weigh 54 = .ok (.invokestatic 99, 3) := by decide +kernel
theorem d_X_weigh_57 : decode c_X_weigh 57 = .ok (.iload 5, 2) := by decide +kernel
theorem d_X_weigh_59 : decode c_X_weigh 59 = .ok (.iastore, 1) := by decide +kernel
theorem d_X_weigh_60 : decode c_X_weigh 60 = .ok (.iload 5, 2) := by decide +kernel
theorem d_X_weigh_62 : decode c_X_weigh 62 = .ok (.ireturn, 1) := by decide +kernel
theorem d_X_isWeight_0 : decode c_X_isWeight 0 = .ok (.dload_n 0, 1) := by decide +kernel
theorem d_X_isWeight_1 : decode c_X_isWeight 1 = .ok (.dconst 0, 1) := by decide +kernel
theorem d_X_isWeight_2 : decode c_X_isWeight 2 = .ok (.dcmp .l, 1) := by decide +kernel
theorem d_X_isWeight_3 : decode c_X_isWeight 3 = .ok (.ifCond .eq 19, 3) := by decide +kernel
theorem d_X_isWeight_6 : decode c_X_isWeight 6 = .ok (.dload_n 0, 1) := by decide +kernel
theorem d_X_isWeight_7 : decode c_X_isWeight 7 = .ok (.ldc2_w 231, 3) := by decide +kernel
theorem d_X_isWeight_10 : decode c_X_isWeight 10 = .ok (.dcmp .l, 1) := by decide +kernel
theorem d_X_isWeight_11 : decode c_X_isWeight 11 = .ok (.ifCond .lt 15, 3) := by decide +kernel
theorem d_X_isWeight_14 : decode c_X_isWeight 14 = .ok (.dload_n 0, 1) := by decide +kernel
theorem d_X_isWeight_15 : decode c_X_isWeight 15 = .ok (.ldc2_w 233, 3) := by decide +kernel
theorem d_X_isWeight_18 : decode c_X_isWeight 18 = .ok (.dcmp .g, 1) := by decide +kernel
theorem d_X_isWeight_19 : decode c_X_isWeight 19 = .ok (.ifCond .gt 7, 3) := by decide +kernel
theorem d_X_isWeight_22 : decode c_X_isWeight 22 = .ok (.iconst 1, 1) := by decide +kernel
theorem d_X_isWeight_23 : decode c_X_isWeight 23 = .ok (.goto 4, 3) := by decide +kernel
theorem d_X_isWeight_26 : decode c_X_isWeight 26 = .ok (.iconst 0, 1) := by decide +kernel
theorem d_X_isWeight_27 : decode c_X_isWeight 27 = .ok (.ireturn, 1) := by decide +kernel
theorem d_X_codeOf_0 : decode c_X_codeOf 0 = .ok (.dload_n 0, 1) := by decide +kernel
theorem d_X_codeOf_1 : decode c_X_codeOf 1 = .ok (.d2f, 1) := by decide +kernel
theorem d_X_codeOf_2 : decode c_X_codeOf 2 = .ok (.ldc 235, 2) := by decide +kernel
theorem d_X_codeOf_4 : decode c_X_codeOf 4 = .ok (.fmul, 1) := by decide +kernel
theorem d_X_codeOf_5 : decode c_X_codeOf 5 = .ok (.ldc 236, 2) := by decide +kernel
theorem d_X_codeOf_7 : decode c_X_codeOf 7 = .ok (.fadd, 1) := by decide +kernel
theorem d_X_codeOf_8 : decode c_X_codeOf 8 = .ok (.f2i, 1) := by decide +kernel
theorem d_X_codeOf_9 : decode c_X_codeOf 9 = .ok (.istore_n 2, 1) := by decide +kernel
theorem d_X_codeOf_10 : decode c_X_codeOf 10 = .ok (.iload_n 2, 1) := by decide +kernel
theorem d_X_codeOf_11 : decode c_X_codeOf 11 = .ok (.sipush 255, 3) := by decide +kernel
theorem d_X_codeOf_14 : decode c_X_codeOf 14 = .ok (.if_icmp .le 9, 3) := by decide +kernel
theorem d_X_codeOf_17 : decode c_X_codeOf 17 = .ok (.sipush 255, 3) := by decide +kernel
theorem d_X_codeOf_20 : decode c_X_codeOf 20 = .ok (.goto 4, 3) := by decide +kernel
theorem d_X_codeOf_23 : decode c_X_codeOf 23 = .ok (.iload_n 2, 1) := by decide +kernel
theorem d_X_codeOf_24 : decode c_X_codeOf 24 = .ok (.ireturn, 1) := by decide +kernel
theorem d_X_put_0 : decode c_X_put 0 = .ok (.iload_n 1, 1) := by decide +kernel
theorem d_X_put_1 : decode c_X_put 1 = .ok (.iconst 3, 1) := by decide +kernel
theorem d_X_put_2 : decode c_X_put 2 = .ok (.invokestatic 61, 3) := by decide +kernel
theorem d_X_put_5 : decode c_X_put 5 = .ok (.ifCond .ne 11, 3) := by decide +kernel
theorem d_X_put_8 : decode c_X_put 8 = .ok (.new 65, 3) := by decide +kernel
theorem d_X_put_11 : decode c_X_put 11 = .ok (.dup, 1) := by decide +kernel
theorem d_X_put_12 : decode c_X_put 12 = .ok (.invokespecial 67, 3) := by decide +kernel
theorem d_X_put_15 : decode c_X_put 15 = .ok (.athrow, 1) := by decide +kernel
theorem d_X_put_16 : decode c_X_put 16 = .ok (.aload_n 0, 1) := by decide +kernel
theorem d_X_put_17 : decode c_X_put 17 = .ok (.getfield 12, 3) := by decide +kernel
theorem d_X_put_20 : decode c_X_put 20 = .ok (.getfield 96, 3) := by decide +kernel
theorem d_X_put_23 : decode c_X_put 23 = .ok (.iload_n 1, 1) := by decide +kernel
theorem d_X_put_24 : decode c_X_put 24 = .ok (.invokestatic 103, 3) := by decide +kernel
theorem d_X_put_27 : decode c_X_put 27 = .ok (.istore_n 3, 1) := by decide +kernel
theorem d_X_put_28 : decode c_X_put 28 = .ok (.aload_n 0, 1) := by decide +kernel
theorem d_X_put_29 : decode c_X_put 29 = .ok (.getfield 12, 3) := by decide +kernel
theorem d_X_put_32 : decode c_X_put 32 = .ok (.getfield 107, 3) := by decide +kernel
theorem d_X_put_35 : decode c_X_put 35 = .ok (.iload_n 3, 1) := by decide +kernel
theorem d_X_put_36 : decode c_X_put 36 = .ok (.iaload, 1) := by decide +kernel
theorem d_X_put_37 : decode c_X_put 37 = .ok (.istore 4, 2) := by decide +kernel
theorem d_X_put_39 : decode c_X_put 39 = .ok (.aload_n 0, 1) := by decide +kernel
theorem d_X_put_40 : decode c_X_put 40 = .ok (.getfield 12, 3) := by decide +kernel
theorem d_X_put_43 : decode c_X_put 43 = .ok (.getfield 107, 3) := by decide +kernel
theorem d_X_put_46 : decode c_X_put 46 = .ok (.iload_n 3, 1) := by decide +kernel
theorem d_X_put_47 : decode c_X_put 47 = .ok (.iload_n 2, 1) := by decide +kernel
theorem d_X_put_48 : decode c_X_put 48 = .ok (.iastore, 1) := by decide +kernel
theorem d_X_put_49 : decode c_X_put 49 = .ok (.iload 4, 2) := by decide +kernel
theorem d_X_put_51 : decode c_X_put 51 = .ok (.ireturn, 1) := by decide +kernel
theorem d_X_rule_0 : decode c_X_rule 0 = .ok (.iload_n 1, 1) := by decide +kernel
theorem d_X_rule_1 : decode c_X_rule 1 = .ok (.bipush 16, 2) := by decide +kernel
theorem d_X_rule_3 : decode c_X_rule 3 = .ok (.invokestatic 61, 3) := by decide +kernel
theorem d_X_rule_6 : decode c_X_rule 6 = .ok (.ifCond .ne 11, 3) := by decide +kernel
theorem d_X_rule_9 : decode c_X_rule 9 = .ok (.new 65, 3) := by decide +kernel
theorem d_X_rule_12 : decode c_X_rule 12 = .ok (.dup, 1) := by decide +kernel
theorem d_X_rule_13 : decode c_X_rule 13 = .ok (.invokespecial 67, 3) := by decide +kernel
theorem d_X_rule_16 : decode c_X_rule 16 = .ok (.athrow, 1) := by decide +kernel
theorem d_X_rule_17 : decode c_X_rule 17 = .ok (.iload_n 2, 1) := by decide +kernel
theorem d_X_rule_18 : decode c_X_rule 18 = .ok (.ifCond .eq 13, 3) := by decide +kernel
theorem d_X_rule_21 : decode c_X_rule 21 = .ok (.aload_n 0, 1) := by decide +kernel
theorem d_X_rule_22 : decode c_X_rule 22 = .ok (.getfield 12, 3) := by decide +kernel
theorem d_X_rule_25 : decode c_X_rule 25 = .ok (.getfield 110, 3) := by decide +kernel
theorem d_X_rule_28 : decode c_X_rule 28 = .ok (.goto 10, 3) := by decide +kernel
theorem d_X_rule_31 : decode c_X_rule 31 = .ok (.aload_n 0, 1) := by decide +kernel
theorem d_X_rule_32 : decode c_X_rule 32 = .ok (.getfield 12, 3) := by decide +kernel
theorem d_X_rule_35 : decode c_X_rule 35 = .ok (.getfield 113, 3) := by decide +kernel
theorem d_X_rule_38 : decode c_X_rule 38 = .ok (.astore_n 3, 1) := by decide +kernel
theorem d_X_rule_39 : decode c_X_rule 39 = .ok (.aload_n 3, 1) := by decide +kernel
theorem d_X_rule_40 : decode c_X_rule 40 = .ok (.aload_n 0, 1) := by decide +kernel
theorem d_X_rule_41 : decode c_X_rule 41 = .ok (.getfield 12, 3) := by decide +kernel
theorem d_X_rule_44 : decode c_X_rule 44 = .ok (.getfield 96, 3) := by decide +kernel
theorem d_X_rule_47 : decode c_X_rule 47 = .ok (.iaload, 1) := by decide +kernel
theorem d_X_rule_48 : decode c_X_rule 48 = .ok (.istore 4, 2) := by decide +kernel
theorem d_X_rule_50 : decode c_X_rule 50 = .ok (.aload_n 3, 1) := by decide +kernel
theorem d_X_rule_51 : decode c_X_rule 51 = .ok (.aload_n 0, 1) := by decide +kernel
theorem d_X_rule_52 : decode c_X_rule 52 = .ok (.getfield 12, 3) := by decide +kernel
theorem d_X_rule_55 : decode c_X_rule 55 = .ok (.getfield 96, 3) := by decide +kernel
theorem d_X_rule_58 : decode c_X_rule 58 = .ok (.iload 4, 2) := by decide +kernel
theorem d_X_rule_60 : decode c_X_rule 60 = .ok (.iconst 1, 1) := by decide +kernel
theorem d_X_rule_61 : decode c_X_rule 61 = .ok (.iload_n 1, 1) := by decide +kernel
theorem d_X_rule_62 : decode c_X_rule 62 = .ok (.ishl, 1) := by decide +kernel
theorem d_X_rule_63 : decode c_X_rule 63 = .ok (.ior, 1) := by decide +kernel
theorem d_X_rule_64 : decode c_X_rule 64 = .ok (.iastore, 1) := by decide +kernel
theorem d_X_rule_65 : decode c_X_rule 65 = .ok (.aload_n 3, 1) := by decide +kernel
theorem d_X_rule_66 : decode c_X_rule 66 = .ok (.aload_n 0, 1) := by decide +kernel
theorem d_X_rule_67 : decode c_X_rule 67 = .ok (.getfield 12, 3) := by decide +kernel
theorem d_X_rule_70 : decode c_X_rule 70 = .ok (.getfield 96, 3) := by decide +kernel
theorem d_X_rule_73 : decode c_X_rule 73 = .ok (.iaload, 1) := by decide +kernel
theorem d_X_rule_74 : decode c_X_rule 74 = .ok (.iload 4, 2) := by decide +kernel
theorem d_X_rule_76 : decode c_X_rule 76 = .ok (.if_icmp .eq 7, 3) := by decide +kernel
theorem d_X_rule_79 : decode c_X_rule 79 = .ok (.iconst 1, 1) := by decide +kernel
theorem d_X_rule_80 : decode c_X_rule 80 = .ok (.goto 4, 3) := by decide +kernel
theorem d_X_rule_83 : decode c_X_rule 83 = .ok (.iconst 0, 1) := by decide +kernel
theorem d_X_rule_84 : decode c_X_rule 84 = .ok (.ireturn, 1) := by decide +kernel
theorem d_X_add_0 : decode c_X_add 0 = .ok (.iload_n 1, 1) := by decide +kernel
theorem d_X_add_1 : decode c_X_add 1 = .ok (.iconst (-1), 1) := by decide +kernel
theorem d_X_add_2 : decode c_X_add 2 = .ok (.if_icmp .eq 25, 3) := by decide +kernel
theorem d_X_add_5 : decode c_X_add 5 = .ok (.iload_n 1, 1) := by decide +kernel
theorem d_X_add_6 : decode c_X_add 6 = .ok (.aload_n 0, 1) := by decide +kernel
theorem d_X_add_7 : decode c_X_add 7 = .ok (.getfield 12, 3) := by decide +kernel
theorem d_X_add_10 : decode c_X_add 10 = .ok (.getfield 96, 3) := by decide +kernel
theorem d_X_add_13 : decode c_X_add 13 = .ok (.invokestatic 61, 3) := by decide +kernel
theorem d_X_add_16 : decode c_X_add 16 = .ok (.ifCond .ne 11, 3) := by decide +kernel
theorem d_X_add_19 : decode c_X_add 19 = .ok (.new 65, 3) := by decide +kernel
theorem d_X_add_22 : decode c_X_add 22 = .ok (.dup, 1) := by decide +kernel
theorem d_X_add_23 : decode c_X_add 23 = .ok (.invokespecial 67, 3) := by decide +kernel
theorem d_X_add_26 : decode c_X_add 26 = .ok (.athrow, 1) := by decide +kernel
theorem d_X_add_27 : decode c_X_add 27 = .ok (.aload_n 0, 1) := by decide +kernel
theorem d_X_add_28 : decode c_X_add 28 = .ok (.getfield 12, 3) := by decide +kernel
theorem d_X_add_31 : decode c_X_add 31 = .ok (.getfield 96, 3) := by decide +kernel
theorem d_X_add_34 : decode c_X_add 34 = .ok (.bipush 40, 2) := by decide +kernel
theorem d_X_add_36 : decode c_X_add 36 = .ok (.if_icmp .lt 11, 3) := by decide +kernel
theorem d_X_add_39 : decode c_X_add 39 = .ok (.new 116, 3) := by decide +kernel
theorem d_X_add_42 : decode c_X_add 42 = .ok (.dup, 1) := by decide +kernel
theorem d_X_add_43 : decode c_X_add 43 = .ok (.invokespecial 118, 3) := by decide +kernel
theorem d_X_add_46 : decode c_X_add 46 = .ok (.athrow, 1) := by decide +kernel
theorem d_X_add_47 : decode c_X_add 47 = .ok (.aload_n 0, 1) := by decide +kernel
theorem d_X_add_48 : decode c_X_add 48 = .ok (.getfield 12, 3) := by decide +kernel
theorem d_X_add_51 : decode c_X_add 51 = .ok (.iload_n 1, 1) := by decide +kernel
theorem d_X_add_52 : decode c_X_add 52 = .ok (.invokevirtual 119, 3) := by decide +kernel
theorem d_X_add_55 : decode c_X_add 55 = .ok (.istore_n 2, 1) := by decide +kernel
theorem d_X_add_56 : decode c_X_add 56 = .ok (.aload_n 0, 1) := by decide +kernel
theorem d_X_add_57 : decode c_X_add 57 = .ok (.dup, 1) := by decide +kernel
theorem d_X_add_58 : decode c_X_add 58 = .ok (.getfield 47, 3) := by decide +kernel
theorem d_X_add_61 : decode c_X_add 61 = .ok (.lconst 1, 1) := by decide +kernel
theorem d_X_add_62 : decode c_X_add 62 = .ok (.iload_n 2, 1) := by decide +kernel
theorem d_X_add_63 : decode c_X_add 63 = .ok (.lshl, 1) := by decide +kernel
theorem d_X_add_64 : decode c_X_add 64 = .ok (.lor, 1) := by decide +kernel
theorem d_X_add_65 : decode c_X_add 65 = .ok (.putfield 47, 3) := by decide +kernel
theorem d_X_add_68 : decode c_X_add 68 = .ok (.iload_n 2, 1) := by decide +kernel
theorem d_X_add_69 : decode c_X_add 69 = .ok (.ireturn, 1) := by decide +kernel
theorem d_X_remove_0 : decode c_X_remove 0 = .ok (.iload_n 1, 1) := by decide +kernel
theorem d_X_remove_1 : decode c_X_remove 1 = .ok (.aload_n 0, 1) := by decide +kernel
theorem d_X_remove_2 : decode c_X_remove 2 = .ok (.getfield 12, 3) := by decide +kernel
theorem d_X_remove_5 : decode c_X_remove 5 = .ok (.getfield 96, 3) := by decide +kernel
theorem d_X_remove_8 : decode c_X_remove 8 = .ok (.invokestatic 61, 3) := by decide +kernel
theorem d_X_remove_11 : decode c_X_remove 11 = .ok (.ifCond .eq 17, 3) := by decide +kernel
theorem d_X_remove_14 : decode c_X_remove 14 = .ok (.aload_n 0, 1) := by decide +kernel
theorem d_X_remove_15 : decode c_X_remove 15 = .ok (.getfield 40, 3) := by decide +kernel
theorem d_X_remove_18 : decode c_X_remove 18 = .ok (.getfield 123, 3) := by decide +kernel
theorem d_X_remove_21 : decode c_X_remove 21 = .ok (.iload_n 1, 1) := by decide +kernel
theorem d_X_remove_22 : decode c_X_remove 22 = .ok (.invokestatic 126, 3) := by decide +kernel
theorem d_X_remove_25 : decode c_X_remove 25 = .ok (.ifCond .eq 11, 3) := by decide +kernel
theorem d_X_remove_28 : decode c_X_remove 28 = .ok (.new 130, 3) := by decide +kernel
theorem d_X_remove_31 : decode c_X_remove 31 = .ok (.dup, 1) := by decide +kernel
theorem d_X_remove_32 : decode c_X_remove 32 = .ok (.invokespecial 132, 3) := by decide +kernel
theorem d_X_remove_35 : decode c_X_remove 35 = .ok (.athrow, 1) := by decide +kernel
theorem d_X_remove_36 : decode c_X_remove 36 = .ok (.aload_n 0, 1) := by decide +kernel
theorem d_X_remove_37 : decode c_X_remove 37 = .ok (.getfield 40, 3) := by decide +kernel
theorem d_X_remove_40 : decode c_X_remove 40 = .ok (.dup, 1) := by decide +kernel
theorem d_X_remove_41 : decode c_X_remove 41 = .ok (.getfield 123, 3) := by decide +kernel
theorem d_X_remove_44 : decode c_X_remove 44 = .ok (.lconst 1, 1) := by decide +kernel
theorem d_X_remove_45 : decode c_X_remove 45 = .ok (.iload_n 1, 1) := by decide +kernel
theorem d_X_remove_46 : decode c_X_remove 46 = .ok (.lshl, 1) := by decide +kernel
theorem d_X_remove_47 : decode c_X_remove 47 = .ok (.lor, 1) := by decide +kernel
theorem d_X_remove_48 : decode c_X_remove 48 = .ok (.putfield 123, 3) := by decide +kernel
theorem d_X_remove_51 : decode c_X_remove 51 = .ok (.aload_n 0, 1) := by decide +kernel
theorem d_X_remove_52 : decode c_X_remove 52 = .ok (.dup, 1) := by decide +kernel
theorem d_X_remove_53 : decode c_X_remove 53 = .ok (.getfield 47, 3) := by decide +kernel
theorem d_X_remove_56 : decode c_X_remove 56 = .ok (.lconst 1, 1) := by decide +kernel
theorem d_X_remove_57 : decode c_X_remove 57 = .ok (.iload_n 1, 1) := by decide +kernel
theorem d_X_remove_58 : decode c_X_remove 58 = .ok (.lshl, 1) := by decide +kernel
theorem d_X_remove_59 : decode c_X_remove 59 = .ok (.ldc2_w 133, 3) := by decide +kernel
theorem d_X_remove_62 : decode c_X_remove 62 = .ok (.lxor, 1) := by decide +kernel
theorem d_X_remove_63 : decode c_X_remove 63 = .ok (.land, 1) := by decide +kernel
theorem d_X_remove_64 : decode c_X_remove 64 = .ok (.putfield 47, 3) := by decide +kernel
theorem d_X_remove_67 : decode c_X_remove 67 = .ok (.return_, 1) := by decide +kernel
theorem d_X_holds_0 : decode c_X_holds 0 = .ok (.lload_n 0, 1) := by decide +kernel
theorem d_X_holds_1 : decode c_X_holds 1 = .ok (.iload_n 2, 1) := by decide +kernel
theorem d_X_holds_2 : decode c_X_holds 2 = .ok (.lushr, 1) := by decide +kernel
theorem d_X_holds_3 : decode c_X_holds 3 = .ok (.lconst 1, 1) := by decide +kernel
theorem d_X_holds_4 : decode c_X_holds 4 = .ok (.land, 1) := by decide +kernel
theorem d_X_holds_5 : decode c_X_holds 5 = .ok (.lconst 0, 1) := by decide +kernel
theorem d_X_holds_6 : decode c_X_holds 6 = .ok (.lcmp, 1) := by decide +kernel
theorem d_X_holds_7 : decode c_X_holds 7 = .ok (.ifCond .eq 7, 3) := by decide +kernel
theorem d_X_holds_10 : decode c_X_holds 10 = .ok (.iconst 1, 1) := by decide +kernel
theorem d_X_holds_11 : decode c_X_holds 11 = .ok (.goto 4, 3) := by decide +kernel
theorem d_X_holds_14 : decode c_X_holds 14 = .ok (.iconst 0, 1) := by decide +kernel
theorem d_X_holds_15 : decode c_X_holds 15 = .ok (.ireturn, 1) := by decide +kernel
theorem d_X_flush_0 : decode c_X_flush 0 = .ok (.aload_n 0, 1) := by decide +kernel
theorem d_X_flush_1 : decode c_X_flush 1 = .ok (.getfield 40, 3) := by decide +kernel
theorem d_X_flush_4 : decode c_X_flush 4 = .ok (.getfield 135, 3) := by decide +kernel
theorem d_X_flush_7 : decode c_X_flush 7 = .ok (.getfield 139, 3) := by decide +kernel
theorem d_X_flush_10 : decode c_X_flush 10 = .ok (.bipush 6, 2) := by decide +kernel
theorem d_X_flush_12 : decode c_X_flush 12 = .ok (.if_icmp .lt 11, 3) := by decide +kernel
theorem d_X_flush_15 : decode c_X_flush 15 = .ok (.new 116, 3) := by decide +kernel
theorem d_X_flush_18 : decode c_X_flush 18 = .ok (.dup, 1) := by decide +kernel
theorem d_X_flush_19 : decode c_X_flush 19 = .ok (.invokespecial 118, 3) := by decide +kernel
theorem d_X_flush_22 : decode c_X_flush 22 = .ok (.athrow, 1) := by decide +kernel
theorem d_X_flush_23 : decode c_X_flush 23 = .ok (.aload_n 0, 1) := by decide +kernel
theorem d_X_flush_24 : decode c_X_flush 24 = .ok (.getfield 47, 3) := by decide +kernel
theorem d_X_flush_27 : decode c_X_flush 27 = .ok (.invokestatic 144, 3) := by decide +kernel
theorem d_X_flush_30 : decode c_X_flush 30 = .ok (.istore_n 1, 1) := by decide +kernel
theorem d_X_flush_31 : decode c_X_flush 31 = .ok (.aload_n 0, 1) := by decide +kernel
theorem d_X_flush_32 : decode c_X_flush 32 = .ok (.aload_n 0, 1) := by decide +kernel
theorem d_X_flush_33 : decode c_X_flush 33 = .ok (.getfield 47, 3) := by decide +kernel
theorem d_X_flush_36 : decode c_X_flush 36 = .ok (.invokevirtual 150, 3) := by decide +kernel
theorem d_X_flush_39 : decode c_X_flush 39 = .ok (.aload_n 0, 1) := by decide +kernel
theorem d_X_flush_40 : decode c_X_flush 40 = .ok (.lconst 0, 1) := by decide +kernel
theorem d_X_flush_41 : decode c_X_flush 41 = .ok (.putfield 47, 3) := by decide +kernel
theorem d_X_flush_44 : decode c_X_flush 44 = .ok (.iload_n 1, 1) := by decide +kernel
theorem d_X_flush_45 : decode c_X_flush 45 = .ok (.ireturn, 1) := by decide +kernel
theorem d_X_clause_0 : decode c_X_clause 0 = .ok (.iload_n 1, 1) := by decide +kernel
theorem d_X_clause_1 : decode c_X_clause 1 = .ok (.iconst 3, 1) := by decide +kernel
theorem d_X_clause_2 : decode c_X_clause 2 = .ok (.invokestatic 61, 3) := by decide +kernel
theorem d_X_clause_5 : decode c_X_clause 5 = .ok (.ifCond .eq 28, 3) := by decide +kernel
theorem d_X_clause_8 : decode c_X_clause 8 = .ok (.iload_n 2, 1) := by decide +kernel
theorem d_X_clause_9 : decode c_X_clause 9 = .ok (.bipush 8, 2) := by decide +kernel
theorem d_X_clause_11 : decode c_X_clause 11 = .ok (.invokestatic 61, 3) := by decide +kernel
theorem d_X_clause_14 : decode c_X_clause 14 = .ok (.ifCond .eq 19, 3) := by decide +kernel
theorem d_X_clause_17 : decode c_X_clause 17 = .ok (.iload_n 3, 1) := by decide +kernel
theorem d_X_clause_18 : decode c_X_clause 18 = .ok (.iconst 3, 1) := by decide +kernel
theorem d_X_clause_19 : decode c_X_clause 19 = .ok (.invokestatic 61, 3) := by decide +kernel
theorem d_X_clause_22 : decode c_X_clause 22 = .ok (.ifCond .eq 11, 3) := by decide +kernel
theorem d_X_clause_25 : decode c_X_clause 25 = .ok (.dload 4, 2) := by decide +kernel
theorem d_X_clause_27 : decode c_X_clause 27 = .ok (.invokestatic 85, 3) := by decide +kernel
theorem d_X_clause_30 : decode c_X_clause 30 = .ok (.ifCond .ne 11, 3) := by decide +kernel
theorem d_X_clause_33 : decode c_X_clause 33 = .ok (.new 65, 3) := by decide +kernel
theorem d_X_clause_36 : decode c_X_clause 36 = .ok (.dup, 1) := by decide +kernel
theorem d_X_clause_37 : decode c_X_clause 37 = .ok (.invokespecial 67, 3) := by decide +kernel
theorem d_X_clause_40 : decode c_X_clause 40 = .ok (.athrow, 1) := by decide +kernel
theorem d_X_clause_41 : decode c_X_clause 41 = .ok (.aload_n 0, 1) := by decide +kernel
theorem d_X_clause_42 : decode c_X_clause 42 = .ok (.getfield 26, 3) := by decide +kernel
theorem d_X_clause_45 : decode c_X_clause 45 = .ok (.getfield 176, 3) := by decide +kernel
theorem d_X_clause_48 : decode c_X_clause 48 = .ok (.bipush 6, 2) := by decide +kernel
theorem d_X_clause_50 : decode c_X_clause 50 = .ok (.if_icmp .lt 11, 3) := by decide +kernel
theorem d_X_clause_53 : decode c_X_clause 53 = .ok (.new 116, 3) := by decide +kernel
theorem d_X_clause_56 : decode c_X_clause 56 = .ok (.dup, 1) := by decide +kernel
theorem d_X_clause_57 : decode c_X_clause 57 = .ok (.invokespecial 118, 3) := by decide +kernel
theorem d_X_clause_60 : decode c_X_clause 60 = .ok (.athrow, 1) := by decide +kernel
theorem d_X_clause_61 : decode c_X_clause 61 = .ok (.aload_n 0, 1) := by decide +kernel
theorem d_X_clause_62 : decode c_X_clause 62 = .ok (.getfield 26, 3) := by decide +kernel
theorem d_X_clause_65 : decode c_X_clause 65 = .ok (.iload_n 1, 1) := by decide +kernel
theorem d_X_clause_66 : decode c_X_clause 66 = .ok (.iload_n 2, 1) := by decide +kernel
theorem d_X_clause_67 : decode c_X_clause 67 = .ok (.iload_n 3, 1) := by decide +kernel
theorem d_X_clause_68 : decode c_X_clause 68 = .ok (.dload 4, 2) := by decide +kernel
theorem d_X_clause_70 : decode c_X_clause 70 = .ok (.d2f, 1) := by decide +kernel
theorem d_X_clause_71 : decode c_X_clause 71 = .ok (.invokevirtual 177, 3) := by decide +kernel
theorem d_X_clause_74 : decode c_X_clause 74 = .ok (.aload_n 0, 1) := by decide +kernel
theorem d_X_clause_75 : decode c_X_clause 75 = .ok (.getfield 26, 3) := by decide +kernel
theorem d_X_clause_78 : decode c_X_clause 78 = .ok (.getfield 176, 3) := by decide +kernel
theorem d_X_clause_81 : decode c_X_clause 81 = .ok (.ireturn, 1) := by decide +kernel
theorem d_X_search_0 : decode c_X_search 0 = .ok (.iload_n 1, 1) := by decide +kernel
theorem d_X_search_1 : decode c_X_search 1 = .ok (.bipush 8, 2) := by decide +kernel
theorem d_X_search_3 : decode c_X_search 3 = .ok (.invokestatic 61, 3) := by decide +kernel
theorem d_X_search_6 : decode c_X_search 6 = .ok (.ifCond .eq 14, 3) := by decide +kernel
theorem d_X_search_9 : decode c_X_search 9 = .ok (.iload_n 2, 1) := by decide +kernel
theorem d_X_search_10 : decode c_X_search 10 = .ok (.iconst 1, 1) := by decide +kernel
theorem d_X_search_11 : decode c_X_search 11 = .ok (.if_icmp .lt 9, 3) := by decide +kernel
theorem d_X_search_14 : decode c_X_search 14 = .ok (.iload_n 2, 1) := by decide +kernel
theorem d_X_search_15 : decode c_X_search 15 = .ok (.bipush 8, 2) := by decide +kernel
theorem d_X_search_17 : decode c_X_search 17 = .ok (.if_icmp .le 11, 3) := by decide +kernel
theorem d_X_search_20 : decode c_X_search 20 = .ok (.new 65, 3) := by decide +kernel
theorem d_X_search_23 : decode c_X_search 23 = .ok (.dup, 1) := by decide +kernel
theorem d_X_search_24 : decode c_X_search 24 = .ok (.invokespecial 67, 3) := by decide +kernel
theorem d_X_search_27 : decode c_X_search 27 = .ok (.athrow, 1) := by decide +kernel
theorem d_X_search_28 : decode c_X_search 28 = .ok (.aload_n 0, 1) := by decide +kernel
theorem d_X_search_29 : decode c_X_search 29 = .ok (.iconst 0, 1) := by decide +kernel
theorem d_X_search_30 : decode c_X_search 30 = .ok (.putfield 55, 3) := by decide +kernel
theorem d_X_search_33 : decode c_X_search 33 = .ok (.aload_n 0, 1) := by decide +kernel
theorem d_X_search_34 : decode c_X_search 34 = .ok (.iconst 0, 1) := by decide +kernel
theorem d_X_search_35 : decode c_X_search 35 = .ok (.putfield 58, 3) := by decide +kernel
theorem d_X_search_38 : decode c_X_search 38 = .ok (.aload_n 0, 1) := by decide +kernel
theorem d_X_search_39 : decode c_X_search 39 = .ok (.getfield 33, 3) := by decide +kernel
theorem d_X_search_42 : decode c_X_search 42 = .ok (.iload_n 2, 1) := by decide +kernel
theorem d_X_search_43 : decode c_X_search 43 = .ok (.invokevirtual 181, 3) := by decide +kernel
theorem d_X_search_46 : decode c_X_search 46 = .ok (.aload_n 0, 1) := by decide +kernel
theorem d_X_search_47 : decode c_X_search 47 = .ok (.getfield 26, 3) := by decide +kernel
theorem d_X_search_50 : decode c_X_search 50 = .ok (.iload_n 1, 1) := by decide +kernel
theorem d_X_search_51 : decode c_X_search 51 = .ok (.aload_n 0, 1) := by decide +kernel
theorem d_X_search_52 : decode c_X_search 52 = .ok (.getfield 44, 3) := by decide +kernel
theorem d_X_search_55 : decode c_X_search 55 = .ok (.getfield 68, 3) := by decide +kernel
theorem d_X_search_58 : decode c_X_search 58 = .ok (.invokevirtual 185, 3) := by decide +kernel
theorem d_X_search_61 : decode c_X_search 61 = .ok (.aload_n 0, 1) := by decide +kernel
theorem d_X_search_62 : decode c_X_search 62 = .ok (.getfield 44, 3) := by decide +kernel
theorem d_X_search_65 : decode c_X_search 65 = .ok (.invokevirtual 173, 3) := by decide +kernel
theorem d_X_search_68 : decode c_X_search 68 = .ok (.lstore_n 3, 1) := by decide +kernel
theorem d_X_search_69 : decode c_X_search 69 = .ok (.iconst 0, 1) := by decide +kernel
theorem d_X_search_70 : decode c_X_search 70 = .ok (.istore 5, 2) := by decide +kernel
theorem d_X_search_72 : decode c_X_search 72 = .ok (.iload 5, 2) := by decide +kernel
theorem d_X_search_74 : decode c_X_search 74 = .ok (.aload_n 0, 1) := by decide +kernel
theorem d_X_search_75 : decode c_X_search 75 = .ok (.getfield 44, 3) := by decide +kernel
theorem d_X_search_78 : decode c_X_search 78 = .ok (.getfield 135, 3) := by decide +kernel
theorem d_X_search_81 : decode c_X_search 81 = .ok (.getfield 139, 3) := by decide +kernel
theorem d_X_search_84 : decode c_X_search 84 = .ok (.if_icmp .ge 63, 3) := by decide +kernel
theorem d_X_search_87 : decode c_X_search 87 = .ok (.aload_n 0, 1) := by decide +kernel
theorem d_X_search_88 : decode c_X_search 88 = .ok (.aload_n 0, 1) := by decide +kernel
theorem d_X_search_89 : decode c_X_search 89 = .ok (.getfield 44, 3) := by decide +kernel
theorem d_X_search_92 : decode c_X_search 92 = .ok (.getfield 135, 3) := by decide +kernel
theorem d_X_search_95 : decode c_X_search 95 = .ok (.getfield 189, 3) := by decide +kernel
theorem d_X_search_98 : decode c_X_search 98 = .ok (.iload 5, 2) := by decide +kernel
theorem d_X_search_100 : decode c_X_search 100 = .ok (.iaload, 1) := by decide +kernel
theorem d_X_search_101 : decode c_X_search 101 = .ok (.aload_n 0, 1) := by decide +kernel
theorem d_X_search_102 : decode c_X_search 102 = .ok (.getfield 44, 3) := by decide +kernel
theorem d_X_search_105 : decode c_X_search 105 = .ok (.getfield 135, 3) := by decide +kernel
theorem d_X_search_108 : decode c_X_search 108 = .ok (.getfield 192, 3) := by decide +kernel
theorem d_X_search_111 : decode c_X_search 111 = .ok (.iload 5, 2) := by decide +kernel
theorem d_X_search_113 : decode c_X_search 113 = .ok (.laload, 1) := by decide +kernel
theorem d_X_search_114 : decode c_X_search 114 = .ok (.iload_n 1, 1) := by decide +kernel
theorem d_X_search_115 : decode c_X_search 115 = .ok (.invokevirtual 195, 3) := by decide +kernel
theorem d_X_search_118 : decode c_X_search 118 = .ok (.lstore 6, 2) := by decide +kernel
theorem d_X_search_120 : decode c_X_search 120 = .ok (.aload_n 0, 1) := by decide +kernel
theorem d_X_search_121 : decode c_X_search 121 = .ok (.aload_n 0, 1) := by decide +kernel
theorem d_X_search_122 : decode c_X_search 122 = .ok (.getfield 44, 3) := by decide +kernel
theorem d_X_search_125 : decode c_X_search 125 = .ok (.getfield 135, 3) := by decide +kernel
theorem d_X_search_128 : decode c_X_search 128 = .ok (.getfield 192, 3) := by decide +kernel
theorem d_X_search_131 : decode c_X_search 131 = .ok (.iload 5, 2) := by decide +kernel
theorem d_X_search_133 : decode c_X_search 133 = .ok (.laload, 1) := by decide +kernel
theorem d_X_search_134 : decode c_X_search 134 = .ok (.lload 6, 2) := by decide +kernel
theorem d_X_search_136 : decode c_X_search 136 = .ok (.lload_n 3, 1) := by decide +kernel
theorem d_X_search_137 : decode c_X_search 137 = .ok (.land, 1) := by decide +kernel
theorem d_X_search_138 : decode c_X_search 138 = .ok (.invokevirtual 199, 3) := by decide +kernel
theorem d_X_search_141 : decode c_X_search 141 = .ok (.iinc 5 1, 3) := by decide +kernel
theorem d_X_search_144 : decode c_X_search 144 = .ok (.goto (-72), 3) := by decide +kernel
theorem d_X_search_147 : decode c_X_search 147 = .ok (.aload_n 0, 1) := by decide +kernel
theorem d_X_search_148 : decode c_X_search 148 = .ok (.getfield 33, 3) := by decide +kernel
theorem d_X_search_151 : decode c_X_search 151 = .ok (.getfield 203, 3) := by decide +kernel
theorem d_X_search_154 : decode c_X_search 154 = .ok (.ireturn, 1) := by decide +kernel
theorem d_X_filterOf_0 : decode c_X_filterOf 0 = .ok (.aload_n 0, 1) := by decide +kernel
theorem d_X_filterOf_1 : decode c_X_filterOf 1 = .ok (.getfield 19, 3) := by decide +kernel
theorem d_X_filterOf_4 : decode c_X_filterOf 4 = .ok (.iload_n 1, 1) := by decide +kernel
theorem d_X_filterOf_5 : decode c_X_filterOf 5 = .ok (.iload 4, 2) := by decide +kernel
theorem d_X_filterOf_7 : decode c_X_filterOf 7 = .ok (.invokevirtual 241, 3) := by decide +kernel
theorem d_X_filterOf_10 : decode c_X_filterOf 10 = .ok (.istore 5, 2) := by decide +kernel
theorem d_X_filterOf_12 : decode c_X_filterOf 12 = .ok (.iload 5, 2) := by decide +kernel
theorem d_X_filterOf_14 : decode c_X_filterOf 14 = .ok (.ifCond .lt 13, 3) := by decide +kernel
theorem d_X_filterOf_17 : decode c_X_filterOf 17 = .ok (.aload_n 0, 1) := by decide +kernel
theorem d_X_filterOf_18 : decode c_X_filterOf 18 = .ok (.getfield 19, 3) := by decide +kernel
theorem d_X_filterOf_21 : decode c_X_filterOf 21 = .ok (.iload 5, 2) := by decide +kernel
theorem d_X_filterOf_23 : decode c_X_filterOf 23 = .ok (.invokevirtual 244, 3) := by decide +kernel
theorem d_X_filterOf_26 : decode c_X_filterOf 26 = .ok (.lreturn, 1) := by decide +kernel
theorem d_X_filterOf_27 : decode c_X_filterOf 27 = .ok (.aload_n 0, 1) := by decide +kernel
theorem d_X_filterOf_28 : decode c_X_filterOf 28 = .ok (.getfield 12, 3) := by decide +kernel
theorem d_X_filterOf_31 : decode c_X_filterOf 31 = .ok (.lload_n 2, 1) := by decide +kernel
theorem d_X_filterOf_32 : decode c_X_filterOf 32 = .ok (.aload_n 0, 1) := by decide +kernel
theorem d_X_filterOf_33 : decode c_X_filterOf 33 = .ok (.getfield 44, 3) := by decide +kernel
theorem d_X_filterOf_36 : decode c_X_filterOf 36 = .ok (.getfield 68, 3) := by decide +kernel
theorem d_X_filterOf_39 : decode c_X_filterOf 39 = .ok (.iload 4, 2) := by decide +kernel
theorem d_X_filterOf_41 : decode c_X_filterOf 41 = .ok (.invokevirtual 213, 3) := by decide +kernel
theorem d_X_filterOf_44 : decode c_X_filterOf 44 = .ok (.invokevirtual 248, 3) := by decide +kernel
theorem d_X_filterOf_47 : decode c_X_filterOf 47 = .ok (.lstore 6, 2) := by decide +kernel
theorem d_X_filterOf_49 : decode c_X_filterOf 49 = .ok (.aload_n 0, 1) := by decide +kernel
theorem d_X_filterOf_50 : decode c_X_filterOf 50 = .ok (.getfield 19, 3) := by decide +kernel
theorem d_X_filterOf_53 : decode c_X_filterOf 53 = .ok (.iload_n 1, 1) := by decide +kernel
theorem d_X_filterOf_54 : decode c_X_filterOf 54 = .ok (.iload 4, 2) := by decide +kernel
theorem d_X_filterOf_56 : decode c_X_filterOf 56 = .ok (.lload 6, 2) := by decide +kernel
theorem d_X_filterOf_58 : decode c_X_filterOf 58 = .ok (.invokevirtual 252, 3) := by decide +kernel
theorem d_X_filterOf_61 : decode c_X_filterOf 61 = .ok (.lload 6, 2) := by decide +kernel
theorem d_X_filterOf_63 : decode c_X_filterOf 63 = .ok (.lreturn, 1) := by decide +kernel
theorem d_X_passThrough_0 : decode c_X_passThrough 0 = .ok (.lload_n 1, 1) := by decide +kernel
theorem d_X_passThrough_1 : decode c_X_passThrough 1 = .ok (.lstore 5, 2) := by decide +kernel
theorem d_X_passThrough_3 : decode c_X_passThrough 3 = .ok (.iconst 0, 1) := by decide +kernel
theorem d_X_passThrough_4 : decode c_X_passThrough 4 = .ok (.istore 7, 2) := by decide +kernel
theorem d_X_passThrough_6 : decode c_X_passThrough 6 = .ok (.iload 7, 2) := by decide +kernel
theorem d_X_passThrough_8 : decode c_X_passThrough 8 = .ok (.bipush 10, 2) := by decide +kernel
theorem d_X_passThrough_10 : decode c_X_passThrough 10 = .ok (.if_icmp .ge 83, 3) := by decide +kernel
theorem d_X_passThrough_13 : decode c_X_passThrough 13 = .ok (.lload 5, 2) := by decide +kernel
theorem d_X_passThrough_15 : decode c_X_passThrough 15 = .ok (.lconst 0, 1) := by decide +kernel
theorem d_X_passThrough_16 : decode c_X_passThrough 16 = .ok (.lcmp, 1) := by decide +kernel
theorem d_X_passThrough_17 : decode c_X_passThrough 17 = .ok (.ifCond .eq 76, 3) := by decide +kernel
theorem d_X_passThrough_20 : decode c_X_passThrough 20 = .ok (.lload 5, 2) := by decide +kernel
theorem d_X_passThrough_22 : decode c_X_passThrough 22 = .ok (.invokestatic 256, 3) := by decide +kernel
theorem d_X_passThrough_25 : decode c_X_passThrough 25 = .ok (.lstore 8, 2) := by decide +kernel
theorem d_X_passThrough_27 : decode c_X_passThrough 27 = .ok (.lload 5, 2) := by decide +kernel
theorem d_X_passThrough_29 : decode c_X_passThrough 29 = .ok (.lload 8, 2) := by decide +kernel
theorem d_X_passThrough_31 : decode c_X_passThrough 31 = .ok (.ldc2_w 133, 3) := by decide +kernel
theorem d_X_passThrough_34 : decode c_X_passThrough 34 = .ok (.lxor, 1) := by decide +kernel
theorem d_X_passThrough_35 : decode c_X_passThrough 35 = .ok (.land, 1) := by decide +kernel
theorem d_X_passThrough_36 : decode c_X_passThrough 36 = .ok (.lstore 5, 2) := by decide +kernel
theorem d_X_passThrough_38 : decode c_X_passThrough 38 = .ok (.aload_n 0, 1) := by decide +kernel
theorem d_X_passThrough_39 : decode c_X_passThrough 39 = .ok (.getfield 33, 3) := by decide +kernel
theorem d_X_passThrough_42 : decode c_X_passThrough 42 = .ok (.getfield 203, 3) := by decide +kernel
theorem d_X_passThrough_45 : decode c_X_passThrough 45 = .ok (.aload_n 0, 1) := by decide +kernel
theorem d_X_passThrough_46 : decode c_X_passThrough 46 = .ok (.getfield 33, 3) := by decide +kernel
theorem d_X_passThrough_49 : decode c_X_passThrough 49 = .ok (.getfield 260, 3) := by decide +kernel
theorem d_X_passThrough_52 : decode c_X_passThrough 52 = .ok (.if_icmp .lt 27, 3) := by decide +kernel
theorem d_X_passThrough_55 : decode c_X_passThrough 55 = .ok (.aload_n 0, 1) := by decide +kernel
theorem d_X_passThrough_56 : decode c_X_passThrough 56 = .ok (.getfield 26, 3) := by decide +kernel
theorem d_X_passThrough_59 : decode c_X_passThrough 59 = .ok (.lload 8, 2) := by decide +kernel
theorem d_X_passThrough_61 : decode c_X_passThrough 61 = .ok (.aload_n 0, 1) := by decide +kernel
theorem d_X_passThrough_62 : decode c_X_passThrough 62 = .ok (.getfield 12, 3) := by decide +kernel
theorem d_X_passThrough_65 : decode c_X_passThrough 65 = .ok (.invokevirtual 263, 3) := by decide +kernel
theorem d_X_passThrough_68 : decode c_X_passThrough 68 = .ok (.aload_n 0, 1) := by decide +kernel
theorem d_X_passThrough_69 : decode c_X_passThrough 69 = .ok (.getfield 33, 3) := by decide +kernel
theorem d_X_passThrough_72 : decode c_X_passThrough 72 = .ok (.invokevirtual 267, 3) := by decide +kernel
theorem d_X_passThrough_75 : decode c_X_passThrough 75 = .ok (.fcmp .l, 1) := by decide +kernel
theorem d_X_passThrough_76 : decode c_X_passThrough 76 = .ok (.ifCond .le 11, 3) := by decide +kernel
theorem d_X_passThrough_79 : decode c_X_passThrough 79 = .ok (.aload_n 0, 1) := by decide +kernel
theorem d_X_passThrough_80 : decode c_X_passThrough 80 = .ok (.lload 8, 2) := by decide +kernel
theorem d_X_passThrough_82 : decode c_X_passThrough 82 = .ok (.lload_n 3, 1) := by decide +kernel
theorem d_X_passThrough_83 : decode c_X_passThrough 83 = .ok (.land, 1) := by decide +kernel
theorem d_X_passThrough_84 : decode c_X_passThrough 84 = .ok (.invokevirtual 271, 3) := by decide +kernel
theorem d_X_passThrough_87 : decode c_X_passThrough 87 = .ok (.iinc 7 1, 3) := by decide +kernel
theorem d_X_passThrough_90 : decode c_X_passThrough 90 = .ok (.goto (-84), 3) := by decide +kernel
theorem d_X_passThrough_93 : decode c_X_passThrough 93 = .ok (.return_, 1) := by decide +kernel
theorem d_X_firstBlock_0 : decode c_X_firstBlock 0 = .ok (.lload_n 0, 1) := by decide +kernel
theorem d_X_firstBlock_1 : decode c_X_firstBlock 1 = .ok (.lstore_n 2, 1) := by decide +kernel
theorem d_X_firstBlock_2 : decode c_X_firstBlock 2 = .ok (.iconst 0, 1) := by decide +kernel
theorem d_X_firstBlock_3 : decode c_X_firstBlock 3 = .ok (.istore 4, 2) := by decide +kernel
theorem d_X_firstBlock_5 : decode c_X_firstBlock 5 = .ok (.iload 4, 2) := by decide +kernel
theorem d_X_firstBlock_7 : decode c_X_firstBlock 7 = .ok (.iconst 4, 1) := by decide +kernel
theorem d_X_firstBlock_8 : decode c_X_firstBlock 8 = .ok (.if_icmp .ge 15, 3) := by decide +kernel
theorem d_X_firstBlock_11 : decode c_X_firstBlock 11 = .ok (.lload_n 2, 1) := by decide +kernel
theorem d_X_firstBlock_12 : decode c_X_firstBlock 12 = .ok (.lload_n 2, 1) := by decide +kernel
theorem d_X_firstBlock_13 : decode c_X_firstBlock 13 = .ok (.lconst 1, 1) := by decide +kernel
theorem d_X_firstBlock_14 : decode c_X_firstBlock 14 = .ok (.lsub, 1) := by decide +kernel
theorem d_X_firstBlock_15 : decode c_X_firstBlock 15 = .ok (.land, 1) := by decide +kernel
theorem d_X_firstBlock_16 : decode c_X_firstBlock 16 = .ok (.lstore_n 2, 1) := by decide +kernel
theorem d_X_firstBlock_17 : decode c_X_firstBlock 17 = .ok (.iinc 4 1, 3) := by decide +kernel
theorem d_X_firstBlock_20 : decode c_X_firstBlock 20 = .ok (.goto (-15), 3) := by decide +kernel
theorem d_X_firstBlock_23 : decode c_X_firstBlock 23 = .ok (.lload_n 0, 1) := by decide +kernel
theorem d_X_firstBlock_24 : decode c_X_firstBlock 24 = .ok (.lload_n 2, 1) := by decide +kernel
theorem d_X_firstBlock_25 : decode c_X_firstBlock 25 = .ok (.ldc2_w 133, 3) := by decide +kernel
theorem d_X_firstBlock_28 : decode c_X_firstBlock 28 = .ok (.lxor, 1) := by decide +kernel
theorem d_X_firstBlock_29 : decode c_X_firstBlock 29 = .ok (.land, 1) := by decide +kernel
theorem d_X_firstBlock_30 : decode c_X_firstBlock 30 = .ok (.lreturn, 1) := by decide +kernel
theorem d_X_lowestId_0 : decode c_X_lowestId 0 = .ok (.lload_n 0, 1) := by decide +kernel
theorem d_X_lowestId_1 : decode c_X_lowestId 1 = .ok (.lload_n 0, 1) := by decide +kernel
theorem d_X_lowestId_2 : decode c_X_lowestId 2 = .ok (.lneg, 1) := by decide +kernel
theorem d_X_lowestId_3 : decode c_X_lowestId 3 = .ok (.land, 1) := by decide +kernel
theorem d_X_lowestId_4 : decode c_X_lowestId 4 = .ok (.lconst 1, 1) := by decide +kernel
theorem d_X_lowestId_5 : decode c_X_lowestId 5 = .ok (.lsub, 1) := by decide +kernel
theorem d_X_lowestId_6 : decode c_X_lowestId 6 = .ok (.invokestatic 144, 3) := by decide +kernel
theorem d_X_lowestId_9 : decode c_X_lowestId 9 = .ok (.ireturn, 1) := by decide +kernel
theorem d_X_lookAt_0 : decode c_X_lookAt 0 = .ok (.aload_n 0, 1) := by decide +kernel
theorem d_X_lookAt_1 : decode c_X_lookAt 1 = .ok (.dup, 1) := by decide +kernel
theorem d_X_lookAt_2 : decode c_X_lookAt 2 = .ok (.getfield 55, 3) := by decide +kernel
theorem d_X_lookAt_5 : decode c_X_lookAt 5 = .ok (.iconst 1, 1) := by decide +kernel
theorem d_X_lookAt_6 : decode c_X_lookAt 6 = .ok (.iadd, 1) := by decide +kernel
theorem d_X_lookAt_7 : decode c_X_lookAt 7 = .ok (.putfield 55, 3) := by decide +kernel
theorem d_X_lookAt_10 : decode c_X_lookAt 10 = .ok (.lload_n 1, 1) := by decide +kernel
theorem d_X_lookAt_11 : decode c_X_lookAt 11 = .ok (.lstore_n 3, 1) := by decide +kernel
theorem d_X_lookAt_12 : decode c_X_lookAt 12 = .ok (.iconst 0, 1) := by decide +kernel
theorem d_X_lookAt_13 : decode c_X_lookAt 13 = .ok (.istore 5, 2) := by decide +kernel
theorem d_X_lookAt_15 : decode c_X_lookAt 15 = .ok (.iload 5, 2) := by decide +kernel
theorem d_X_lookAt_17 : decode c_X_lookAt 17 = .ok (.iconst 4, 1) := by decide +kernel
theorem d_X_lookAt_18 : decode c_X_lookAt 18 = .ok (.if_icmp .ge 77, 3) := by decide +kernel
theorem d_X_lookAt_21 : decode c_X_lookAt 21 = .ok (.lload_n 3, 1) := by decide +kernel
theorem d_X_lookAt_22 : decode c_X_lookAt 22 = .ok (.lconst 0, 1) := by decide +kernel
theorem d_X_lookAt_23 : decode c_X_lookAt 23 = .ok (.lcmp, 1) := by decide +kernel
theorem d_X_lookAt_24 : decode c_X_lookAt 24 = .ok (.ifCond .eq 71, 3) := by decide +kernel
theorem d_X_lookAt_27 : decode c_X_lookAt 27 = .ok (.lload_n 3, 1) := by decide +kernel
theorem d_X_lookAt_28 : decode c_X_lookAt 28 = .ok (.invokestatic 274, 3) := by decide +kernel
theorem d_X_lookAt_31 : decode c_X_lookAt 31 = .ok (.istore 6, 2) := by decide +kernel
theorem d_X_lookAt_33 : decode c_X_lookAt 33 = .ok (.lload_n 3, 1) := by decide +kernel
theorem d_X_lookAt_34 : decode c_X_lookAt 34 = .ok (.lload_n 3, 1) := by decide +kernel
theorem d_X_lookAt_35 : decode c_X_lookAt 35 = .ok (.lconst 1, 1) := by decide +kernel
theorem d_X_lookAt_36 : decode c_X_lookAt 36 = .ok (.lsub, 1) := by decide +kernel
theorem d_X_lookAt_37 : decode c_X_lookAt 37 = .ok (.land, 1) := by decide +kernel
theorem d_X_lookAt_38 : decode c_X_lookAt 38 = .ok (.lstore_n 3, 1) := by decide +kernel
theorem d_X_lookAt_39 : decode c_X_lookAt 39 = .ok (.aload_n 0, 1) := by decide +kernel
theorem d_X_lookAt_40 : decode c_X_lookAt 40 = .ok (.getfield 26, 3) := by decide +kernel
theorem d_X_lookAt_43 : decode c_X_lookAt 43 = .ok (.iload 6, 2) := by decide +kernel
theorem d_X_lookAt_45 : decode c_X_lookAt 45 = .ok (.aload_n 0, 1) := by decide +kernel
theorem d_X_lookAt_46 : decode c_X_lookAt 46 = .ok (.getfield 12, 3) := by decide +kernel
theorem d_X_lookAt_49 : decode c_X_lookAt 49 = .ok (.invokevirtual 277, 3) := by decide +kernel
theorem d_X_lookAt_52 : decode c_X_lookAt 52 = .ok (.ifCond .eq 37, 3) := by decide +kernel
theorem d_X_lookAt_55 : decode c_X_lookAt 55 = .ok (.aload_n 0, 1) := by decide +kernel
theorem d_X_lookAt_56 : decode c_X_lookAt 56 = .ok (.dup, 1) := by decide +kernel
theorem d_X_lookAt_57 : decode c_X_lookAt 57 = .ok (.getfield 58, 3) := by decide +kernel
theorem d_X_lookAt_60 : decode c_X_lookAt 60 = .ok (.iconst 1, 1) := by decide +kernel
theorem d_X_lookAt_61 : decode c_X_lookAt 61 = .ok (.iadd, 1) := by decide +kernel
theorem d_X_lookAt_62 : decode c_X_lookAt 62 = .ok (.putfield 58, 3) := by decide +kernel
theorem d_X_lookAt_65 : decode c_X_lookAt 65 = .ok (.aload_n 0, 1) := by decide +kernel
theorem d_X_lookAt_66 : decode c_X_lookAt 66 = .ok (.getfield 33, 3) := by decide +kernel
theorem d_X_lookAt_69 : decode c_X_lookAt 69 = .ok (.iload 6, 2) := by decide +kernel
theorem d_X_lookAt_71 : decode c_X_lookAt 71 = .ok (.aload_n 0, 1) := by decide +kernel
theorem d_X_lookAt_72 : decode c_X_lookAt 72 = .ok (.getfield 26, 3) := by decide +kernel
theorem d_X_lookAt_75 : decode c_X_lookAt 75 = .ok (.lconst 1, 1) := by decide +kernel
theorem d_X_lookAt_76 : decode c_X_lookAt 76 = .ok (.iload 6, 2) := by decide +kernel
theorem d_X_lookAt_78 : decode c_X_lookAt 78 = .ok (.lshl, 1) := by decide +kernel
theorem d_X_lookAt_79 : decode c_X_lookAt 79 = .ok (.aload_n 0, 1) := by decide +kernel
theorem d_X_lookAt_80 : decode c_X_lookAt 80 = .ok (.getfield 12, 3) := by decide +kernel
theorem d_X_lookAt_83 : decode c_X_lookAt 83 = .ok (.invokevirtual 263, 3) := by decide +kernel
theorem d_X_lookAt_86 : decode c_X_lookAt 86 = .ok (.invokevirtual 281, 3) := by decide +kernel
theorem d_X_lookAt_89 : decode c_X_lookAt 89 = .ok (.iinc 5 1, 3) := by decide +kernel
theorem d_X_lookAt_92 : decode c_X_lookAt 92 = .ok (.goto (-77), 3) := by decide +kernel
theorem d_X_lookAt_95 : decode c_X_lookAt 95 = .ok (.return_, 1) := by decide +kernel
theorem d_X_hit_0 : decode c_X_hit 0 = .ok (.iload_n 1, 1) := by decide +kernel
theorem d_X_hit_1 : decode c_X_hit 1 = .ok (.aload_n 0, 1) := by decide +kernel
theorem d_X_hit_2 : decode c_X_hit 2 = .ok (.getfield 33, 3) := by decide +kernel
theorem d_X_hit_5 : decode c_X_hit 5 = .ok (.getfield 203, 3) := by decide +kernel
theorem d_X_hit_8 : decode c_X_hit 8 = .ok (.invokestatic 61, 3) := by decide +kernel
theorem d_X_hit_11 : decode c_X_hit 11 = .ok (.ifCond .ne 11, 3) := by decide +kernel
theorem d_X_hit_14 : decode c_X_hit 14 = .ok (.new 204, 3) := by decide +kernel
theorem d_X_hit_17 : decode c_X_hit 17 = .ok (.dup, 1) := by decide +kernel
theorem d_X_hit_18 : decode c_X_hit 18 = .ok (.invokespecial 206, 3) := by decide +kernel
theorem d_X_hit_21 : decode c_X_hit 21 = .ok (.athrow, 1) := by decide +kernel
theorem d_X_hit_22 : decode c_X_hit 22 = .ok (.aload_n 0, 1) := by decide +kernel
theorem d_X_hit_23 : decode c_X_hit 23 = .ok (.getfield 33, 3) := by decide +kernel
theorem d_X_hit_26 : decode c_X_hit 26 = .ok (.getfield 207, 3) := by decide +kernel
theorem d_X_hit_29 : decode c_X_hit 29 = .ok (.iload_n 1, 1) := by decide +kernel
theorem d_X_hit_30 : decode c_X_hit 30 = .ok (.iaload, 1) := by decide +kernel
theorem d_X_hit_31 : decode c_X_hit 31 = .ok (.ireturn, 1) := by decide +kernel
theorem d_X_score_0 : decode c_X_score 0 = .ok (.iload_n 1, 1) := by decide +kernel
theorem d_X_score_1 : decode c_X_score 1 = .ok (.aload_n 0, 1) := by decide +kernel
theorem d_X_score_2 : decode c_X_score 2 = .ok (.getfield 33, 3) := by decide +kernel
theorem d_X_score_5 : decode c_X_score 5 = .ok (.getfield 203, 3) := by decide +kernel
theorem d_X_score_8 : decode c_X_score 8 = .ok (.invokestatic 61, 3) := by decide +kernel
theorem d_X_score_11 : decode c_X_score 11 = .ok (.ifCond .ne 11, 3) := by decide +kernel
theorem d_X_score_14 : decode c_X_score 14 = .ok (.new 204, 3) := by decide +kernel
theorem d_X_score_17 : decode c_X_score 17 = .ok (.dup, 1) := by decide +kernel
theorem d_X_score_18 : decode c_X_score 18 = .ok (.invokespecial 206, 3) := by decide +kernel
theorem d_X_score_21 : decode c_X_score 21 = .ok (.athrow, 1) := by decide +kernel
theorem d_X_score_22 : decode c_X_score 22 = .ok (.aload_n 0, 1) := by decide +kernel
theorem d_X_score_23 : decode c_X_score 23 = .ok (.getfield 33, 3) := by decide +kernel
theorem d_X_score_26 : decode c_X_score 26 = .ok (.getfield 209, 3) := by decide +kernel
theorem d_X_score_29 : decode c_X_score 29 = .ok (.iload_n 1, 1) := by decide +kernel
theorem d_X_score_30 : decode c_X_score 30 = .ok (.faload, 1) := by decide +kernel
theorem d_X_score_31 : decode c_X_score 31 = .ok (.f2d, 1) := by decide +kernel
theorem d_X_score_32 : decode c_X_score 32 = .ok (.dreturn, 1) := by decide +kernel
theorem d_X_value_0 : decode c_X_value 0 = .ok (.iload_n 1, 1) := by decide +kernel
theorem d_X_value_1 : decode c_X_value 1 = .ok (.bipush 8, 2) := by decide +kernel
theorem d_X_value_3 : decode c_X_value 3 = .ok (.invokestatic 61, 3) := by decide +kernel
theorem d_X_value_6 : decode c_X_value 6 = .ok (.ifCond .eq 11, 3) := by decide +kernel
theorem d_X_value_9 : decode c_X_value 9 = .ok (.iload_n 3, 1) := by decide +kernel
theorem d_X_value_10 : decode c_X_value 10 = .ok (.iconst 3, 1) := by decide +kernel
theorem d_X_value_11 : decode c_X_value 11 = .ok (.invokestatic 61, 3) := by decide +kernel
theorem d_X_value_14 : decode c_X_value 14 = .ok (.ifCond .ne 11, 3) := by decide +kernel
theorem d_X_value_17 : decode c_X_value 17 = .ok (.new 65, 3) := by decide +kernel
theorem d_X_value_20 : decode c_X_value 20 = .ok (.dup, 1) := by decide +kernel
theorem d_X_value_21 : decode c_X_value 21 = .ok (.invokespecial 67, 3) := by decide +kernel
theorem d_X_value_24 : decode c_X_value 24 = .ok (.athrow, 1) := by decide +kernel
theorem d_X_value_25 : decode c_X_value 25 = .ok (.iload_n 2, 1) := by decide +kernel
theorem d_X_value_26 : decode c_X_value 26 = .ok (.bipush 40, 2) := by decide +kernel
theorem d_X_value_28 : decode c_X_value 28 = .ok (.invokestatic 61, 3) := by decide +kernel
theorem d_X_value_31 : decode c_X_value 31 = .ok (.ifCond .eq 39, 3) := by decide +kernel
theorem d_X_value_34 : decode c_X_value 34 = .ok (.aload_n 0, 1) := by decide +kernel
theorem d_X_value_35 : decode c_X_value 35 = .ok (.getfield 44, 3) := by decide +kernel
theorem d_X_value_38 : decode c_X_value 38 = .ok (.invokevirtual 173, 3) := by decide +kernel
theorem d_X_value_41 : decode c_X_value 41 = .ok (.iload_n 2, 1) := by decide +kernel
theorem d_X_value_42 : decode c_X_value 42 = .ok (.invokestatic 126, 3) := by decide +kernel
theorem d_X_value_45 : decode c_X_value 45 = .ok (.ifCond .eq 25, 3) := by decide +kernel
theorem d_X_value_48 : decode c_X_value 48 = .ok (.aload_n 0, 1) := by decide +kernel
theorem d_X_value_49 : decode c_X_value 49 = .ok (.getfield 12, 3) := by decide +kernel
theorem d_X_value_52 : decode c_X_value 52 = .ok (.iload_n 2, 1) := by decide +kernel
theorem d_X_value_53 : decode c_X_value 53 = .ok (.aload_n 0, 1) := by decide +kernel
theorem d_X_value_54 : decode c_X_value 54 = .ok (.getfield 44, 3) := by decide +kernel
theorem d_X_value_57 : decode c_X_value 57 = .ok (.getfield 68, 3) := by decide +kernel
theorem d_X_value_60 : decode c_X_value 60 = .ok (.iload_n 1, 1) := by decide +kernel
theorem d_X_value_61 : decode c_X_value 61 = .ok (.invokevirtual 213, 3) := by decide +kernel
theorem d_X_value_64 : decode c_X_value 64 = .ok (.invokevirtual 216, 3) := by decide +kernel
theorem d_X_value_67 : decode c_X_value 67 = .ok (.ifCond .ne 11, 3) := by decide +kernel
theorem d_X_value_70 : decode c_X_value 70 = .ok (.new 130, 3) := by decide +kernel
theorem d_X_value_73 : decode c_X_value 73 = .ok (.dup, 1) := by decide +kernel
theorem d_X_value_74 : decode c_X_value 74 = .ok (.invokespecial 132, 3) := by decide +kernel
theorem d_X_value_77 : decode c_X_value 77 = .ok (.athrow, 1) := by decide +kernel
theorem d_X_value_78 : decode c_X_value 78 = .ok (.aload_n 0, 1) := by decide +kernel
theorem d_X_value_79 : decode c_X_value 79 = .ok (.getfield 44, 3) := by decide +kernel
theorem d_X_value_82 : decode c_X_value 82 = .ok (.getfield 68, 3) := by decide +kernel
theorem d_X_value_85 : decode c_X_value 85 = .ok (.iload_n 3, 1) := by decide +kernel
theorem d_X_value_86 : decode c_X_value 86 = .ok (.iload_n 1, 1) := by decide +kernel
theorem d_X_value_87 : decode c_X_value 87 = .ok (.invokevirtual 219, 3) := by decide +kernel
theorem d_X_value_90 : decode c_X_value 90 = .ok (.ifCond .ne 11, 3) := by decide +kernel
theorem d_X_value_93 : decode c_X_value 93 = .ok (.new 222, 3) := by decide +kernel
theorem d_X_value_96 : decode c_X_value 96 = .ok (.dup, 1) := by decide +kernel
theorem d_X_value_97 : decode c_X_value 97 = .ok (.invokespecial 224, 3) := by decide +kernel
theorem d_X_value_100 : decode c_X_value 100 = .ok (.athrow, 1) := by decide +kernel
theorem d_X_value_101 : decode c_X_value 101 = .ok (.aload_n 0, 1) := by decide +kernel
theorem d_X_value_102 : decode c_X_value 102 = .ok (.getfield 12, 3) := by decide +kernel
theorem d_X_value_105 : decode c_X_value 105 = .ok (.getfield 107, 3) := by decide +kernel
theorem d_X_value_108 : decode c_X_value 108 = .ok (.iload_n 2, 1) := by decide +kernel
theorem d_X_value_109 : decode c_X_value 109 = .ok (.iload_n 3, 1) := by decide +kernel
theorem d_X_value_110 : decode c_X_value 110 = .ok (.invokestatic 103, 3) := by decide +kernel
theorem d_X_value_113 : decode c_X_value 113 = .ok (.iaload, 1) := by decide +kernel
theorem d_X_value_114 : decode c_X_value 114 = .ok (.ireturn, 1) := by decide +kernel
theorem d_X_count_0 : decode c_X_count 0 = .ok (.iload_n 1, 1) := by decide +kernel
theorem d_X_count_1 : decode c_X_count 1 = .ok (.bipush 10, 2) := by decide +kernel
theorem d_X_count_3 : decode c_X_count 3 = .ok (.if_icmp .lt 24, 3) := by decide +kernel
theorem d_X_count_6 : decode c_X_count 6 = .ok (.iload_n 1, 1) := by decide +kernel
theorem d_X_count_7 : decode c_X_count 7 = .ok (.bipush 18, 2) := by decide +kernel
theorem d_X_count_9 : decode c_X_count 9 = .ok (.if_icmp .ge 18, 3) := by decide +kernel
theorem d_X_count_12 : decode c_X_count 12 = .ok (.aload_n 0, 1) := by decide +kernel
theorem d_X_count_13 : decode c_X_count 13 = .ok (.getfield 40, 3) := by decide +kernel
theorem d_X_count_16 : decode c_X_count 16 = .ok (.getfield 68, 3) := by decide +kernel
theorem d_X_count_19 : decode c_X_count 19 = .ok (.iload_n 1, 1) := by decide +kernel
theorem d_X_count_20 : decode c_X_count 20 = .ok (.bipush 10, 2) := by decide +kernel
theorem d_X_count_22 : decode c_X_count 22 = .ok (.isub, 1) := by decide +kernel
theorem d_X_count_23 : decode c_X_count 23 = .ok (.invokevirtual 213, 3) := by decide +kernel
theorem d_X_count_26 : decode c_X_count 26 = .ok (.ireturn, 1) := by decide +kernel
theorem d_X_count_27 : decode c_X_count 27 = .ok (.iload_n 1, 1) := by decide +kernel
theorem d_X_count_28 : decode c_X_count 28 = .ok (.bipush 20, 2) := by decide +kernel
theorem d_X_count_30 : decode c_X_count 30 = .ok (.if_icmp .lt 24, 3) := by decide +kernel
theorem d_X_count_33 : decode c_X_count 33 = .ok (.iload_n 1, 1) := by decide +kernel
theorem d_X_count_34 : decode c_X_count 34 = .ok (.bipush 28, 2) := by decide +kernel
theorem d_X_count_36 : decode c_X_count 36 = .ok (.if_icmp .ge 18, 3) := by decide +kernel
theorem d_X_count_39 : decode c_X_count 39 = .ok (.aload_n 0, 1) := by decide +kernel
theorem d_X_count_40 : decode c_X_count 40 = .ok (.getfield 44, 3) := by decide +kernel
theorem d_X_count_43 : decode c_X_count 43 = .ok (.getfield 68, 3) := by decide +kernel
theorem d_X_count_46 : decode c_X_count 46 = .ok (.iload_n 1, 1) := by decide +kernel
theorem d_X_count_47 : decode c_X_count 47 = .ok (.bipush 20, 2) := by decide +kernel
theorem d_X_count_49 : decode c_X_count 49 = .ok (.isub, 1) := by decide +kernel
theorem d_X_count_50 : decode c_X_count 50 = .ok (.invokevirtual 213, 3) := by decide +kernel
theorem d_X_count_53 : decode c_X_count 53 = .ok (.ireturn, 1) := by decide +kernel
theorem d_X_count_54 : decode c_X_count 54 = .ok (.iload_n 1, 1) := by decide +kernel
theorem d_X_count_55 : decode c_X_count 55 = .ok (.tableswitch 121 0 8 #[49, 57, 65, 76, 87, 92, 97, 105, 113], 49) := by decide +kernel
theorem d_X_count_104 : decode c_X_count 104 = .ok (.aload_n 0, 1) := by decide +kernel
theorem d_X_count_105 : decode c_X_count 105 = .ok (.getfield 12, 3) := by decide +kernel
theorem d_X_count_108 : decode c_X_count 108 = .ok (.getfield 96, 3) := by decide +kernel
theorem d_X_count_111 : decode c_X_count 111 = .ok (.ireturn, 1) := by decide +kernel
theorem d_X_count_112 : decode c_X_count 112 = .ok (.aload_n 0, 1) := by decide +kernel
theorem d_X_count_113 : decode c_X_count 113 = .ok (.getfield 47, 3) := by decide +kernel
theorem d_X_count_116 : decode c_X_count 116 = .ok (.invokestatic 144, 3) := by decide +kernel
theorem d_X_count_119 : decode c_X_count 119 = .ok (.ireturn, 1) := by decide +kernel
theorem d_X_count_120 : decode c_X_count 120 = .ok (.aload_n 0, 1) := by decide +kernel
theorem d_X_count_121 : decode c_X_count 121 = .ok (.getfield 40, 3) := by decide +kernel
theorem d_X_count_124 : decode c_X_count 124 = .ok (.getfield 135, 3) := by decide +kernel
theorem d_X_count_127 : decode c_X_count 127 = .ok (.getfield 139, 3) := by decide +kernel
theorem d_X_count_130 : decode c_X_count 130 = .ok (.ireturn, 1) := by decide +kernel
theorem d_X_count_131 : decode c_X_count 131 = .ok (.aload_n 0, 1) := by decide +kernel
theorem d_X_count_132 : decode c_X_count 132 = .ok (.getfield 44, 3) := by decide +kernel
theorem d_X_count_135 : decode c_X_count 135 = .ok (.getfield 135, 3) := by decide +kernel
theorem d_X_count_138 : decode c_X_count 138 = .ok (.getfield 139, 3) := by decide +kernel
theorem d_X_count_141 : decode c_X_count 141 = .ok (.ireturn, 1) := by decide +kernel
theorem d_X_count_142 : decode c_X_count 142 = .ok (.aload_n 0, 1) := by decide +kernel
theorem d_X_count_143 : decode c_X_count 143 = .ok (.getfield 55, 3) := by decide +kernel
theorem d_X_count_146 : decode c_X_count 146 = .ok (.ireturn, 1) := by decide +kernel
theorem d_X_count_147 : decode c_X_count 147 = .ok (.aload_n 0, 1) := by decide +kernel
theorem d_X_count_148 : decode c_X_count 148 = .ok (.getfield 58, 3) := by decide +kernel
theorem d_X_count_151 : decode c_X_count 151 = .ok (.ireturn, 1) := by decide +kernel
theorem d_X_count_152 : decode c_X_count 152 = .ok (.aload_n 0, 1) := by decide +kernel
theorem d_X_count_153 : decode c_X_count 153 = .ok (.getfield 19, 3) := by decide +kernel
theorem d_X_count_156 : decode c_X_count 156 = .ok (.getfield 225, 3) := by decide +kernel
theorem d_X_count_159 : decode c_X_count 159 = .ok (.ireturn, 1) := by decide +kernel
theorem d_X_count_160 : decode c_X_count 160 = .ok (.aload_n 0, 1) := by decide +kernel
theorem d_X_count_161 : decode c_X_count 161 = .ok (.getfield 19, 3) := by decide +kernel
theorem d_X_count_164 : decode c_X_count 164 = .ok (.getfield 228, 3) := by decide +kernel
theorem d_X_count_167 : decode c_X_count 167 = .ok (.ireturn, 1) := by decide +kernel
theorem d_X_count_168 : decode c_X_count 168 = .ok (.aload_n 0, 1) := by decide +kernel
theorem d_X_count_169 : decode c_X_count 169 = .ok (.getfield 19, 3) := by decide +kernel
theorem d_X_count_172 : decode c_X_count 172 = .ok (.getfield 170, 3) := by decide +kernel
theorem d_X_count_175 : decode c_X_count 175 = .ok (.ireturn, 1) := by decide +kernel
theorem d_X_count_176 : decode c_X_count 176 = .ok (.new 65, 3) := by decide +kernel
theorem d_X_count_179 : decode c_X_count 179 = .ok (.dup, 1) := by decide +kernel
theorem d_X_count_180 : decode c_X_count 180 = .ok (.invokespecial 67, 3) := by decide +kernel
theorem d_X_count_183 : decode c_X_count 183 = .ok (.athrow, 1) := by decide +kernel
