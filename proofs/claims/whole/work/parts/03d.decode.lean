theorem d_L_member_0 : decode c_L_member 0 = .ok (.aload 4, 2) := by decide +kernel
theorem d_L_member_2 : decode c_L_member 2 = .ok (.iconst 0, 1) := by decide +kernel
theorem d_L_member_3 : decode c_L_member 3 = .ok (.aload_n 0, 1) := by decide +kernel
theorem d_L_member_4 : decode c_L_member 4 = .ok (.iload_n 1, 1) := by decide +kernel
theorem d_L_member_5 : decode c_L_member 5 = .ok (.iload_n 2, 1) := by decide +kernel
theorem d_L_member_6 : decode c_L_member 6 = .ok (.iload_n 3, 1) := by decide +kernel
theorem d_L_member_7 : decode c_L_member 7 = .ok (.invokevirtual 7, 3) := by decide +kernel
theorem d_L_member_10 : decode c_L_member 10 = .ok (.ifCond .eq 7, 3) := by decide +kernel
theorem d_L_member_13 : decode c_L_member 13 = .ok (.lconst 1, 1) := by decide +kernel
theorem d_L_member_14 : decode c_L_member 14 = .ok (.goto 4, 3) := by decide +kernel
theorem d_L_member_17 : decode c_L_member 17 = .ok (.lconst 0, 1) := by decide +kernel
theorem d_L_member_18 : decode c_L_member 18 = .ok (.lastore, 1) := by decide +kernel
theorem d_L_member_19 : decode c_L_member 19 = .ok (.goto 7, 3) := by decide +kernel
theorem d_L_member_22 : decode c_L_member 22 = .ok (.astore 5, 2) := by decide +kernel
theorem d_L_member_24 : decode c_L_member 24 = .ok (.iconst 1, 1) := by decide +kernel
theorem d_L_member_25 : decode c_L_member 25 = .ok (.ireturn, 1) := by decide +kernel
theorem d_L_member_26 : decode c_L_member 26 = .ok (.iconst 0, 1) := by decide +kernel
theorem d_L_member_27 : decode c_L_member 27 = .ok (.ireturn, 1) := by decide +kernel
theorem d_L_level_0 : decode c_L_level 0 = .ok (.aload 4, 2) := by decide +kernel
theorem d_L_level_2 : decode c_L_level 2 = .ok (.iconst 0, 1) := by decide +kernel
theorem d_L_level_3 : decode c_L_level 3 = .ok (.aload_n 0, 1) := by decide +kernel
theorem d_L_level_4 : decode c_L_level 4 = .ok (.iload_n 1, 1) := by decide +kernel
theorem d_L_level_5 : decode c_L_level 5 = .ok (.iload_n 2, 1) := by decide +kernel
theorem d_L_level_6 : decode c_L_level 6 = .ok (.iload_n 3, 1) := by decide +kernel
theorem d_L_level_7 : decode c_L_level 7 = .ok (.invokevirtual 15, 3) := by decide +kernel
theorem d_L_level_10 : decode c_L_level 10 = .ok (.i2l, 1) := by decide +kernel
theorem d_L_level_11 : decode c_L_level 11 = .ok (.lastore, 1) := by decide +kernel
theorem d_L_level_12 : decode c_L_level 12 = .ok (.goto 7, 3) := by decide +kernel
theorem d_L_level_15 : decode c_L_level 15 = .ok (.astore 5, 2) := by decide +kernel
theorem d_L_level_17 : decode c_L_level 17 = .ok (.iconst 1, 1) := by decide +kernel
theorem d_L_level_18 : decode c_L_level 18 = .ok (.ireturn, 1) := by decide +kernel
theorem d_L_level_19 : decode c_L_level 19 = .ok (.iconst 0, 1) := by decide +kernel
theorem d_L_level_20 : decode c_L_level 20 = .ok (.ireturn, 1) := by decide +kernel
theorem d_L_weigh_0 : decode c_L_weigh 0 = .ok (.aload 5, 2) := by decide +kernel
theorem d_L_weigh_2 : decode c_L_weigh 2 = .ok (.iconst 0, 1) := by decide +kernel
theorem d_L_weigh_3 : decode c_L_weigh 3 = .ok (.aload_n 0, 1) := by decide +kernel
theorem d_L_weigh_4 : decode c_L_weigh 4 = .ok (.iload_n 1, 1) := by decide +kernel
theorem d_L_weigh_5 : decode c_L_weigh 5 = .ok (.iload_n 2, 1) := by decide +kernel
theorem d_L_weigh_6 : decode c_L_weigh 6 = .ok (.dload_n 3, 1) := by decide +kernel
theorem d_L_weigh_7 : decode c_L_weigh 7 = .ok (.invokevirtual 19, 3) := by decide +kernel
theorem d_L_weigh_10 : decode c_L_weigh 10 = .ok (.i2l, 1) := by decide +kernel
theorem d_L_weigh_11 : decode c_L_weigh 11 = .ok (.lastore, 1) := by decide +kernel
theorem d_L_weigh_12 : decode c_L_weigh 12 = .ok (.goto 7, 3) := by decide +kernel
theorem d_L_weigh_15 : decode c_L_weigh 15 = .ok (.astore 6, 2) := by decide +kernel
theorem d_L_weigh_17 : decode c_L_weigh 17 = .ok (.iconst 1, 1) := by decide +kernel
theorem d_L_weigh_18 : decode c_L_weigh 18 = .ok (.ireturn, 1) := by decide +kernel
theorem d_L_weigh_19 : decode c_L_weigh 19 = .ok (.iconst 0, 1) := by decide +kernel
theorem d_L_weigh_20 : decode c_L_weigh 20 = .ok (.ireturn, 1) := by decide +kernel
theorem d_L_put_0 : decode c_L_put 0 = .ok (.aload_n 3, 1) := by decide +kernel
theorem d_L_put_1 : decode c_L_put 1 = .ok (.iconst 0, 1) := by decide +kernel
theorem d_L_put_2 : decode c_L_put 2 = .ok (.aload_n 0, 1) := by decide +kernel
theorem d_L_put_3 : decode c_L_put 3 = .ok (.iload_n 1, 1) := by decide +kernel
theorem d_L_put_4 : decode c_L_put 4 = .ok (.iload_n 2, 1) := by decide +kernel
theorem d_L_put_5 : decode c_L_put 5 = .ok (.invokevirtual 23, 3) := by decide +kernel
theorem d_L_put_8 : decode c_L_put 8 = .ok (.i2l, 1) := by decide +kernel
theorem d_L_put_9 : decode c_L_put 9 = .ok (.lastore, 1) := by decide +kernel
theorem d_L_put_10 : decode c_L_put 10 = .ok (.goto 7, 3) := by decide +kernel
theorem d_L_put_13 : decode c_L_put 13 = .ok (.astore 4, 2) := by decide +kernel
theorem d_L_put_15 : decode c_L_put 15 = .ok (.iconst 1, 1) := by decide +kernel
theorem d_L_put_16 : decode c_L_put 16 = .ok (.ireturn, 1) := by decide +kernel
theorem d_L_put_17 : decode c_L_put 17 = .ok (.iconst 0, 1) := by decide +kernel
theorem d_L_put_18 : decode c_L_put 18 = .ok (.ireturn, 1) := by decide +kernel
theorem d_L_rule_0 : decode c_L_rule 0 = .ok (.aload_n 3, 1) := by decide +kernel
theorem d_L_rule_1 : decode c_L_rule 1 = .ok (.iconst 0, 1) := by decide +kernel
theorem d_L_rule_2 : decode c_L_rule 2 = .ok (.aload_n 0, 1) := by decide +kernel
theorem d_L_rule_3 : decode c_L_rule 3 = .ok (.iload_n 1, 1) := by decide +kernel
theorem d_L_rule_4 : decode c_L_rule 4 = .ok (.iload_n 2, 1) := by decide +kernel
theorem d_L_rule_5 : decode c_L_rule 5 = .ok (.invokevirtual 27, 3) := by decide +kernel
theorem d_L_rule_8 : decode c_L_rule 8 = .ok (.ifCond .eq 7, 3) := by decide +kernel
theorem d_L_rule_11 : decode c_L_rule 11 = .ok (.lconst 1, 1) := by decide +kernel
theorem d_L_rule_12 : decode c_L_rule 12 = .ok (.goto 4, 3) := by decide +kernel
theorem d_L_rule_15 : decode c_L_rule 15 = .ok (.lconst 0, 1) := by decide +kernel
theorem d_L_rule_16 : decode c_L_rule 16 = .ok (.lastore, 1) := by decide +kernel
theorem d_L_rule_17 : decode c_L_rule 17 = .ok (.goto 7, 3) := by decide +kernel
theorem d_L_rule_20 : decode c_L_rule 20 = .ok (.astore 4, 2) := by decide +kernel
theorem d_L_rule_22 : decode c_L_rule 22 = .ok (.iconst 1, 1) := by decide +kernel
theorem d_L_rule_23 : decode c_L_rule 23 = .ok (.ireturn, 1) := by decide +kernel
theorem d_L_rule_24 : decode c_L_rule 24 = .ok (.iconst 0, 1) := by decide +kernel
theorem d_L_rule_25 : decode c_L_rule 25 = .ok (.ireturn, 1) := by decide +kernel
theorem d_L_add_0 : decode c_L_add 0 = .ok (.aload_n 2, 1) := by decide +kernel
theorem d_L_add_1 : decode c_L_add 1 = .ok (.iconst 0, 1) := by decide +kernel
theorem d_L_add_2 : decode c_L_add 2 = .ok (.aload_n 0, 1) := by decide +kernel
theorem d_L_add_3 : decode c_L_add 3 = .ok (.iload_n 1, 1) := by decide +kernel
theorem d_L_add_4 : decode c_L_add 4 = .ok (.invokevirtual 31, 3) := by decide +kernel
theorem d_L_add_7 : decode c_L_add 7 = .ok (.i2l, 1) := by decide +kernel
theorem d_L_add_8 : decode c_L_add 8 = .ok (.lastore, 1) := by decide +kernel
theorem d_L_add_9 : decode c_L_add 9 = .ok (.goto 9, 3) := by decide +kernel
theorem d_L_add_12 : decode c_L_add 12 = .ok (.astore_n 3, 1) := by decide +kernel
theorem d_L_add_13 : decode c_L_add 13 = .ok (.iconst 1, 1) := by decide +kernel
theorem d_L_add_14 : decode c_L_add 14 = .ok (.ireturn, 1) := by decide +kernel
theorem d_L_add_15 : decode c_L_add 15 = .ok (.astore_n 3, 1) := by decide +kernel
theorem d_L_add_16 : decode c_L_add 16 = .ok (.iconst 2, 1) := by decide +kernel
theorem d_L_add_17 : decode c_L_add 17 = .ok (.ireturn, 1) := by decide +kernel
theorem d_L_add_18 : decode c_L_add 18 = .ok (.iconst 0, 1) := by decide +kernel
theorem d_L_add_19 : decode c_L_add 19 = .ok (.ireturn, 1) := by decide +kernel
theorem d_L_remove_0 : decode c_L_remove 0 = .ok (.aload_n 0, 1) := by decide +kernel
theorem d_L_remove_1 : decode c_L_remove 1 = .ok (.iload_n 1, 1) := by decide +kernel
theorem d_L_remove_2 : decode c_L_remove 2 = .ok (.invokevirtual 37, 3) := by decide +kernel
theorem d_L_remove_5 : decode c_L_remove 5 = .ok (.goto 6, 3) := by decide +kernel
theorem d_L_remove_8 : decode c_L_remove 8 = .ok (.astore_n 2, 1) := by decide +kernel
theorem d_L_remove_9 : decode c_L_remove 9 = .ok (.iconst 1, 1) := by decide +kernel
theorem d_L_remove_10 : decode c_L_remove 10 = .ok (.ireturn, 1) := by decide +kernel
theorem d_L_remove_11 : decode c_L_remove 11 = .ok (.iconst 0, 1) := by decide +kernel
theorem d_L_remove_12 : decode c_L_remove 12 = .ok (.ireturn, 1) := by decide +kernel
theorem d_L_flush_0 : decode c_L_flush 0 = .ok (.aload_n 1, 1) := by decide +kernel
theorem d_L_flush_1 : decode c_L_flush 1 = .ok (.iconst 0, 1) := by decide +kernel
theorem d_L_flush_2 : decode c_L_flush 2 = .ok (.aload_n 0, 1) := by decide +kernel
theorem d_L_flush_3 : decode c_L_flush 3 = .ok (.invokevirtual 43, 3) := by decide +kernel
theorem d_L_flush_6 : decode c_L_flush 6 = .ok (.i2l, 1) := by decide +kernel
theorem d_L_flush_7 : decode c_L_flush 7 = .ok (.lastore, 1) := by decide +kernel
theorem d_L_flush_8 : decode c_L_flush 8 = .ok (.goto 6, 3) := by decide +kernel
theorem d_L_flush_11 : decode c_L_flush 11 = .ok (.astore_n 2, 1) := by decide +kernel
theorem d_L_flush_12 : decode c_L_flush 12 = .ok (.iconst 1, 1) := by decide +kernel
theorem d_L_flush_13 : decode c_L_flush 13 = .ok (.ireturn, 1) := by decide +kernel
theorem d_L_flush_14 : decode c_L_flush 14 = .ok (.iconst 0, 1) := by decide +kernel
theorem d_L_flush_15 : decode c_L_flush 15 = .ok (.ireturn, 1) := by decide +kernel
theorem d_L_clause_0 : decode c_L_clause 0 = .ok (.aload 6, 2) := by decide +kernel
theorem d_L_clause_2 : decode c_L_clause 2 = .ok (.iconst 0, 1) := by decide +kernel
theorem d_L_clause_3 : decode c_L_clause 3 = .ok (.aload_n 0, 1) := by decide +kernel
theorem d_L_clause_4 : decode c_L_clause 4 = .ok (.iload_n 1, 1) := by decide +kernel
theorem d_L_clause_5 : decode c_L_clause 5 = .ok (.iload_n 2, 1) := by decide +kernel
theorem d_L_clause_6 : decode c_L_clause 6 = .ok (.iload_n 3, 1) := by decide +kernel
theorem d_L_clause_7 : decode c_L_clause 7 = .ok (.dload 4, 2) := by decide +kernel
theorem d_L_clause_9 : decode c_L_clause 9 = .ok (.invokevirtual 47, 3) := by decide +kernel
theorem d_L_clause_12 : decode c_L_clause 12 = .ok (.i2l, 1) := by decide +kernel
theorem d_L_clause_13 : decode c_L_clause 13 = .ok (.lastore, 1) := by decide +kernel
theorem d_L_clause_14 : decode c_L_clause 14 = .ok (.goto 11, 3) := by decide +kernel
theorem d_L_clause_17 : decode c_L_clause 17 = .ok (.astore 7, 2) := by decide +kernel
theorem d_L_clause_19 : decode c_L_clause 19 = .ok (.iconst 1, 1) := by decide +kernel
theorem d_L_clause_20 : decode c_L_clause 20 = .ok (.ireturn, 1) := by decide +kernel
theorem d_L_clause_21 : decode c_L_clause 21 = .ok (.astore 7, 2) := by decide +kernel
theorem d_L_clause_23 : decode c_L_clause 23 = .ok (.iconst 2, 1) := by decide +kernel
theorem d_L_clause_24 : decode c_L_clause 24 = .ok (.ireturn, 1) := by decide +kernel
theorem d_L_clause_25 : decode c_L_clause 25 = .ok (.iconst 0, 1) := by decide +kernel
theorem d_L_clause_26 : decode c_L_clause 26 = .ok (.ireturn, 1) := by decide +kernel
theorem d_L_search_0 : decode c_L_search 0 = .ok (.aload_n 3, 1) := by decide +kernel
theorem d_L_search_1 : decode c_L_search 1 = .ok (.iconst 0, 1) := by decide +kernel
theorem d_L_search_2 : decode c_L_search 2 = .ok (.aload_n 0, 1) := by decide +kernel
theorem d_L_search_3 : decode c_L_search 3 = .ok (.iload_n 1, 1) := by decide +kernel
theorem d_L_search_4 : decode c_L_search 4 = .ok (.iload_n 2, 1) := by decide +kernel
theorem d_L_search_5 : decode c_L_search 5 = .ok (.invokevirtual 51, 3) := by decide +kernel
theorem d_L_search_8 : decode c_L_search 8 = .ok (.i2l, 1) := by decide +kernel
theorem d_L_search_9 : decode c_L_search 9 = .ok (.lastore, 1) := by decide +kernel
theorem d_L_search_10 : decode c_L_search 10 = .ok (.goto 7, 3) := by decide +kernel
theorem d_L_search_13 : decode c_L_search 13 = .ok (.astore 4, 2) := by decide +kernel
theorem d_L_search_15 : decode c_L_search 15 = .ok (.iconst 1, 1) := by decide +kernel
theorem d_L_search_16 : decode c_L_search 16 = .ok (.ireturn, 1) := by decide +kernel
theorem d_L_search_17 : decode c_L_search 17 = .ok (.iconst 0, 1) := by decide +kernel
theorem d_L_search_18 : decode c_L_search 18 = .ok (.ireturn, 1) := by decide +kernel
theorem d_L_hit_0 : decode c_L_hit 0 = .ok (.aload_n 2, 1) := by decide +kernel
theorem d_L_hit_1 : decode c_L_hit 1 = .ok (.iconst 0, 1) := by decide +kernel
theorem d_L_hit_2 : decode c_L_hit 2 = .ok (.aload_n 0, 1) := by decide +kernel
theorem d_L_hit_3 : decode c_L_hit 3 = .ok (.iload_n 1, 1) := by decide +kernel
theorem d_L_hit_4 : decode c_L_hit 4 = .ok (.invokevirtual 54, 3) := by decide +kernel
theorem d_L_hit_7 : decode c_L_hit 7 = .ok (.i2l, 1) := by decide +kernel
theorem d_L_hit_8 : decode c_L_hit 8 = .ok (.lastore, 1) := by decide +kernel
theorem d_L_hit_9 : decode c_L_hit 9 = .ok (.goto 6, 3) := by decide +kernel
theorem d_L_hit_12 : decode c_L_hit 12 = .ok (.astore_n 3, 1) := by decide +kernel
theorem d_L_hit_13 : decode c_L_hit 13 = .ok (.iconst 1, 1) := by decide +kernel
theorem d_L_hit_14 : decode c_L_hit 14 = .ok (.ireturn, 1) := by decide +kernel
theorem d_L_hit_15 : decode c_L_hit 15 = .ok (.iconst 0, 1) := by decide +kernel
theorem d_L_hit_16 : decode c_L_hit 16 = .ok (.ireturn, 1) := by decide +kernel
theorem d_L_score_0 : decode c_L_score 0 = .ok (.aload_n 2, 1) := by decide +kernel
theorem d_L_score_1 : decode c_L_score 1 = .ok (.iconst 0, 1) := by decide +kernel
theorem d_L_score_2 : decode c_L_score 2 = .ok (.aload_n 0, 1) := by decide +kernel
theorem d_L_score_3 : decode c_L_score 3 = .ok (.iload_n 1, 1) := by decide +kernel
theorem d_L_score_4 : decode c_L_score 4 = .ok (.invokevirtual 59, 3) := by decide +kernel
theorem d_L_score_7 : decode c_L_score 7 = .ok (.dastore, 1) := by decide +kernel
theorem d_L_score_8 : decode c_L_score 8 = .ok (.goto 6, 3) := by decide +kernel
theorem d_L_score_11 : decode c_L_score 11 = .ok (.astore_n 3, 1) := by decide +kernel
theorem d_L_score_12 : decode c_L_score 12 = .ok (.iconst 1, 1) := by decide +kernel
theorem d_L_score_13 : decode c_L_score 13 = .ok (.ireturn, 1) := by decide +kernel
theorem d_L_score_14 : decode c_L_score 14 = .ok (.iconst 0, 1) := by decide +kernel
theorem d_L_score_15 : decode c_L_score 15 = .ok (.ireturn, 1) := by decide +kernel
theorem d_L_value_0 : decode c_L_value 0 = .ok (.aload 4, 2) := by decide +kernel
theorem d_L_value_2 : decode c_L_value 2 = .ok (.iconst 0, 1) := by decide +kernel
theorem d_L_value_3 : decode c_L_value 3 = .ok (.aload_n 0, 1) := by decide +kernel
theorem d_L_value_4 : decode c_L_value 4 = .ok (.iload_n 1, 1) := by decide +kernel
theorem d_L_value_5 : decode c_L_value 5 = .ok (.iload_n 2, 1) := by decide +kernel
theorem d_L_value_6 : decode c_L_value 6 = .ok (.iload_n 3, 1) := by decide +kernel
theorem d_L_value_7 : decode c_L_value 7 = .ok (.invokevirtual 63, 3) := by decide +kernel
theorem d_L_value_10 : decode c_L_value 10 = .ok (.i2l, 1) := by decide +kernel
theorem d_L_value_11 : decode c_L_value 11 = .ok (.lastore, 1) := by decide +kernel
theorem d_L_value_12 : decode c_L_value 12 = .ok (.goto 15, 3) := by decide +kernel
theorem d_L_value_15 : decode c_L_value 15 = .ok (.astore 5, 2) := by decide +kernel
theorem d_L_value_17 : decode c_L_value 17 = .ok (.iconst 1, 1) := by decide +kernel
theorem d_L_value_18 : decode c_L_value 18 = .ok (.ireturn, 1) := by decide +kernel
theorem d_L_value_19 : decode c_L_value 19 = .ok (.astore 5, 2) := by decide +kernel
theorem d_L_value_21 : decode c_L_value 21 = .ok (.iconst 2, 1) := by decide +kernel
theorem d_L_value_22 : decode c_L_value 22 = .ok (.ireturn, 1) := by decide +kernel
theorem d_L_value_23 : decode c_L_value 23 = .ok (.astore 5, 2) := by decide +kernel
theorem d_L_value_25 : decode c_L_value 25 = .ok (.iconst 3, 1) := by decide +kernel
theorem d_L_value_26 : decode c_L_value 26 = .ok (.ireturn, 1) := by decide +kernel
theorem d_L_value_27 : decode c_L_value 27 = .ok (.iconst 0, 1) := by decide +kernel
theorem d_L_value_28 : decode c_L_value 28 = .ok (.ireturn, 1) := by decide +kernel
theorem d_L_count_0 : decode c_L_count 0 = .ok (.aload_n 2, 1) := by decide +kernel
theorem d_L_count_1 : decode c_L_count 1 = .ok (.iconst 0, 1) := by decide +kernel
theorem d_L_count_2 : decode c_L_count 2 = .ok (.aload_n 0, 1) := by decide +kernel
theorem d_L_count_3 : decode c_L_count 3 = .ok (.iload_n 1, 1) := by decide +kernel
theorem d_L_count_4 : decode c_L_count 4 = .ok (.invokevirtual 68, 3) := by decide +kernel
theorem d_L_count_7 : decode c_L_count 7 = .ok (.i2l, 1) := by decide +kernel
theorem d_L_count_8 : decode c_L_count 8 = .ok (.lastore, 1) := by decide +kernel
theorem d_L_count_9 : decode c_L_count 9 = .ok (.goto 6, 3) := by decide +kernel
theorem d_L_count_12 : decode c_L_count 12 = .ok (.astore_n 3, 1) := by decide +kernel
theorem d_L_count_13 : decode c_L_count 13 = .ok (.iconst 1, 1) := by decide +kernel
theorem d_L_count_14 : decode c_L_count 14 = .ok (.ireturn, 1) := by decide +kernel
theorem d_L_count_15 : decode c_L_count 15 = .ok (.iconst 0, 1) := by decide +kernel
theorem d_L_count_16 : decode c_L_count 16 = .ok (.ireturn, 1) := by decide +kernel
theorem d_M_thrown_0 : decode c_M_thrown 0 = .ok (.aload_n 0, 1) := by decide +kernel
theorem d_M_thrown_1 : decode c_M_thrown 1 = .ok (.getfield 94, 3) := by decide +kernel
theorem d_M_thrown_4 : decode c_M_thrown 4 = .ok (.ireturn, 1) := by decide +kernel
theorem d_M_in_0 : decode c_M_in 0 = .ok (.iload_n 0, 1) := by decide +kernel
theorem d_M_in_1 : decode c_M_in 1 = .ok (.iload_n 1, 1) := by decide +kernel
theorem d_M_in_2 : decode c_M_in 2 = .ok (.if_icmp .lt 12, 3) := by decide +kernel
theorem d_M_in_5 : decode c_M_in 5 = .ok (.iload_n 0, 1) := by decide +kernel
theorem d_M_in_6 : decode c_M_in 6 = .ok (.iload_n 2, 1) := by decide +kernel
theorem d_M_in_7 : decode c_M_in 7 = .ok (.if_icmp .gt 7, 3) := by decide +kernel
theorem d_M_in_10 : decode c_M_in 10 = .ok (.iconst 1, 1) := by decide +kernel
theorem d_M_in_11 : decode c_M_in 11 = .ok (.goto 4, 3) := by decide +kernel
theorem d_M_in_14 : decode c_M_in 14 = .ok (.iconst 0, 1) := by decide +kernel
theorem d_M_in_15 : decode c_M_in 15 = .ok (.ireturn, 1) := by decide +kernel
theorem d_M_level_0 : decode c_M_level 0 = .ok (.iload_n 1, 1) := by decide +kernel
theorem d_M_level_1 : decode c_M_level 1 = .ok (.iconst 0, 1) := by decide +kernel
theorem d_M_level_2 : decode c_M_level 2 = .ok (.iconst 1, 1) := by decide +kernel
theorem d_M_level_3 : decode c_M_level 3 = .ok (.invokestatic 98, 3) := by decide +kernel
theorem d_M_level_6 : decode c_M_level 6 = .ok (.ifCond .eq 30, 3) := by decide +kernel
theorem d_M_level_9 : decode c_M_level 9 = .ok (.iload_n 2, 1) := by decide +kernel
theorem d_M_level_10 : decode c_M_level 10 = .ok (.iconst 0, 1) := by decide +kernel
theorem d_M_level_11 : decode c_M_level 11 = .ok (.iload_n 1, 1) := by decide +kernel
theorem d_M_level_12 : decode c_M_level 12 = .ok (.ifCond .ne 7, 3) := by decide +kernel
theorem d_M_level_15 : decode c_M_level 15 = .ok (.iconst 2, 1) := by decide +kernel
theorem d_M_level_16 : decode c_M_level 16 = .ok (.goto 5, 3) := by decide +kernel
theorem d_M_level_19 : decode c_M_level 19 = .ok (.bipush 7, 2) := by decide +kernel
theorem d_M_level_21 : decode c_M_level 21 = .ok (.invokestatic 98, 3) := by decide +kernel
theorem d_M_level_24 : decode c_M_level 24 = .ok (.ifCond .eq 12, 3) := by decide +kernel
theorem d_M_level_27 : decode c_M_level 27 = .ok (.iload_n 3, 1) := by decide +kernel
theorem d_M_level_28 : decode c_M_level 28 = .ok (.iconst 0, 1) := by decide +kernel
theorem d_M_level_29 : decode c_M_level 29 = .ok (.iconst 3, 1) := by decide +kernel
theorem d_M_level_30 : decode c_M_level 30 = .ok (.invokestatic 98, 3) := by decide +kernel
theorem d_M_level_33 : decode c_M_level 33 = .ok (.ifCond .ne 9, 3) := by decide +kernel
theorem d_M_level_36 : decode c_M_level 36 = .ok (.aload_n 0, 1) := by decide +kernel
theorem d_M_level_37 : decode c_M_level 37 = .ok (.iconst 1, 1) := by decide +kernel
theorem d_M_level_38 : decode c_M_level 38 = .ok (.invokevirtual 102, 3) := by decide +kernel
theorem d_M_level_41 : decode c_M_level 41 = .ok (.ireturn, 1) := by decide +kernel
theorem d_M_level_42 : decode c_M_level 42 = .ok (.aload_n 0, 1) := by decide +kernel
theorem d_M_level_43 : decode c_M_level 43 = .ok (.iconst 0, 1) := by decide +kernel
theorem d_M_level_44 : decode c_M_level 44 = .ok (.putfield 94, 3) := by decide +kernel
theorem d_M_level_47 : decode c_M_level 47 = .ok (.iload_n 1, 1) := by decide +kernel
theorem d_M_level_48 : decode c_M_level 48 = .ok (.ifCond .ne 12, 3) := by decide +kernel
theorem d_M_level_51 : decode c_M_level 51 = .ok (.aload_n 0, 1) := by decide +kernel
theorem d_M_level_52 : decode c_M_level 52 = .ok (.getfield 13, 3) := by decide +kernel
theorem d_M_level_55 : decode c_M_level 55 = .ok (.iload_n 2, 1) := by decide +kernel
theorem d_M_level_56 : decode c_M_level 56 = .ok (.iaload, 1) := by decide +kernel
theorem d_M_level_57 : decode c_M_level 57 = .ok (.goto 9, 3) := by decide +kernel
theorem d_M_level_60 : decode c_M_level 60 = .ok (.aload_n 0, 1) := by decide +kernel
theorem d_M_level_61 : decode c_M_level 61 = .ok (.getfield 16, 3) := by decide +kernel
theorem d_M_level_64 : decode c_M_level 64 = .ok (.iload_n 2, 1) := by decide +kernel
theorem d_M_level_65 : decode c_M_level 65 = .ok (.iaload, 1) := by decide +kernel
theorem d_M_level_66 : decode c_M_level 66 = .ok (.istore 4, 2) := by decide +kernel
theorem d_M_level_68 : decode c_M_level 68 = .ok (.iload_n 1, 1) := by decide +kernel
theorem d_M_level_69 : decode c_M_level 69 = .ok (.ifCond .ne 13, 3) := by decide +kernel
theorem d_M_level_72 : decode c_M_level 72 = .ok (.aload_n 0, 1) := by decide +kernel
theorem d_M_level_73 : decode c_M_level 73 = .ok (.getfield 13, 3) := by decide +kernel
theorem d_M_level_76 : decode c_M_level 76 = .ok (.iload_n 2, 1) := by decide +kernel
theorem d_M_level_77 : decode c_M_level 77 = .ok (.iload_n 3, 1) := by decide +kernel
theorem d_M_level_78 : decode c_M_level 78 = .ok (.iastore, 1) := by decide +kernel
theorem d_M_level_79 : decode c_M_level 79 = .ok (.goto 10, 3) := by decide +kernel
theorem d_M_level_82 : decode c_M_level 82 = .ok (.aload_n 0, 1) := by decide +kernel
theorem d_M_level_83 : decode c_M_level 83 = .ok (.getfield 16, 3) := by decide +kernel
theorem d_M_level_86 : decode c_M_level 86 = .ok (.iload_n 2, 1) := by decide +kernel
theorem d_M_level_87 : decode c_M_level 87 = .ok (.iload_n 3, 1) := by decide +kernel
theorem d_M_level_88 : decode c_M_level 88 = .ok (.iastore, 1) := by decide +kernel
theorem d_M_level_89 : decode c_M_level 89 = .ok (.iload 4, 2) := by decide +kernel
theorem d_M_level_91 : decode c_M_level 91 = .ok (.ireturn, 1) := by decide +kernel
theorem d_M_fail_0 : decode c_M_fail 0 = .ok (.aload_n 0, 1) := by decide +kernel
theorem d_M_fail_1 : decode c_M_fail 1 = .ok (.iload_n 1, 1) := by decide +kernel
theorem d_M_fail_2 : decode c_M_fail 2 = .ok (.putfield 94, 3) := by decide +kernel
theorem d_M_fail_5 : decode c_M_fail 5 = .ok (.iconst 0, 1) := by decide +kernel
theorem d_M_fail_6 : decode c_M_fail 6 = .ok (.ireturn, 1) := by decide +kernel
theorem d_M_weigh_0 : decode c_M_weigh 0 = .ok (.iload_n 1, 1) := by decide +kernel
theorem d_M_weigh_1 : decode c_M_weigh 1 = .ok (.iconst 0, 1) := by decide +kernel
theorem d_M_weigh_2 : decode c_M_weigh 2 = .ok (.iconst 2, 1) := by decide +kernel
theorem d_M_weigh_3 : decode c_M_weigh 3 = .ok (.invokestatic 98, 3) := by decide +kernel
theorem d_M_weigh_6 : decode c_M_weigh 6 = .ok (.ifCond .eq 20, 3) := by decide +kernel
theorem d_M_weigh_9 : decode c_M_weigh 9 = .ok (.iload_n 2, 1) := by decide +kernel
theorem d_M_weigh_10 : decode c_M_weigh 10 = .ok (.iconst 0, 1) := by decide +kernel
theorem d_M_weigh_11 : decode c_M_weigh 11 = .ok (.bipush 7, 2) := by decide +kernel
theorem d_M_weigh_13 : decode c_M_weigh 13 = .ok (.invokestatic 98, 3) := by decide +kernel
theorem d_M_weigh_16 : decode c_M_weigh 16 = .ok (.ifCond .eq 10, 3) := by decide +kernel
theorem d_M_weigh_19 : decode c_M_weigh 19 = .ok (.dload_n 3, 1) := by decide +kernel
theorem d_M_weigh_20 : decode c_M_weigh 20 = .ok (.invokestatic 110, 3) := by decide +kernel
theorem d_M_weigh_23 : decode c_M_weigh 23 = .ok (.ifCond .ne 9, 3) := by decide +kernel
theorem d_M_weigh_26 : decode c_M_weigh 26 = .ok (.aload_n 0, 1) := by decide +kernel
theorem d_M_weigh_27 : decode c_M_weigh 27 = .ok (.iconst 1, 1) := by decide +kernel
theorem d_M_weigh_28 : decode c_M_weigh 28 = .ok (.invokevirtual 102, 3) := by decide +kernel
theorem d_M_weigh_31 : decode c_M_weigh 31 = .ok (.ireturn, 1) := by decide +kernel
theorem d_M_weigh_32 : decode c_M_weigh 32 = .ok (.aload_n 0, 1) := by decide +kernel
theorem d_M_weigh_33 : decode c_M_weigh 33 = .ok (.iconst 0, 1) := by decide +kernel
theorem d_M_weigh_34 : decode c_M_weigh 34 = .ok (.putfield 94, 3) := by decide +kernel
theorem d_M_weigh_37 : decode c_M_weigh 37 = .ok (.dload_n 3, 1) := by decide +kernel
theorem d_M_weigh_38 : decode c_M_weigh 38 = .ok (.d2f, 1) := by decide +kernel
theorem d_M_weigh_39 : decode c_M_weigh 39 = .ok (.ldc 114, 2) := by decide +kernel
theorem d_M_weigh_41 : decode c_M_weigh 41 = .ok (.fmul, 1) := by decide +kernel
theorem d_M_weigh_42 : decode c_M_weigh 42 = .ok (.ldc 115, 2) := by decide +kernel
theorem d_M_weigh_44 : decode c_M_weigh 44 = .ok (.fadd, 1) := by decide +kernel
theorem d_M_weigh_45 : decode c_M_weigh 45 = .ok (.f2i, 1) := by decide +kernel
theorem d_M_weigh_46 : decode c_M_weigh 46 = .ok (.istore 5, 2) := by decide +kernel
theorem d_M_weigh_48 : decode c_M_weigh 48 = .ok (.iload 5, 2) := by decide +kernel
theorem d_M_weigh_50 : decode c_M_weigh 50 = .ok (.sipush 255, 3) := by decide +kernel
theorem d_M_weigh_53 : decode c_M_weigh 53 = .ok (.if_icmp .le 8, 3) := by decide +kernel
theorem d_M_weigh_56 : decode c_M_weigh 56 = .ok (.sipush 255, 3) := by decide +kernel
theorem d_M_weigh_59 : decode c_M_weigh 59 = .ok (.istore 5, 2) := by decide +kernel
theorem d_M_weigh_61 : decode c_M_weigh 61 = .ok (.aload_n 0, 1) := by decide +kernel
theorem d_M_weigh_62 : decode c_M_weigh 62 = .ok (.getfield 31, 3) := by decide +kernel
theorem d_M_weigh_65 : decode c_M_weigh 65 = .ok (.sipush 960, 3) := by decide +kernel
theorem d_M_weigh_68 : decode c_M_weigh 68 = .ok (.bipush 8, 2) := by decide +kernel
theorem d_M_weigh_70 : decode c_M_weigh 70 = .ok (.iload_n 1, 1) := by decide +kernel
theorem d_M_weigh_71 : decode c_M_weigh 71 = .ok (.imul, 1) := by decide +kernel
theorem d_M_weigh_72 : decode c_M_weigh 72 = .ok (.iadd, 1) := by decide +kernel
theorem d_M_weigh_73 : decode c_M_weigh 73 = .ok (.iload_n 2, 1) := by decide +kernel
theorem d_M_weigh_74 : decode c_M_weigh 74 = .ok (.iadd, 1) := by decide +kernel
theorem d_M_weigh_75 : decode c_M_weigh 75 = .ok (.iload 5, 2) := by decide +kernel
theorem d_M_weigh_77 : decode c_M_weigh 77 = .ok (.iastore, 1) := by decide +kernel
theorem d_M_weigh_78 : decode c_M_weigh 78 = .ok (.iload 5, 2) := by decide +kernel
theorem d_M_weigh_80 : decode c_M_weigh 80 = .ok (.ireturn, 1) := by decide +kernel
theorem d_M_isWeight_0 : decode c_M_isWeight 0 = .ok (.dload_n 0, 1) := by decide +kernel
theorem d_M_isWeight_1 : decode c_M_isWeight 1 = .ok (.dconst 0, 1) := by decide +kernel
theorem d_M_isWeight_2 : decode c_M_isWeight 2 = .ok (.dcmp .l, 1) := by decide +kernel
theorem d_M_isWeight_3 : decode c_M_isWeight 3 = .ok (.ifCond .lt 29, 3) := by decide +kernel
theorem d_M_isWeight_6 : decode c_M_isWeight 6 = .ok (.dload_n 0, 1) := by decide +kernel
theorem d_M_isWeight_7 : decode c_M_isWeight 7 = .ok (.ldc2_w 106, 3) := by decide +kernel
theorem d_M_isWeight_10 : decode c_M_isWeight 10 = .ok (.dcmp .g, 1) := by decide +kernel
theorem d_M_isWeight_11 : decode c_M_isWeight 11 = .ok (.ifCond .gt 21, 3) := by decide +kernel
theorem d_M_isWeight_14 : decode c_M_isWeight 14 = .ok (.dload_n 0, 1) := by decide +kernel
theorem d_M_isWeight_15 : decode c_M_isWeight 15 = .ok (.dconst 0, 1) := by decide +kernel
theorem d_M_isWeight_16 : decode c_M_isWeight 16 = .ok (.dcmp .l, 1) := by decide +kernel
theorem d_M_isWeight_17 : decode c_M_isWeight 17 = .ok (.ifCond .eq 11, 3) := by decide +kernel
theorem d_M_isWeight_20 : decode c_M_isWeight 20 = .ok (.dload_n 0, 1) := by decide +kernel
theorem d_M_isWeight_21 : decode c_M_isWeight 21 = .ok (.ldc2_w 108, 3) := by decide +kernel
theorem d_M_isWeight_24 : decode c_M_isWeight 24 = .ok (.dcmp .l, 1) := by decide +kernel
theorem d_M_isWeight_25 : decode c_M_isWeight 25 = .ok (.ifCond .lt 7, 3) := by decide +kernel
theorem d_M_isWeight_28 : decode c_M_isWeight 28 = .ok (.iconst 1, 1) := by decide +kernel
theorem d_M_isWeight_29 : decode c_M_isWeight 29 = .ok (.goto 4, 3) := by decide +kernel
theorem d_M_isWeight_32 : decode c_M_isWeight 32 = .ok (.iconst 0, 1) := by decide +kernel
theorem d_M_isWeight_33 : decode c_M_isWeight 33 = .ok (.ireturn, 1) := by decide +kernel
theorem d_M_put_0 : decode c_M_put 0 = .ok (.iload_n 1, 1) := by decide +kernel
theorem d_M_put_1 : decode c_M_put 1 = .ok (.iconst 0, 1) := by decide +kernel
theorem d_M_put_2 : decode c_M_put 2 = .ok (.iconst 2, 1) := by decide +kernel
theorem d_M_put_3 : decode c_M_put 3 = .ok (.invokestatic 98, 3) := by decide +kernel
theorem d_M_put_6 : decode c_M_put 6 = .ok (.ifCond .ne 9, 3) := by decide +kernel
theorem d_M_put_9 : decode c_M_put 9 = .ok (.aload_n 0, 1) := by decide +kernel
theorem d_M_put_10 : decode c_M_put 10 = .ok (.iconst 1, 1) := by decide +kernel
theorem d_M_put_11 : decode c_M_put 11 = .ok (.invokevirtual 102, 3) := by decide +kernel
theorem d_M_put_14 : decode c_M_put 14 = .ok (.ireturn, 1) := by decide +kernel
theorem d_M_put_15 : decode c_M_put 15 = .ok (.aload_n 0, 1) := by decide +kernel
theorem d_M_put_16 : decode c_M_put 16 = .ok (.iconst 0, 1) := by decide +kernel
theorem d_M_put_17 : decode c_M_put 17 = .ok (.putfield 94, 3) := by decide +kernel
theorem d_M_put_20 : decode c_M_put 20 = .ok (.aload_n 0, 1) := by decide +kernel
theorem d_M_put_21 : decode c_M_put 21 = .ok (.getfield 28, 3) := by decide +kernel
theorem d_M_put_24 : decode c_M_put 24 = .ok (.bipush 120, 2) := by decide +kernel
theorem d_M_put_26 : decode c_M_put 26 = .ok (.iload_n 1, 1) := by decide +kernel
theorem d_M_put_27 : decode c_M_put 27 = .ok (.iadd, 1) := by decide +kernel
theorem d_M_put_28 : decode c_M_put 28 = .ok (.iaload, 1) := by decide +kernel
theorem d_M_put_29 : decode c_M_put 29 = .ok (.istore_n 3, 1) := by decide +kernel
theorem d_M_put_30 : decode c_M_put 30 = .ok (.aload_n 0, 1) := by decide +kernel
theorem d_M_put_31 : decode c_M_put 31 = .ok (.getfield 28, 3) := by decide +kernel
theorem d_M_put_34 : decode c_M_put 34 = .ok (.bipush 120, 2) := by decide +kernel
theorem d_M_put_36 : decode c_M_put 36 = .ok (.iload_n 1, 1) := by decide +kernel
theorem d_M_put_37 : decode c_M_put 37 = .ok (.iadd, 1) := by decide +kernel
theorem d_M_put_38 : decode c_M_put 38 = .ok (.iload_n 2, 1) := by decide +kernel
theorem d_M_put_39 : decode c_M_put 39 = .ok (.iastore, 1) := by decide +kernel
theorem d_M_put_40 : decode c_M_put 40 = .ok (.iload_n 3, 1) := by decide +kernel
theorem d_M_put_41 : decode c_M_put 41 = .ok (.ireturn, 1) := by decide +kernel
theorem d_M_rule_0 : decode c_M_rule 0 = .ok (.aload_n 0, 1) := by decide +kernel
theorem d_M_rule_1 : decode c_M_rule 1 = .ok (.iload_n 1, 1) := by decide +kernel
theorem d_M_rule_2 : decode c_M_rule 2 = .ok (.iconst 0, 1) := by decide +kernel
theorem d_M_rule_3 : decode c_M_rule 3 = .ok (.bipush 15, 2) := by decide +kernel
theorem d_M_rule_5 : decode c_M_rule 5 = .ok (.invokestatic 98, 3) := by decide +kernel
theorem d_M_rule_8 : decode c_M_rule 8 = .ok (.ifCond .eq 7, 3) := by decide +kernel
theorem d_M_rule_11 : decode c_M_rule 11 = .ok (.iconst 0, 1) := by decide +kernel
theorem d_M_rule_12 : decode c_M_rule 12 = .ok (.goto 4, 3) := by decide +kernel
theorem d_M_rule_15 : decode c_M_rule 15 = .ok (.iconst 1, 1) := by decide +kernel
theorem d_M_rule_16 : decode c_M_rule 16 = .ok (.putfield 94, 3) := by decide +kernel
theorem d_M_rule_19 : decode c_M_rule 19 = .ok (.aload_n 0, 1) := by decide +kernel
theorem d_M_rule_20 : decode c_M_rule 20 = .ok (.getfield 94, 3) := by decide +kernel
theorem d_M_rule_23 : decode c_M_rule 23 = .ok (.ifCond .le 5, 3) := by decide +kernel
theorem d_M_rule_26 : decode c_M_rule 26 = .ok (.iconst 0, 1) := by decide +kernel
theorem d_M_rule_27 : decode c_M_rule 27 = .ok (.ireturn, 1) := by decide +kernel
theorem d_M_rule_28 : decode c_M_rule 28 = .ok (.iload_n 2, 1) := by decide +kernel
theorem d_M_rule_29 : decode c_M_rule 29 = .ok (.ifCond .eq 13, 3) := by decide +kernel
theorem d_M_rule_32 : decode c_M_rule 32 = .ok (.aload_n 0, 1) := by decide +kernel
theorem d_M_rule_33 : decode c_M_rule 33 = .ok (.getfield 34, 3) := by decide +kernel
theorem d_M_rule_36 : decode c_M_rule 36 = .ok (.bipush 40, 2) := by decide +kernel
theorem d_M_rule_38 : decode c_M_rule 38 = .ok (.iaload, 1) := by decide +kernel
theorem d_M_rule_39 : decode c_M_rule 39 = .ok (.goto 10, 3) := by decide +kernel
theorem d_M_rule_42 : decode c_M_rule 42 = .ok (.aload_n 0, 1) := by decide +kernel
theorem d_M_rule_43 : decode c_M_rule 43 = .ok (.getfield 37, 3) := by decide +kernel
theorem d_M_rule_46 : decode c_M_rule 46 = .ok (.bipush 40, 2) := by decide +kernel
theorem d_M_rule_48 : decode c_M_rule 48 = .ok (.iaload, 1) := by decide +kernel
theorem d_M_rule_49 : decode c_M_rule 49 = .ok (.istore_n 3, 1) := by decide +kernel
theorem d_M_rule_50 : decode c_M_rule 50 = .ok (.iload_n 3, 1) := by decide +kernel
theorem d_M_rule_51 : decode c_M_rule 51 = .ok (.iconst 1, 1) := by decide +kernel
theorem d_M_rule_52 : decode c_M_rule 52 = .ok (.iload_n 1, 1) := by decide +kernel
theorem d_M_rule_53 : decode c_M_rule 53 = .ok (.ishl, 1) := by decide +kernel
theorem d_M_rule_54 : decode c_M_rule 54 = .ok (.ior, 1) := by decide +kernel
theorem d_M_rule_55 : decode c_M_rule 55 = .ok (.istore 4, 2) := by decide +kernel
theorem d_M_rule_57 : decode c_M_rule 57 = .ok (.iload_n 2, 1) := by decide +kernel
theorem d_M_rule_58 : decode c_M_rule 58 = .ok (.ifCond .eq 15, 3) := by decide +kernel
theorem d_M_rule_61 : decode c_M_rule 61 = .ok (.aload_n 0, 1) := by decide +kernel
theorem d_M_rule_62 : decode c_M_rule 62 = .ok (.getfield 34, 3) := by decide +kernel
theorem d_M_rule_65 : decode c_M_rule 65 = .ok (.bipush 40, 2) := by decide +kernel
theorem d_M_rule_67 : decode c_M_rule 67 = .ok (.iload 4, 2) := by decide +kernel
theorem d_M_rule_69 : decode c_M_rule 69 = .ok (.iastore, 1) := by decide +kernel
theorem d_M_rule_70 : decode c_M_rule 70 = .ok (.goto 12, 3) := by decide +kernel
theorem d_M_rule_73 : decode c_M_rule 73 = .ok (.aload_n 0, 1) := by decide +kernel
theorem d_M_rule_74 : decode c_M_rule 74 = .ok (.getfield 37, 3) := by decide +kernel
theorem d_M_rule_77 : decode c_M_rule 77 = .ok (.bipush 40, 2) := by decide +kernel
theorem d_M_rule_79 : decode c_M_rule 79 = .ok (.iload 4, 2) := by decide +kernel
theorem d_M_rule_81 : decode c_M_rule 81 = .ok (.iastore, 1) := by decide +kernel
theorem d_M_rule_82 : decode c_M_rule 82 = .ok (.iload 4, 2) := by decide +kernel
theorem d_M_rule_84 : decode c_M_rule 84 = .ok (.iload_n 3, 1) := by decide +kernel
theorem d_M_rule_85 : decode c_M_rule 85 = .ok (.if_icmp .eq 7, 3) := by decide +kernel
theorem d_M_rule_88 : decode c_M_rule 88 = .ok (.iconst 1, 1) := by decide +kernel
theorem d_M_rule_89 : decode c_M_rule 89 = .ok (.goto 4, 3) := by decide +kernel
theorem d_M_rule_92 : decode c_M_rule 92 = .ok (.iconst 0, 1) := by decide +kernel
theorem d_M_rule_93 : decode c_M_rule 93 = .ok (.ireturn, 1) := by decide +kernel
theorem d_M_remove_0 : decode c_M_remove 0 = .ok (.aload_n 0, 1) := by decide +kernel
theorem d_M_remove_1 : decode c_M_remove 1 = .ok (.iload_n 1, 1) := by decide +kernel
theorem d_M_remove_2 : decode c_M_remove 2 = .ok (.iconst 0, 1) := by decide +kernel
theorem d_M_remove_3 : decode c_M_remove 3 = .ok (.aload_n 0, 1) := by decide +kernel
theorem d_M_remove_4 : decode c_M_remove 4 = .ok (.getfield 116, 3) := by decide +kernel
theorem d_M_remove_7 : decode c_M_remove 7 = .ok (.iconst 1, 1) := by decide +kernel
theorem d_M_remove_8 : decode c_M_remove 8 = .ok (.isub, 1) := by decide +kernel
theorem d_M_remove_9 : decode c_M_remove 9 = .ok (.invokestatic 98, 3) := by decide +kernel
theorem d_M_remove_12 : decode c_M_remove 12 = .ok (.ifCond .eq 16, 3) := by decide +kernel
theorem d_M_remove_15 : decode c_M_remove 15 = .ok (.aload_n 0, 1) := by decide +kernel
theorem d_M_remove_16 : decode c_M_remove 16 = .ok (.getfield 49, 3) := by decide +kernel
theorem d_M_remove_19 : decode c_M_remove 19 = .ok (.iload_n 1, 1) := by decide +kernel
theorem d_M_remove_20 : decode c_M_remove 20 = .ok (.baload, 1) := by decide +kernel
theorem d_M_remove_21 : decode c_M_remove 21 = .ok (.ifCond .ne 7, 3) := by decide +kernel
theorem d_M_remove_24 : decode c_M_remove 24 = .ok (.iconst 0, 1) := by decide +kernel
theorem d_M_remove_25 : decode c_M_remove 25 = .ok (.goto 4, 3) := by decide +kernel
theorem d_M_remove_28 : decode c_M_remove 28 = .ok (.iconst 1, 1) := by decide +kernel
theorem d_M_remove_29 : decode c_M_remove 29 = .ok (.putfield 94, 3) := by decide +kernel
theorem d_M_remove_32 : decode c_M_remove 32 = .ok (.aload_n 0, 1) := by decide +kernel
theorem d_M_remove_33 : decode c_M_remove 33 = .ok (.getfield 94, 3) := by decide +kernel
theorem d_M_remove_36 : decode c_M_remove 36 = .ok (.ifCond .le 4, 3) := by decide +kernel
theorem d_M_remove_39 : decode c_M_remove 39 = .ok (.return_, 1) := by decide +kernel
theorem d_M_remove_40 : decode c_M_remove 40 = .ok (.aload_n 0, 1) := by decide +kernel
theorem d_M_remove_41 : decode c_M_remove 41 = .ok (.getfield 49, 3) := by decide +kernel
theorem d_M_remove_44 : decode c_M_remove 44 = .ok (.iload_n 1, 1) := by decide +kernel
theorem d_M_remove_45 : decode c_M_remove 45 = .ok (.iconst 1, 1) := by decide +kernel
theorem d_M_remove_46 : decode c_M_remove 46 = .ok (.bastore, 1) := by decide +kernel
theorem d_M_remove_47 : decode c_M_remove 47 = .ok (.aload_n 0, 1) := by decide +kernel
theorem d_M_remove_48 : decode c_M_remove 48 = .ok (.getfield 43, 3) := by decide +kernel
theorem d_M_remove_51 : decode c_M_remove 51 = .ok (.iload_n 1, 1) := by decide +kernel
theorem d_M_remove_52 : decode c_M_remove 52 = .ok (.iaload, 1) := by decide +kernel
theorem d_M_remove_53 : decode c_M_remove 53 = .ok (.iconst (-1), 1) := by decide +kernel
theorem d_M_remove_54 : decode c_M_remove 54 = .ok (.if_icmp .ne 11, 3) := by decide +kernel
theorem d_M_remove_57 : decode c_M_remove 57 = .ok (.aload_n 0, 1) := by decide +kernel
theorem d_M_remove_58 : decode c_M_remove 58 = .ok (.getfield 43, 3) := by decide +kernel
theorem d_M_remove_61 : decode c_M_remove 61 = .ok (.iload_n 1, 1) := by decide +kernel
theorem d_M_remove_62 : decode c_M_remove 62 = .ok (.bipush (-2), 2) := by decide +kernel
theorem d_M_remove_64 : decode c_M_remove 64 = .ok (.iastore, 1) := by decide +kernel
theorem d_M_remove_65 : decode c_M_remove 65 = .ok (.return_, 1) := by decide +kernel
theorem d_M_flush_0 : decode c_M_flush 0 = .ok (.aload_n 0, 1) := by decide +kernel
theorem d_M_flush_1 : decode c_M_flush 1 = .ok (.getfield 119, 3) := by decide +kernel
theorem d_M_flush_4 : decode c_M_flush 4 = .ok (.bipush 6, 2) := by decide +kernel
theorem d_M_flush_6 : decode c_M_flush 6 = .ok (.if_icmp .ne 9, 3) := by decide +kernel
theorem d_M_flush_9 : decode c_M_flush 9 = .ok (.aload_n 0, 1) := by decide +kernel
theorem d_M_flush_10 : decode c_M_flush 10 = .ok (.iconst 1, 1) := by decide +kernel
theorem d_M_flush_11 : decode c_M_flush 11 = .ok (.invokevirtual 102, 3) := by decide +kernel
theorem d_M_flush_14 : decode c_M_flush 14 = .ok (.ireturn, 1) := by decide +kernel
theorem d_M_flush_15 : decode c_M_flush 15 = .ok (.aload_n 0, 1) := by decide +kernel
theorem d_M_flush_16 : decode c_M_flush 16 = .ok (.iconst 0, 1) := by decide +kernel
theorem d_M_flush_17 : decode c_M_flush 17 = .ok (.putfield 94, 3) := by decide +kernel
theorem d_M_flush_20 : decode c_M_flush 20 = .ok (.aload_n 0, 1) := by decide +kernel
theorem d_M_flush_21 : decode c_M_flush 21 = .ok (.iconst (-1), 1) := by decide +kernel
theorem d_M_flush_22 : decode c_M_flush 22 = .ok (.invokevirtual 122, 3) := by decide +kernel
theorem d_M_flush_25 : decode c_M_flush 25 = .ok (.istore_n 1, 1) := by decide +kernel
theorem d_M_flush_26 : decode c_M_flush 26 = .ok (.iload_n 1, 1) := by decide +kernel
theorem d_M_flush_27 : decode c_M_flush 27 = .ok (.ifCond .ne 5, 3) := by decide +kernel
theorem d_M_flush_30 : decode c_M_flush 30 = .ok (.iconst 0, 1) := by decide +kernel
theorem d_M_flush_31 : decode c_M_flush 31 = .ok (.ireturn, 1) := by decide +kernel
theorem d_M_flush_32 : decode c_M_flush 32 = .ok (.iconst 0, 1) := by decide +kernel
theorem d_M_flush_33 : decode c_M_flush 33 = .ok (.istore_n 2, 1) := by decide +kernel
theorem d_M_flush_34 : decode c_M_flush 34 = .ok (.iload_n 2, 1) := by decide +kernel
theorem d_M_flush_35 : decode c_M_flush 35 = .ok (.aload_n 0, 1) := by decide +kernel
theorem d_M_flush_36 : decode c_M_flush 36 = .ok (.getfield 116, 3) := by decide +kernel
theorem d_M_flush_39 : decode c_M_flush 39 = .ok (.if_icmp .ge 29, 3) := by decide +kernel
theorem d_M_flush_42 : decode c_M_flush 42 = .ok (.aload_n 0, 1) := by decide +kernel
theorem d_M_flush_43 : decode c_M_flush 43 = .ok (.getfield 43, 3) := by decide +kernel
theorem d_M_flush_46 : decode c_M_flush 46 = .ok (.iload_n 2, 1) := by decide +kernel
theorem d_M_flush_47 : decode c_M_flush 47 = .ok (.iaload, 1) := by decide +kernel
theorem d_M_flush_48 : decode c_M_flush 48 = .ok (.iconst (-1), 1) := by decide +kernel
theorem d_M_flush_49 : decode c_M_flush 49 = .ok (.if_icmp .ne 13, 3) := by decide +kernel
theorem d_M_flush_52 : decode c_M_flush 52 = .ok (.aload_n 0, 1) := by decide +kernel
theorem d_M_flush_53 : decode c_M_flush 53 = .ok (.getfield 43, 3) := by decide +kernel
theorem d_M_flush_56 : decode c_M_flush 56 = .ok (.iload_n 2, 1) := by decide +kernel
theorem d_M_flush_57 : decode c_M_flush 57 = .ok (.aload_n 0, 1) := by decide +kernel
theorem d_M_flush_58 : decode c_M_flush 58 = .ok (.getfield 125, 3) := by decide +kernel
theorem d_M_flush_61 : decode c_M_flush 61 = .ok (.iastore, 1) := by decide +kernel
theorem d_M_flush_62 : decode c_M_flush 62 = .ok (.iinc 2 1, 3) := by decide +kernel
theorem d_M_flush_65 : decode c_M_flush 65 = .ok (.goto (-31), 3) := by decide +kernel
theorem d_M_flush_68 : decode c_M_flush 68 = .ok (.aload_n 0, 1) := by decide +kernel
theorem d_M_flush_69 : decode c_M_flush 69 = .ok (.getfield 56, 3) := by decide +kernel
theorem d_M_flush_72 : decode c_M_flush 72 = .ok (.aload_n 0, 1) := by decide +kernel
theorem d_M_flush_73 : decode c_M_flush 73 = .ok (.getfield 119, 3) := by decide +kernel
theorem d_M_flush_76 : decode c_M_flush 76 = .ok (.aload_n 0, 1) := by decide +kernel
theorem d_M_flush_77 : decode c_M_flush 77 = .ok (.getfield 125, 3) := by decide +kernel
theorem d_M_flush_80 : decode c_M_flush 80 = .ok (.iastore, 1) := by decide +kernel
theorem d_M_flush_81 : decode c_M_flush 81 = .ok (.aload_n 0, 1) := by decide +kernel
theorem d_M_flush_82 : decode c_M_flush 82 = .ok (.dup, 1) := by decide +kernel
theorem d_M_flush_83 : decode c_M_flush 83 = .ok (.getfield 119, 3) := by decide +kernel
theorem d_M_flush_86 : decode c_M_flush 86 = .ok (.iconst 1, 1) := by decide +kernel
theorem d_M_flush_87 : decode c_M_flush 87 = .ok (.iadd, 1) := by decide +kernel
theorem d_M_flush_88 : decode c_M_flush 88 = .ok (.putfield 119, 3) := by decide +kernel
theorem d_M_flush_91 : decode c_M_flush 91 = .ok (.aload_n 0, 1) := by decide +kernel
theorem d_M_flush_92 : decode c_M_flush 92 = .ok (.dup, 1) := by decide +kernel
theorem d_M_flush_93 : decode c_M_flush 93 = .ok (.getfield 125, 3) := by decide +kernel
theorem d_M_flush_96 : decode c_M_flush 96 = .ok (.iconst 1, 1) := by decide +kernel
theorem d_M_flush_97 : decode c_M_flush 97 = .ok (.iadd, 1) := by decide +kernel
theorem d_M_flush_98 : decode c_M_flush 98 = .ok (.putfield 125, 3) := by decide +kernel
theorem d_M_flush_101 : decode c_M_flush 101 = .ok (.iload_n 1, 1) := by decide +kernel
theorem d_M_flush_102 : decode c_M_flush 102 = .ok (.ireturn, 1) := by decide +kernel
theorem d_M_sizeOf_0 : decode c_M_sizeOf 0 = .ok (.iconst 0, 1) := by decide +kernel
theorem d_M_sizeOf_1 : decode c_M_sizeOf 1 = .ok (.istore_n 2, 1) := by decide +kernel
theorem d_M_sizeOf_2 : decode c_M_sizeOf 2 = .ok (.iconst 0, 1) := by decide +kernel
theorem d_M_sizeOf_3 : decode c_M_sizeOf 3 = .ok (.istore_n 3, 1) := by decide +kernel
theorem d_M_sizeOf_4 : decode c_M_sizeOf 4 = .ok (.iload_n 3, 1) := by decide +kernel
theorem d_M_sizeOf_5 : decode c_M_sizeOf 5 = .ok (.aload_n 0, 1) := by decide +kernel
theorem d_M_sizeOf_6 : decode c_M_sizeOf 6 = .ok (.getfield 116, 3) := by decide +kernel
theorem d_M_sizeOf_9 : decode c_M_sizeOf 9 = .ok (.if_icmp .ge 22, 3) := by decide +kernel
theorem d_M_sizeOf_12 : decode c_M_sizeOf 12 = .ok (.aload_n 0, 1) := by decide +kernel
theorem d_M_sizeOf_13 : decode c_M_sizeOf 13 = .ok (.getfield 43, 3) := by decide +kernel
theorem d_M_sizeOf_16 : decode c_M_sizeOf 16 = .ok (.iload_n 3, 1) := by decide +kernel
theorem d_M_sizeOf_17 : decode c_M_sizeOf 17 = .ok (.iaload, 1) := by decide +kernel
theorem d_M_sizeOf_18 : decode c_M_sizeOf 18 = .ok (.iload_n 1, 1) := by decide +kernel
theorem d_M_sizeOf_19 : decode c_M_sizeOf 19 = .ok (.if_icmp .ne 6, 3) := by decide +kernel
theorem d_M_sizeOf_22 : decode c_M_sizeOf 22 = .ok (.iinc 2 1, 3) := by decide +kernel
theorem d_M_sizeOf_25 : decode c_M_sizeOf 25 = .ok (.iinc 3 1, 3) := by decide +kernel
theorem d_M_sizeOf_28 : decode c_M_sizeOf 28 = .ok (.goto (-24), 3) := by decide +kernel
theorem d_M_sizeOf_31 : decode c_M_sizeOf 31 = .ok (.iload_n 2, 1) := by decide +kernel
theorem d_M_sizeOf_32 : decode c_M_sizeOf 32 = .ok (.ireturn, 1) := by decide +kernel
theorem d_M_isOther_0 : decode c_M_isOther 0 = .ok (.iconst 0, 1) := by decide +kernel
theorem d_M_isOther_1 : decode c_M_isOther 1 = .ok (.istore_n 1, 1) := by decide +kernel
theorem d_M_isOther_2 : decode c_M_isOther 2 = .ok (.iload_n 1, 1) := by decide +kernel
theorem d_M_isOther_3 : decode c_M_isOther 3 = .ok (.bipush 16, 2) := by decide +kernel
theorem d_M_isOther_5 : decode c_M_isOther 5 = .ok (.if_icmp .ge 26, 3) := by decide +kernel
theorem d_M_isOther_8 : decode c_M_isOther 8 = .ok (.aload_n 0, 1) := by decide +kernel
theorem d_M_isOther_9 : decode c_M_isOther 9 = .ok (.getfield 7, 3) := by decide +kernel
theorem d_M_isOther_12 : decode c_M_isOther 12 = .ok (.iload_n 1, 1) := by decide +kernel
theorem d_M_isOther_13 : decode c_M_isOther 13 = .ok (.iaload, 1) := by decide +kernel
theorem d_M_isOther_14 : decode c_M_isOther 14 = .ok (.aload_n 0, 1) := by decide +kernel
theorem d_M_isOther_15 : decode c_M_isOther 15 = .ok (.getfield 19, 3) := by decide +kernel
theorem d_M_isOther_18 : decode c_M_isOther 18 = .ok (.iload_n 1, 1) := by decide +kernel
theorem d_M_isOther_19 : decode c_M_isOther 19 = .ok (.iaload, 1) := by decide +kernel
theorem d_M_isOther_20 : decode c_M_isOther 20 = .ok (.if_icmp .eq 5, 3) := by decide +kernel
theorem d_M_isOther_23 : decode c_M_isOther 23 = .ok (.iconst 1, 1) := by decide +kernel
theorem d_M_isOther_24 : decode c_M_isOther 24 = .ok (.ireturn, 1) := by decide +kernel
theorem d_M_isOther_25 : decode c_M_isOther 25 = .ok (.iinc 1 1, 3) := by decide +kernel
theorem d_M_isOther_28 : decode c_M_isOther 28 = .ok (.goto (-26), 3) := by decide +kernel
theorem d_M_isOther_31 : decode c_M_isOther 31 = .ok (.iconst 0, 1) := by decide +kernel
theorem d_M_isOther_32 : decode c_M_isOther 32 = .ok (.istore_n 1, 1) := by decide +kernel
theorem d_M_isOther_33 : decode c_M_isOther 33 = .ok (.iload_n 1, 1) := by decide +kernel
theorem d_M_isOther_34 : decode c_M_isOther 34 = .ok (.iconst 3, 1) := by decide +kernel
theorem d_M_isOther_35 : decode c_M_isOther 35 = .ok (.if_icmp .ge 26, 3) := by decide +kernel
theorem d_M_isOther_38 : decode c_M_isOther 38 = .ok (.aload_n 0, 1) := by decide +kernel
theorem d_M_isOther_39 : decode c_M_isOther 39 = .ok (.getfield 13, 3) := by decide +kernel
theorem d_M_isOther_42 : decode c_M_isOther 42 = .ok (.iload_n 1, 1) := by decide +kernel
theorem d_M_isOther_43 : decode c_M_isOther 43 = .ok (.iaload, 1) := by decide +kernel
theorem d_M_isOther_44 : decode c_M_isOther 44 = .ok (.aload_n 0, 1) := by decide +kernel
theorem d_M_isOther_45 : decode c_M_isOther 45 = .ok (.getfield 22, 3) := by decide +kernel
theorem d_M_isOther_48 : decode c_M_isOther 48 = .ok (.iload_n 1, 1) := by decide +kernel
theorem d_M_isOther_49 : decode c_M_isOther 49 = .ok (.iaload, 1) := by decide +kernel
theorem d_M_isOther_50 : decode c_M_isOther 50 = .ok (.if_icmp .eq 5, 3) := by decide +kernel
theorem d_M_isOther_53 : decode c_M_isOther 53 = .ok (.iconst 1, 1) := by decide +kernel
theorem d_M_isOther_54 : decode c_M_isOther 54 = .ok (.ireturn, 1) := by decide +kernel
theorem d_M_isOther_55 : decode c_M_isOther 55 = .ok (.iinc 1 1, 3) := by decide +kernel
theorem d_M_isOther_58 : decode c_M_isOther 58 = .ok (.goto (-25), 3) := by decide +kernel
theorem d_M_isOther_61 : decode c_M_isOther 61 = .ok (.iconst 0, 1) := by decide +kernel
theorem d_M_isOther_62 : decode c_M_isOther 62 = .ok (.istore_n 1, 1) := by decide +kernel
theorem d_M_isOther_63 : decode c_M_isOther 63 = .ok (.iload_n 1, 1) := by decide +kernel
theorem d_M_isOther_64 : decode c_M_isOther 64 = .ok (.bipush 8, 2) := by decide +kernel
theorem d_M_isOther_66 : decode c_M_isOther 66 = .ok (.if_icmp .ge 26, 3) := by decide +kernel
theorem d_M_isOther_69 : decode c_M_isOther 69 = .ok (.aload_n 0, 1) := by decide +kernel
theorem d_M_isOther_70 : decode c_M_isOther 70 = .ok (.getfield 16, 3) := by decide +kernel
theorem d_M_isOther_73 : decode c_M_isOther 73 = .ok (.iload_n 1, 1) := by decide +kernel
theorem d_M_isOther_74 : decode c_M_isOther 74 = .ok (.iaload, 1) := by decide +kernel
theorem d_M_isOther_75 : decode c_M_isOther 75 = .ok (.aload_n 0, 1) := by decide +kernel
theorem d_M_isOther_76 : decode c_M_isOther 76 = .ok (.getfield 25, 3) := by decide +kernel
theorem d_M_isOther_79 : decode c_M_isOther 79 = .ok (.iload_n 1, 1) := by decide +kernel
theorem d_M_isOther_80 : decode c_M_isOther 80 = .ok (.iaload, 1) := by decide +kernel
theorem d_M_isOther_81 : decode c_M_isOther 81 = .ok (.if_icmp .eq 5, 3) := by decide +kernel
theorem d_M_isOther_84 : decode c_M_isOther 84 = .ok (.iconst 1, 1) := by decide +kernel
theorem d_M_isOther_85 : decode c_M_isOther 85 = .ok (.ireturn, 1) := by decide +kernel
theorem d_M_isOther_86 : decode c_M_isOther 86 = .ok (.iinc 1 1, 3) := by decide +kernel
theorem d_M_isOther_89 : decode c_M_isOther 89 = .ok (.goto (-26), 3) := by decide +kernel
theorem d_M_isOther_92 : decode c_M_isOther 92 = .ok (.iconst 0, 1) := by decide +kernel
theorem d_M_isOther_93 : decode c_M_isOther 93 = .ok (.ireturn, 1) := by decide +kernel
theorem d_M_isShown_0 : decode c_M_isShown 0 = .ok (.iconst 0, 1) := by decide +kernel
theorem d_M_isShown_1 : decode c_M_isShown 1 = .ok (.istore_n 2, 1) := by decide +kernel
theorem d_M_isShown_2 : decode c_M_isShown 2 = .ok (.iload_n 2, 1) := by decide +kernel
theorem d_M_isShown_3 : decode c_M_isShown 3 = .ok (.aload_n 0, 1) := by decide +kernel
theorem d_M_isShown_4 : decode c_M_isShown 4 = .ok (.getfield 128, 3) := by decide +kernel
theorem d_M_isShown_7 : decode c_M_isShown 7 = .ok (.if_icmp .ge 21, 3) := by decide +kernel
theorem d_M_isShown_10 : decode c_M_isShown 10 = .ok (.aload_n 0, 1) := by decide +kernel
theorem d_M_isShown_11 : decode c_M_isShown 11 = .ok (.getfield 59, 3) := by decide +kernel
theorem d_M_isShown_14 : decode c_M_isShown 14 = .ok (.iload_n 2, 1) := by decide +kernel
theorem d_M_isShown_15 : decode c_M_isShown 15 = .ok (.iaload, 1) := by decide +kernel
theorem d_M_isShown_16 : decode c_M_isShown 16 = .ok (.iload_n 1, 1) := by decide +kernel
theorem d_M_isShown_17 : decode c_M_isShown 17 = .ok (.if_icmp .ne 5, 3) := by decide +kernel
theorem d_M_isShown_20 : decode c_M_isShown 20 = .ok (.iconst 1, 1) := by decide +kernel
theorem d_M_isShown_21 : decode c_M_isShown 21 = .ok (.ireturn, 1) := by decide +kernel
theorem d_M_isShown_22 : decode c_M_isShown 22 = .ok (.iinc 2 1, 3) := by decide +kernel
theorem d_M_isShown_25 : decode c_M_isShown 25 = .ok (.goto (-23), 3) := by decide +kernel
theorem d_M_isShown_28 : decode c_M_isShown 28 = .ok (.iconst 0, 1) := by decide +kernel
theorem d_M_isShown_29 : decode c_M_isShown 29 = .ok (.ireturn, 1) := by decide +kernel
theorem d_M_drop_0 : decode c_M_drop 0 = .ok (.aload_n 0, 1) := by decide +kernel
theorem d_M_drop_1 : decode c_M_drop 1 = .ok (.dup, 1) := by decide +kernel
theorem d_M_drop_2 : decode c_M_drop 2 = .ok (.getfield 131, 3) := by decide +kernel
theorem d_M_drop_5 : decode c_M_drop 5 = .ok (.iconst 1, 1) := by decide +kernel
theorem d_M_drop_6 : decode c_M_drop 6 = .ok (.isub, 1) := by decide +kernel
theorem d_M_drop_7 : decode c_M_drop 7 = .ok (.putfield 131, 3) := by decide +kernel
theorem d_M_drop_10 : decode c_M_drop 10 = .ok (.iload_n 1, 1) := by decide +kernel
theorem d_M_drop_11 : decode c_M_drop 11 = .ok (.istore_n 2, 1) := by decide +kernel
theorem d_M_drop_12 : decode c_M_drop 12 = .ok (.iload_n 2, 1) := by decide +kernel
theorem d_M_drop_13 : decode c_M_drop 13 = .ok (.aload_n 0, 1) := by decide +kernel
theorem d_M_drop_14 : decode c_M_drop 14 = .ok (.getfield 131, 3) := by decide +kernel
theorem d_M_drop_17 : decode c_M_drop 17 = .ok (.if_icmp .ge 51, 3) := by decide +kernel
theorem d_M_drop_20 : decode c_M_drop 20 = .ok (.aload_n 0, 1) := by decide +kernel
theorem d_M_drop_21 : decode c_M_drop 21 = .ok (.getfield 85, 3) := by decide +kernel
theorem d_M_drop_24 : decode c_M_drop 24 = .ok (.iload_n 2, 1) := by decide +kernel
theorem d_M_drop_25 : decode c_M_drop 25 = .ok (.aload_n 0, 1) := by decide +kernel
theorem d_M_drop_26 : decode c_M_drop 26 = .ok (.getfield 85, 3) := by decide +kernel
theorem d_M_drop_29 : decode c_M_drop 29 = .ok (.iload_n 2, 1) := by decide +kernel
theorem d_M_drop_30 : decode c_M_drop 30 = .ok (.iconst 1, 1) := by decide +kernel
theorem d_M_drop_31 : decode c_M_drop 31 = .ok (.iadd, 1) := by decide +kernel
theorem d_M_drop_32 : decode c_M_drop 32 = .ok (.iaload, 1) := by decide +kernel
theorem d_M_drop_33 : decode c_M_drop 33 = .ok (.iastore, 1) := by decide +kernel
theorem d_M_drop_34 : decode c_M_drop 34 = .ok (.aload_n 0, 1) := by decide +kernel
theorem d_M_drop_35 : decode c_M_drop 35 = .ok (.getfield 88, 3) := by decide +kernel
theorem d_M_drop_38 : decode c_M_drop 38 = .ok (.iload_n 2, 1) := by decide +kernel
theorem d_M_drop_39 : decode c_M_drop 39 = .ok (.aload_n 0, 1) := by decide +kernel
theorem d_M_drop_40 : decode c_M_drop 40 = .ok (.getfield 88, 3) := by decide +kernel
theorem d_M_drop_43 : decode c_M_drop 43 = .ok (.iload_n 2, 1) := by decide +kernel
theorem d_M_drop_44 : decode c_M_drop 44 = .ok (.iconst 1, 1) := by decide +kernel
theorem d_M_drop_45 : decode c_M_drop 45 = .ok (.iadd, 1) := by decide +kernel
theorem d_M_drop_46 : decode c_M_drop 46 = .ok (.iaload, 1) := by decide +kernel
theorem d_M_drop_47 : decode c_M_drop 47 = .ok (.iastore, 1) := by decide +kernel
theorem d_M_drop_48 : decode c_M_drop 48 = .ok (.aload_n 0, 1) := by decide +kernel
theorem d_M_drop_49 : decode c_M_drop 49 = .ok (.getfield 91, 3) := by decide +kernel
theorem d_M_drop_52 : decode c_M_drop 52 = .ok (.iload_n 2, 1) := by decide +kernel
theorem d_M_drop_53 : decode c_M_drop 53 = .ok (.aload_n 0, 1) := by decide +kernel
theorem d_M_drop_54 : decode c_M_drop 54 = .ok (.getfield 91, 3) := by decide +kernel
theorem d_M_drop_57 : decode c_M_drop 57 = .ok (.iload_n 2, 1) := by decide +kernel
theorem d_M_drop_58 : decode c_M_drop 58 = .ok (.iconst 1, 1) := by decide +kernel
theorem d_M_drop_59 : decode c_M_drop 59 = .ok (.iadd, 1) := by decide +kernel
theorem d_M_drop_60 : decode c_M_drop 60 = .ok (.iaload, 1) := by decide +kernel
theorem d_M_drop_61 : decode c_M_drop 61 = .ok (.iastore, 1) := by decide +kernel
theorem d_M_drop_62 : decode c_M_drop 62 = .ok (.iinc 2 1, 3) := by decide +kernel
theorem d_M_drop_65 : decode c_M_drop 65 = .ok (.goto (-53), 3) := by decide +kernel
theorem d_M_drop_68 : decode c_M_drop 68 = .ok (.return_, 1) := by decide +kernel
theorem d_M_clear_0 : decode c_M_clear 0 = .ok (.aload_n 0, 1) := by decide +kernel
theorem d_M_clear_1 : decode c_M_clear 1 = .ok (.iconst 0, 1) := by decide +kernel
theorem d_M_clear_2 : decode c_M_clear 2 = .ok (.putfield 94, 3) := by decide +kernel
theorem d_M_clear_5 : decode c_M_clear 5 = .ok (.aload_n 0, 1) := by decide +kernel
theorem d_M_clear_6 : decode c_M_clear 6 = .ok (.getfield 146, 3) := by decide +kernel
theorem d_M_clear_9 : decode c_M_clear 9 = .ok (.istore_n 1, 1) := by decide +kernel
theorem d_M_clear_10 : decode c_M_clear 10 = .ok (.aload_n 0, 1) := by decide +kernel
theorem d_M_clear_11 : decode c_M_clear 11 = .ok (.iconst 0, 1) := by decide +kernel
theorem d_M_clear_12 : decode c_M_clear 12 = .ok (.putfield 146, 3) := by decide +kernel
theorem d_M_clear_15 : decode c_M_clear 15 = .ok (.iload_n 1, 1) := by decide +kernel
theorem d_M_clear_16 : decode c_M_clear 16 = .ok (.ireturn, 1) := by decide +kernel
theorem d_M_isLeft_0 : decode c_M_isLeft 0 = .ok (.iload_n 1, 1) := by decide +kernel
theorem d_M_isLeft_1 : decode c_M_isLeft 1 = .ok (.istore_n 3, 1) := by decide +kernel
theorem d_M_isLeft_2 : decode c_M_isLeft 2 = .ok (.iload_n 3, 1) := by decide +kernel
theorem d_M_isLeft_3 : decode c_M_isLeft 3 = .ok (.aload_n 0, 1) := by decide +kernel
theorem d_M_isLeft_4 : decode c_M_isLeft 4 = .ok (.getfield 116, 3) := by decide +kernel
theorem d_M_isLeft_7 : decode c_M_isLeft 7 = .ok (.if_icmp .ge 21, 3) := by decide +kernel
theorem d_M_isLeft_10 : decode c_M_isLeft 10 = .ok (.aload_n 0, 1) := by decide +kernel
theorem d_M_isLeft_11 : decode c_M_isLeft 11 = .ok (.getfield 46, 3) := by decide +kernel
theorem d_M_isLeft_14 : decode c_M_isLeft 14 = .ok (.iload_n 3, 1) := by decide +kernel
theorem d_M_isLeft_15 : decode c_M_isLeft 15 = .ok (.iaload, 1) := by decide +kernel
theorem d_M_isLeft_16 : decode c_M_isLeft 16 = .ok (.iload_n 2, 1) := by decide +kernel
theorem d_M_isLeft_17 : decode c_M_isLeft 17 = .ok (.if_icmp .ne 5, 3) := by decide +kernel
theorem d_M_isLeft_20 : decode c_M_isLeft 20 = .ok (.iconst 1, 1) := by decide +kernel
theorem d_M_isLeft_21 : decode c_M_isLeft 21 = .ok (.ireturn, 1) := by decide +kernel
theorem d_M_isLeft_22 : decode c_M_isLeft 22 = .ok (.iinc 3 1, 3) := by decide +kernel
theorem d_M_isLeft_25 : decode c_M_isLeft 25 = .ok (.goto (-23), 3) := by decide +kernel
theorem d_M_isLeft_28 : decode c_M_isLeft 28 = .ok (.iconst 0, 1) := by decide +kernel
theorem d_M_isLeft_29 : decode c_M_isLeft 29 = .ok (.ireturn, 1) := by decide +kernel
theorem d_M_behindBlock_0 : decode c_M_behindBlock 0 = .ok (.iload_n 1, 1) := by decide +kernel
theorem d_M_behindBlock_1 : decode c_M_behindBlock 1 = .ok (.istore_n 3, 1) := by decide +kernel
theorem d_M_behindBlock_2 : decode c_M_behindBlock 2 = .ok (.iconst 0, 1) := by decide +kernel
theorem d_M_behindBlock_3 : decode c_M_behindBlock 3 = .ok (.istore 4, 2) := by decide +kernel
theorem d_M_behindBlock_5 : decode c_M_behindBlock 5 = .ok (.iload_n 3, 1) := by decide +kernel
theorem d_M_behindBlock_6 : decode c_M_behindBlock 6 = .ok (.aload_n 0, 1) := by decide +kernel
theorem d_M_behindBlock_7 : decode c_M_behindBlock 7 = .ok (.getfield 116, 3) := by decide +kernel
theorem d_M_behindBlock_10 : decode c_M_behindBlock 10 = .ok (.if_icmp .ge 28, 3) := by decide +kernel
theorem d_M_behindBlock_13 : decode c_M_behindBlock 13 = .ok (.iload 4, 2) := by decide +kernel
theorem d_M_behindBlock_15 : decode c_M_behindBlock 15 = .ok (.iconst 4, 1) := by decide +kernel
theorem d_M_behindBlock_16 : decode c_M_behindBlock 16 = .ok (.if_icmp .ge 22, 3) := by decide +kernel
theorem d_M_behindBlock_19 : decode c_M_behindBlock 19 = .ok (.aload_n 0, 1) := by decide +kernel
theorem d_M_behindBlock_20 : decode c_M_behindBlock 20 = .ok (.getfield 46, 3) := by decide +kernel
theorem d_M_behindBlock_23 : decode c_M_behindBlock 23 = .ok (.iload_n 3, 1) := by decide +kernel
theorem d_M_behindBlock_24 : decode c_M_behindBlock 24 = .ok (.iaload, 1) := by decide +kernel
theorem d_M_behindBlock_25 : decode c_M_behindBlock 25 = .ok (.iload_n 2, 1) := by decide +kernel
theorem d_M_behindBlock_26 : decode c_M_behindBlock 26 = .ok (.if_icmp .ne 6, 3) := by decide +kernel
theorem d_M_behindBlock_29 : decode c_M_behindBlock 29 = .ok (.iinc 4 1, 3) := by decide +kernel
theorem d_M_behindBlock_32 : decode c_M_behindBlock 32 = .ok (.iinc 3 1, 3) := by decide +kernel
theorem d_M_behindBlock_35 : decode c_M_behindBlock 35 = .ok (.goto (-30), 3) := by decide +kernel
theorem d_M_behindBlock_38 : decode c_M_behindBlock 38 = .ok (.iload_n 3, 1) := by decide +kernel
theorem d_M_behindBlock_39 : decode c_M_behindBlock 39 = .ok (.ireturn, 1) := by decide +kernel
theorem d_M_isOpen_0 : decode c_M_isOpen 0 = .ok (.aload_n 0, 1) := by decide +kernel
theorem d_M_isOpen_1 : decode c_M_isOpen 1 = .ok (.getfield 25, 3) := by decide +kernel
theorem d_M_isOpen_4 : decode c_M_isOpen 4 = .ok (.iload_n 1, 1) := by decide +kernel
theorem d_M_isOpen_5 : decode c_M_isOpen 5 = .ok (.iaload, 1) := by decide +kernel
theorem d_M_isOpen_6 : decode c_M_isOpen 6 = .ok (.aload_n 0, 1) := by decide +kernel
theorem d_M_isOpen_7 : decode c_M_isOpen 7 = .ok (.getfield 22, 3) := by decide +kernel
theorem d_M_isOpen_10 : decode c_M_isOpen 10 = .ok (.iload_n 2, 1) := by decide +kernel
theorem d_M_isOpen_11 : decode c_M_isOpen 11 = .ok (.iaload, 1) := by decide +kernel
theorem d_M_isOpen_12 : decode c_M_isOpen 12 = .ok (.if_icmp .lt 7, 3) := by decide +kernel
theorem d_M_isOpen_15 : decode c_M_isOpen 15 = .ok (.iconst 1, 1) := by decide +kernel
theorem d_M_isOpen_16 : decode c_M_isOpen 16 = .ok (.goto 4, 3) := by decide +kernel
theorem d_M_isOpen_19 : decode c_M_isOpen 19 = .ok (.iconst 0, 1) := by decide +kernel
theorem d_M_isOpen_20 : decode c_M_isOpen 20 = .ok (.ireturn, 1) := by decide +kernel
theorem d_M_lookAt_0 : decode c_M_lookAt 0 = .ok (.aload_n 0, 1) := by decide +kernel
theorem d_M_lookAt_1 : decode c_M_lookAt 1 = .ok (.dup, 1) := by decide +kernel
theorem d_M_lookAt_2 : decode c_M_lookAt 2 = .ok (.getfield 169, 3) := by decide +kernel
theorem d_M_lookAt_5 : decode c_M_lookAt 5 = .ok (.iconst 1, 1) := by decide +kernel
theorem d_M_lookAt_6 : decode c_M_lookAt 6 = .ok (.iadd, 1) := by decide +kernel
theorem d_M_lookAt_7 : decode c_M_lookAt 7 = .ok (.putfield 169, 3) := by decide +kernel
theorem d_M_lookAt_10 : decode c_M_lookAt 10 = .ok (.iload_n 3, 1) := by decide +kernel
theorem d_M_lookAt_11 : decode c_M_lookAt 11 = .ok (.istore 6, 2) := by decide +kernel
theorem d_M_lookAt_13 : decode c_M_lookAt 13 = .ok (.iload 6, 2) := by decide +kernel
theorem d_M_lookAt_15 : decode c_M_lookAt 15 = .ok (.iload 4, 2) := by decide +kernel
theorem d_M_lookAt_17 : decode c_M_lookAt 17 = .ok (.if_icmp .ge 96, 3) := by decide +kernel
theorem d_M_lookAt_20 : decode c_M_lookAt 20 = .ok (.aload_n 0, 1) := by decide +kernel
theorem d_M_lookAt_21 : decode c_M_lookAt 21 = .ok (.getfield 46, 3) := by decide +kernel
theorem d_M_lookAt_24 : decode c_M_lookAt 24 = .ok (.iload 6, 2) := by decide +kernel
theorem d_M_lookAt_26 : decode c_M_lookAt 26 = .ok (.iaload, 1) := by decide +kernel
theorem d_M_lookAt_27 : decode c_M_lookAt 27 = .ok (.iload 5, 2) := by decide +kernel
theorem d_M_lookAt_29 : decode c_M_lookAt 29 = .ok (.if_icmp .ne 37, 3) := by decide +kernel
theorem d_M_lookAt_32 : decode c_M_lookAt 32 = .ok (.aload_n 0, 1) := by decide +kernel
theorem d_M_lookAt_33 : decode c_M_lookAt 33 = .ok (.getfield 53, 3) := by decide +kernel
theorem d_M_lookAt_36 : decode c_M_lookAt 36 = .ok (.iload 6, 2) := by decide +kernel
theorem d_M_lookAt_38 : decode c_M_lookAt 38 = .ok (.baload, 1) := by decide +kernel
theorem d_M_lookAt_39 : decode c_M_lookAt 39 = .ok (.ifCond .ne 27, 3) := by decide +kernel
theorem d_M_lookAt_42 : decode c_M_lookAt 42 = .ok (.aload_n 0, 1) := by decide +kernel
theorem d_M_lookAt_43 : decode c_M_lookAt 43 = .ok (.iload_n 1, 1) := by decide +kernel
theorem d_M_lookAt_44 : decode c_M_lookAt 44 = .ok (.iload 6, 2) := by decide +kernel
theorem d_M_lookAt_46 : decode c_M_lookAt 46 = .ok (.invokevirtual 172, 3) := by decide +kernel
theorem d_M_lookAt_49 : decode c_M_lookAt 49 = .ok (.ifCond .eq 17, 3) := by decide +kernel
theorem d_M_lookAt_52 : decode c_M_lookAt 52 = .ok (.aload_n 0, 1) := by decide +kernel
theorem d_M_lookAt_53 : decode c_M_lookAt 53 = .ok (.iload_n 1, 1) := by decide +kernel
theorem d_M_lookAt_54 : decode c_M_lookAt 54 = .ok (.iload 6, 2) := by decide +kernel
theorem d_M_lookAt_56 : decode c_M_lookAt 56 = .ok (.invokevirtual 175, 3) := by decide +kernel
theorem d_M_lookAt_59 : decode c_M_lookAt 59 = .ok (.ifCond .eq 7, 3) := by decide +kernel
theorem d_M_lookAt_62 : decode c_M_lookAt 62 = .ok (.iconst 1, 1) := by decide +kernel
theorem d_M_lookAt_63 : decode c_M_lookAt 63 = .ok (.goto 4, 3) := by decide +kernel
theorem d_M_lookAt_66 : decode c_M_lookAt 66 = .ok (.iconst 0, 1) := by decide +kernel
theorem d_M_lookAt_67 : decode c_M_lookAt 67 = .ok (.istore 7, 2) := by decide +kernel
theorem d_M_lookAt_69 : decode c_M_lookAt 69 = .ok (.iload 7, 2) := by decide +kernel
theorem d_M_lookAt_71 : decode c_M_lookAt 71 = .ok (.ifCond .ne 6, 3) := by decide +kernel
theorem d_M_lookAt_74 : decode c_M_lookAt 74 = .ok (.goto 33, 3) := by decide +kernel
theorem d_M_lookAt_77 : decode c_M_lookAt 77 = .ok (.aload_n 0, 1) := by decide +kernel
theorem d_M_lookAt_78 : decode c_M_lookAt 78 = .ok (.dup, 1) := by decide +kernel
theorem d_M_lookAt_79 : decode c_M_lookAt 79 = .ok (.getfield 178, 3) := by decide +kernel
theorem d_M_lookAt_82 : decode c_M_lookAt 82 = .ok (.iconst 1, 1) := by decide +kernel
theorem d_M_lookAt_83 : decode c_M_lookAt 83 = .ok (.iadd, 1) := by decide +kernel
theorem d_M_lookAt_84 : decode c_M_lookAt 84 = .ok (.putfield 178, 3) := by decide +kernel
theorem d_M_lookAt_87 : decode c_M_lookAt 87 = .ok (.aload_n 0, 1) := by decide +kernel
theorem d_M_lookAt_88 : decode c_M_lookAt 88 = .ok (.iload 6, 2) := by decide +kernel
theorem d_M_lookAt_90 : decode c_M_lookAt 90 = .ok (.aload_n 0, 1) := by decide +kernel
theorem d_M_lookAt_91 : decode c_M_lookAt 91 = .ok (.iload_n 1, 1) := by decide +kernel
theorem d_M_lookAt_92 : decode c_M_lookAt 92 = .ok (.iload 6, 2) := by decide +kernel
theorem d_M_lookAt_94 : decode c_M_lookAt 94 = .ok (.iload 6, 2) := by decide +kernel
theorem d_M_lookAt_96 : decode c_M_lookAt 96 = .ok (.iconst 1, 1) := by decide +kernel
theorem d_M_lookAt_97 : decode c_M_lookAt 97 = .ok (.iadd, 1) := by decide +kernel
theorem d_M_lookAt_98 : decode c_M_lookAt 98 = .ok (.iload 5, 2) := by decide +kernel
theorem d_M_lookAt_100 : decode c_M_lookAt 100 = .ok (.invokevirtual 181, 3) := by decide +kernel
theorem d_M_lookAt_103 : decode c_M_lookAt 103 = .ok (.iload_n 2, 1) := by decide +kernel
theorem d_M_lookAt_104 : decode c_M_lookAt 104 = .ok (.invokevirtual 185, 3) := by decide +kernel
theorem d_M_lookAt_107 : decode c_M_lookAt 107 = .ok (.iinc 6 1, 3) := by decide +kernel
theorem d_M_lookAt_110 : decode c_M_lookAt 110 = .ok (.goto (-97), 3) := by decide +kernel
theorem d_M_lookAt_113 : decode c_M_lookAt 113 = .ok (.return_, 1) := by decide +kernel
theorem d_M_mayRead_0 : decode c_M_mayRead 0 = .ok (.aload_n 0, 1) := by decide +kernel
theorem d_M_mayRead_1 : decode c_M_mayRead 1 = .ok (.iload_n 1, 1) := by decide +kernel
theorem d_M_mayRead_2 : decode c_M_mayRead 2 = .ok (.iconst 0, 1) := by decide +kernel
theorem d_M_mayRead_3 : decode c_M_mayRead 3 = .ok (.invokevirtual 149, 3) := by decide +kernel
theorem d_M_mayRead_6 : decode c_M_mayRead 6 = .ok (.istore_n 3, 1) := by decide +kernel
theorem d_M_mayRead_7 : decode c_M_mayRead 7 = .ok (.iconst 0, 1) := by decide +kernel
theorem d_M_mayRead_8 : decode c_M_mayRead 8 = .ok (.istore 4, 2) := by decide +kernel
theorem d_M_mayRead_10 : decode c_M_mayRead 10 = .ok (.iconst 0, 1) := by decide +kernel
theorem d_M_mayRead_11 : decode c_M_mayRead 11 = .ok (.istore 5, 2) := by decide +kernel
theorem d_M_mayRead_13 : decode c_M_mayRead 13 = .ok (.iload_n 2, 1) := by decide +kernel
theorem d_M_mayRead_14 : decode c_M_mayRead 14 = .ok (.istore 6, 2) := by decide +kernel
theorem d_M_mayRead_16 : decode c_M_mayRead 16 = .ok (.iload 6, 2) := by decide +kernel
theorem d_M_mayRead_18 : decode c_M_mayRead 18 = .ok (.ifCond .lt 66, 3) := by decide +kernel
theorem d_M_mayRead_21 : decode c_M_mayRead 21 = .ok (.aload_n 0, 1) := by decide +kernel
theorem d_M_mayRead_22 : decode c_M_mayRead 22 = .ok (.getfield 37, 3) := by decide +kernel
theorem d_M_mayRead_25 : decode c_M_mayRead 25 = .ok (.iload 6, 2) := by decide +kernel
theorem d_M_mayRead_27 : decode c_M_mayRead 27 = .ok (.iaload, 1) := by decide +kernel
theorem d_M_mayRead_28 : decode c_M_mayRead 28 = .ok (.iload_n 3, 1) := by decide +kernel
theorem d_M_mayRead_29 : decode c_M_mayRead 29 = .ok (.iand, 1) := by decide +kernel
theorem d_M_mayRead_30 : decode c_M_mayRead 30 = .ok (.ifCond .eq 5, 3) := by decide +kernel
theorem d_M_mayRead_33 : decode c_M_mayRead 33 = .ok (.iconst 0, 1) := by decide +kernel
theorem d_M_mayRead_34 : decode c_M_mayRead 34 = .ok (.ireturn, 1) := by decide +kernel
theorem d_M_mayRead_35 : decode c_M_mayRead 35 = .ok (.iload 4, 2) := by decide +kernel
theorem d_M_mayRead_37 : decode c_M_mayRead 37 = .ok (.ifCond .ne 35, 3) := by decide +kernel
theorem d_M_mayRead_40 : decode c_M_mayRead 40 = .ok (.aload_n 0, 1) := by decide +kernel
theorem d_M_mayRead_41 : decode c_M_mayRead 41 = .ok (.getfield 34, 3) := by decide +kernel
theorem d_M_mayRead_44 : decode c_M_mayRead 44 = .ok (.iload 6, 2) := by decide +kernel
theorem d_M_mayRead_46 : decode c_M_mayRead 46 = .ok (.iaload, 1) := by decide +kernel
theorem d_M_mayRead_47 : decode c_M_mayRead 47 = .ok (.ifCond .eq 25, 3) := by decide +kernel
theorem d_M_mayRead_50 : decode c_M_mayRead 50 = .ok (.iconst 1, 1) := by decide +kernel
theorem d_M_mayRead_51 : decode c_M_mayRead 51 = .ok (.istore 4, 2) := by decide +kernel
theorem d_M_mayRead_53 : decode c_M_mayRead 53 = .ok (.aload_n 0, 1) := by decide +kernel
theorem d_M_mayRead_54 : decode c_M_mayRead 54 = .ok (.getfield 34, 3) := by decide +kernel
theorem d_M_mayRead_57 : decode c_M_mayRead 57 = .ok (.iload 6, 2) := by decide +kernel
theorem d_M_mayRead_59 : decode c_M_mayRead 59 = .ok (.iaload, 1) := by decide +kernel
theorem d_M_mayRead_60 : decode c_M_mayRead 60 = .ok (.iload_n 3, 1) := by decide +kernel
theorem d_M_mayRead_61 : decode c_M_mayRead 61 = .ok (.iand, 1) := by decide +kernel
theorem d_M_mayRead_62 : decode c_M_mayRead 62 = .ok (.ifCond .eq 7, 3) := by decide +kernel
theorem d_M_mayRead_65 : decode c_M_mayRead 65 = .ok (.iconst 1, 1) := by decide +kernel
theorem d_M_mayRead_66 : decode c_M_mayRead 66 = .ok (.goto 4, 3) := by decide +kernel
theorem d_M_mayRead_69 : decode c_M_mayRead 69 = .ok (.iconst 0, 1) := by decide +kernel
theorem d_M_mayRead_70 : decode c_M_mayRead 70 = .ok (.istore 5, 2) := by decide +kernel
theorem d_M_mayRead_72 : decode c_M_mayRead 72 = .ok (.aload_n 0, 1) := by decide +kernel
theorem d_M_mayRead_73 : decode c_M_mayRead 73 = .ok (.getfield 40, 3) := by decide +kernel
theorem d_M_mayRead_76 : decode c_M_mayRead 76 = .ok (.iload 6, 2) := by decide +kernel
theorem d_M_mayRead_78 : decode c_M_mayRead 78 = .ok (.iaload, 1) := by decide +kernel
theorem d_M_mayRead_79 : decode c_M_mayRead 79 = .ok (.istore 6, 2) := by decide +kernel
theorem d_M_mayRead_81 : decode c_M_mayRead 81 = .ok (.goto (-65), 3) := by decide +kernel
theorem d_M_mayRead_84 : decode c_M_mayRead 84 = .ok (.iload 5, 2) := by decide +kernel
theorem d_M_mayRead_86 : decode c_M_mayRead 86 = .ok (.ireturn, 1) := by decide +kernel
theorem d_M_tokens_0 : decode c_M_tokens 0 = .ok (.iconst 1, 1) := by decide +kernel
theorem d_M_tokens_1 : decode c_M_tokens 1 = .ok (.iload_n 1, 1) := by decide +kernel
theorem d_M_tokens_2 : decode c_M_tokens 2 = .ok (.ishl, 1) := by decide +kernel
theorem d_M_tokens_3 : decode c_M_tokens 3 = .ok (.istore_n 3, 1) := by decide +kernel
theorem d_M_tokens_4 : decode c_M_tokens 4 = .ok (.iconst 0, 1) := by decide +kernel
theorem d_M_tokens_5 : decode c_M_tokens 5 = .ok (.istore 4, 2) := by decide +kernel
theorem d_M_tokens_7 : decode c_M_tokens 7 = .ok (.iload_n 3, 1) := by decide +kernel
theorem d_M_tokens_8 : decode c_M_tokens 8 = .ok (.iload 4, 2) := by decide +kernel
theorem d_M_tokens_10 : decode c_M_tokens 10 = .ok (.if_icmp .eq 60, 3) := by decide +kernel
theorem d_M_tokens_13 : decode c_M_tokens 13 = .ok (.iload_n 3, 1) := by decide +kernel
theorem d_M_tokens_14 : decode c_M_tokens 14 = .ok (.istore 4, 2) := by decide +kernel
theorem d_M_tokens_16 : decode c_M_tokens 16 = .ok (.iconst 0, 1) := by decide +kernel
theorem d_M_tokens_17 : decode c_M_tokens 17 = .ok (.istore 5, 2) := by decide +kernel
theorem d_M_tokens_19 : decode c_M_tokens 19 = .ok (.iload 5, 2) := by decide +kernel
theorem d_M_tokens_21 : decode c_M_tokens 21 = .ok (.bipush 16, 2) := by decide +kernel
theorem d_M_tokens_23 : decode c_M_tokens 23 = .ok (.if_icmp .ge 44, 3) := by decide +kernel
theorem d_M_tokens_26 : decode c_M_tokens 26 = .ok (.iload 4, 2) := by decide +kernel
theorem d_M_tokens_28 : decode c_M_tokens 28 = .ok (.iload 5, 2) := by decide +kernel
theorem d_M_tokens_30 : decode c_M_tokens 30 = .ok (.ishr, 1) := by decide +kernel
theorem d_M_tokens_31 : decode c_M_tokens 31 = .ok (.iconst 1, 1) := by decide +kernel
theorem d_M_tokens_32 : decode c_M_tokens 32 = .ok (.iand, 1) := by decide +kernel
theorem d_M_tokens_33 : decode c_M_tokens 33 = .ok (.iconst 1, 1) := by decide +kernel
theorem d_M_tokens_34 : decode c_M_tokens 34 = .ok (.if_icmp .ne 27, 3) := by decide +kernel
theorem d_M_tokens_37 : decode c_M_tokens 37 = .ok (.iload_n 3, 1) := by decide +kernel
theorem d_M_tokens_38 : decode c_M_tokens 38 = .ok (.iload_n 2, 1) := by decide +kernel
theorem d_M_tokens_39 : decode c_M_tokens 39 = .ok (.ifCond .eq 13, 3) := by decide +kernel
theorem d_M_tokens_42 : decode c_M_tokens 42 = .ok (.aload_n 0, 1) := by decide +kernel
theorem d_M_tokens_43 : decode c_M_tokens 43 = .ok (.getfield 7, 3) := by decide +kernel
theorem d_M_tokens_46 : decode c_M_tokens 46 = .ok (.iload 5, 2) := by decide +kernel
theorem d_M_tokens_48 : decode c_M_tokens 48 = .ok (.iaload, 1) := by decide +kernel
theorem d_M_tokens_49 : decode c_M_tokens 49 = .ok (.goto 10, 3) := by decide +kernel
theorem d_M_tokens_52 : decode c_M_tokens 52 = .ok (.aload_n 0, 1) := by decide +kernel
theorem d_M_tokens_53 : decode c_M_tokens 53 = .ok (.getfield 19, 3) := by decide +kernel
theorem d_M_tokens_56 : decode c_M_tokens 56 = .ok (.iload 5, 2) := by decide +kernel
theorem d_M_tokens_58 : decode c_M_tokens 58 = .ok (.iaload, 1) := by decide +kernel
theorem d_M_tokens_59 : decode c_M_tokens 59 = .ok (.ior, 1) := by decide +kernel
theorem d_M_tokens_60 : decode c_M_tokens 60 = .ok (.istore_n 3, 1) := by decide +kernel
theorem d_M_tokens_61 : decode c_M_tokens 61 = .ok (.iinc 5 1, 3) := by decide +kernel
theorem d_M_tokens_64 : decode c_M_tokens 64 = .ok (.goto (-45), 3) := by decide +kernel
theorem d_M_tokens_67 : decode c_M_tokens 67 = .ok (.goto (-60), 3) := by decide +kernel
theorem d_M_tokens_70 : decode c_M_tokens 70 = .ok (.iload_n 3, 1) := by decide +kernel
theorem d_M_tokens_71 : decode c_M_tokens 71 = .ok (.ireturn, 1) := by decide +kernel
theorem d_M_hit_0 : decode c_M_hit 0 = .ok (.aload_n 0, 1) := by decide +kernel
theorem d_M_hit_1 : decode c_M_hit 1 = .ok (.iload_n 1, 1) := by decide +kernel
theorem d_M_hit_2 : decode c_M_hit 2 = .ok (.iconst 0, 1) := by decide +kernel
theorem d_M_hit_3 : decode c_M_hit 3 = .ok (.aload_n 0, 1) := by decide +kernel
theorem d_M_hit_4 : decode c_M_hit 4 = .ok (.getfield 157, 3) := by decide +kernel
theorem d_M_hit_7 : decode c_M_hit 7 = .ok (.iconst 1, 1) := by decide +kernel
theorem d_M_hit_8 : decode c_M_hit 8 = .ok (.isub, 1) := by decide +kernel
theorem d_M_hit_9 : decode c_M_hit 9 = .ok (.invokestatic 98, 3) := by decide +kernel
theorem d_M_hit_12 : decode c_M_hit 12 = .ok (.ifCond .eq 7, 3) := by decide +kernel
theorem d_M_hit_15 : decode c_M_hit 15 = .ok (.iconst 0, 1) := by decide +kernel
theorem d_M_hit_16 : decode c_M_hit 16 = .ok (.goto 4, 3) := by decide +kernel
theorem d_M_hit_19 : decode c_M_hit 19 = .ok (.iconst 1, 1) := by decide +kernel
theorem d_M_hit_20 : decode c_M_hit 20 = .ok (.putfield 94, 3) := by decide +kernel
theorem d_M_hit_23 : decode c_M_hit 23 = .ok (.aload_n 0, 1) := by decide +kernel
theorem d_M_hit_24 : decode c_M_hit 24 = .ok (.getfield 94, 3) := by decide +kernel
theorem d_M_hit_27 : decode c_M_hit 27 = .ok (.ifCond .le 7, 3) := by decide +kernel
theorem d_M_hit_30 : decode c_M_hit 30 = .ok (.iconst 0, 1) := by decide +kernel
theorem d_M_hit_31 : decode c_M_hit 31 = .ok (.goto 9, 3) := by decide +kernel
theorem d_M_hit_34 : decode c_M_hit 34 = .ok (.aload_n 0, 1) := by decide +kernel
theorem d_M_hit_35 : decode c_M_hit 35 = .ok (.getfield 74, 3) := by decide +kernel
theorem d_M_hit_38 : decode c_M_hit 38 = .ok (.iload_n 1, 1) := by decide +kernel
theorem d_M_hit_39 : decode c_M_hit 39 = .ok (.iaload, 1) := by decide +kernel
theorem d_M_hit_40 : decode c_M_hit 40 = .ok (.ireturn, 1) := by decide +kernel
theorem d_M_score_0 : decode c_M_score 0 = .ok (.aload_n 0, 1) := by decide +kernel
theorem d_M_score_1 : decode c_M_score 1 = .ok (.iload_n 1, 1) := by decide +kernel
theorem d_M_score_2 : decode c_M_score 2 = .ok (.iconst 0, 1) := by decide +kernel
theorem d_M_score_3 : decode c_M_score 3 = .ok (.aload_n 0, 1) := by decide +kernel
theorem d_M_score_4 : decode c_M_score 4 = .ok (.getfield 157, 3) := by decide +kernel
theorem d_M_score_7 : decode c_M_score 7 = .ok (.iconst 1, 1) := by decide +kernel
theorem d_M_score_8 : decode c_M_score 8 = .ok (.isub, 1) := by decide +kernel
theorem d_M_score_9 : decode c_M_score 9 = .ok (.invokestatic 98, 3) := by decide +kernel
theorem d_M_score_12 : decode c_M_score 12 = .ok (.ifCond .eq 7, 3) := by decide +kernel
theorem d_M_score_15 : decode c_M_score 15 = .ok (.iconst 0, 1) := by decide +kernel
theorem d_M_score_16 : decode c_M_score 16 = .ok (.goto 4, 3) := by decide +kernel
theorem d_M_score_19 : decode c_M_score 19 = .ok (.iconst 1, 1) := by decide +kernel
theorem d_M_score_20 : decode c_M_score 20 = .ok (.putfield 94, 3) := by decide +kernel
theorem d_M_score_23 : decode c_M_score 23 = .ok (.aload_n 0, 1) := by decide +kernel
theorem d_M_score_24 : decode c_M_score 24 = .ok (.getfield 94, 3) := by decide +kernel
theorem d_M_score_27 : decode c_M_score 27 = .ok (.ifCond .le 7, 3) := by decide +kernel
theorem d_M_score_30 : decode c_M_score 30 = .ok (.dconst 0, 1) := by decide +kernel
theorem d_M_score_31 : decode c_M_score 31 = .ok (.goto 10, 3) := by decide +kernel
theorem d_M_score_34 : decode c_M_score 34 = .ok (.aload_n 0, 1) := by decide +kernel
theorem d_M_score_35 : decode c_M_score 35 = .ok (.getfield 81, 3) := by decide +kernel
theorem d_M_score_38 : decode c_M_score 38 = .ok (.iload_n 1, 1) := by decide +kernel
theorem d_M_score_39 : decode c_M_score 39 = .ok (.faload, 1) := by decide +kernel
theorem d_M_score_40 : decode c_M_score 40 = .ok (.f2d, 1) := by decide +kernel
theorem d_M_score_41 : decode c_M_score 41 = .ok (.dreturn, 1) := by decide +kernel
