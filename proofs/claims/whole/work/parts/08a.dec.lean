theorem dJr_init_0 : decode cJr_init 0 = .ok (.aload_n 0, 1) := by decide +kernel
theorem dJr_init_1 : decode cJr_init 1 = .ok (.invokespecial 3, 3) := by decide +kernel
theorem dJr_init_4 : decode cJr_init 4 = .ok (.aload_n 0, 1) := by decide +kernel
theorem dJr_init_5 : decode cJr_init 5 = .ok (.bipush 40, 2) := by decide +kernel
theorem dJr_init_7 : decode cJr_init 7 = .ok (.newarray .int, 2) := by decide +kernel
theorem dJr_init_9 : decode cJr_init 9 = .ok (.putfield 9, 3) := by decide +kernel
theorem dJr_init_12 : decode cJr_init 12 = .ok (.aload_n 0, 1) := by decide +kernel
theorem dJr_init_13 : decode cJr_init 13 = .ok (.iconst 0, 1) := by decide +kernel
theorem dJr_init_14 : decode cJr_init 14 = .ok (.putfield 15, 3) := by decide +kernel
theorem dJr_init_17 : decode cJr_init 17 = .ok (.aload_n 0, 1) := by decide +kernel
theorem dJr_init_18 : decode cJr_init 18 = .ok (.iconst 0, 1) := by decide +kernel
theorem dJr_init_19 : decode cJr_init 19 = .ok (.putfield 19, 3) := by decide +kernel
theorem dJr_init_22 : decode cJr_init 22 = .ok (.return_, 1) := by decide +kernel
theorem dJr_note_0 : decode cJr_note 0 = .ok (.aload_n 0, 1) := by decide +kernel
theorem dJr_note_1 : decode cJr_note 1 = .ok (.getfield 9, 3) := by decide +kernel
theorem dJr_note_4 : decode cJr_note 4 = .ok (.aload_n 0, 1) := by decide +kernel
theorem dJr_note_5 : decode cJr_note 5 = .ok (.getfield 15, 3) := by decide +kernel
theorem dJr_note_8 : decode cJr_note 8 = .ok (.iload_n 1, 1) := by decide +kernel
theorem dJr_note_9 : decode cJr_note 9 = .ok (.iastore, 1) := by decide +kernel
theorem dJr_note_10 : decode cJr_note 10 = .ok (.aload_n 0, 1) := by decide +kernel
theorem dJr_note_11 : decode cJr_note 11 = .ok (.aload_n 0, 1) := by decide +kernel
theorem dJr_note_12 : decode cJr_note 12 = .ok (.getfield 15, 3) := by decide +kernel
theorem dJr_note_15 : decode cJr_note 15 = .ok (.iconst 1, 1) := by decide +kernel
theorem dJr_note_16 : decode cJr_note 16 = .ok (.iadd, 1) := by decide +kernel
theorem dJr_note_17 : decode cJr_note 17 = .ok (.bipush 40, 2) := by decide +kernel
theorem dJr_note_19 : decode cJr_note 19 = .ok (.irem, 1) := by decide +kernel
theorem dJr_note_20 : decode cJr_note 20 = .ok (.putfield 15, 3) := by decide +kernel
theorem dJr_note_23 : decode cJr_note 23 = .ok (.aload_n 0, 1) := by decide +kernel
theorem dJr_note_24 : decode cJr_note 24 = .ok (.dup, 1) := by decide +kernel
theorem dJr_note_25 : decode cJr_note 25 = .ok (.getfield 19, 3) := by decide +kernel
theorem dJr_note_28 : decode cJr_note 28 = .ok (.iconst 1, 1) := by decide +kernel
theorem dJr_note_29 : decode cJr_note 29 = .ok (.iadd, 1) := by decide +kernel
theorem dJr_note_30 : decode cJr_note 30 = .ok (.putfield 19, 3) := by decide +kernel
theorem dJr_note_33 : decode cJr_note 33 = .ok (.return_, 1) := by decide +kernel
theorem dJr_latestBut_0 : decode cJr_latestBut 0 = .ok (.aload_n 0, 1) := by decide +kernel
theorem dJr_latestBut_1 : decode cJr_latestBut 1 = .ok (.getfield 9, 3) := by decide +kernel
theorem dJr_latestBut_4 : decode cJr_latestBut 4 = .ok (.aload_n 0, 1) := by decide +kernel
theorem dJr_latestBut_5 : decode cJr_latestBut 5 = .ok (.getfield 15, 3) := by decide +kernel
theorem dJr_latestBut_8 : decode cJr_latestBut 8 = .ok (.bipush 40, 2) := by decide +kernel
theorem dJr_latestBut_10 : decode cJr_latestBut 10 = .ok (.iadd, 1) := by decide +kernel
theorem dJr_latestBut_11 : decode cJr_latestBut 11 = .ok (.iconst 1, 1) := by decide +kernel
theorem dJr_latestBut_12 : decode cJr_latestBut 12 = .ok (.isub, 1) := by decide +kernel
theorem dJr_latestBut_13 : decode cJr_latestBut 13 = .ok (.iload_n 1, 1) := by decide +kernel
theorem dJr_latestBut_14 : decode cJr_latestBut 14 = .ok (.isub, 1) := by decide +kernel
theorem dJr_latestBut_15 : decode cJr_latestBut 15 = .ok (.bipush 40, 2) := by decide +kernel
theorem dJr_latestBut_17 : decode cJr_latestBut 17 = .ok (.irem, 1) := by decide +kernel
theorem dJr_latestBut_18 : decode cJr_latestBut 18 = .ok (.iaload, 1) := by decide +kernel
theorem dJr_latestBut_19 : decode cJr_latestBut 19 = .ok (.ireturn, 1) := by decide +kernel
theorem dLk_init_0 : decode cLk_init 0 = .ok (.aload_n 0, 1) := by decide +kernel
theorem dLk_init_1 : decode cLk_init 1 = .ok (.invokespecial 3, 3) := by decide +kernel
theorem dLk_init_4 : decode cLk_init 4 = .ok (.aload_n 0, 1) := by decide +kernel
theorem dLk_init_5 : decode cLk_init 5 = .ok (.new 9, 3) := by decide +kernel
theorem dLk_init_8 : decode cLk_init 8 = .ok (.dup, 1) := by decide +kernel
theorem dLk_init_9 : decode cLk_init 9 = .ok (.invokespecial 11, 3) := by decide +kernel
theorem dLk_init_12 : decode cLk_init 12 = .ok (.putfield 12, 3) := by decide +kernel
theorem dLk_init_15 : decode cLk_init 15 = .ok (.aload_n 0, 1) := by decide +kernel
theorem dLk_init_16 : decode cLk_init 16 = .ok (.new 18, 3) := by decide +kernel
theorem dLk_init_19 : decode cLk_init 19 = .ok (.dup, 1) := by decide +kernel
theorem dLk_init_20 : decode cLk_init 20 = .ok (.invokespecial 20, 3) := by decide +kernel
theorem dLk_init_23 : decode cLk_init 23 = .ok (.putfield 21, 3) := by decide +kernel
theorem dLk_init_26 : decode cLk_init 26 = .ok (.aload_n 0, 1) := by decide +kernel
theorem dLk_init_27 : decode cLk_init 27 = .ok (.new 25, 3) := by decide +kernel
theorem dLk_init_30 : decode cLk_init 30 = .ok (.dup, 1) := by decide +kernel
theorem dLk_init_31 : decode cLk_init 31 = .ok (.invokespecial 27, 3) := by decide +kernel
theorem dLk_init_34 : decode cLk_init 34 = .ok (.putfield 28, 3) := by decide +kernel
theorem dLk_init_37 : decode cLk_init 37 = .ok (.aload_n 0, 1) := by decide +kernel
theorem dLk_init_38 : decode cLk_init 38 = .ok (.new 9, 3) := by decide +kernel
theorem dLk_init_41 : decode cLk_init 41 = .ok (.dup, 1) := by decide +kernel
theorem dLk_init_42 : decode cLk_init 42 = .ok (.invokespecial 11, 3) := by decide +kernel
theorem dLk_init_45 : decode cLk_init 45 = .ok (.putfield 32, 3) := by decide +kernel
theorem dLk_init_48 : decode cLk_init 48 = .ok (.aload_n 0, 1) := by decide +kernel
theorem dLk_init_49 : decode cLk_init 49 = .ok (.iconst 0, 1) := by decide +kernel
theorem dLk_init_50 : decode cLk_init 50 = .ok (.putfield 35, 3) := by decide +kernel
theorem dLk_init_53 : decode cLk_init 53 = .ok (.aload_n 0, 1) := by decide +kernel
theorem dLk_init_54 : decode cLk_init 54 = .ok (.iconst (-1), 1) := by decide +kernel
theorem dLk_init_55 : decode cLk_init 55 = .ok (.putfield 39, 3) := by decide +kernel
theorem dLk_init_58 : decode cLk_init 58 = .ok (.aload_n 0, 1) := by decide +kernel
theorem dLk_init_59 : decode cLk_init 59 = .ok (.iconst 0, 1) := by decide +kernel
theorem dLk_init_60 : decode cLk_init 60 = .ok (.putfield 42, 3) := by decide +kernel
theorem dLk_init_63 : decode cLk_init 63 = .ok (.aload_n 0, 1) := by decide +kernel
theorem dLk_init_64 : decode cLk_init 64 = .ok (.iconst 0, 1) := by decide +kernel
theorem dLk_init_65 : decode cLk_init 65 = .ok (.putfield 45, 3) := by decide +kernel
theorem dLk_init_68 : decode cLk_init 68 = .ok (.return_, 1) := by decide +kernel
theorem dLk_isLoaded_0 : decode cLk_isLoaded 0 = .ok (.aload_n 0, 1) := by decide +kernel
theorem dLk_isLoaded_1 : decode cLk_isLoaded 1 = .ok (.getfield 39, 3) := by decide +kernel
theorem dLk_isLoaded_4 : decode cLk_isLoaded 4 = .ok (.iconst (-1), 1) := by decide +kernel
theorem dLk_isLoaded_5 : decode cLk_isLoaded 5 = .ok (.if_icmp .eq 7, 3) := by decide +kernel
theorem dLk_isLoaded_8 : decode cLk_isLoaded 8 = .ok (.iconst 1, 1) := by decide +kernel
theorem dLk_isLoaded_9 : decode cLk_isLoaded 9 = .ok (.goto 4, 3) := by decide +kernel
theorem dLk_isLoaded_12 : decode cLk_isLoaded 12 = .ok (.iconst 0, 1) := by decide +kernel
theorem dLk_isLoaded_13 : decode cLk_isLoaded 13 = .ok (.ireturn, 1) := by decide +kernel
theorem dLk_hasWord_0 : decode cLk_hasWord 0 = .ok (.iload_n 1, 1) := by decide +kernel
theorem dLk_hasWord_1 : decode cLk_hasWord 1 = .ok (.ifCond .lt 15, 3) := by decide +kernel
theorem dLk_hasWord_4 : decode cLk_hasWord 4 = .ok (.iload_n 1, 1) := by decide +kernel
theorem dLk_hasWord_5 : decode cLk_hasWord 5 = .ok (.aload_n 0, 1) := by decide +kernel
theorem dLk_hasWord_6 : decode cLk_hasWord 6 = .ok (.getfield 35, 3) := by decide +kernel
theorem dLk_hasWord_9 : decode cLk_hasWord 9 = .ok (.if_icmp .ge 7, 3) := by decide +kernel
theorem dLk_hasWord_12 : decode cLk_hasWord 12 = .ok (.iconst 1, 1) := by decide +kernel
theorem dLk_hasWord_13 : decode cLk_hasWord 13 = .ok (.goto 4, 3) := by decide +kernel
theorem dLk_hasWord_16 : decode cLk_hasWord 16 = .ok (.iconst 0, 1) := by decide +kernel
theorem dLk_hasWord_17 : decode cLk_hasWord 17 = .ok (.ireturn, 1) := by decide +kernel
theorem dLk_startAnew_0 : decode cLk_startAnew 0 = .ok (.aload_n 0, 1) := by decide +kernel
theorem dLk_startAnew_1 : decode cLk_startAnew 1 = .ok (.iload_n 1, 1) := by decide +kernel
theorem dLk_startAnew_2 : decode cLk_startAnew 2 = .ok (.putfield 35, 3) := by decide +kernel
theorem dLk_startAnew_5 : decode cLk_startAnew 5 = .ok (.aload_n 0, 1) := by decide +kernel
theorem dLk_startAnew_6 : decode cLk_startAnew 6 = .ok (.getfield 12, 3) := by decide +kernel
theorem dLk_startAnew_9 : decode cLk_startAnew 9 = .ok (.iconst 0, 1) := by decide +kernel
theorem dLk_startAnew_10 : decode cLk_startAnew 10 = .ok (.invokevirtual 48, 3) := by decide +kernel
theorem dLk_startAnew_13 : decode cLk_startAnew 13 = .ok (.aload_n 0, 1) := by decide +kernel
theorem dLk_startAnew_14 : decode cLk_startAnew 14 = .ok (.getfield 21, 3) := by decide +kernel
theorem dLk_startAnew_17 : decode cLk_startAnew 17 = .ok (.iconst 0, 1) := by decide +kernel
theorem dLk_startAnew_18 : decode cLk_startAnew 18 = .ok (.putfield 52, 3) := by decide +kernel
theorem dLk_startAnew_21 : decode cLk_startAnew 21 = .ok (.aload_n 0, 1) := by decide +kernel
theorem dLk_startAnew_22 : decode cLk_startAnew 22 = .ok (.getfield 28, 3) := by decide +kernel
theorem dLk_startAnew_25 : decode cLk_startAnew 25 = .ok (.iconst 0, 1) := by decide +kernel
theorem dLk_startAnew_26 : decode cLk_startAnew 26 = .ok (.putfield 55, 3) := by decide +kernel
theorem dLk_startAnew_29 : decode cLk_startAnew 29 = .ok (.return_, 1) := by decide +kernel
theorem dRl_init_0 : decode cRl_init 0 = .ok (.aload_n 0, 1) := by decide +kernel
theorem dRl_init_1 : decode cRl_init 1 = .ok (.invokespecial 3, 3) := by decide +kernel
theorem dRl_init_4 : decode cRl_init 4 = .ok (.aload_n 0, 1) := by decide +kernel
theorem dRl_init_5 : decode cRl_init 5 = .ok (.bipush 6, 2) := by decide +kernel
theorem dRl_init_7 : decode cRl_init 7 = .ok (.newarray .int, 2) := by decide +kernel
theorem dRl_init_9 : decode cRl_init 9 = .ok (.putfield 9, 3) := by decide +kernel
theorem dRl_init_12 : decode cRl_init 12 = .ok (.aload_n 0, 1) := by decide +kernel
theorem dRl_init_13 : decode cRl_init 13 = .ok (.bipush 6, 2) := by decide +kernel
theorem dRl_init_15 : decode cRl_init 15 = .ok (.newarray .int, 2) := by decide +kernel
theorem dRl_init_17 : decode cRl_init 17 = .ok (.putfield 15, 3) := by decide +kernel
theorem dRl_init_20 : decode cRl_init 20 = .ok (.aload_n 0, 1) := by decide +kernel
theorem dRl_init_21 : decode cRl_init 21 = .ok (.bipush 6, 2) := by decide +kernel
theorem dRl_init_23 : decode cRl_init 23 = .ok (.newarray .int, 2) := by decide +kernel
theorem dRl_init_25 : decode cRl_init 25 = .ok (.putfield 18, 3) := by decide +kernel
theorem dRl_init_28 : decode cRl_init 28 = .ok (.aload_n 0, 1) := by decide +kernel
theorem dRl_init_29 : decode cRl_init 29 = .ok (.bipush 6, 2) := by decide +kernel
theorem dRl_init_31 : decode cRl_init 31 = .ok (.newarray .int, 2) := by decide +kernel
theorem dRl_init_33 : decode cRl_init 33 = .ok (.putfield 21, 3) := by decide +kernel
theorem dRl_init_36 : decode cRl_init 36 = .ok (.aload_n 0, 1) := by decide +kernel
theorem dRl_init_37 : decode cRl_init 37 = .ok (.iconst 0, 1) := by decide +kernel
theorem dRl_init_38 : decode cRl_init 38 = .ok (.putfield 24, 3) := by decide +kernel
theorem dRl_init_41 : decode cRl_init 41 = .ok (.return_, 1) := by decide +kernel
theorem dRl_add_0 : decode cRl_add 0 = .ok (.aload_n 0, 1) := by decide +kernel
theorem dRl_add_1 : decode cRl_add 1 = .ok (.getfield 9, 3) := by decide +kernel
theorem dRl_add_4 : decode cRl_add 4 = .ok (.aload_n 0, 1) := by decide +kernel
theorem dRl_add_5 : decode cRl_add 5 = .ok (.getfield 24, 3) := by decide +kernel
theorem dRl_add_8 : decode cRl_add 8 = .ok (.iload_n 1, 1) := by decide +kernel
theorem dRl_add_9 : decode cRl_add 9 = .ok (.iastore, 1) := by decide +kernel
theorem dRl_add_10 : decode cRl_add 10 = .ok (.aload_n 0, 1) := by decide +kernel
theorem dRl_add_11 : decode cRl_add 11 = .ok (.getfield 15, 3) := by decide +kernel
theorem dRl_add_14 : decode cRl_add 14 = .ok (.aload_n 0, 1) := by decide +kernel
theorem dRl_add_15 : decode cRl_add 15 = .ok (.getfield 24, 3) := by decide +kernel
theorem dRl_add_18 : decode cRl_add 18 = .ok (.iload_n 2, 1) := by decide +kernel
theorem dRl_add_19 : decode cRl_add 19 = .ok (.iastore, 1) := by decide +kernel
theorem dRl_add_20 : decode cRl_add 20 = .ok (.aload_n 0, 1) := by decide +kernel
theorem dRl_add_21 : decode cRl_add 21 = .ok (.getfield 18, 3) := by decide +kernel
theorem dRl_add_24 : decode cRl_add 24 = .ok (.aload_n 0, 1) := by decide +kernel
theorem dRl_add_25 : decode cRl_add 25 = .ok (.getfield 24, 3) := by decide +kernel
theorem dRl_add_28 : decode cRl_add 28 = .ok (.iload_n 3, 1) := by decide +kernel
theorem dRl_add_29 : decode cRl_add 29 = .ok (.iastore, 1) := by decide +kernel
theorem dRl_add_30 : decode cRl_add 30 = .ok (.aload_n 0, 1) := by decide +kernel
theorem dRl_add_31 : decode cRl_add 31 = .ok (.getfield 21, 3) := by decide +kernel
theorem dRl_add_34 : decode cRl_add 34 = .ok (.aload_n 0, 1) := by decide +kernel
theorem dRl_add_35 : decode cRl_add 35 = .ok (.getfield 24, 3) := by decide +kernel
theorem dRl_add_38 : decode cRl_add 38 = .ok (.iload 4, 2) := by decide +kernel
theorem dRl_add_40 : decode cRl_add 40 = .ok (.iastore, 1) := by decide +kernel
theorem dRl_add_41 : decode cRl_add 41 = .ok (.aload_n 0, 1) := by decide +kernel
theorem dRl_add_42 : decode cRl_add 42 = .ok (.dup, 1) := by decide +kernel
theorem dRl_add_43 : decode cRl_add 43 = .ok (.getfield 24, 3) := by decide +kernel
theorem dRl_add_46 : decode cRl_add 46 = .ok (.iconst 1, 1) := by decide +kernel
theorem dRl_add_47 : decode cRl_add 47 = .ok (.iadd, 1) := by decide +kernel
theorem dRl_add_48 : decode cRl_add 48 = .ok (.putfield 24, 3) := by decide +kernel
theorem dRl_add_51 : decode cRl_add 51 = .ok (.aload_n 0, 1) := by decide +kernel
theorem dRl_add_52 : decode cRl_add 52 = .ok (.getfield 24, 3) := by decide +kernel
theorem dRl_add_55 : decode cRl_add 55 = .ok (.iconst 1, 1) := by decide +kernel
theorem dRl_add_56 : decode cRl_add 56 = .ok (.isub, 1) := by decide +kernel
theorem dRl_add_57 : decode cRl_add 57 = .ok (.ireturn, 1) := by decide +kernel
theorem dRw_init_0 : decode cRw_init 0 = .ok (.aload_n 0, 1) := by decide +kernel
theorem dRw_init_1 : decode cRw_init 1 = .ok (.invokespecial 3, 3) := by decide +kernel
theorem dRw_init_4 : decode cRw_init 4 = .ok (.aload_n 0, 1) := by decide +kernel
theorem dRw_init_5 : decode cRw_init 5 = .ok (.bipush 6, 2) := by decide +kernel
theorem dRw_init_7 : decode cRw_init 7 = .ok (.newarray .int, 2) := by decide +kernel
theorem dRw_init_9 : decode cRw_init 9 = .ok (.putfield 9, 3) := by decide +kernel
theorem dRw_init_12 : decode cRw_init 12 = .ok (.aload_n 0, 1) := by decide +kernel
theorem dRw_init_13 : decode cRw_init 13 = .ok (.iconst 0, 1) := by decide +kernel
theorem dRw_init_14 : decode cRw_init 14 = .ok (.putfield 15, 3) := by decide +kernel
theorem dRw_init_17 : decode cRw_init 17 = .ok (.return_, 1) := by decide +kernel
theorem dRw_has_0 : decode cRw_has 0 = .ok (.iconst 0, 1) := by decide +kernel
theorem dRw_has_1 : decode cRw_has 1 = .ok (.istore_n 2, 1) := by decide +kernel
theorem dRw_has_2 : decode cRw_has 2 = .ok (.iload_n 2, 1) := by decide +kernel
theorem dRw_has_3 : decode cRw_has 3 = .ok (.aload_n 0, 1) := by decide +kernel
theorem dRw_has_4 : decode cRw_has 4 = .ok (.getfield 15, 3) := by decide +kernel
theorem dRw_has_7 : decode cRw_has 7 = .ok (.if_icmp .ge 21, 3) := by decide +kernel
theorem dRw_has_10 : decode cRw_has 10 = .ok (.aload_n 0, 1) := by decide +kernel
theorem dRw_has_11 : decode cRw_has 11 = .ok (.getfield 9, 3) := by decide +kernel
theorem dRw_has_14 : decode cRw_has 14 = .ok (.iload_n 2, 1) := by decide +kernel
theorem dRw_has_15 : decode cRw_has 15 = .ok (.iaload, 1) := by decide +kernel
theorem dRw_has_16 : decode cRw_has 16 = .ok (.iload_n 1, 1) := by decide +kernel
theorem dRw_has_17 : decode cRw_has 17 = .ok (.if_icmp .ne 5, 3) := by decide +kernel
theorem dRw_has_20 : decode cRw_has 20 = .ok (.iconst 1, 1) := by decide +kernel
theorem dRw_has_21 : decode cRw_has 21 = .ok (.ireturn, 1) := by decide +kernel
theorem dRw_has_22 : decode cRw_has 22 = .ok (.iinc 2 1, 3) := by decide +kernel
theorem dRw_has_25 : decode cRw_has 25 = .ok (.goto (-23), 3) := by decide +kernel
theorem dRw_has_28 : decode cRw_has 28 = .ok (.iconst 0, 1) := by decide +kernel
theorem dRw_has_29 : decode cRw_has 29 = .ok (.ireturn, 1) := by decide +kernel
theorem dRw_put_0 : decode cRw_put 0 = .ok (.aload_n 0, 1) := by decide +kernel
theorem dRw_put_1 : decode cRw_put 1 = .ok (.getfield 15, 3) := by decide +kernel
theorem dRw_put_4 : decode cRw_put 4 = .ok (.bipush 6, 2) := by decide +kernel
theorem dRw_put_6 : decode cRw_put 6 = .ok (.if_icmp .ge 31, 3) := by decide +kernel
theorem dRw_put_9 : decode cRw_put 9 = .ok (.aload_n 0, 1) := by decide +kernel
theorem dRw_put_10 : decode cRw_put 10 = .ok (.iload_n 1, 1) := by decide +kernel
theorem dRw_put_11 : decode cRw_put 11 = .ok (.invokevirtual 19, 3) := by decide +kernel
theorem dRw_put_14 : decode cRw_put 14 = .ok (.ifCond .ne 23, 3) := by decide +kernel
theorem dRw_put_17 : decode cRw_put 17 = .ok (.aload_n 0, 1) := by decide +kernel
theorem dRw_put_18 : decode cRw_put 18 = .ok (.getfield 9, 3) := by decide +kernel
theorem dRw_put_21 : decode cRw_put 21 = .ok (.aload_n 0, 1) := by decide +kernel
theorem dRw_put_22 : decode cRw_put 22 = .ok (.getfield 15, 3) := by decide +kernel
theorem dRw_put_25 : decode cRw_put 25 = .ok (.iload_n 1, 1) := by decide +kernel
theorem dRw_put_26 : decode cRw_put 26 = .ok (.iastore, 1) := by decide +kernel
theorem dRw_put_27 : decode cRw_put 27 = .ok (.aload_n 0, 1) := by decide +kernel
theorem dRw_put_28 : decode cRw_put 28 = .ok (.dup, 1) := by decide +kernel
theorem dRw_put_29 : decode cRw_put 29 = .ok (.getfield 15, 3) := by decide +kernel
theorem dRw_put_32 : decode cRw_put 32 = .ok (.iconst 1, 1) := by decide +kernel
theorem dRw_put_33 : decode cRw_put 33 = .ok (.iadd, 1) := by decide +kernel
theorem dRw_put_34 : decode cRw_put 34 = .ok (.putfield 15, 3) := by decide +kernel
theorem dRw_put_37 : decode cRw_put 37 = .ok (.return_, 1) := by decide +kernel
theorem dRw_putAll_0 : decode cRw_putAll 0 = .ok (.iconst 0, 1) := by decide +kernel
theorem dRw_putAll_1 : decode cRw_putAll 1 = .ok (.istore_n 2, 1) := by decide +kernel
theorem dRw_putAll_2 : decode cRw_putAll 2 = .ok (.iload_n 2, 1) := by decide +kernel
theorem dRw_putAll_3 : decode cRw_putAll 3 = .ok (.aload_n 1, 1) := by decide +kernel
theorem dRw_putAll_4 : decode cRw_putAll 4 = .ok (.getfield 15, 3) := by decide +kernel
theorem dRw_putAll_7 : decode cRw_putAll 7 = .ok (.if_icmp .ge 19, 3) := by decide +kernel
theorem dRw_putAll_10 : decode cRw_putAll 10 = .ok (.aload_n 0, 1) := by decide +kernel
theorem dRw_putAll_11 : decode cRw_putAll 11 = .ok (.aload_n 1, 1) := by decide +kernel
theorem dRw_putAll_12 : decode cRw_putAll 12 = .ok (.getfield 9, 3) := by decide +kernel
theorem dRw_putAll_15 : decode cRw_putAll 15 = .ok (.iload_n 2, 1) := by decide +kernel
theorem dRw_putAll_16 : decode cRw_putAll 16 = .ok (.iaload, 1) := by decide +kernel
theorem dRw_putAll_17 : decode cRw_putAll 17 = .ok (.invokevirtual 23, 3) := by decide +kernel
theorem dRw_putAll_20 : decode cRw_putAll 20 = .ok (.iinc 2 1, 3) := by decide +kernel
theorem dRw_putAll_23 : decode cRw_putAll 23 = .ok (.goto (-21), 3) := by decide +kernel
theorem dRw_putAll_26 : decode cRw_putAll 26 = .ok (.return_, 1) := by decide +kernel
theorem dRw_remove_0 : decode cRw_remove 0 = .ok (.iconst 0, 1) := by decide +kernel
theorem dRw_remove_1 : decode cRw_remove 1 = .ok (.istore_n 2, 1) := by decide +kernel
theorem dRw_remove_2 : decode cRw_remove 2 = .ok (.iconst 0, 1) := by decide +kernel
theorem dRw_remove_3 : decode cRw_remove 3 = .ok (.istore_n 3, 1) := by decide +kernel
theorem dRw_remove_4 : decode cRw_remove 4 = .ok (.iload_n 3, 1) := by decide +kernel
theorem dRw_remove_5 : decode cRw_remove 5 = .ok (.aload_n 0, 1) := by decide +kernel
theorem dRw_remove_6 : decode cRw_remove 6 = .ok (.getfield 15, 3) := by decide +kernel
theorem dRw_remove_9 : decode cRw_remove 9 = .ok (.if_icmp .ge 34, 3) := by decide +kernel
theorem dRw_remove_12 : decode cRw_remove 12 = .ok (.aload_n 0, 1) := by decide +kernel
theorem dRw_remove_13 : decode cRw_remove 13 = .ok (.getfield 9, 3) := by decide +kernel
theorem dRw_remove_16 : decode cRw_remove 16 = .ok (.iload_n 3, 1) := by decide +kernel
theorem dRw_remove_17 : decode cRw_remove 17 = .ok (.iaload, 1) := by decide +kernel
theorem dRw_remove_18 : decode cRw_remove 18 = .ok (.iload_n 1, 1) := by decide +kernel
theorem dRw_remove_19 : decode cRw_remove 19 = .ok (.if_icmp .eq 18, 3) := by decide +kernel
theorem dRw_remove_22 : decode cRw_remove 22 = .ok (.aload_n 0, 1) := by decide +kernel
theorem dRw_remove_23 : decode cRw_remove 23 = .ok (.getfield 9, 3) := by decide +kernel
theorem dRw_remove_26 : decode cRw_remove 26 = .ok (.iload_n 2, 1) := by decide +kernel
theorem dRw_remove_27 : decode cRw_remove 27 = .ok (.aload_n 0, 1) := by decide +kernel
theorem dRw_remove_28 : decode cRw_remove 28 = .ok (.getfield 9, 3) := by decide +kernel
theorem dRw_remove_31 : decode cRw_remove 31 = .ok (.iload_n 3, 1) := by decide +kernel
theorem dRw_remove_32 : decode cRw_remove 32 = .ok (.iaload, 1) := by decide +kernel
theorem dRw_remove_33 : decode cRw_remove 33 = .ok (.iastore, 1) := by decide +kernel
theorem dRw_remove_34 : decode cRw_remove 34 = .ok (.iinc 2 1, 3) := by decide +kernel
theorem dRw_remove_37 : decode cRw_remove 37 = .ok (.iinc 3 1, 3) := by decide +kernel
theorem dRw_remove_40 : decode cRw_remove 40 = .ok (.goto (-36), 3) := by decide +kernel
theorem dRw_remove_43 : decode cRw_remove 43 = .ok (.aload_n 0, 1) := by decide +kernel
theorem dRw_remove_44 : decode cRw_remove 44 = .ok (.iload_n 2, 1) := by decide +kernel
theorem dRw_remove_45 : decode cRw_remove 45 = .ok (.putfield 15, 3) := by decide +kernel
theorem dRw_remove_48 : decode cRw_remove 48 = .ok (.return_, 1) := by decide +kernel
theorem dRw_cutTo_0 : decode cRw_cutTo 0 = .ok (.aload_n 0, 1) := by decide +kernel
theorem dRw_cutTo_1 : decode cRw_cutTo 1 = .ok (.aload_n 0, 1) := by decide +kernel
theorem dRw_cutTo_2 : decode cRw_cutTo 2 = .ok (.getfield 15, 3) := by decide +kernel
theorem dRw_cutTo_5 : decode cRw_cutTo 5 = .ok (.iload_n 1, 1) := by decide +kernel
theorem dRw_cutTo_6 : decode cRw_cutTo 6 = .ok (.invokestatic 27, 3) := by decide +kernel
theorem dRw_cutTo_9 : decode cRw_cutTo 9 = .ok (.putfield 15, 3) := by decide +kernel
theorem dRw_cutTo_12 : decode cRw_cutTo 12 = .ok (.return_, 1) := by decide +kernel
theorem dRw_asSet_0 : decode cRw_asSet 0 = .ok (.iconst 0, 1) := by decide +kernel
theorem dRw_asSet_1 : decode cRw_asSet 1 = .ok (.istore_n 1, 1) := by decide +kernel
theorem dRw_asSet_2 : decode cRw_asSet 2 = .ok (.iconst 0, 1) := by decide +kernel
theorem dRw_asSet_3 : decode cRw_asSet 3 = .ok (.istore_n 2, 1) := by decide +kernel
theorem dRw_asSet_4 : decode cRw_asSet 4 = .ok (.iload_n 2, 1) := by decide +kernel
theorem dRw_asSet_5 : decode cRw_asSet 5 = .ok (.aload_n 0, 1) := by decide +kernel
theorem dRw_asSet_6 : decode cRw_asSet 6 = .ok (.getfield 15, 3) := by decide +kernel
theorem dRw_asSet_9 : decode cRw_asSet 9 = .ok (.if_icmp .ge 20, 3) := by decide +kernel
theorem dRw_asSet_12 : decode cRw_asSet 12 = .ok (.iload_n 1, 1) := by decide +kernel
theorem dRw_asSet_13 : decode cRw_asSet 13 = .ok (.iconst 1, 1) := by decide +kernel
theorem dRw_asSet_14 : decode cRw_asSet 14 = .ok (.aload_n 0, 1) := by decide +kernel
theorem dRw_asSet_15 : decode cRw_asSet 15 = .ok (.getfield 9, 3) := by decide +kernel
theorem dRw_asSet_18 : decode cRw_asSet 18 = .ok (.iload_n 2, 1) := by decide +kernel
theorem dRw_asSet_19 : decode cRw_asSet 19 = .ok (.iaload, 1) := by decide +kernel
theorem dRw_asSet_20 : decode cRw_asSet 20 = .ok (.ishl, 1) := by decide +kernel
theorem dRw_asSet_21 : decode cRw_asSet 21 = .ok (.ior, 1) := by decide +kernel
theorem dRw_asSet_22 : decode cRw_asSet 22 = .ok (.istore_n 1, 1) := by decide +kernel
theorem dRw_asSet_23 : decode cRw_asSet 23 = .ok (.iinc 2 1, 3) := by decide +kernel
theorem dRw_asSet_26 : decode cRw_asSet 26 = .ok (.goto (-22), 3) := by decide +kernel
theorem dRw_asSet_29 : decode cRw_asSet 29 = .ok (.iload_n 1, 1) := by decide +kernel
theorem dRw_asSet_30 : decode cRw_asSet 30 = .ok (.ireturn, 1) := by decide +kernel
theorem dSp_init_0 : decode cSp_init 0 = .ok (.aload_n 0, 1) := by decide +kernel
theorem dSp_init_1 : decode cSp_init 1 = .ok (.invokespecial 3, 3) := by decide +kernel
theorem dSp_init_4 : decode cSp_init 4 = .ok (.aload_n 0, 1) := by decide +kernel
theorem dSp_init_5 : decode cSp_init 5 = .ok (.bipush 32, 2) := by decide +kernel
theorem dSp_init_7 : decode cSp_init 7 = .ok (.newarray .int, 2) := by decide +kernel
theorem dSp_init_9 : decode cSp_init 9 = .ok (.putfield 9, 3) := by decide +kernel
theorem dSp_init_12 : decode cSp_init 12 = .ok (.aload_n 0, 1) := by decide +kernel
theorem dSp_init_13 : decode cSp_init 13 = .ok (.bipush 32, 2) := by decide +kernel
theorem dSp_init_15 : decode cSp_init 15 = .ok (.newarray .boolean, 2) := by decide +kernel
theorem dSp_init_17 : decode cSp_init 17 = .ok (.putfield 15, 3) := by decide +kernel
theorem dSp_init_20 : decode cSp_init 20 = .ok (.return_, 1) := by decide +kernel
theorem dSp_hasImageAt_0 : decode cSp_hasImageAt 0 = .ok (.iload_n 1, 1) := by decide +kernel
theorem dSp_hasImageAt_1 : decode cSp_hasImageAt 1 = .ok (.ifCond .lt 22, 3) := by decide +kernel
theorem dSp_hasImageAt_4 : decode cSp_hasImageAt 4 = .ok (.iload_n 1, 1) := by decide +kernel
theorem dSp_hasImageAt_5 : decode cSp_hasImageAt 5 = .ok (.bipush 32, 2) := by decide +kernel
theorem dSp_hasImageAt_7 : decode cSp_hasImageAt 7 = .ok (.if_icmp .ge 16, 3) := by decide +kernel
theorem dSp_hasImageAt_10 : decode cSp_hasImageAt 10 = .ok (.aload_n 0, 1) := by decide +kernel
theorem dSp_hasImageAt_11 : decode cSp_hasImageAt 11 = .ok (.getfield 15, 3) := by decide +kernel
theorem dSp_hasImageAt_14 : decode cSp_hasImageAt 14 = .ok (.iload_n 1, 1) := by decide +kernel
theorem dSp_hasImageAt_15 : decode cSp_hasImageAt 15 = .ok (.baload, 1) := by decide +kernel
theorem dSp_hasImageAt_16 : decode cSp_hasImageAt 16 = .ok (.ifCond .eq 7, 3) := by decide +kernel
theorem dSp_hasImageAt_19 : decode cSp_hasImageAt 19 = .ok (.iconst 1, 1) := by decide +kernel
theorem dSp_hasImageAt_20 : decode cSp_hasImageAt 20 = .ok (.goto 4, 3) := by decide +kernel
theorem dSp_hasImageAt_23 : decode cSp_hasImageAt 23 = .ok (.iconst 0, 1) := by decide +kernel
theorem dSp_hasImageAt_24 : decode cSp_hasImageAt 24 = .ok (.ireturn, 1) := by decide +kernel
theorem dSp_leastBaseFor_0 : decode cSp_leastBaseFor 0 = .ok (.iconst 0, 1) := by decide +kernel
theorem dSp_leastBaseFor_1 : decode cSp_leastBaseFor 1 = .ok (.istore_n 2, 1) := by decide +kernel
theorem dSp_leastBaseFor_2 : decode cSp_leastBaseFor 2 = .ok (.iconst 0, 1) := by decide +kernel
theorem dSp_leastBaseFor_3 : decode cSp_leastBaseFor 3 = .ok (.istore_n 3, 1) := by decide +kernel
theorem dSp_leastBaseFor_4 : decode cSp_leastBaseFor 4 = .ok (.iload_n 3, 1) := by decide +kernel
theorem dSp_leastBaseFor_5 : decode cSp_leastBaseFor 5 = .ok (.bipush 32, 2) := by decide +kernel
theorem dSp_leastBaseFor_7 : decode cSp_leastBaseFor 7 = .ok (.if_icmp .ge 37, 3) := by decide +kernel
theorem dSp_leastBaseFor_10 : decode cSp_leastBaseFor 10 = .ok (.aload_n 0, 1) := by decide +kernel
theorem dSp_leastBaseFor_11 : decode cSp_leastBaseFor 11 = .ok (.getfield 15, 3) := by decide +kernel
theorem dSp_leastBaseFor_14 : decode cSp_leastBaseFor 14 = .ok (.iload_n 3, 1) := by decide +kernel
theorem dSp_leastBaseFor_15 : decode cSp_leastBaseFor 15 = .ok (.baload, 1) := by decide +kernel
theorem dSp_leastBaseFor_16 : decode cSp_leastBaseFor 16 = .ok (.ifCond .eq 7, 3) := by decide +kernel
theorem dSp_leastBaseFor_19 : decode cSp_leastBaseFor 19 = .ok (.iconst 0, 1) := by decide +kernel
theorem dSp_leastBaseFor_20 : decode cSp_leastBaseFor 20 = .ok (.goto 6, 3) := by decide +kernel
theorem dSp_leastBaseFor_23 : decode cSp_leastBaseFor 23 = .ok (.iload_n 2, 1) := by decide +kernel
theorem dSp_leastBaseFor_24 : decode cSp_leastBaseFor 24 = .ok (.iconst 1, 1) := by decide +kernel
theorem dSp_leastBaseFor_25 : decode cSp_leastBaseFor 25 = .ok (.iadd, 1) := by decide +kernel
theorem dSp_leastBaseFor_26 : decode cSp_leastBaseFor 26 = .ok (.istore_n 2, 1) := by decide +kernel
theorem dSp_leastBaseFor_27 : decode cSp_leastBaseFor 27 = .ok (.iload_n 2, 1) := by decide +kernel
theorem dSp_leastBaseFor_28 : decode cSp_leastBaseFor 28 = .ok (.iload_n 1, 1) := by decide +kernel
theorem dSp_leastBaseFor_29 : decode cSp_leastBaseFor 29 = .ok (.if_icmp .ne 9, 3) := by decide +kernel
theorem dSp_leastBaseFor_32 : decode cSp_leastBaseFor 32 = .ok (.iload_n 3, 1) := by decide +kernel
theorem dSp_leastBaseFor_33 : decode cSp_leastBaseFor 33 = .ok (.iconst 1, 1) := by decide +kernel
theorem dSp_leastBaseFor_34 : decode cSp_leastBaseFor 34 = .ok (.iadd, 1) := by decide +kernel
theorem dSp_leastBaseFor_35 : decode cSp_leastBaseFor 35 = .ok (.iload_n 1, 1) := by decide +kernel
theorem dSp_leastBaseFor_36 : decode cSp_leastBaseFor 36 = .ok (.isub, 1) := by decide +kernel
theorem dSp_leastBaseFor_37 : decode cSp_leastBaseFor 37 = .ok (.ireturn, 1) := by decide +kernel
theorem dSp_leastBaseFor_38 : decode cSp_leastBaseFor 38 = .ok (.iinc 3 1, 3) := by decide +kernel
theorem dSp_leastBaseFor_41 : decode cSp_leastBaseFor 41 = .ok (.goto (-37), 3) := by decide +kernel
theorem dSp_leastBaseFor_44 : decode cSp_leastBaseFor 44 = .ok (.iconst (-1), 1) := by decide +kernel
theorem dSp_leastBaseFor_45 : decode cSp_leastBaseFor 45 = .ok (.ireturn, 1) := by decide +kernel
theorem dSp_take_0 : decode cSp_take 0 = .ok (.iload_n 1, 1) := by decide +kernel
theorem dSp_take_1 : decode cSp_take 1 = .ok (.istore_n 3, 1) := by decide +kernel
theorem dSp_take_2 : decode cSp_take 2 = .ok (.iload_n 3, 1) := by decide +kernel
theorem dSp_take_3 : decode cSp_take 3 = .ok (.iload_n 1, 1) := by decide +kernel
theorem dSp_take_4 : decode cSp_take 4 = .ok (.iload_n 2, 1) := by decide +kernel
theorem dSp_take_5 : decode cSp_take 5 = .ok (.iadd, 1) := by decide +kernel
theorem dSp_take_6 : decode cSp_take 6 = .ok (.if_icmp .ge 16, 3) := by decide +kernel
theorem dSp_take_9 : decode cSp_take 9 = .ok (.aload_n 0, 1) := by decide +kernel
theorem dSp_take_10 : decode cSp_take 10 = .ok (.getfield 15, 3) := by decide +kernel
theorem dSp_take_13 : decode cSp_take 13 = .ok (.iload_n 3, 1) := by decide +kernel
theorem dSp_take_14 : decode cSp_take 14 = .ok (.iconst 1, 1) := by decide +kernel
theorem dSp_take_15 : decode cSp_take 15 = .ok (.bastore, 1) := by decide +kernel
theorem dSp_take_16 : decode cSp_take 16 = .ok (.iinc 3 1, 3) := by decide +kernel
theorem dSp_take_19 : decode cSp_take 19 = .ok (.goto (-17), 3) := by decide +kernel
theorem dSp_take_22 : decode cSp_take 22 = .ok (.return_, 1) := by decide +kernel
theorem dSp_giveBack_0 : decode cSp_giveBack 0 = .ok (.iload_n 1, 1) := by decide +kernel
theorem dSp_giveBack_1 : decode cSp_giveBack 1 = .ok (.istore_n 3, 1) := by decide +kernel
theorem dSp_giveBack_2 : decode cSp_giveBack 2 = .ok (.iload_n 3, 1) := by decide +kernel
theorem dSp_giveBack_3 : decode cSp_giveBack 3 = .ok (.iload_n 1, 1) := by decide +kernel
theorem dSp_giveBack_4 : decode cSp_giveBack 4 = .ok (.iload_n 2, 1) := by decide +kernel
theorem dSp_giveBack_5 : decode cSp_giveBack 5 = .ok (.iadd, 1) := by decide +kernel
theorem dSp_giveBack_6 : decode cSp_giveBack 6 = .ok (.if_icmp .ge 23, 3) := by decide +kernel
theorem dSp_giveBack_9 : decode cSp_giveBack 9 = .ok (.aload_n 0, 1) := by decide +kernel
theorem dSp_giveBack_10 : decode cSp_giveBack 10 = .ok (.getfield 15, 3) := by decide +kernel
theorem dSp_giveBack_13 : decode cSp_giveBack 13 = .ok (.iload_n 3, 1) := by decide +kernel
theorem dSp_giveBack_14 : decode cSp_giveBack 14 = .ok (.iconst 0, 1) := by decide +kernel
theorem dSp_giveBack_15 : decode cSp_giveBack 15 = .ok (.bastore, 1) := by decide +kernel
theorem dSp_giveBack_16 : decode cSp_giveBack 16 = .ok (.aload_n 0, 1) := by decide +kernel
theorem dSp_giveBack_17 : decode cSp_giveBack 17 = .ok (.getfield 9, 3) := by decide +kernel
theorem dSp_giveBack_20 : decode cSp_giveBack 20 = .ok (.iload_n 3, 1) := by decide +kernel
theorem dSp_giveBack_21 : decode cSp_giveBack 21 = .ok (.iconst 0, 1) := by decide +kernel
theorem dSp_giveBack_22 : decode cSp_giveBack 22 = .ok (.iastore, 1) := by decide +kernel
theorem dSp_giveBack_23 : decode cSp_giveBack 23 = .ok (.iinc 3 1, 3) := by decide +kernel
theorem dSp_giveBack_26 : decode cSp_giveBack 26 = .ok (.goto (-24), 3) := by decide +kernel
theorem dSp_giveBack_29 : decode cSp_giveBack 29 = .ok (.return_, 1) := by decide +kernel
theorem dSy_init_0 : decode cSy_init 0 = .ok (.aload_n 0, 1) := by decide +kernel
theorem dSy_init_1 : decode cSy_init 1 = .ok (.invokespecial 3, 3) := by decide +kernel
theorem dSy_init_4 : decode cSy_init 4 = .ok (.aload_n 0, 1) := by decide +kernel
theorem dSy_init_5 : decode cSy_init 5 = .ok (.bipush 6, 2) := by decide +kernel
theorem dSy_init_7 : decode cSy_init 7 = .ok (.newarray .int, 2) := by decide +kernel
theorem dSy_init_9 : decode cSy_init 9 = .ok (.putfield 9, 3) := by decide +kernel
theorem dSy_init_12 : decode cSy_init 12 = .ok (.aload_n 0, 1) := by decide +kernel
theorem dSy_init_13 : decode cSy_init 13 = .ok (.bipush 6, 2) := by decide +kernel
theorem dSy_init_15 : decode cSy_init 15 = .ok (.newarray .int, 2) := by decide +kernel
theorem dSy_init_17 : decode cSy_init 17 = .ok (.putfield 15, 3) := by decide +kernel
theorem dSy_init_20 : decode cSy_init 20 = .ok (.aload_n 0, 1) := by decide +kernel
theorem dSy_init_21 : decode cSy_init 21 = .ok (.bipush 6, 2) := by decide +kernel
theorem dSy_init_23 : decode cSy_init 23 = .ok (.newarray .int, 2) := by decide +kernel
theorem dSy_init_25 : decode cSy_init 25 = .ok (.putfield 18, 3) := by decide +kernel
theorem dSy_init_28 : decode cSy_init 28 = .ok (.aload_n 0, 1) := by decide +kernel
theorem dSy_init_29 : decode cSy_init 29 = .ok (.bipush 6, 2) := by decide +kernel
theorem dSy_init_31 : decode cSy_init 31 = .ok (.newarray .boolean, 2) := by decide +kernel
theorem dSy_init_33 : decode cSy_init 33 = .ok (.putfield 21, 3) := by decide +kernel
theorem dSy_init_36 : decode cSy_init 36 = .ok (.aload_n 0, 1) := by decide +kernel
theorem dSy_init_37 : decode cSy_init 37 = .ok (.iconst 0, 1) := by decide +kernel
theorem dSy_init_38 : decode cSy_init 38 = .ok (.putfield 25, 3) := by decide +kernel
theorem dSy_init_41 : decode cSy_init 41 = .ok (.return_, 1) := by decide +kernel
theorem dSy_add_0 : decode cSy_add 0 = .ok (.aload_n 0, 1) := by decide +kernel
theorem dSy_add_1 : decode cSy_add 1 = .ok (.getfield 9, 3) := by decide +kernel
theorem dSy_add_4 : decode cSy_add 4 = .ok (.aload_n 0, 1) := by decide +kernel
theorem dSy_add_5 : decode cSy_add 5 = .ok (.getfield 25, 3) := by decide +kernel
theorem dSy_add_8 : decode cSy_add 8 = .ok (.iload_n 1, 1) := by decide +kernel
theorem dSy_add_9 : decode cSy_add 9 = .ok (.iastore, 1) := by decide +kernel
theorem dSy_add_10 : decode cSy_add 10 = .ok (.aload_n 0, 1) := by decide +kernel
theorem dSy_add_11 : decode cSy_add 11 = .ok (.getfield 15, 3) := by decide +kernel
theorem dSy_add_14 : decode cSy_add 14 = .ok (.aload_n 0, 1) := by decide +kernel
theorem dSy_add_15 : decode cSy_add 15 = .ok (.getfield 25, 3) := by decide +kernel
theorem dSy_add_18 : decode cSy_add 18 = .ok (.iload_n 1, 1) := by decide +kernel
theorem dSy_add_19 : decode cSy_add 19 = .ok (.invokestatic 29, 3) := by decide +kernel
theorem dSy_add_22 : decode cSy_add 22 = .ok (.iastore, 1) := by decide +kernel
theorem dSy_add_23 : decode cSy_add 23 = .ok (.aload_n 0, 1) := by decide +kernel
theorem dSy_add_24 : decode cSy_add 24 = .ok (.getfield 18, 3) := by decide +kernel
theorem dSy_add_27 : decode cSy_add 27 = .ok (.aload_n 0, 1) := by decide +kernel
theorem dSy_add_28 : decode cSy_add 28 = .ok (.getfield 25, 3) := by decide +kernel
theorem dSy_add_31 : decode cSy_add 31 = .ok (.iload_n 2, 1) := by decide +kernel
theorem dSy_add_32 : decode cSy_add 32 = .ok (.iastore, 1) := by decide +kernel
theorem dSy_add_33 : decode cSy_add 33 = .ok (.aload_n 0, 1) := by decide +kernel
theorem dSy_add_34 : decode cSy_add 34 = .ok (.getfield 21, 3) := by decide +kernel
theorem dSy_add_37 : decode cSy_add 37 = .ok (.aload_n 0, 1) := by decide +kernel
theorem dSy_add_38 : decode cSy_add 38 = .ok (.getfield 25, 3) := by decide +kernel
theorem dSy_add_41 : decode cSy_add 41 = .ok (.iload_n 3, 1) := by decide +kernel
theorem dSy_add_42 : decode cSy_add 42 = .ok (.ifCond .eq 12, 3) := by decide +kernel
theorem dSy_add_45 : decode cSy_add 45 = .ok (.iload_n 2, 1) := by decide +kernel
theorem dSy_add_46 : decode cSy_add 46 = .ok (.iconst (-1), 1) := by decide +kernel
theorem dSy_add_47 : decode cSy_add 47 = .ok (.if_icmp .ne 7, 3) := by decide +kernel
theorem dSy_add_50 : decode cSy_add 50 = .ok (.iconst 1, 1) := by decide +kernel
theorem dSy_add_51 : decode cSy_add 51 = .ok (.goto 4, 3) := by decide +kernel
theorem dSy_add_54 : decode cSy_add 54 = .ok (.iconst 0, 1) := by decide +kernel
theorem dSy_add_55 : decode cSy_add 55 = .ok (.bastore, 1) := by decide +kernel
theorem dSy_add_56 : decode cSy_add 56 = .ok (.aload_n 0, 1) := by decide +kernel
theorem dSy_add_57 : decode cSy_add 57 = .ok (.dup, 1) := by decide +kernel
theorem dSy_add_58 : decode cSy_add 58 = .ok (.getfield 25, 3) := by decide +kernel
theorem dSy_add_61 : decode cSy_add 61 = .ok (.iconst 1, 1) := by decide +kernel
theorem dSy_add_62 : decode cSy_add 62 = .ok (.iadd, 1) := by decide +kernel
theorem dSy_add_63 : decode cSy_add 63 = .ok (.putfield 25, 3) := by decide +kernel
theorem dSy_add_66 : decode cSy_add 66 = .ok (.aload_n 0, 1) := by decide +kernel
theorem dSy_add_67 : decode cSy_add 67 = .ok (.getfield 25, 3) := by decide +kernel
theorem dSy_add_70 : decode cSy_add 70 = .ok (.iconst 1, 1) := by decide +kernel
theorem dSy_add_71 : decode cSy_add 71 = .ok (.isub, 1) := by decide +kernel
theorem dSy_add_72 : decode cSy_add 72 = .ok (.ireturn, 1) := by decide +kernel
theorem dSy_has_0 : decode cSy_has 0 = .ok (.iconst 0, 1) := by decide +kernel
theorem dSy_has_1 : decode cSy_has 1 = .ok (.istore_n 2, 1) := by decide +kernel
theorem dSy_has_2 : decode cSy_has 2 = .ok (.iload_n 2, 1) := by decide +kernel
theorem dSy_has_3 : decode cSy_has 3 = .ok (.aload_n 0, 1) := by decide +kernel
theorem dSy_has_4 : decode cSy_has 4 = .ok (.getfield 25, 3) := by decide +kernel
theorem dSy_has_7 : decode cSy_has 7 = .ok (.if_icmp .ge 21, 3) := by decide +kernel
theorem dSy_has_10 : decode cSy_has 10 = .ok (.aload_n 0, 1) := by decide +kernel
theorem dSy_has_11 : decode cSy_has 11 = .ok (.getfield 9, 3) := by decide +kernel
theorem dSy_has_14 : decode cSy_has 14 = .ok (.iload_n 2, 1) := by decide +kernel
theorem dSy_has_15 : decode cSy_has 15 = .ok (.iaload, 1) := by decide +kernel
theorem dSy_has_16 : decode cSy_has 16 = .ok (.iload_n 1, 1) := by decide +kernel
theorem dSy_has_17 : decode cSy_has 17 = .ok (.if_icmp .ne 5, 3) := by decide +kernel
theorem dSy_has_20 : decode cSy_has 20 = .ok (.iconst 1, 1) := by decide +kernel
theorem dSy_has_21 : decode cSy_has 21 = .ok (.ireturn, 1) := by decide +kernel
theorem dSy_has_22 : decode cSy_has 22 = .ok (.iinc 2 1, 3) := by decide +kernel
theorem dSy_has_25 : decode cSy_has 25 = .ok (.goto (-23), 3) := by decide +kernel
theorem dSy_has_28 : decode cSy_has 28 = .ok (.iconst 0, 1) := by decide +kernel
theorem dSy_has_29 : decode cSy_has 29 = .ok (.ireturn, 1) := by decide +kernel
theorem dSy_placeOf_0 : decode cSy_placeOf 0 = .ok (.iconst 0, 1) := by decide +kernel
theorem dSy_placeOf_1 : decode cSy_placeOf 1 = .ok (.istore_n 2, 1) := by decide +kernel
theorem dSy_placeOf_2 : decode cSy_placeOf 2 = .ok (.iload_n 2, 1) := by decide +kernel
theorem dSy_placeOf_3 : decode cSy_placeOf 3 = .ok (.aload_n 0, 1) := by decide +kernel
theorem dSy_placeOf_4 : decode cSy_placeOf 4 = .ok (.getfield 25, 3) := by decide +kernel
theorem dSy_placeOf_7 : decode cSy_placeOf 7 = .ok (.if_icmp .ge 26, 3) := by decide +kernel
theorem dSy_placeOf_10 : decode cSy_placeOf 10 = .ok (.aload_n 0, 1) := by decide +kernel
theorem dSy_placeOf_11 : decode cSy_placeOf 11 = .ok (.getfield 9, 3) := by decide +kernel
theorem dSy_placeOf_14 : decode cSy_placeOf 14 = .ok (.iload_n 2, 1) := by decide +kernel
theorem dSy_placeOf_15 : decode cSy_placeOf 15 = .ok (.iaload, 1) := by decide +kernel
theorem dSy_placeOf_16 : decode cSy_placeOf 16 = .ok (.iload_n 1, 1) := by decide +kernel
theorem dSy_placeOf_17 : decode cSy_placeOf 17 = .ok (.if_icmp .ne 10, 3) := by decide +kernel
theorem dSy_placeOf_20 : decode cSy_placeOf 20 = .ok (.aload_n 0, 1) := by decide +kernel
theorem dSy_placeOf_21 : decode cSy_placeOf 21 = .ok (.getfield 18, 3) := by decide +kernel
theorem dSy_placeOf_24 : decode cSy_placeOf 24 = .ok (.iload_n 2, 1) := by decide +kernel
theorem dSy_placeOf_25 : decode cSy_placeOf 25 = .ok (.iaload, 1) := by decide +kernel
theorem dSy_placeOf_26 : decode cSy_placeOf 26 = .ok (.ireturn, 1) := by decide +kernel
theorem dSy_placeOf_27 : decode cSy_placeOf 27 = .ok (.iinc 2 1, 3) := by decide +kernel
theorem dSy_placeOf_30 : decode cSy_placeOf 30 = .ok (.goto (-28), 3) := by decide +kernel
theorem dSy_placeOf_33 : decode cSy_placeOf 33 = .ok (.iconst (-1), 1) := by decide +kernel
theorem dSy_placeOf_34 : decode cSy_placeOf 34 = .ok (.ireturn, 1) := by decide +kernel
theorem dSy_stepsTo_0 : decode cSy_stepsTo 0 = .ok (.iconst 0, 1) := by decide +kernel
theorem dSy_stepsTo_1 : decode cSy_stepsTo 1 = .ok (.istore_n 3, 1) := by decide +kernel
theorem dSy_stepsTo_2 : decode cSy_stepsTo 2 = .ok (.aload_n 0, 1) := by decide +kernel
theorem dSy_stepsTo_3 : decode cSy_stepsTo 3 = .ok (.getfield 25, 3) := by decide +kernel
theorem dSy_stepsTo_6 : decode cSy_stepsTo 6 = .ok (.iconst 1, 1) := by decide +kernel
theorem dSy_stepsTo_7 : decode cSy_stepsTo 7 = .ok (.isub, 1) := by decide +kernel
theorem dSy_stepsTo_8 : decode cSy_stepsTo 8 = .ok (.istore 4, 2) := by decide +kernel
theorem dSy_stepsTo_10 : decode cSy_stepsTo 10 = .ok (.iload 4, 2) := by decide +kernel
theorem dSy_stepsTo_12 : decode cSy_stepsTo 12 = .ok (.ifCond .lt 47, 3) := by decide +kernel
theorem dSy_stepsTo_15 : decode cSy_stepsTo 15 = .ok (.aload_n 0, 1) := by decide +kernel
theorem dSy_stepsTo_16 : decode cSy_stepsTo 16 = .ok (.getfield 15, 3) := by decide +kernel
theorem dSy_stepsTo_19 : decode cSy_stepsTo 19 = .ok (.iload 4, 2) := by decide +kernel
theorem dSy_stepsTo_21 : decode cSy_stepsTo 21 = .ok (.iaload, 1) := by decide +kernel
theorem dSy_stepsTo_22 : decode cSy_stepsTo 22 = .ok (.iload_n 2, 1) := by decide +kernel
theorem dSy_stepsTo_23 : decode cSy_stepsTo 23 = .ok (.if_icmp .ne 30, 3) := by decide +kernel
theorem dSy_stepsTo_26 : decode cSy_stepsTo 26 = .ok (.iinc 3 1, 3) := by decide +kernel
theorem dSy_stepsTo_29 : decode cSy_stepsTo 29 = .ok (.aload_n 0, 1) := by decide +kernel
theorem dSy_stepsTo_30 : decode cSy_stepsTo 30 = .ok (.getfield 9, 3) := by decide +kernel
theorem dSy_stepsTo_33 : decode cSy_stepsTo 33 = .ok (.iload 4, 2) := by decide +kernel
theorem dSy_stepsTo_35 : decode cSy_stepsTo 35 = .ok (.iaload, 1) := by decide +kernel
theorem dSy_stepsTo_36 : decode cSy_stepsTo 36 = .ok (.iload_n 1, 1) := by decide +kernel
theorem dSy_stepsTo_37 : decode cSy_stepsTo 37 = .ok (.if_icmp .ne 16, 3) := by decide +kernel
theorem dSy_stepsTo_40 : decode cSy_stepsTo 40 = .ok (.aload_n 0, 1) := by decide +kernel
theorem dSy_stepsTo_41 : decode cSy_stepsTo 41 = .ok (.getfield 18, 3) := by decide +kernel
theorem dSy_stepsTo_44 : decode cSy_stepsTo 44 = .ok (.iload 4, 2) := by decide +kernel
theorem dSy_stepsTo_46 : decode cSy_stepsTo 46 = .ok (.iaload, 1) := by decide +kernel
theorem dSy_stepsTo_47 : decode cSy_stepsTo 47 = .ok (.iconst (-1), 1) := by decide +kernel
theorem dSy_stepsTo_48 : decode cSy_stepsTo 48 = .ok (.if_icmp .eq 5, 3) := by decide +kernel
theorem dSy_stepsTo_51 : decode cSy_stepsTo 51 = .ok (.iload_n 3, 1) := by decide +kernel
theorem dSy_stepsTo_52 : decode cSy_stepsTo 52 = .ok (.ireturn, 1) := by decide +kernel
theorem dSy_stepsTo_53 : decode cSy_stepsTo 53 = .ok (.iinc 4 (-1), 3) := by decide +kernel
theorem dSy_stepsTo_56 : decode cSy_stepsTo 56 = .ok (.goto (-46), 3) := by decide +kernel
theorem dSy_stepsTo_59 : decode cSy_stepsTo 59 = .ok (.iload_n 3, 1) := by decide +kernel
theorem dSy_stepsTo_60 : decode cSy_stepsTo 60 = .ok (.ireturn, 1) := by decide +kernel
theorem dIn_bitCount_0 : decode cIn_bitCount 0 = .ok (.iload_n 0, 1) := by decide +kernel
theorem dIn_bitCount_1 : decode cIn_bitCount 1 = .ok (.iload_n 0, 1) := by decide +kernel
theorem dIn_bitCount_2 : decode cIn_bitCount 2 = .ok (.iconst 1, 1) := by decide +kernel
theorem dIn_bitCount_3 : decode cIn_bitCount 3 = .ok (.iushr, 1) := by decide +kernel
theorem dIn_bitCount_4 : decode cIn_bitCount 4 = .ok (.ldc_w 265, 3) := by decide +kernel
theorem dIn_bitCount_7 : decode cIn_bitCount 7 = .ok (.iand, 1) := by decide +kernel
theorem dIn_bitCount_8 : decode cIn_bitCount 8 = .ok (.isub, 1) := by decide +kernel
theorem dIn_bitCount_9 : decode cIn_bitCount 9 = .ok (.istore_n 0, 1) := by decide +kernel
theorem dIn_bitCount_10 : decode cIn_bitCount 10 = .ok (.iload_n 0, 1) := by decide +kernel
theorem dIn_bitCount_11 : decode cIn_bitCount 11 = .ok (.ldc_w 266, 3) := by decide +kernel
theorem dIn_bitCount_14 : decode cIn_bitCount 14 = .ok (.iand, 1) := by decide +kernel
theorem dIn_bitCount_15 : decode cIn_bitCount 15 = .ok (.iload_n 0, 1) := by decide +kernel
theorem dIn_bitCount_16 : decode cIn_bitCount 16 = .ok (.iconst 2, 1) := by decide +kernel
theorem dIn_bitCount_17 : decode cIn_bitCount 17 = .ok (.iushr, 1) := by decide +kernel
theorem dIn_bitCount_18 : decode cIn_bitCount 18 = .ok (.ldc_w 266, 3) := by decide +kernel
theorem dIn_bitCount_21 : decode cIn_bitCount 21 = .ok (.iand, 1) := by decide +kernel
theorem dIn_bitCount_22 : decode cIn_bitCount 22 = .ok (.iadd, 1) := by decide +kernel
theorem dIn_bitCount_23 : decode cIn_bitCount 23 = .ok (.istore_n 0, 1) := by decide +kernel
theorem dIn_bitCount_24 : decode cIn_bitCount 24 = .ok (.iload_n 0, 1) := by decide +kernel
theorem dIn_bitCount_25 : decode cIn_bitCount 25 = .ok (.iload_n 0, 1) := by decide +kernel
theorem dIn_bitCount_26 : decode cIn_bitCount 26 = .ok (.iconst 4, 1) := by decide +kernel
theorem dIn_bitCount_27 : decode cIn_bitCount 27 = .ok (.iushr, 1) := by decide +kernel
theorem dIn_bitCount_28 : decode cIn_bitCount 28 = .ok (.iadd, 1) := by decide +kernel
theorem dIn_bitCount_29 : decode cIn_bitCount 29 = .ok (.ldc_w 267, 3) := by decide +kernel
theorem dIn_bitCount_32 : decode cIn_bitCount 32 = .ok (.iand, 1) := by decide +kernel
theorem dIn_bitCount_33 : decode cIn_bitCount 33 = .ok (.istore_n 0, 1) := by decide +kernel
theorem dIn_bitCount_34 : decode cIn_bitCount 34 = .ok (.iload_n 0, 1) := by decide +kernel
theorem dIn_bitCount_35 : decode cIn_bitCount 35 = .ok (.iload_n 0, 1) := by decide +kernel
theorem dIn_bitCount_36 : decode cIn_bitCount 36 = .ok (.bipush 8, 2) := by decide +kernel
theorem dIn_bitCount_38 : decode cIn_bitCount 38 = .ok (.iushr, 1) := by decide +kernel
theorem dIn_bitCount_39 : decode cIn_bitCount 39 = .ok (.iadd, 1) := by decide +kernel
theorem dIn_bitCount_40 : decode cIn_bitCount 40 = .ok (.istore_n 0, 1) := by decide +kernel
theorem dIn_bitCount_41 : decode cIn_bitCount 41 = .ok (.iload_n 0, 1) := by decide +kernel
theorem dIn_bitCount_42 : decode cIn_bitCount 42 = .ok (.iload_n 0, 1) := by decide +kernel
theorem dIn_bitCount_43 : decode cIn_bitCount 43 = .ok (.bipush 16, 2) := by decide +kernel
theorem dIn_bitCount_45 : decode cIn_bitCount 45 = .ok (.iushr, 1) := by decide +kernel
theorem dIn_bitCount_46 : decode cIn_bitCount 46 = .ok (.iadd, 1) := by decide +kernel
theorem dIn_bitCount_47 : decode cIn_bitCount 47 = .ok (.istore_n 0, 1) := by decide +kernel
theorem dIn_bitCount_48 : decode cIn_bitCount 48 = .ok (.iload_n 0, 1) := by decide +kernel
theorem dIn_bitCount_49 : decode cIn_bitCount 49 = .ok (.bipush 63, 2) := by decide +kernel
theorem dIn_bitCount_51 : decode cIn_bitCount 51 = .ok (.iand, 1) := by decide +kernel
theorem dIn_bitCount_52 : decode cIn_bitCount 52 = .ok (.ireturn, 1) := by decide +kernel
theorem dMa_min_0 : decode cMa_min 0 = .ok (.iload_n 0, 1) := by decide +kernel
theorem dMa_min_1 : decode cMa_min 1 = .ok (.iload_n 1, 1) := by decide +kernel
theorem dMa_min_2 : decode cMa_min 2 = .ok (.if_icmp .gt 7, 3) := by decide +kernel
theorem dMa_min_5 : decode cMa_min 5 = .ok (.iload_n 0, 1) := by decide +kernel
theorem dMa_min_6 : decode cMa_min 6 = .ok (.goto 4, 3) := by decide +kernel
theorem dMa_min_9 : decode cMa_min 9 = .ok (.iload_n 1, 1) := by decide +kernel
theorem dMa_min_10 : decode cMa_min 10 = .ok (.ireturn, 1) := by decide +kernel
