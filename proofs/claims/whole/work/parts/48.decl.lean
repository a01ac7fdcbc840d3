theorem dLw_image_0 : decode cLw_image 0 = .ok (.aload_n 0, 1) := by decide +kernel
theorem dLw_image_1 : decode cLw_image 1 = .ok (.iload_n 1, 1) := by decide +kernel
theorem dLw_image_2 : decode cLw_image 2 = .ok (.iload_n 2, 1) := by decide +kernel
theorem dLw_image_3 : decode cLw_image 3 = .ok (.invokevirtual 7, 3) := by decide +kernel
theorem dLw_image_6 : decode cLw_image 6 = .ok (.goto 12, 3) := by decide +kernel
theorem dLw_image_9 : decode cLw_image 9 = .ok (.astore_n 3, 1) := by decide +kernel
theorem dLw_image_10 : decode cLw_image 10 = .ok (.iconst 1, 1) := by decide +kernel
theorem dLw_image_11 : decode cLw_image 11 = .ok (.ireturn, 1) := by decide +kernel
theorem dLw_image_12 : decode cLw_image 12 = .ok (.astore_n 3, 1) := by decide +kernel
theorem dLw_image_13 : decode cLw_image 13 = .ok (.iconst 2, 1) := by decide +kernel
theorem dLw_image_14 : decode cLw_image 14 = .ok (.ireturn, 1) := by decide +kernel
theorem dLw_image_15 : decode cLw_image 15 = .ok (.astore_n 3, 1) := by decide +kernel
theorem dLw_image_16 : decode cLw_image 16 = .ok (.iconst 3, 1) := by decide +kernel
theorem dLw_image_17 : decode cLw_image 17 = .ok (.ireturn, 1) := by decide +kernel
theorem dLw_image_18 : decode cLw_image 18 = .ok (.iconst 0, 1) := by decide +kernel
theorem dLw_image_19 : decode cLw_image 19 = .ok (.ireturn, 1) := by decide +kernel
theorem dLw_need_0 : decode cLw_need 0 = .ok (.aload_n 3, 1) := by decide +kernel
theorem dLw_need_1 : decode cLw_need 1 = .ok (.iconst 0, 1) := by decide +kernel
theorem dLw_need_2 : decode cLw_need 2 = .ok (.aload_n 0, 1) := by decide +kernel
theorem dLw_need_3 : decode cLw_need 3 = .ok (.iload_n 1, 1) := by decide +kernel
theorem dLw_need_4 : decode cLw_need 4 = .ok (.iload_n 2, 1) := by decide +kernel
theorem dLw_need_5 : decode cLw_need 5 = .ok (.invokevirtual 19, 3) := by decide +kernel
theorem dLw_need_8 : decode cLw_need 8 = .ok (.i2l, 1) := by decide +kernel
theorem dLw_need_9 : decode cLw_need 9 = .ok (.lastore, 1) := by decide +kernel
theorem dLw_need_10 : decode cLw_need 10 = .ok (.goto 15, 3) := by decide +kernel
theorem dLw_need_13 : decode cLw_need 13 = .ok (.astore 4, 2) := by decide +kernel
theorem dLw_need_15 : decode cLw_need 15 = .ok (.iconst 1, 1) := by decide +kernel
theorem dLw_need_16 : decode cLw_need 16 = .ok (.ireturn, 1) := by decide +kernel
theorem dLw_need_17 : decode cLw_need 17 = .ok (.astore 4, 2) := by decide +kernel
theorem dLw_need_19 : decode cLw_need 19 = .ok (.iconst 2, 1) := by decide +kernel
theorem dLw_need_20 : decode cLw_need 20 = .ok (.ireturn, 1) := by decide +kernel
theorem dLw_need_21 : decode cLw_need 21 = .ok (.astore 4, 2) := by decide +kernel
theorem dLw_need_23 : decode cLw_need 23 = .ok (.iconst 3, 1) := by decide +kernel
theorem dLw_need_24 : decode cLw_need 24 = .ok (.ireturn, 1) := by decide +kernel
theorem dLw_need_25 : decode cLw_need 25 = .ok (.iconst 0, 1) := by decide +kernel
theorem dLw_need_26 : decode cLw_need 26 = .ok (.ireturn, 1) := by decide +kernel
theorem dLw_symbol_0 : decode cLw_symbol 0 = .ok (.aload 5, 2) := by decide +kernel
theorem dLw_symbol_2 : decode cLw_symbol 2 = .ok (.iconst 0, 1) := by decide +kernel
theorem dLw_symbol_3 : decode cLw_symbol 3 = .ok (.aload_n 0, 1) := by decide +kernel
theorem dLw_symbol_4 : decode cLw_symbol 4 = .ok (.iload_n 1, 1) := by decide +kernel
theorem dLw_symbol_5 : decode cLw_symbol 5 = .ok (.iload_n 2, 1) := by decide +kernel
theorem dLw_symbol_6 : decode cLw_symbol 6 = .ok (.iload_n 3, 1) := by decide +kernel
theorem dLw_symbol_7 : decode cLw_symbol 7 = .ok (.iload 4, 2) := by decide +kernel
theorem dLw_symbol_9 : decode cLw_symbol 9 = .ok (.invokevirtual 23, 3) := by decide +kernel
theorem dLw_symbol_12 : decode cLw_symbol 12 = .ok (.i2l, 1) := by decide +kernel
theorem dLw_symbol_13 : decode cLw_symbol 13 = .ok (.lastore, 1) := by decide +kernel
theorem dLw_symbol_14 : decode cLw_symbol 14 = .ok (.goto 15, 3) := by decide +kernel
theorem dLw_symbol_17 : decode cLw_symbol 17 = .ok (.astore 6, 2) := by decide +kernel
theorem dLw_symbol_19 : decode cLw_symbol 19 = .ok (.iconst 1, 1) := by decide +kernel
theorem dLw_symbol_20 : decode cLw_symbol 20 = .ok (.ireturn, 1) := by decide +kernel
theorem dLw_symbol_21 : decode cLw_symbol 21 = .ok (.astore 6, 2) := by decide +kernel
theorem dLw_symbol_23 : decode cLw_symbol 23 = .ok (.iconst 2, 1) := by decide +kernel
theorem dLw_symbol_24 : decode cLw_symbol 24 = .ok (.ireturn, 1) := by decide +kernel
theorem dLw_symbol_25 : decode cLw_symbol 25 = .ok (.astore 6, 2) := by decide +kernel
theorem dLw_symbol_27 : decode cLw_symbol 27 = .ok (.iconst 3, 1) := by decide +kernel
theorem dLw_symbol_28 : decode cLw_symbol 28 = .ok (.ireturn, 1) := by decide +kernel
theorem dLw_symbol_29 : decode cLw_symbol 29 = .ok (.iconst 0, 1) := by decide +kernel
theorem dLw_symbol_30 : decode cLw_symbol 30 = .ok (.ireturn, 1) := by decide +kernel
theorem dLw_relocation_0 : decode cLw_relocation 0 = .ok (.aload 6, 2) := by decide +kernel
theorem dLw_relocation_2 : decode cLw_relocation 2 = .ok (.iconst 0, 1) := by decide +kernel
theorem dLw_relocation_3 : decode cLw_relocation 3 = .ok (.aload_n 0, 1) := by decide +kernel
theorem dLw_relocation_4 : decode cLw_relocation 4 = .ok (.iload_n 1, 1) := by decide +kernel
theorem dLw_relocation_5 : decode cLw_relocation 5 = .ok (.iload_n 2, 1) := by decide +kernel
theorem dLw_relocation_6 : decode cLw_relocation 6 = .ok (.iload_n 3, 1) := by decide +kernel
theorem dLw_relocation_7 : decode cLw_relocation 7 = .ok (.iload 4, 2) := by decide +kernel
theorem dLw_relocation_9 : decode cLw_relocation 9 = .ok (.iload 5, 2) := by decide +kernel
theorem dLw_relocation_11 : decode cLw_relocation 11 = .ok (.invokevirtual 27, 3) := by decide +kernel
theorem dLw_relocation_14 : decode cLw_relocation 14 = .ok (.i2l, 1) := by decide +kernel
theorem dLw_relocation_15 : decode cLw_relocation 15 = .ok (.lastore, 1) := by decide +kernel
theorem dLw_relocation_16 : decode cLw_relocation 16 = .ok (.goto 15, 3) := by decide +kernel
theorem dLw_relocation_19 : decode cLw_relocation 19 = .ok (.astore 7, 2) := by decide +kernel
theorem dLw_relocation_21 : decode cLw_relocation 21 = .ok (.iconst 1, 1) := by decide +kernel
theorem dLw_relocation_22 : decode cLw_relocation 22 = .ok (.ireturn, 1) := by decide +kernel
theorem dLw_relocation_23 : decode cLw_relocation 23 = .ok (.astore 7, 2) := by decide +kernel
theorem dLw_relocation_25 : decode cLw_relocation 25 = .ok (.iconst 2, 1) := by decide +kernel
theorem dLw_relocation_26 : decode cLw_relocation 26 = .ok (.ireturn, 1) := by decide +kernel
theorem dLw_relocation_27 : decode cLw_relocation 27 = .ok (.astore 7, 2) := by decide +kernel
theorem dLw_relocation_29 : decode cLw_relocation 29 = .ok (.iconst 3, 1) := by decide +kernel
theorem dLw_relocation_30 : decode cLw_relocation 30 = .ok (.ireturn, 1) := by decide +kernel
theorem dLw_relocation_31 : decode cLw_relocation 31 = .ok (.iconst 0, 1) := by decide +kernel
theorem dLw_relocation_32 : decode cLw_relocation 32 = .ok (.ireturn, 1) := by decide +kernel
theorem dLw_open_0 : decode cLw_open 0 = .ok (.aload 4, 2) := by decide +kernel
theorem dLw_open_2 : decode cLw_open 2 = .ok (.iconst 0, 1) := by decide +kernel
theorem dLw_open_3 : decode cLw_open 3 = .ok (.aload_n 0, 1) := by decide +kernel
theorem dLw_open_4 : decode cLw_open 4 = .ok (.iload_n 1, 1) := by decide +kernel
theorem dLw_open_5 : decode cLw_open 5 = .ok (.iload_n 2, 1) := by decide +kernel
theorem dLw_open_6 : decode cLw_open 6 = .ok (.iload_n 3, 1) := by decide +kernel
theorem dLw_open_7 : decode cLw_open 7 = .ok (.invokevirtual 31, 3) := by decide +kernel
theorem dLw_open_10 : decode cLw_open 10 = .ok (.i2l, 1) := by decide +kernel
theorem dLw_open_11 : decode cLw_open 11 = .ok (.lastore, 1) := by decide +kernel
theorem dLw_open_12 : decode cLw_open 12 = .ok (.goto 15, 3) := by decide +kernel
theorem dLw_open_15 : decode cLw_open 15 = .ok (.astore 5, 2) := by decide +kernel
theorem dLw_open_17 : decode cLw_open 17 = .ok (.iconst 1, 1) := by decide +kernel
theorem dLw_open_18 : decode cLw_open 18 = .ok (.ireturn, 1) := by decide +kernel
theorem dLw_open_19 : decode cLw_open 19 = .ok (.astore 5, 2) := by decide +kernel
theorem dLw_open_21 : decode cLw_open 21 = .ok (.iconst 2, 1) := by decide +kernel
theorem dLw_open_22 : decode cLw_open 22 = .ok (.ireturn, 1) := by decide +kernel
theorem dLw_open_23 : decode cLw_open 23 = .ok (.astore 5, 2) := by decide +kernel
theorem dLw_open_25 : decode cLw_open 25 = .ok (.iconst 3, 1) := by decide +kernel
theorem dLw_open_26 : decode cLw_open 26 = .ok (.ireturn, 1) := by decide +kernel
theorem dLw_open_27 : decode cLw_open 27 = .ok (.iconst 0, 1) := by decide +kernel
theorem dLw_open_28 : decode cLw_open 28 = .ok (.ireturn, 1) := by decide +kernel
theorem dLw_close_0 : decode cLw_close 0 = .ok (.aload_n 2, 1) := by decide +kernel
theorem dLw_close_1 : decode cLw_close 1 = .ok (.iconst 0, 1) := by decide +kernel
theorem dLw_close_2 : decode cLw_close 2 = .ok (.aload_n 0, 1) := by decide +kernel
theorem dLw_close_3 : decode cLw_close 3 = .ok (.iload_n 1, 1) := by decide +kernel
theorem dLw_close_4 : decode cLw_close 4 = .ok (.invokevirtual 37, 3) := by decide +kernel
theorem dLw_close_7 : decode cLw_close 7 = .ok (.i2l, 1) := by decide +kernel
theorem dLw_close_8 : decode cLw_close 8 = .ok (.lastore, 1) := by decide +kernel
theorem dLw_close_9 : decode cLw_close 9 = .ok (.goto 9, 3) := by decide +kernel
theorem dLw_close_12 : decode cLw_close 12 = .ok (.astore_n 3, 1) := by decide +kernel
theorem dLw_close_13 : decode cLw_close 13 = .ok (.iconst 1, 1) := by decide +kernel
theorem dLw_close_14 : decode cLw_close 14 = .ok (.ireturn, 1) := by decide +kernel
theorem dLw_close_15 : decode cLw_close 15 = .ok (.astore_n 3, 1) := by decide +kernel
theorem dLw_close_16 : decode cLw_close 16 = .ok (.iconst 2, 1) := by decide +kernel
theorem dLw_close_17 : decode cLw_close 17 = .ok (.ireturn, 1) := by decide +kernel
theorem dLw_close_18 : decode cLw_close 18 = .ok (.iconst 0, 1) := by decide +kernel
theorem dLw_close_19 : decode cLw_close 19 = .ok (.ireturn, 1) := by decide +kernel
theorem dLw_call_0 : decode cLw_call 0 = .ok (.aload_n 3, 1) := by decide +kernel
theorem dLw_call_1 : decode cLw_call 1 = .ok (.iconst 0, 1) := by decide +kernel
theorem dLw_call_2 : decode cLw_call 2 = .ok (.aload_n 0, 1) := by decide +kernel
theorem dLw_call_3 : decode cLw_call 3 = .ok (.iload_n 1, 1) := by decide +kernel
theorem dLw_call_4 : decode cLw_call 4 = .ok (.iload_n 2, 1) := by decide +kernel
theorem dLw_call_5 : decode cLw_call 5 = .ok (.invokevirtual 41, 3) := by decide +kernel
theorem dLw_call_8 : decode cLw_call 8 = .ok (.i2l, 1) := by decide +kernel
theorem dLw_call_9 : decode cLw_call 9 = .ok (.lastore, 1) := by decide +kernel
theorem dLw_call_10 : decode cLw_call 10 = .ok (.goto 19, 3) := by decide +kernel
theorem dLw_call_13 : decode cLw_call 13 = .ok (.astore 4, 2) := by decide +kernel
theorem dLw_call_15 : decode cLw_call 15 = .ok (.iconst 1, 1) := by decide +kernel
theorem dLw_call_16 : decode cLw_call 16 = .ok (.ireturn, 1) := by decide +kernel
theorem dLw_call_17 : decode cLw_call 17 = .ok (.astore 4, 2) := by decide +kernel
theorem dLw_call_19 : decode cLw_call 19 = .ok (.iconst 2, 1) := by decide +kernel
theorem dLw_call_20 : decode cLw_call 20 = .ok (.ireturn, 1) := by decide +kernel
theorem dLw_call_21 : decode cLw_call 21 = .ok (.astore 4, 2) := by decide +kernel
theorem dLw_call_23 : decode cLw_call 23 = .ok (.iconst 3, 1) := by decide +kernel
theorem dLw_call_24 : decode cLw_call 24 = .ok (.ireturn, 1) := by decide +kernel
theorem dLw_call_25 : decode cLw_call 25 = .ok (.astore 4, 2) := by decide +kernel
theorem dLw_call_27 : decode cLw_call 27 = .ok (.iconst 4, 1) := by decide +kernel
theorem dLw_call_28 : decode cLw_call 28 = .ok (.ireturn, 1) := by decide +kernel
theorem dLw_call_29 : decode cLw_call 29 = .ok (.iconst 0, 1) := by decide +kernel
theorem dLw_call_30 : decode cLw_call 30 = .ok (.ireturn, 1) := by decide +kernel
theorem dLw_find_0 : decode cLw_find 0 = .ok (.aload_n 3, 1) := by decide +kernel
theorem dLw_find_1 : decode cLw_find 1 = .ok (.iconst 0, 1) := by decide +kernel
theorem dLw_find_2 : decode cLw_find 2 = .ok (.aload_n 0, 1) := by decide +kernel
theorem dLw_find_3 : decode cLw_find 3 = .ok (.iload_n 1, 1) := by decide +kernel
theorem dLw_find_4 : decode cLw_find 4 = .ok (.iload_n 2, 1) := by decide +kernel
theorem dLw_find_5 : decode cLw_find 5 = .ok (.invokevirtual 44, 3) := by decide +kernel
theorem dLw_find_8 : decode cLw_find 8 = .ok (.i2l, 1) := by decide +kernel
theorem dLw_find_9 : decode cLw_find 9 = .ok (.lastore, 1) := by decide +kernel
theorem dLw_find_10 : decode cLw_find 10 = .ok (.goto 19, 3) := by decide +kernel
theorem dLw_find_13 : decode cLw_find 13 = .ok (.astore 4, 2) := by decide +kernel
theorem dLw_find_15 : decode cLw_find 15 = .ok (.iconst 1, 1) := by decide +kernel
theorem dLw_find_16 : decode cLw_find 16 = .ok (.ireturn, 1) := by decide +kernel
theorem dLw_find_17 : decode cLw_find 17 = .ok (.astore 4, 2) := by decide +kernel
theorem dLw_find_19 : decode cLw_find 19 = .ok (.iconst 2, 1) := by decide +kernel
theorem dLw_find_20 : decode cLw_find 20 = .ok (.ireturn, 1) := by decide +kernel
theorem dLw_find_21 : decode cLw_find 21 = .ok (.astore 4, 2) := by decide +kernel
theorem dLw_find_23 : decode cLw_find 23 = .ok (.iconst 3, 1) := by decide +kernel
theorem dLw_find_24 : decode cLw_find 24 = .ok (.ireturn, 1) := by decide +kernel
theorem dLw_find_25 : decode cLw_find 25 = .ok (.astore 4, 2) := by decide +kernel
theorem dLw_find_27 : decode cLw_find 27 = .ok (.iconst 4, 1) := by decide +kernel
theorem dLw_find_28 : decode cLw_find 28 = .ok (.ireturn, 1) := by decide +kernel
theorem dLw_find_29 : decode cLw_find 29 = .ok (.iconst 0, 1) := by decide +kernel
theorem dLw_find_30 : decode cLw_find 30 = .ok (.ireturn, 1) := by decide +kernel
theorem dLw_word_0 : decode cLw_word 0 = .ok (.aload_n 2, 1) := by decide +kernel
theorem dLw_word_1 : decode cLw_word 1 = .ok (.iconst 0, 1) := by decide +kernel
theorem dLw_word_2 : decode cLw_word 2 = .ok (.aload_n 0, 1) := by decide +kernel
theorem dLw_word_3 : decode cLw_word 3 = .ok (.iload_n 1, 1) := by decide +kernel
theorem dLw_word_4 : decode cLw_word 4 = .ok (.invokevirtual 47, 3) := by decide +kernel
theorem dLw_word_7 : decode cLw_word 7 = .ok (.i2l, 1) := by decide +kernel
theorem dLw_word_8 : decode cLw_word 8 = .ok (.lastore, 1) := by decide +kernel
theorem dLw_word_9 : decode cLw_word 9 = .ok (.goto 6, 3) := by decide +kernel
theorem dLw_word_12 : decode cLw_word 12 = .ok (.astore_n 3, 1) := by decide +kernel
theorem dLw_word_13 : decode cLw_word 13 = .ok (.iconst 1, 1) := by decide +kernel
theorem dLw_word_14 : decode cLw_word 14 = .ok (.ireturn, 1) := by decide +kernel
theorem dLw_word_15 : decode cLw_word 15 = .ok (.iconst 0, 1) := by decide +kernel
theorem dLw_word_16 : decode cLw_word 16 = .ok (.ireturn, 1) := by decide +kernel
theorem dLw_event_0 : decode cLw_event 0 = .ok (.aload_n 2, 1) := by decide +kernel
theorem dLw_event_1 : decode cLw_event 1 = .ok (.iconst 0, 1) := by decide +kernel
theorem dLw_event_2 : decode cLw_event 2 = .ok (.aload_n 0, 1) := by decide +kernel
theorem dLw_event_3 : decode cLw_event 3 = .ok (.iload_n 1, 1) := by decide +kernel
theorem dLw_event_4 : decode cLw_event 4 = .ok (.invokevirtual 50, 3) := by decide +kernel
theorem dLw_event_7 : decode cLw_event 7 = .ok (.i2l, 1) := by decide +kernel
theorem dLw_event_8 : decode cLw_event 8 = .ok (.lastore, 1) := by decide +kernel
theorem dLw_event_9 : decode cLw_event 9 = .ok (.goto 6, 3) := by decide +kernel
theorem dLw_event_12 : decode cLw_event 12 = .ok (.astore_n 3, 1) := by decide +kernel
theorem dLw_event_13 : decode cLw_event 13 = .ok (.iconst 1, 1) := by decide +kernel
theorem dLw_event_14 : decode cLw_event 14 = .ok (.ireturn, 1) := by decide +kernel
theorem dLw_event_15 : decode cLw_event 15 = .ok (.iconst 0, 1) := by decide +kernel
theorem dLw_event_16 : decode cLw_event 16 = .ok (.ireturn, 1) := by decide +kernel
theorem dLw_law_0 : decode cLw_law 0 = .ok (.new 8, 3) := by decide +kernel
theorem dLw_law_3 : decode cLw_law 3 = .ok (.dup, 1) := by decide +kernel
theorem dLw_law_4 : decode cLw_law 4 = .ok (.invokespecial 53, 3) := by decide +kernel
theorem dLw_law_7 : decode cLw_law 7 = .ok (.astore_n 1, 1) := by decide +kernel
theorem dLw_law_8 : decode cLw_law 8 = .ok (.new 54, 3) := by decide +kernel
theorem dLw_law_11 : decode cLw_law 11 = .ok (.dup, 1) := by decide +kernel
theorem dLw_law_12 : decode cLw_law 12 = .ok (.invokespecial 56, 3) := by decide +kernel
theorem dLw_law_15 : decode cLw_law 15 = .ok (.astore_n 2, 1) := by decide +kernel
theorem dLw_law_16 : decode cLw_law 16 = .ok (.iconst 1, 1) := by decide +kernel
theorem dLw_law_17 : decode cLw_law 17 = .ok (.newarray .long, 2) := by decide +kernel
theorem dLw_law_19 : decode cLw_law 19 = .ok (.astore_n 3, 1) := by decide +kernel
theorem dLw_law_20 : decode cLw_law 20 = .ok (.iconst 0, 1) := by decide +kernel
theorem dLw_law_21 : decode cLw_law 21 = .ok (.istore 4, 2) := by decide +kernel
theorem dLw_law_23 : decode cLw_law 23 = .ok (.iload 4, 2) := by decide +kernel
theorem dLw_law_25 : decode cLw_law 25 = .ok (.aload_n 0, 1) := by decide +kernel
theorem dLw_law_26 : decode cLw_law 26 = .ok (.arraylength, 1) := by decide +kernel
theorem dLw_law_27 : decode cLw_law 27 = .ok (.bipush 6, 2) := by decide +kernel
theorem dLw_law_29 : decode cLw_law 29 = .ok (.isub, 1) := by decide +kernel
theorem dLw_law_30 : decode cLw_law 30 = .ok (.if_icmp .gt 978, 3) := by decide +kernel
theorem dLw_law_33 : decode cLw_law 33 = .ok (.aload_n 0, 1) := by decide +kernel
theorem dLw_law_34 : decode cLw_law 34 = .ok (.iload 4, 2) := by decide +kernel
theorem dLw_law_36 : decode cLw_law 36 = .ok (.iaload, 1) := by decide +kernel
theorem dLw_law_37 : decode cLw_law 37 = .ok (.bipush 15, 2) := by decide +kernel
theorem dLw_law_39 : decode cLw_law 39 = .ok (.iand, 1) := by decide +kernel
theorem dLw_law_40 : decode cLw_law 40 = .ok (.tableswitch 962 0 15 #[80, 128, 196, 304, 408, 520, 576, 644, 712, 768, 805, 830, 855, 880, 893, 949], 80) := by decide +kernel
theorem dLw_law_120 : decode cLw_law 120 = .ok (.aload_n 1, 1) := by decide +kernel
theorem dLw_law_121 : decode cLw_law 121 = .ok (.aload_n 0, 1) := by decide +kernel
theorem dLw_law_122 : decode cLw_law 122 = .ok (.iload 4, 2) := by decide +kernel
theorem dLw_law_124 : decode cLw_law 124 = .ok (.iconst 1, 1) := by decide +kernel
theorem dLw_law_125 : decode cLw_law 125 = .ok (.iadd, 1) := by decide +kernel
theorem dLw_law_126 : decode cLw_law 126 = .ok (.iaload, 1) := by decide +kernel
theorem dLw_law_127 : decode cLw_law 127 = .ok (.aload_n 0, 1) := by decide +kernel
theorem dLw_law_128 : decode cLw_law 128 = .ok (.iload 4, 2) := by decide +kernel
theorem dLw_law_130 : decode cLw_law 130 = .ok (.iconst 2, 1) := by decide +kernel
theorem dLw_law_131 : decode cLw_law 131 = .ok (.iadd, 1) := by decide +kernel
theorem dLw_law_132 : decode cLw_law 132 = .ok (.iaload, 1) := by decide +kernel
theorem dLw_law_133 : decode cLw_law 133 = .ok (.invokestatic 57, 3) := by decide +kernel
theorem dLw_law_136 : decode cLw_law 136 = .ok (.istore 5, 2) := by decide +kernel
theorem dLw_law_138 : decode cLw_law 138 = .ok (.aload_n 2, 1) := by decide +kernel
theorem dLw_law_139 : decode cLw_law 139 = .ok (.aload_n 0, 1) := by decide +kernel
theorem dLw_law_140 : decode cLw_law 140 = .ok (.iload 4, 2) := by decide +kernel
theorem dLw_law_142 : decode cLw_law 142 = .ok (.iconst 1, 1) := by decide +kernel
theorem dLw_law_143 : decode cLw_law 143 = .ok (.iadd, 1) := by decide +kernel
theorem dLw_law_144 : decode cLw_law 144 = .ok (.iaload, 1) := by decide +kernel
theorem dLw_law_145 : decode cLw_law 145 = .ok (.aload_n 0, 1) := by decide +kernel
theorem dLw_law_146 : decode cLw_law 146 = .ok (.iload 4, 2) := by decide +kernel
theorem dLw_law_148 : decode cLw_law 148 = .ok (.iconst 2, 1) := by decide +kernel
theorem dLw_law_149 : decode cLw_law 149 = .ok (.iadd, 1) := by decide +kernel
theorem dLw_law_150 : decode cLw_law 150 = .ok (.iaload, 1) := by decide +kernel
theorem dLw_law_151 : decode cLw_law 151 = .ok (.invokevirtual 62, 3) := by decide +kernel
theorem dLw_law_154 : decode cLw_law 154 = .ok (.aload_n 2, 1) := by decide +kernel
theorem dLw_law_155 : decode cLw_law 155 = .ok (.invokevirtual 63, 3) := by decide +kernel
theorem dLw_law_158 : decode cLw_law 158 = .ok (.iload 5, 2) := by decide +kernel
theorem dLw_law_160 : decode cLw_law 160 = .ok (.if_icmp .eq 5, 3) := by decide +kernel
theorem dLw_law_163 : decode cLw_law 163 = .ok (.iconst 0, 1) := by decide +kernel
theorem dLw_law_164 : decode cLw_law 164 = .ok (.ireturn, 1) := by decide +kernel
theorem dLw_law_165 : decode cLw_law 165 = .ok (.goto 837, 3) := by decide +kernel
theorem dLw_law_168 : decode cLw_law 168 = .ok (.aload_n 1, 1) := by decide +kernel
theorem dLw_law_169 : decode cLw_law 169 = .ok (.aload_n 0, 1) := by decide +kernel
theorem dLw_law_170 : decode cLw_law 170 = .ok (.iload 4, 2) := by decide +kernel
theorem dLw_law_172 : decode cLw_law 172 = .ok (.iconst 1, 1) := by decide +kernel
theorem dLw_law_173 : decode cLw_law 173 = .ok (.iadd, 1) := by decide +kernel
theorem dLw_law_174 : decode cLw_law 174 = .ok (.iaload, 1) := by decide +kernel
theorem dLw_law_175 : decode cLw_law 175 = .ok (.aload_n 0, 1) := by decide +kernel
theorem dLw_law_176 : decode cLw_law 176 = .ok (.iload 4, 2) := by decide +kernel
theorem dLw_law_178 : decode cLw_law 178 = .ok (.iconst 2, 1) := by decide +kernel
theorem dLw_law_179 : decode cLw_law 179 = .ok (.iadd, 1) := by decide +kernel
theorem dLw_law_180 : decode cLw_law 180 = .ok (.iaload, 1) := by decide +kernel
theorem dLw_law_181 : decode cLw_law 181 = .ok (.aload_n 3, 1) := by decide +kernel
theorem dLw_law_182 : decode cLw_law 182 = .ok (.invokestatic 67, 3) := by decide +kernel
theorem dLw_law_185 : decode cLw_law 185 = .ok (.istore 5, 2) := by decide +kernel
theorem dLw_law_187 : decode cLw_law 187 = .ok (.aload_n 2, 1) := by decide +kernel
theorem dLw_law_188 : decode cLw_law 188 = .ok (.aload_n 0, 1) := by decide +kernel
theorem dLw_law_189 : decode cLw_law 189 = .ok (.iload 4, 2) := by decide +kernel
theorem dLw_law_191 : decode cLw_law 191 = .ok (.iconst 1, 1) := by decide +kernel
theorem dLw_law_192 : decode cLw_law 192 = .ok (.iadd, 1) := by decide +kernel
theorem dLw_law_193 : decode cLw_law 193 = .ok (.iaload, 1) := by decide +kernel
theorem dLw_law_194 : decode cLw_law 194 = .ok (.aload_n 0, 1) := by decide +kernel
theorem dLw_law_195 : decode cLw_law 195 = .ok (.iload 4, 2) := by decide +kernel
theorem dLw_law_197 : decode cLw_law 197 = .ok (.iconst 2, 1) := by decide +kernel
theorem dLw_law_198 : decode cLw_law 198 = .ok (.iadd, 1) := by decide +kernel
theorem dLw_law_199 : decode cLw_law 199 = .ok (.iaload, 1) := by decide +kernel
theorem dLw_law_200 : decode cLw_law 200 = .ok (.invokevirtual 70, 3) := by decide +kernel
theorem dLw_law_203 : decode cLw_law 203 = .ok (.istore 6, 2) := by decide +kernel
theorem dLw_law_205 : decode cLw_law 205 = .ok (.aload_n 2, 1) := by decide +kernel
theorem dLw_law_206 : decode cLw_law 206 = .ok (.invokevirtual 63, 3) := by decide +kernel
theorem dLw_law_209 : decode cLw_law 209 = .ok (.iload 5, 2) := by decide +kernel
theorem dLw_law_211 : decode cLw_law 211 = .ok (.if_icmp .eq 5, 3) := by decide +kernel
theorem dLw_law_214 : decode cLw_law 214 = .ok (.iconst 0, 1) := by decide +kernel
theorem dLw_law_215 : decode cLw_law 215 = .ok (.ireturn, 1) := by decide +kernel
theorem dLw_law_216 : decode cLw_law 216 = .ok (.iload 5, 2) := by decide +kernel
theorem dLw_law_218 : decode cLw_law 218 = .ok (.ifCond .ne 15, 3) := by decide +kernel
theorem dLw_law_221 : decode cLw_law 221 = .ok (.aload_n 3, 1) := by decide +kernel
theorem dLw_law_222 : decode cLw_law 222 = .ok (.iconst 0, 1) := by decide +kernel
theorem dLw_law_223 : decode cLw_law 223 = .ok (.laload, 1) := by decide +kernel
theorem dLw_law_224 : decode cLw_law 224 = .ok (.iload 6, 2) := by decide +kernel
theorem dLw_law_226 : decode cLw_law 226 = .ok (.i2l, 1) := by decide +kernel
theorem dLw_law_227 : decode cLw_law 227 = .ok (.lcmp, 1) := by decide +kernel
theorem dLw_law_228 : decode cLw_law 228 = .ok (.ifCond .eq 5, 3) := by decide +kernel
theorem dLw_law_231 : decode cLw_law 231 = .ok (.iconst 0, 1) := by decide +kernel
theorem dLw_law_232 : decode cLw_law 232 = .ok (.ireturn, 1) := by decide +kernel
theorem dLw_law_233 : decode cLw_law 233 = .ok (.goto 769, 3) := by decide +kernel
theorem dLw_law_236 : decode cLw_law 236 = .ok (.aload_n 1, 1) := by decide +kernel
theorem dLw_law_237 : decode cLw_law 237 = .ok (.aload_n 0, 1) := by decide +kernel
theorem dLw_law_238 : decode cLw_law 238 = .ok (.iload 4, 2) := by decide +kernel
theorem dLw_law_240 : decode cLw_law 240 = .ok (.iconst 1, 1) := by decide +kernel
theorem dLw_law_241 : decode cLw_law 241 = .ok (.iadd, 1) := by decide +kernel
theorem dLw_law_242 : decode cLw_law 242 = .ok (.iaload, 1) := by decide +kernel
theorem dLw_law_243 : decode cLw_law 243 = .ok (.aload_n 0, 1) := by decide +kernel
theorem dLw_law_244 : decode cLw_law 244 = .ok (.iload 4, 2) := by decide +kernel
theorem dLw_law_246 : decode cLw_law 246 = .ok (.iconst 2, 1) := by decide +kernel
theorem dLw_law_247 : decode cLw_law 247 = .ok (.iadd, 1) := by decide +kernel
theorem dLw_law_248 : decode cLw_law 248 = .ok (.iaload, 1) := by decide +kernel
theorem dLw_law_249 : decode cLw_law 249 = .ok (.aload_n 0, 1) := by decide +kernel
theorem dLw_law_250 : decode cLw_law 250 = .ok (.iload 4, 2) := by decide +kernel
theorem dLw_law_252 : decode cLw_law 252 = .ok (.iconst 3, 1) := by decide +kernel
theorem dLw_law_253 : decode cLw_law 253 = .ok (.iadd, 1) := by decide +kernel
theorem dLw_law_254 : decode cLw_law 254 = .ok (.iaload, 1) := by decide +kernel
theorem dLw_law_255 : decode cLw_law 255 = .ok (.aload_n 0, 1) := by decide +kernel
theorem dLw_law_256 : decode cLw_law 256 = .ok (.iload 4, 2) := by decide +kernel
theorem dLw_law_258 : decode cLw_law 258 = .ok (.iconst 4, 1) := by decide +kernel
theorem dLw_law_259 : decode cLw_law 259 = .ok (.iadd, 1) := by decide +kernel
theorem dLw_law_260 : decode cLw_law 260 = .ok (.iaload, 1) := by decide +kernel
theorem dLw_law_261 : decode cLw_law 261 = .ok (.ifCond .eq 7, 3) := by decide +kernel
theorem dLw_law_264 : decode cLw_law 264 = .ok (.iconst 1, 1) := by decide +kernel
theorem dLw_law_265 : decode cLw_law 265 = .ok (.goto 4, 3) := by decide +kernel
theorem dLw_law_268 : decode cLw_law 268 = .ok (.iconst 0, 1) := by decide +kernel
theorem dLw_law_269 : decode cLw_law 269 = .ok (.aload_n 3, 1) := by decide +kernel
theorem dLw_law_270 : decode cLw_law 270 = .ok (.invokestatic 71, 3) := by decide +kernel
theorem dLw_law_273 : decode cLw_law 273 = .ok (.istore 5, 2) := by decide +kernel
theorem dLw_law_275 : decode cLw_law 275 = .ok (.aload_n 2, 1) := by decide +kernel
theorem dLw_law_276 : decode cLw_law 276 = .ok (.aload_n 0, 1) := by decide +kernel
theorem dLw_law_277 : decode cLw_law 277 = .ok (.iload 4, 2) := by decide +kernel
theorem dLw_law_279 : decode cLw_law 279 = .ok (.iconst 1, 1) := by decide +kernel
theorem dLw_law_280 : decode cLw_law 280 = .ok (.iadd, 1) := by decide +kernel
theorem dLw_law_281 : decode cLw_law 281 = .ok (.iaload, 1) := by decide +kernel
theorem dLw_law_282 : decode cLw_law 282 = .ok (.aload_n 0, 1) := by decide +kernel
theorem dLw_law_283 : decode cLw_law 283 = .ok (.iload 4, 2) := by decide +kernel
theorem dLw_law_285 : decode cLw_law 285 = .ok (.iconst 2, 1) := by decide +kernel
theorem dLw_law_286 : decode cLw_law 286 = .ok (.iadd, 1) := by decide +kernel
theorem dLw_law_287 : decode cLw_law 287 = .ok (.iaload, 1) := by decide +kernel
theorem dLw_law_288 : decode cLw_law 288 = .ok (.aload_n 0, 1) := by decide +kernel
theorem dLw_law_289 : decode cLw_law 289 = .ok (.iload 4, 2) := by decide +kernel
theorem dLw_law_291 : decode cLw_law 291 = .ok (.iconst 3, 1) := by decide +kernel
theorem dLw_law_292 : decode cLw_law 292 = .ok (.iadd, 1) := by decide +kernel
theorem dLw_law_293 : decode cLw_law 293 = .ok (.iaload, 1) := by decide +kernel
theorem dLw_law_294 : decode cLw_law 294 = .ok (.aload_n 0, 1) := by decide +kernel
theorem dLw_law_295 : decode cLw_law 295 = .ok (.iload 4, 2) := by decide +kernel
theorem dLw_law_297 : decode cLw_law 297 = .ok (.iconst 4, 1) := by decide +kernel
theorem dLw_law_298 : decode cLw_law 298 = .ok (.iadd, 1) := by decide +kernel
theorem dLw_law_299 : decode cLw_law 299 = .ok (.iaload, 1) := by decide +kernel
theorem dLw_law_300 : decode cLw_law 300 = .ok (.ifCond .eq 7, 3) := by decide +kernel
theorem dLw_law_303 : decode cLw_law 303 = .ok (.iconst 1, 1) := by decide +kernel
theorem dLw_law_304 : decode cLw_law 304 = .ok (.goto 4, 3) := by decide +kernel
theorem dLw_law_307 : decode cLw_law 307 = .ok (.iconst 0, 1) := by decide +kernel
theorem dLw_law_308 : decode cLw_law 308 = .ok (.invokevirtual 74, 3) := by decide +kernel
theorem dLw_law_311 : decode cLw_law 311 = .ok (.istore 6, 2) := by decide +kernel
theorem dLw_law_313 : decode cLw_law 313 = .ok (.aload_n 2, 1) := by decide +kernel
theorem dLw_law_314 : decode cLw_law 314 = .ok (.invokevirtual 63, 3) := by decide +kernel
theorem dLw_law_317 : decode cLw_law 317 = .ok (.iload 5, 2) := by decide +kernel
theorem dLw_law_319 : decode cLw_law 319 = .ok (.if_icmp .eq 5, 3) := by decide +kernel
theorem dLw_law_322 : decode cLw_law 322 = .ok (.iconst 0, 1) := by decide +kernel
theorem dLw_law_323 : decode cLw_law 323 = .ok (.ireturn, 1) := by decide +kernel
theorem dLw_law_324 : decode cLw_law 324 = .ok (.iload 5, 2) := by decide +kernel
theorem dLw_law_326 : decode cLw_law 326 = .ok (.ifCond .ne 15, 3) := by decide +kernel
theorem dLw_law_329 : decode cLw_law 329 = .ok (.aload_n 3, 1) := by decide +kernel
theorem dLw_law_330 : decode cLw_law 330 = .ok (.iconst 0, 1) := by decide +kernel
theorem dLw_law_331 : decode cLw_law 331 = .ok (.laload, 1) := by decide +kernel
theorem dLw_law_332 : decode cLw_law 332 = .ok (.iload 6, 2) := by decide +kernel
theorem dLw_law_334 : decode cLw_law 334 = .ok (.i2l, 1) := by decide +kernel
theorem dLw_law_335 : decode cLw_law 335 = .ok (.lcmp, 1) := by decide +kernel
theorem dLw_law_336 : decode cLw_law 336 = .ok (.ifCond .eq 5, 3) := by decide +kernel
theorem dLw_law_339 : decode cLw_law 339 = .ok (.iconst 0, 1) := by decide +kernel
theorem dLw_law_340 : decode cLw_law 340 = .ok (.ireturn, 1) := by decide +kernel
theorem dLw_law_341 : decode cLw_law 341 = .ok (.goto 661, 3) := by decide +kernel
theorem dLw_law_344 : decode cLw_law 344 = .ok (.aload_n 1, 1) := by decide +kernel
theorem dLw_law_345 : decode cLw_law 345 = .ok (.aload_n 0, 1) := by decide +kernel
theorem dLw_law_346 : decode cLw_law 346 = .ok (.iload 4, 2) := by decide +kernel
theorem dLw_law_348 : decode cLw_law 348 = .ok (.iconst 1, 1) := by decide +kernel
theorem dLw_law_349 : decode cLw_law 349 = .ok (.iadd, 1) := by decide +kernel
theorem dLw_law_350 : decode cLw_law 350 = .ok (.iaload, 1) := by decide +kernel
theorem dLw_law_351 : decode cLw_law 351 = .ok (.aload_n 0, 1) := by decide +kernel
theorem dLw_law_352 : decode cLw_law 352 = .ok (.iload 4, 2) := by decide +kernel
theorem dLw_law_354 : decode cLw_law 354 = .ok (.iconst 2, 1) := by decide +kernel
theorem dLw_law_355 : decode cLw_law 355 = .ok (.iadd, 1) := by decide +kernel
theorem dLw_law_356 : decode cLw_law 356 = .ok (.iaload, 1) := by decide +kernel
theorem dLw_law_357 : decode cLw_law 357 = .ok (.aload_n 0, 1) := by decide +kernel
theorem dLw_law_358 : decode cLw_law 358 = .ok (.iload 4, 2) := by decide +kernel
theorem dLw_law_360 : decode cLw_law 360 = .ok (.iconst 3, 1) := by decide +kernel
theorem dLw_law_361 : decode cLw_law 361 = .ok (.iadd, 1) := by decide +kernel
theorem dLw_law_362 : decode cLw_law 362 = .ok (.iaload, 1) := by decide +kernel
theorem dLw_law_363 : decode cLw_law 363 = .ok (.aload_n 0, 1) := by decide +kernel
theorem dLw_law_364 : decode cLw_law 364 = .ok (.iload 4, 2) := by decide +kernel
theorem dLw_law_366 : decode cLw_law 366 = .ok (.iconst 4, 1) := by decide +kernel
theorem dLw_law_367 : decode cLw_law 367 = .ok (.iadd, 1) := by decide +kernel
theorem dLw_law_368 : decode cLw_law 368 = .ok (.iaload, 1) := by decide +kernel
theorem dLw_law_369 : decode cLw_law 369 = .ok (.aload_n 0, 1) := by decide +kernel
theorem dLw_law_370 : decode cLw_law 370 = .ok (.iload 4, 2) := by decide +kernel
theorem dLw_law_372 : decode cLw_law 372 = .ok (.iconst 5, 1) := by decide +kernel
theorem dLw_law_373 : decode cLw_law 373 = .ok (.iadd, 1) := by decide +kernel
theorem dLw_law_374 : decode cLw_law 374 = .ok (.iaload, 1) := by decide +kernel
theorem dLw_law_375 : decode cLw_law 375 = .ok (.aload_n 3, 1) := by decide +kernel
theorem dLw_law_376 : decode cLw_law 376 = .ok (.invokestatic 75, 3) := by decide +kernel
theorem dLw_law_379 : decode cLw_law 379 = .ok (.istore 5, 2) := by decide +kernel
theorem dLw_law_381 : decode cLw_law 381 = .ok (.aload_n 2, 1) := by decide +kernel
theorem dLw_law_382 : decode cLw_law 382 = .ok (.aload_n 0, 1) := by decide +kernel
theorem dLw_law_383 : decode cLw_law 383 = .ok (.iload 4, 2) := by decide +kernel
theorem dLw_law_385 : decode cLw_law 385 = .ok (.iconst 1, 1) := by decide +kernel
theorem dLw_law_386 : decode cLw_law 386 = .ok (.iadd, 1) := by decide +kernel
theorem dLw_law_387 : decode cLw_law 387 = .ok (.iaload, 1) := by decide +kernel
theorem dLw_law_388 : decode cLw_law 388 = .ok (.aload_n 0, 1) := by decide +kernel
theorem dLw_law_389 : decode cLw_law 389 = .ok (.iload 4, 2) := by decide +kernel
theorem dLw_law_391 : decode cLw_law 391 = .ok (.iconst 2, 1) := by decide +kernel
theorem dLw_law_392 : decode cLw_law 392 = .ok (.iadd, 1) := by decide +kernel
theorem dLw_law_393 : decode cLw_law 393 = .ok (.iaload, 1) := by decide +kernel
theorem dLw_law_394 : decode cLw_law 394 = .ok (.aload_n 0, 1) := by decide +kernel
theorem dLw_law_395 : decode cLw_law 395 = .ok (.iload 4, 2) := by decide +kernel
theorem dLw_law_397 : decode cLw_law 397 = .ok (.iconst 3, 1) := by decide +kernel
theorem dLw_law_398 : decode cLw_law 398 = .ok (.iadd, 1) := by decide +kernel
theorem dLw_law_399 : decode cLw_law 399 = .ok (.iaload, 1) := by decide +kernel
theorem dLw_law_400 : decode cLw_law 400 = .ok (.aload_n 0, 1) := by decide +kernel
theorem dLw_law_401 : decode cLw_law 401 = .ok (.iload 4, 2) := by decide +kernel
theorem dLw_law_403 : decode cLw_law 403 = .ok (.iconst 4, 1) := by decide +kernel
theorem dLw_law_404 : decode cLw_law 404 = .ok (.iadd, 1) := by decide +kernel
theorem dLw_law_405 : decode cLw_law 405 = .ok (.iaload, 1) := by decide +kernel
theorem dLw_law_406 : decode cLw_law 406 = .ok (.aload_n 0, 1) := by decide +kernel
theorem dLw_law_407 : decode cLw_law 407 = .ok (.iload 4, 2) := by decide +kernel
theorem dLw_law_409 : decode cLw_law 409 = .ok (.iconst 5, 1) := by decide +kernel
theorem dLw_law_410 : decode cLw_law 410 = .ok (.iadd, 1) := by decide +kernel
theorem dLw_law_411 : decode cLw_law 411 = .ok (.iaload, 1) := by decide +kernel
theorem dLw_law_412 : decode cLw_law 412 = .ok (.invokevirtual 78, 3) := by decide +kernel
theorem dLw_law_415 : decode cLw_law 415 = .ok (.istore 6, 2) := by decide +kernel
theorem dLw_law_417 : decode cLw_law 417 = .ok (.aload_n 2, 1) := by decide +kernel
theorem dLw_law_418 : decode cLw_law 418 = .ok (.invokevirtual 63, 3) := by decide +kernel
theorem dLw_law_421 : decode cLw_law 421 = .ok (.iload 5, 2) := by decide +kernel
theorem dLw_law_423 : decode cLw_law 423 = .ok (.if_icmp .eq 5, 3) := by decide +kernel
theorem dLw_law_426 : decode cLw_law 426 = .ok (.iconst 0, 1) := by decide +kernel
theorem dLw_law_427 : decode cLw_law 427 = .ok (.ireturn, 1) := by decide +kernel
theorem dLw_law_428 : decode cLw_law 428 = .ok (.iload 5, 2) := by decide +kernel
theorem dLw_law_430 : decode cLw_law 430 = .ok (.ifCond .ne 15, 3) := by decide +kernel
theorem dLw_law_433 : decode cLw_law 433 = .ok (.aload_n 3, 1) := by decide +kernel
theorem dLw_law_434 : decode cLw_law 434 = .ok (.iconst 0, 1) := by decide +kernel
theorem dLw_law_435 : decode cLw_law 435 = .ok (.laload, 1) := by decide +kernel
theorem dLw_law_436 : decode cLw_law 436 = .ok (.iload 6, 2) := by decide +kernel
theorem dLw_law_438 : decode cLw_law 438 = .ok (.i2l, 1) := by decide +kernel
theorem dLw_law_439 : decode cLw_law 439 = .ok (.lcmp, 1) := by decide +kernel
theorem dLw_law_440 : decode cLw_law 440 = .ok (.ifCond .eq 5, 3) := by decide +kernel
theorem dLw_law_443 : decode cLw_law 443 = .ok (.iconst 0, 1) := by decide +kernel
theorem dLw_law_444 : decode cLw_law 444 = .ok (.ireturn, 1) := by decide +kernel
theorem dLw_law_445 : decode cLw_law 445 = .ok (.goto 557, 3) := by decide +kernel
theorem dLw_law_448 : decode cLw_law 448 = .ok (.aload_n 1, 1) := by decide +kernel
theorem dLw_law_449 : decode cLw_law 449 = .ok (.aload_n 0, 1) := by decide +kernel
theorem dLw_law_450 : decode cLw_law 450 = .ok (.iload 4, 2) := by decide +kernel
theorem dLw_law_452 : decode cLw_law 452 = .ok (.iconst 1, 1) := by decide +kernel
theorem dLw_law_453 : decode cLw_law 453 = .ok (.iadd, 1) := by decide +kernel
theorem dLw_law_454 : decode cLw_law 454 = .ok (.iaload, 1) := by decide +kernel
theorem dLw_law_455 : decode cLw_law 455 = .ok (.aload_n 0, 1) := by decide +kernel
theorem dLw_law_456 : decode cLw_law 456 = .ok (.iload 4, 2) := by decide +kernel
theorem dLw_law_458 : decode cLw_law 458 = .ok (.iconst 2, 1) := by decide +kernel
theorem dLw_law_459 : decode cLw_law 459 = .ok (.iadd, 1) := by decide +kernel
theorem dLw_law_460 : decode cLw_law 460 = .ok (.iaload, 1) := by decide +kernel
theorem dLw_law_461 : decode cLw_law 461 = .ok (.ifCond .eq 7, 3) := by decide +kernel
theorem dLw_law_464 : decode cLw_law 464 = .ok (.iconst 1, 1) := by decide +kernel
theorem dLw_law_465 : decode cLw_law 465 = .ok (.goto 4, 3) := by decide +kernel
theorem dLw_law_468 : decode cLw_law 468 = .ok (.iconst 0, 1) := by decide +kernel
theorem dLw_law_469 : decode cLw_law 469 = .ok (.aload_n 0, 1) := by decide +kernel
theorem dLw_law_470 : decode cLw_law 470 = .ok (.iload 4, 2) := by decide +kernel
theorem dLw_law_472 : decode cLw_law 472 = .ok (.iconst 3, 1) := by decide +kernel
theorem dLw_law_473 : decode cLw_law 473 = .ok (.iadd, 1) := by decide +kernel
theorem dLw_law_474 : decode cLw_law 474 = .ok (.iaload, 1) := by decide +kernel
theorem dLw_law_475 : decode cLw_law 475 = .ok (.ifCond .eq 7, 3) := by decide +kernel
theorem dLw_law_478 : decode cLw_law 478 = .ok (.iconst 1, 1) := by decide +kernel
theorem dLw_law_479 : decode cLw_law 479 = .ok (.goto 4, 3) := by decide +kernel
theorem dLw_law_482 : decode cLw_law 482 = .ok (.iconst 0, 1) := by decide +kernel
theorem dLw_law_483 : decode cLw_law 483 = .ok (.aload_n 3, 1) := by decide +kernel
theorem dLw_law_484 : decode cLw_law 484 = .ok (.invokestatic 79, 3) := by decide +kernel
theorem dLw_law_487 : decode cLw_law 487 = .ok (.istore 5, 2) := by decide +kernel
theorem dLw_law_489 : decode cLw_law 489 = .ok (.aload_n 2, 1) := by decide +kernel
theorem dLw_law_490 : decode cLw_law 490 = .ok (.aload_n 0, 1) := by decide +kernel
theorem dLw_law_491 : decode cLw_law 491 = .ok (.iload 4, 2) := by decide +kernel
theorem dLw_law_493 : decode cLw_law 493 = .ok (.iconst 1, 1) := by decide +kernel
theorem dLw_law_494 : decode cLw_law 494 = .ok (.iadd, 1) := by decide +kernel
theorem dLw_law_495 : decode cLw_law 495 = .ok (.iaload, 1) := by decide +kernel
theorem dLw_law_496 : decode cLw_law 496 = .ok (.aload_n 0, 1) := by decide +kernel
theorem dLw_law_497 : decode cLw_law 497 = .ok (.iload 4, 2) := by decide +kernel
theorem dLw_law_499 : decode cLw_law 499 = .ok (.iconst 2, 1) := by decide +kernel
theorem dLw_law_500 : decode cLw_law 500 = .ok (.iadd, 1) := by decide +kernel
theorem dLw_law_501 : decode cLw_law 501 = .ok (.iaload, 1) := by decide +kernel
theorem dLw_law_502 : decode cLw_law 502 = .ok (.ifCond .eq 7, 3) := by decide +kernel
theorem dLw_law_505 : decode cLw_law 505 = .ok (.iconst 1, 1) := by decide +kernel
theorem dLw_law_506 : decode cLw_law 506 = .ok (.goto 4, 3) := by decide +kernel
theorem dLw_law_509 : decode cLw_law 509 = .ok (.iconst 0, 1) := by decide +kernel
theorem dLw_law_510 : decode cLw_law 510 = .ok (.aload_n 0, 1) := by decide +kernel
theorem dLw_law_511 : decode cLw_law 511 = .ok (.iload 4, 2) := by decide +kernel
theorem dLw_law_513 : decode cLw_law 513 = .ok (.iconst 3, 1) := by decide +kernel
theorem dLw_law_514 : decode cLw_law 514 = .ok (.iadd, 1) := by decide +kernel
theorem dLw_law_515 : decode cLw_law 515 = .ok (.iaload, 1) := by decide +kernel
theorem dLw_law_516 : decode cLw_law 516 = .ok (.ifCond .eq 7, 3) := by decide +kernel
theorem dLw_law_519 : decode cLw_law 519 = .ok (.iconst 1, 1) := by decide +kernel
theorem dLw_law_520 : decode cLw_law 520 = .ok (.goto 4, 3) := by decide +kernel
theorem dLw_law_523 : decode cLw_law 523 = .ok (.iconst 0, 1) := by decide +kernel
theorem dLw_law_524 : decode cLw_law 524 = .ok (.invokevirtual 82, 3) := by decide +kernel
theorem dLw_law_527 : decode cLw_law 527 = .ok (.istore 6, 2) := by decide +kernel
theorem dLw_law_529 : decode cLw_law 529 = .ok (.aload_n 2, 1) := by decide +kernel
theorem dLw_law_530 : decode cLw_law 530 = .ok (.invokevirtual 63, 3) := by decide +kernel
theorem dLw_law_533 : decode cLw_law 533 = .ok (.iload 5, 2) := by decide +kernel
theorem dLw_law_535 : decode cLw_law 535 = .ok (.if_icmp .eq 5, 3) := by decide +kernel
theorem dLw_law_538 : decode cLw_law 538 = .ok (.iconst 0, 1) := by decide +kernel
theorem dLw_law_539 : decode cLw_law 539 = .ok (.ireturn, 1) := by decide +kernel
theorem dLw_law_540 : decode cLw_law 540 = .ok (.iload 5, 2) := by decide +kernel
theorem dLw_law_542 : decode cLw_law 542 = .ok (.ifCond .ne 15, 3) := by decide +kernel
theorem dLw_law_545 : decode cLw_law 545 = .ok (.aload_n 3, 1) := by decide +kernel
theorem dLw_law_546 : decode cLw_law 546 = .ok (.iconst 0, 1) := by decide +kernel
theorem dLw_law_547 : decode cLw_law 547 = .ok (.laload, 1) := by decide +kernel
theorem dLw_law_548 : decode cLw_law 548 = .ok (.iload 6, 2) := by decide +kernel
theorem dLw_law_550 : decode cLw_law 550 = .ok (.i2l, 1) := by decide +kernel
theorem dLw_law_551 : decode cLw_law 551 = .ok (.lcmp, 1) := by decide +kernel
theorem dLw_law_552 : decode cLw_law 552 = .ok (.ifCond .eq 5, 3) := by decide +kernel
theorem dLw_law_555 : decode cLw_law 555 = .ok (.iconst 0, 1) := by decide +kernel
theorem dLw_law_556 : decode cLw_law 556 = .ok (.ireturn, 1) := by decide +kernel
theorem dLw_law_557 : decode cLw_law 557 = .ok (.goto 445, 3) := by decide +kernel
theorem dLw_law_560 : decode cLw_law 560 = .ok (.aload_n 1, 1) := by decide +kernel
theorem dLw_law_561 : decode cLw_law 561 = .ok (.aload_n 0, 1) := by decide +kernel
theorem dLw_law_562 : decode cLw_law 562 = .ok (.iload 4, 2) := by decide +kernel
theorem dLw_law_564 : decode cLw_law 564 = .ok (.iconst 1, 1) := by decide +kernel
theorem dLw_law_565 : decode cLw_law 565 = .ok (.iadd, 1) := by decide +kernel
theorem dLw_law_566 : decode cLw_law 566 = .ok (.iaload, 1) := by decide +kernel
theorem dLw_law_567 : decode cLw_law 567 = .ok (.aload_n 3, 1) := by decide +kernel
theorem dLw_law_568 : decode cLw_law 568 = .ok (.invokestatic 83, 3) := by decide +kernel
theorem dLw_law_571 : decode cLw_law 571 = .ok (.istore 5, 2) := by decide +kernel
theorem dLw_law_573 : decode cLw_law 573 = .ok (.aload_n 2, 1) := by decide +kernel
theorem dLw_law_574 : decode cLw_law 574 = .ok (.aload_n 0, 1) := by decide +kernel
theorem dLw_law_575 : decode cLw_law 575 = .ok (.iload 4, 2) := by decide +kernel
theorem dLw_law_577 : decode cLw_law 577 = .ok (.iconst 1, 1) := by decide +kernel
theorem dLw_law_578 : decode cLw_law 578 = .ok (.iadd, 1) := by decide +kernel
theorem dLw_law_579 : decode cLw_law 579 = .ok (.iaload, 1) := by decide +kernel
theorem dLw_law_580 : decode cLw_law 580 = .ok (.invokevirtual 86, 3) := by decide +kernel
theorem dLw_law_583 : decode cLw_law 583 = .ok (.istore 6, 2) := by decide +kernel
theorem dLw_law_585 : decode cLw_law 585 = .ok (.aload_n 2, 1) := by decide +kernel
theorem dLw_law_586 : decode cLw_law 586 = .ok (.invokevirtual 63, 3) := by decide +kernel
theorem dLw_law_589 : decode cLw_law 589 = .ok (.iload 5, 2) := by decide +kernel
theorem dLw_law_591 : decode cLw_law 591 = .ok (.if_icmp .eq 5, 3) := by decide +kernel
theorem dLw_law_594 : decode cLw_law 594 = .ok (.iconst 0, 1) := by decide +kernel
theorem dLw_law_595 : decode cLw_law 595 = .ok (.ireturn, 1) := by decide +kernel
theorem dLw_law_596 : decode cLw_law 596 = .ok (.iload 5, 2) := by decide +kernel
theorem dLw_law_598 : decode cLw_law 598 = .ok (.ifCond .ne 15, 3) := by decide +kernel
theorem dLw_law_601 : decode cLw_law 601 = .ok (.aload_n 3, 1) := by decide +kernel
theorem dLw_law_602 : decode cLw_law 602 = .ok (.iconst 0, 1) := by decide +kernel
theorem dLw_law_603 : decode cLw_law 603 = .ok (.laload, 1) := by decide +kernel
theorem dLw_law_604 : decode cLw_law 604 = .ok (.iload 6, 2) := by decide +kernel
theorem dLw_law_606 : decode cLw_law 606 = .ok (.i2l, 1) := by decide +kernel
theorem dLw_law_607 : decode cLw_law 607 = .ok (.lcmp, 1) := by decide +kernel
theorem dLw_law_608 : decode cLw_law 608 = .ok (.ifCond .eq 5, 3) := by decide +kernel
theorem dLw_law_611 : decode cLw_law 611 = .ok (.iconst 0, 1) := by decide +kernel
theorem dLw_law_612 : decode cLw_law 612 = .ok (.ireturn, 1) := by decide +kernel
theorem dLw_law_613 : decode cLw_law 613 = .ok (.goto 389, 3) := by decide +kernel
theorem dLw_law_616 : decode cLw_law 616 = .ok (.aload_n 1, 1) := by decide +kernel
theorem dLw_law_617 : decode cLw_law 617 = .ok (.aload_n 0, 1) := by decide +kernel
theorem dLw_law_618 : decode cLw_law 618 = .ok (.iload 4, 2) := by decide +kernel
theorem dLw_law_620 : decode cLw_law 620 = .ok (.iconst 1, 1) := by decide +kernel
theorem dLw_law_621 : decode cLw_law 621 = .ok (.iadd, 1) := by decide +kernel
theorem dLw_law_622 : decode cLw_law 622 = .ok (.iaload, 1) := by decide +kernel
theorem dLw_law_623 : decode cLw_law 623 = .ok (.aload_n 0, 1) := by decide +kernel
theorem dLw_law_624 : decode cLw_law 624 = .ok (.iload 4, 2) := by decide +kernel
theorem dLw_law_626 : decode cLw_law 626 = .ok (.iconst 2, 1) := by decide +kernel
theorem dLw_law_627 : decode cLw_law 627 = .ok (.iadd, 1) := by decide +kernel
theorem dLw_law_628 : decode cLw_law 628 = .ok (.iaload, 1) := by decide +kernel
theorem dLw_law_629 : decode cLw_law 629 = .ok (.aload_n 3, 1) := by decide +kernel
theorem dLw_law_630 : decode cLw_law 630 = .ok (.invokestatic 87, 3) := by decide +kernel
theorem dLw_law_633 : decode cLw_law 633 = .ok (.istore 5, 2) := by decide +kernel
theorem dLw_law_635 : decode cLw_law 635 = .ok (.aload_n 2, 1) := by decide +kernel
theorem dLw_law_636 : decode cLw_law 636 = .ok (.aload_n 0, 1) := by decide +kernel
theorem dLw_law_637 : decode cLw_law 637 = .ok (.iload 4, 2) := by decide +kernel
theorem dLw_law_639 : decode cLw_law 639 = .ok (.iconst 1, 1) := by decide +kernel
theorem dLw_law_640 : decode cLw_law 640 = .ok (.iadd, 1) := by decide +kernel
theorem dLw_law_641 : decode cLw_law 641 = .ok (.iaload, 1) := by decide +kernel
theorem dLw_law_642 : decode cLw_law 642 = .ok (.aload_n 0, 1) := by decide +kernel
theorem dLw_law_643 : decode cLw_law 643 = .ok (.iload 4, 2) := by decide +kernel
theorem dLw_law_645 : decode cLw_law 645 = .ok (.iconst 2, 1) := by decide +kernel
theorem dLw_law_646 : decode cLw_law 646 = .ok (.iadd, 1) := by decide +kernel
theorem dLw_law_647 : decode cLw_law 647 = .ok (.iaload, 1) := by decide +kernel
theorem dLw_law_648 : decode cLw_law 648 = .ok (.invokevirtual 89, 3) := by decide +kernel
theorem dLw_law_651 : decode cLw_law 651 = .ok (.istore 6, 2) := by decide +kernel
theorem dLw_law_653 : decode cLw_law 653 = .ok (.aload_n 2, 1) := by decide +kernel
theorem dLw_law_654 : decode cLw_law 654 = .ok (.invokevirtual 63, 3) := by decide +kernel
theorem dLw_law_657 : decode cLw_law 657 = .ok (.iload 5, 2) := by decide +kernel
theorem dLw_law_659 : decode cLw_law 659 = .ok (.if_icmp .eq 5, 3) := by decide +kernel
theorem dLw_law_662 : decode cLw_law 662 = .ok (.iconst 0, 1) := by decide +kernel
theorem dLw_law_663 : decode cLw_law 663 = .ok (.ireturn, 1) := by decide +kernel
theorem dLw_law_664 : decode cLw_law 664 = .ok (.iload 5, 2) := by decide +kernel
theorem dLw_law_666 : decode cLw_law 666 = .ok (.ifCond .ne 15, 3) := by decide +kernel
theorem dLw_law_669 : decode cLw_law 669 = .ok (.aload_n 3, 1) := by decide +kernel
theorem dLw_law_670 : decode cLw_law 670 = .ok (.iconst 0, 1) := by decide +kernel
theorem dLw_law_671 : decode cLw_law 671 = .ok (.laload, 1) := by decide +kernel
theorem dLw_law_672 : decode cLw_law 672 = .ok (.iload 6, 2) := by decide +kernel
theorem dLw_law_674 : decode cLw_law 674 = .ok (.i2l, 1) := by decide +kernel
theorem dLw_law_675 : decode cLw_law 675 = .ok (.lcmp, 1) := by decide +kernel
theorem dLw_law_676 : decode cLw_law 676 = .ok (.ifCond .eq 5, 3) := by decide +kernel
theorem dLw_law_679 : decode cLw_law 679 = .ok (.iconst 0, 1) := by decide +kernel
theorem dLw_law_680 : decode cLw_law 680 = .ok (.ireturn, 1) := by decide +kernel
theorem dLw_law_681 : decode cLw_law 681 = .ok (.goto 321, 3) := by decide +kernel
theorem dLw_law_684 : decode cLw_law 684 = .ok (.aload_n 1, 1) := by decide +kernel
theorem dLw_law_685 : decode cLw_law 685 = .ok (.aload_n 0, 1) := by decide +kernel
theorem dLw_law_686 : decode cLw_law 686 = .ok (.iload 4, 2) := by decide +kernel
theorem dLw_law_688 : decode cLw_law 688 = .ok (.iconst 1, 1) := by decide +kernel
theorem dLw_law_689 : decode cLw_law 689 = .ok (.iadd, 1) := by decide +kernel
theorem dLw_law_690 : decode cLw_law 690 = .ok (.iaload, 1) := by decide +kernel
theorem dLw_law_691 : decode cLw_law 691 = .ok (.aload_n 0, 1) := by decide +kernel
theorem dLw_law_692 : decode cLw_law 692 = .ok (.iload 4, 2) := by decide +kernel
theorem dLw_law_694 : decode cLw_law 694 = .ok (.iconst 2, 1) := by decide +kernel
theorem dLw_law_695 : decode cLw_law 695 = .ok (.iadd, 1) := by decide +kernel
theorem dLw_law_696 : decode cLw_law 696 = .ok (.iaload, 1) := by decide +kernel
theorem dLw_law_697 : decode cLw_law 697 = .ok (.aload_n 3, 1) := by decide +kernel
theorem dLw_law_698 : decode cLw_law 698 = .ok (.invokestatic 90, 3) := by decide +kernel
theorem dLw_law_701 : decode cLw_law 701 = .ok (.istore 5, 2) := by decide +kernel
theorem dLw_law_703 : decode cLw_law 703 = .ok (.aload_n 2, 1) := by decide +kernel
theorem dLw_law_704 : decode cLw_law 704 = .ok (.aload_n 0, 1) := by decide +kernel
theorem dLw_law_705 : decode cLw_law 705 = .ok (.iload 4, 2) := by decide +kernel
theorem dLw_law_707 : decode cLw_law 707 = .ok (.iconst 1, 1) := by decide +kernel
theorem dLw_law_708 : decode cLw_law 708 = .ok (.iadd, 1) := by decide +kernel
theorem dLw_law_709 : decode cLw_law 709 = .ok (.iaload, 1) := by decide +kernel
theorem dLw_law_710 : decode cLw_law 710 = .ok (.aload_n 0, 1) := by decide +kernel
theorem dLw_law_711 : decode cLw_law 711 = .ok (.iload 4, 2) := by decide +kernel
theorem dLw_law_713 : decode cLw_law 713 = .ok (.iconst 2, 1) := by decide +kernel
theorem dLw_law_714 : decode cLw_law 714 = .ok (.iadd, 1) := by decide +kernel
theorem dLw_law_715 : decode cLw_law 715 = .ok (.iaload, 1) := by decide +kernel
theorem dLw_law_716 : decode cLw_law 716 = .ok (.invokevirtual 92, 3) := by decide +kernel
theorem dLw_law_719 : decode cLw_law 719 = .ok (.istore 6, 2) := by decide +kernel
theorem dLw_law_721 : decode cLw_law 721 = .ok (.aload_n 2, 1) := by decide +kernel
theorem dLw_law_722 : decode cLw_law 722 = .ok (.invokevirtual 63, 3) := by decide +kernel
theorem dLw_law_725 : decode cLw_law 725 = .ok (.iload 5, 2) := by decide +kernel
theorem dLw_law_727 : decode cLw_law 727 = .ok (.if_icmp .eq 5, 3) := by decide +kernel
theorem dLw_law_730 : decode cLw_law 730 = .ok (.iconst 0, 1) := by decide +kernel
theorem dLw_law_731 : decode cLw_law 731 = .ok (.ireturn, 1) := by decide +kernel
theorem dLw_law_732 : decode cLw_law 732 = .ok (.iload 5, 2) := by decide +kernel
theorem dLw_law_734 : decode cLw_law 734 = .ok (.ifCond .ne 15, 3) := by decide +kernel
theorem dLw_law_737 : decode cLw_law 737 = .ok (.aload_n 3, 1) := by decide +kernel
theorem dLw_law_738 : decode cLw_law 738 = .ok (.iconst 0, 1) := by decide +kernel
theorem dLw_law_739 : decode cLw_law 739 = .ok (.laload, 1) := by decide +kernel
theorem dLw_law_740 : decode cLw_law 740 = .ok (.iload 6, 2) := by decide +kernel
theorem dLw_law_742 : decode cLw_law 742 = .ok (.i2l, 1) := by decide +kernel
theorem dLw_law_743 : decode cLw_law 743 = .ok (.lcmp, 1) := by decide +kernel
theorem dLw_law_744 : decode cLw_law 744 = .ok (.ifCond .eq 5, 3) := by decide +kernel
theorem dLw_law_747 : decode cLw_law 747 = .ok (.iconst 0, 1) := by decide +kernel
theorem dLw_law_748 : decode cLw_law 748 = .ok (.ireturn, 1) := by decide +kernel
theorem dLw_law_749 : decode cLw_law 749 = .ok (.goto 253, 3) := by decide +kernel
theorem dLw_law_752 : decode cLw_law 752 = .ok (.aload_n 1, 1) := by decide +kernel
theorem dLw_law_753 : decode cLw_law 753 = .ok (.aload_n 0, 1) := by decide +kernel
theorem dLw_law_754 : decode cLw_law 754 = .ok (.iload 4, 2) := by decide +kernel
theorem dLw_law_756 : decode cLw_law 756 = .ok (.iconst 1, 1) := by decide +kernel
theorem dLw_law_757 : decode cLw_law 757 = .ok (.iadd, 1) := by decide +kernel
theorem dLw_law_758 : decode cLw_law 758 = .ok (.iaload, 1) := by decide +kernel
theorem dLw_law_759 : decode cLw_law 759 = .ok (.aload_n 3, 1) := by decide +kernel
theorem dLw_law_760 : decode cLw_law 760 = .ok (.invokestatic 93, 3) := by decide +kernel
theorem dLw_law_763 : decode cLw_law 763 = .ok (.istore 5, 2) := by decide +kernel
theorem dLw_law_765 : decode cLw_law 765 = .ok (.aload_n 2, 1) := by decide +kernel
theorem dLw_law_766 : decode cLw_law 766 = .ok (.aload_n 0, 1) := by decide +kernel
theorem dLw_law_767 : decode cLw_law 767 = .ok (.iload 4, 2) := by decide +kernel
theorem dLw_law_769 : decode cLw_law 769 = .ok (.iconst 1, 1) := by decide +kernel
theorem dLw_law_770 : decode cLw_law 770 = .ok (.iadd, 1) := by decide +kernel
theorem dLw_law_771 : decode cLw_law 771 = .ok (.iaload, 1) := by decide +kernel
theorem dLw_law_772 : decode cLw_law 772 = .ok (.invokevirtual 95, 3) := by decide +kernel
theorem dLw_law_775 : decode cLw_law 775 = .ok (.istore 6, 2) := by decide +kernel
theorem dLw_law_777 : decode cLw_law 777 = .ok (.aload_n 2, 1) := by decide +kernel
theorem dLw_law_778 : decode cLw_law 778 = .ok (.invokevirtual 63, 3) := by decide +kernel
theorem dLw_law_781 : decode cLw_law 781 = .ok (.iload 5, 2) := by decide +kernel
theorem dLw_law_783 : decode cLw_law 783 = .ok (.if_icmp .eq 5, 3) := by decide +kernel
theorem dLw_law_786 : decode cLw_law 786 = .ok (.iconst 0, 1) := by decide +kernel
theorem dLw_law_787 : decode cLw_law 787 = .ok (.ireturn, 1) := by decide +kernel
theorem dLw_law_788 : decode cLw_law 788 = .ok (.iload 5, 2) := by decide +kernel
theorem dLw_law_790 : decode cLw_law 790 = .ok (.ifCond .ne 15, 3) := by decide +kernel
theorem dLw_law_793 : decode cLw_law 793 = .ok (.aload_n 3, 1) := by decide +kernel
theorem dLw_law_794 : decode cLw_law 794 = .ok (.iconst 0, 1) := by decide +kernel
theorem dLw_law_795 : decode cLw_law 795 = .ok (.laload, 1) := by decide +kernel
theorem dLw_law_796 : decode cLw_law 796 = .ok (.iload 6, 2) := by decide +kernel
theorem dLw_law_798 : decode cLw_law 798 = .ok (.i2l, 1) := by decide +kernel
theorem dLw_law_799 : decode cLw_law 799 = .ok (.lcmp, 1) := by decide +kernel
theorem dLw_law_800 : decode cLw_law 800 = .ok (.ifCond .eq 5, 3) := by decide +kernel
theorem dLw_law_803 : decode cLw_law 803 = .ok (.iconst 0, 1) := by decide +kernel
theorem dLw_law_804 : decode cLw_law 804 = .ok (.ireturn, 1) := by decide +kernel
theorem dLw_law_805 : decode cLw_law 805 = .ok (.goto 197, 3) := by decide +kernel
theorem dLw_law_808 : decode cLw_law 808 = .ok (.aload_n 1, 1) := by decide +kernel
theorem dLw_law_809 : decode cLw_law 809 = .ok (.aload_n 0, 1) := by decide +kernel
theorem dLw_law_810 : decode cLw_law 810 = .ok (.iload 4, 2) := by decide +kernel
theorem dLw_law_812 : decode cLw_law 812 = .ok (.iconst 1, 1) := by decide +kernel
theorem dLw_law_813 : decode cLw_law 813 = .ok (.iadd, 1) := by decide +kernel
theorem dLw_law_814 : decode cLw_law 814 = .ok (.iaload, 1) := by decide +kernel
theorem dLw_law_815 : decode cLw_law 815 = .ok (.aload_n 0, 1) := by decide +kernel
theorem dLw_law_816 : decode cLw_law 816 = .ok (.iload 4, 2) := by decide +kernel
theorem dLw_law_818 : decode cLw_law 818 = .ok (.iconst 2, 1) := by decide +kernel
theorem dLw_law_819 : decode cLw_law 819 = .ok (.iadd, 1) := by decide +kernel
theorem dLw_law_820 : decode cLw_law 820 = .ok (.iaload, 1) := by decide +kernel
theorem dLw_law_821 : decode cLw_law 821 = .ok (.invokevirtual 96, 3) := by decide +kernel
theorem dLw_law_824 : decode cLw_law 824 = .ok (.aload_n 2, 1) := by decide +kernel
theorem dLw_law_825 : decode cLw_law 825 = .ok (.aload_n 0, 1) := by decide +kernel
theorem dLw_law_826 : decode cLw_law 826 = .ok (.iload 4, 2) := by decide +kernel
theorem dLw_law_828 : decode cLw_law 828 = .ok (.iconst 1, 1) := by decide +kernel
theorem dLw_law_829 : decode cLw_law 829 = .ok (.iadd, 1) := by decide +kernel
theorem dLw_law_830 : decode cLw_law 830 = .ok (.iaload, 1) := by decide +kernel
theorem dLw_law_831 : decode cLw_law 831 = .ok (.aload_n 0, 1) := by decide +kernel
theorem dLw_law_832 : decode cLw_law 832 = .ok (.iload 4, 2) := by decide +kernel
theorem dLw_law_834 : decode cLw_law 834 = .ok (.iconst 2, 1) := by decide +kernel
theorem dLw_law_835 : decode cLw_law 835 = .ok (.iadd, 1) := by decide +kernel
theorem dLw_law_836 : decode cLw_law 836 = .ok (.iaload, 1) := by decide +kernel
theorem dLw_law_837 : decode cLw_law 837 = .ok (.invokevirtual 100, 3) := by decide +kernel
theorem dLw_law_840 : decode cLw_law 840 = .ok (.if_icmp .eq 162, 3) := by decide +kernel
theorem dLw_law_843 : decode cLw_law 843 = .ok (.iconst 0, 1) := by decide +kernel
theorem dLw_law_844 : decode cLw_law 844 = .ok (.ireturn, 1) := by decide +kernel
theorem dLw_law_845 : decode cLw_law 845 = .ok (.aload_n 1, 1) := by decide +kernel
theorem dLw_law_846 : decode cLw_law 846 = .ok (.aload_n 0, 1) := by decide +kernel
theorem dLw_law_847 : decode cLw_law 847 = .ok (.iload 4, 2) := by decide +kernel
theorem dLw_law_849 : decode cLw_law 849 = .ok (.iconst 1, 1) := by decide +kernel
theorem dLw_law_850 : decode cLw_law 850 = .ok (.iadd, 1) := by decide +kernel
theorem dLw_law_851 : decode cLw_law 851 = .ok (.iaload, 1) := by decide +kernel
theorem dLw_law_852 : decode cLw_law 852 = .ok (.invokevirtual 101, 3) := by decide +kernel
theorem dLw_law_855 : decode cLw_law 855 = .ok (.aload_n 2, 1) := by decide +kernel
theorem dLw_law_856 : decode cLw_law 856 = .ok (.aload_n 0, 1) := by decide +kernel
theorem dLw_law_857 : decode cLw_law 857 = .ok (.iload 4, 2) := by decide +kernel
theorem dLw_law_859 : decode cLw_law 859 = .ok (.iconst 1, 1) := by decide +kernel
theorem dLw_law_860 : decode cLw_law 860 = .ok (.iadd, 1) := by decide +kernel
theorem dLw_law_861 : decode cLw_law 861 = .ok (.iaload, 1) := by decide +kernel
theorem dLw_law_862 : decode cLw_law 862 = .ok (.invokevirtual 104, 3) := by decide +kernel
theorem dLw_law_865 : decode cLw_law 865 = .ok (.if_icmp .eq 137, 3) := by decide +kernel
theorem dLw_law_868 : decode cLw_law 868 = .ok (.iconst 0, 1) := by decide +kernel
theorem dLw_law_869 : decode cLw_law 869 = .ok (.ireturn, 1) := by decide +kernel
theorem dLw_law_870 : decode cLw_law 870 = .ok (.aload_n 1, 1) := by decide +kernel
theorem dLw_law_871 : decode cLw_law 871 = .ok (.aload_n 0, 1) := by decide +kernel
theorem dLw_law_872 : decode cLw_law 872 = .ok (.iload 4, 2) := by decide +kernel
theorem dLw_law_874 : decode cLw_law 874 = .ok (.iconst 1, 1) := by decide +kernel
theorem dLw_law_875 : decode cLw_law 875 = .ok (.iadd, 1) := by decide +kernel
theorem dLw_law_876 : decode cLw_law 876 = .ok (.iaload, 1) := by decide +kernel
theorem dLw_law_877 : decode cLw_law 877 = .ok (.invokevirtual 105, 3) := by decide +kernel
theorem dLw_law_880 : decode cLw_law 880 = .ok (.aload_n 2, 1) := by decide +kernel
theorem dLw_law_881 : decode cLw_law 881 = .ok (.aload_n 0, 1) := by decide +kernel
theorem dLw_law_882 : decode cLw_law 882 = .ok (.iload 4, 2) := by decide +kernel
theorem dLw_law_884 : decode cLw_law 884 = .ok (.iconst 1, 1) := by decide +kernel
theorem dLw_law_885 : decode cLw_law 885 = .ok (.iadd, 1) := by decide +kernel
theorem dLw_law_886 : decode cLw_law 886 = .ok (.iaload, 1) := by decide +kernel
theorem dLw_law_887 : decode cLw_law 887 = .ok (.invokevirtual 108, 3) := by decide +kernel
theorem dLw_law_890 : decode cLw_law 890 = .ok (.if_icmp .eq 112, 3) := by decide +kernel
theorem dLw_law_893 : decode cLw_law 893 = .ok (.iconst 0, 1) := by decide +kernel
theorem dLw_law_894 : decode cLw_law 894 = .ok (.ireturn, 1) := by decide +kernel
theorem dLw_law_895 : decode cLw_law 895 = .ok (.aload_n 1, 1) := by decide +kernel
theorem dLw_law_896 : decode cLw_law 896 = .ok (.aload_n 0, 1) := by decide +kernel
theorem dLw_law_897 : decode cLw_law 897 = .ok (.iload 4, 2) := by decide +kernel
theorem dLw_law_899 : decode cLw_law 899 = .ok (.iconst 1, 1) := by decide +kernel
theorem dLw_law_900 : decode cLw_law 900 = .ok (.iadd, 1) := by decide +kernel
theorem dLw_law_901 : decode cLw_law 901 = .ok (.iaload, 1) := by decide +kernel
theorem dLw_law_902 : decode cLw_law 902 = .ok (.invokevirtual 109, 3) := by decide +kernel
theorem dLw_law_905 : decode cLw_law 905 = .ok (.aload_n 2, 1) := by decide +kernel
theorem dLw_law_906 : decode cLw_law 906 = .ok (.aload_n 0, 1) := by decide +kernel
theorem dLw_law_907 : decode cLw_law 907 = .ok (.iload 4, 2) := by decide +kernel
theorem dLw_law_909 : decode cLw_law 909 = .ok (.iconst 1, 1) := by decide +kernel
theorem dLw_law_910 : decode cLw_law 910 = .ok (.iadd, 1) := by decide +kernel
theorem dLw_law_911 : decode cLw_law 911 = .ok (.iaload, 1) := by decide +kernel
theorem dLw_law_912 : decode cLw_law 912 = .ok (.invokevirtual 112, 3) := by decide +kernel
theorem dLw_law_915 : decode cLw_law 915 = .ok (.if_icmp .eq 87, 3) := by decide +kernel
theorem dLw_law_918 : decode cLw_law 918 = .ok (.iconst 0, 1) := by decide +kernel
theorem dLw_law_919 : decode cLw_law 919 = .ok (.ireturn, 1) := by decide +kernel
theorem dLw_law_920 : decode cLw_law 920 = .ok (.aload_n 1, 1) := by decide +kernel
theorem dLw_law_921 : decode cLw_law 921 = .ok (.invokevirtual 113, 3) := by decide +kernel
theorem dLw_law_924 : decode cLw_law 924 = .ok (.aload_n 2, 1) := by decide +kernel
theorem dLw_law_925 : decode cLw_law 925 = .ok (.invokevirtual 116, 3) := by decide +kernel
theorem dLw_law_928 : decode cLw_law 928 = .ok (.if_icmp .eq 74, 3) := by decide +kernel
theorem dLw_law_931 : decode cLw_law 931 = .ok (.iconst 0, 1) := by decide +kernel
theorem dLw_law_932 : decode cLw_law 932 = .ok (.ireturn, 1) := by decide +kernel
theorem dLw_law_933 : decode cLw_law 933 = .ok (.aload_n 1, 1) := by decide +kernel
theorem dLw_law_934 : decode cLw_law 934 = .ok (.aload_n 0, 1) := by decide +kernel
theorem dLw_law_935 : decode cLw_law 935 = .ok (.iload 4, 2) := by decide +kernel
theorem dLw_law_937 : decode cLw_law 937 = .ok (.iconst 1, 1) := by decide +kernel
theorem dLw_law_938 : decode cLw_law 938 = .ok (.iadd, 1) := by decide +kernel
theorem dLw_law_939 : decode cLw_law 939 = .ok (.iaload, 1) := by decide +kernel
theorem dLw_law_940 : decode cLw_law 940 = .ok (.aload_n 3, 1) := by decide +kernel
theorem dLw_law_941 : decode cLw_law 941 = .ok (.invokestatic 117, 3) := by decide +kernel
theorem dLw_law_944 : decode cLw_law 944 = .ok (.istore 5, 2) := by decide +kernel
theorem dLw_law_946 : decode cLw_law 946 = .ok (.aload_n 2, 1) := by decide +kernel
theorem dLw_law_947 : decode cLw_law 947 = .ok (.aload_n 0, 1) := by decide +kernel
theorem dLw_law_948 : decode cLw_law 948 = .ok (.iload 4, 2) := by decide +kernel
theorem dLw_law_950 : decode cLw_law 950 = .ok (.iconst 1, 1) := by decide +kernel
theorem dLw_law_951 : decode cLw_law 951 = .ok (.iadd, 1) := by decide +kernel
theorem dLw_law_952 : decode cLw_law 952 = .ok (.iaload, 1) := by decide +kernel
theorem dLw_law_953 : decode cLw_law 953 = .ok (.invokevirtual 119, 3) := by decide +kernel
theorem dLw_law_956 : decode cLw_law 956 = .ok (.istore 6, 2) := by decide +kernel
theorem dLw_law_958 : decode cLw_law 958 = .ok (.aload_n 2, 1) := by decide +kernel
theorem dLw_law_959 : decode cLw_law 959 = .ok (.invokevirtual 63, 3) := by decide +kernel
theorem dLw_law_962 : decode cLw_law 962 = .ok (.iload 5, 2) := by decide +kernel
theorem dLw_law_964 : decode cLw_law 964 = .ok (.if_icmp .eq 5, 3) := by decide +kernel
theorem dLw_law_967 : decode cLw_law 967 = .ok (.iconst 0, 1) := by decide +kernel
theorem dLw_law_968 : decode cLw_law 968 = .ok (.ireturn, 1) := by decide +kernel
theorem dLw_law_969 : decode cLw_law 969 = .ok (.iload 5, 2) := by decide +kernel
theorem dLw_law_971 : decode cLw_law 971 = .ok (.ifCond .ne 15, 3) := by decide +kernel
theorem dLw_law_974 : decode cLw_law 974 = .ok (.aload_n 3, 1) := by decide +kernel
theorem dLw_law_975 : decode cLw_law 975 = .ok (.iconst 0, 1) := by decide +kernel
theorem dLw_law_976 : decode cLw_law 976 = .ok (.laload, 1) := by decide +kernel
theorem dLw_law_977 : decode cLw_law 977 = .ok (.iload 6, 2) := by decide +kernel
theorem dLw_law_979 : decode cLw_law 979 = .ok (.i2l, 1) := by decide +kernel
theorem dLw_law_980 : decode cLw_law 980 = .ok (.lcmp, 1) := by decide +kernel
theorem dLw_law_981 : decode cLw_law 981 = .ok (.ifCond .eq 5, 3) := by decide +kernel
theorem dLw_law_984 : decode cLw_law 984 = .ok (.iconst 0, 1) := by decide +kernel
theorem dLw_law_985 : decode cLw_law 985 = .ok (.ireturn, 1) := by decide +kernel
theorem dLw_law_986 : decode cLw_law 986 = .ok (.goto 16, 3) := by decide +kernel
theorem dLw_law_989 : decode cLw_law 989 = .ok (.aload_n 1, 1) := by decide +kernel
theorem dLw_law_990 : decode cLw_law 990 = .ok (.invokevirtual 120, 3) := by decide +kernel
theorem dLw_law_993 : decode cLw_law 993 = .ok (.aload_n 2, 1) := by decide +kernel
theorem dLw_law_994 : decode cLw_law 994 = .ok (.invokevirtual 123, 3) := by decide +kernel
theorem dLw_law_997 : decode cLw_law 997 = .ok (.if_icmp .eq 5, 3) := by decide +kernel
theorem dLw_law_1000 : decode cLw_law 1000 = .ok (.iconst 0, 1) := by decide +kernel
theorem dLw_law_1001 : decode cLw_law 1001 = .ok (.ireturn, 1) := by decide +kernel
theorem dLw_law_1002 : decode cLw_law 1002 = .ok (.iinc 4 6, 3) := by decide +kernel
theorem dLw_law_1005 : decode cLw_law 1005 = .ok (.goto (-982), 3) := by decide +kernel
theorem dLw_law_1008 : decode cLw_law 1008 = .ok (.iconst 1, 1) := by decide +kernel
theorem dLw_law_1009 : decode cLw_law 1009 = .ok (.ireturn, 1) := by decide +kernel
