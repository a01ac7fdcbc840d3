theorem dBO_init_0 : decode cBO_init 0 = .ok (.aload_n 0, 1) := by decide +kernel
theorem dBO_init_1 : decode cBO_init 1 = .ok (.invokespecial 1, 3) := by decide +kernel
theorem dBO_init_4 : decode cBO_init 4 = .ok (.aload_n 0, 1) := by decide +kernel
theorem dBO_init_5 : decode cBO_init 5 = .ok (.bipush 6, 2) := by decide +kernel
theorem dBO_init_7 : decode cBO_init 7 = .ok (.anewarray 9, 3) := by decide +kernel
theorem dBO_init_10 : decode cBO_init 10 = .ok (.putfield 11, 3) := by decide +kernel
theorem dBO_init_13 : decode cBO_init 13 = .ok (.aload_n 0, 1) := by decide +kernel
theorem dBO_init_14 : decode cBO_init 14 = .ok (.new 15, 3) := by decide +kernel
theorem dBO_init_17 : decode cBO_init 17 = .ok (.dup, 1) := by decide +kernel
theorem dBO_init_18 : decode cBO_init 18 = .ok (.invokespecial 17, 3) := by decide +kernel
theorem dBO_init_21 : decode cBO_init 21 = .ok (.putfield 18, 3) := by decide +kernel
theorem dBO_init_24 : decode cBO_init 24 = .ok (.aload_n 0, 1) := by decide +kernel
theorem dBO_init_25 : decode cBO_init 25 = .ok (.new 22, 3) := by decide +kernel
theorem dBO_init_28 : decode cBO_init 28 = .ok (.dup, 1) := by decide +kernel
theorem dBO_init_29 : decode cBO_init 29 = .ok (.invokespecial 24, 3) := by decide +kernel
theorem dBO_init_32 : decode cBO_init 32 = .ok (.putfield 25, 3) := by decide +kernel
theorem dBO_init_35 : decode cBO_init 35 = .ok (.aload_n 0, 1) := by decide +kernel
theorem dBO_init_36 : decode cBO_init 36 = .ok (.new 29, 3) := by decide +kernel
theorem dBO_init_39 : decode cBO_init 39 = .ok (.dup, 1) := by decide +kernel
theorem dBO_init_40 : decode cBO_init 40 = .ok (.invokespecial 31, 3) := by decide +kernel
theorem dBO_init_43 : decode cBO_init 43 = .ok (.putfield 32, 3) := by decide +kernel
theorem dBO_init_46 : decode cBO_init 46 = .ok (.aload_n 0, 1) := by decide +kernel
theorem dBO_init_47 : decode cBO_init 47 = .ok (.new 29, 3) := by decide +kernel
theorem dBO_init_50 : decode cBO_init 50 = .ok (.dup, 1) := by decide +kernel
theorem dBO_init_51 : decode cBO_init 51 = .ok (.invokespecial 31, 3) := by decide +kernel
theorem dBO_init_54 : decode cBO_init 54 = .ok (.putfield 36, 3) := by decide +kernel
theorem dBO_init_57 : decode cBO_init 57 = .ok (.aload_n 0, 1) := by decide +kernel
theorem dBO_init_58 : decode cBO_init 58 = .ok (.new 29, 3) := by decide +kernel
theorem dBO_init_61 : decode cBO_init 61 = .ok (.dup, 1) := by decide +kernel
theorem dBO_init_62 : decode cBO_init 62 = .ok (.invokespecial 31, 3) := by decide +kernel
theorem dBO_init_65 : decode cBO_init 65 = .ok (.putfield 39, 3) := by decide +kernel
theorem dBO_init_68 : decode cBO_init 68 = .ok (.aload_n 0, 1) := by decide +kernel
theorem dBO_init_69 : decode cBO_init 69 = .ok (.iconst 0, 1) := by decide +kernel
theorem dBO_init_70 : decode cBO_init 70 = .ok (.putfield 42, 3) := by decide +kernel
theorem dBO_init_73 : decode cBO_init 73 = .ok (.aload_n 0, 1) := by decide +kernel
theorem dBO_init_74 : decode cBO_init 74 = .ok (.iconst 0, 1) := by decide +kernel
theorem dBO_init_75 : decode cBO_init 75 = .ok (.putfield 46, 3) := by decide +kernel
theorem dBO_init_78 : decode cBO_init 78 = .ok (.iconst 0, 1) := by decide +kernel
theorem dBO_init_79 : decode cBO_init 79 = .ok (.istore_n 1, 1) := by decide +kernel
theorem dBO_init_80 : decode cBO_init 80 = .ok (.iload_n 1, 1) := by decide +kernel
theorem dBO_init_81 : decode cBO_init 81 = .ok (.bipush 6, 2) := by decide +kernel
theorem dBO_init_83 : decode cBO_init 83 = .ok (.if_icmp .ge 22, 3) := by decide +kernel
theorem dBO_init_86 : decode cBO_init 86 = .ok (.aload_n 0, 1) := by decide +kernel
theorem dBO_init_87 : decode cBO_init 87 = .ok (.getfield 11, 3) := by decide +kernel
theorem dBO_init_90 : decode cBO_init 90 = .ok (.iload_n 1, 1) := by decide +kernel
theorem dBO_init_91 : decode cBO_init 91 = .ok (.new 9, 3) := by decide +kernel
theorem dBO_init_94 : decode cBO_init 94 = .ok (.dup, 1) := by decide +kernel
theorem dBO_init_95 : decode cBO_init 95 = .ok (.invokespecial 49, 3) := by decide +kernel
theorem dBO_init_98 : decode cBO_init 98 = .ok (.aastore, 1) := by decide +kernel
theorem dBO_init_99 : decode cBO_init 99 = .ok (.iinc 1 1, 3) := by decide +kernel
theorem dBO_init_102 : decode cBO_init 102 = .ok (.goto (-22), 3) := by decide +kernel
theorem dBO_init_105 : decode cBO_init 105 = .ok (.return_, 1) := by decide +kernel
theorem dBO_image_0 : decode cBO_image 0 = .ok (.iload_n 1, 1) := by decide +kernel
theorem dBO_image_1 : decode cBO_image 1 = .ok (.invokestatic 50, 3) := by decide +kernel
theorem dBO_image_4 : decode cBO_image 4 = .ok (.iload_n 2, 1) := by decide +kernel
theorem dBO_image_5 : decode cBO_image 5 = .ok (.iconst 1, 1) := by decide +kernel
theorem dBO_image_6 : decode cBO_image 6 = .ok (.if_icmp .lt 9, 3) := by decide +kernel
theorem dBO_image_9 : decode cBO_image 9 = .ok (.iload_n 2, 1) := by decide +kernel
theorem dBO_image_10 : decode cBO_image 10 = .ok (.bipush 8, 2) := by decide +kernel
theorem dBO_image_12 : decode cBO_image 12 = .ok (.if_icmp .le 11, 3) := by decide +kernel
theorem dBO_image_15 : decode cBO_image 15 = .ok (.new 54, 3) := by decide +kernel
theorem dBO_image_18 : decode cBO_image 18 = .ok (.dup, 1) := by decide +kernel
theorem dBO_image_19 : decode cBO_image 19 = .ok (.invokespecial 56, 3) := by decide +kernel
theorem dBO_image_22 : decode cBO_image 22 = .ok (.athrow, 1) := by decide +kernel
theorem dBO_image_23 : decode cBO_image 23 = .ok (.aload_n 0, 1) := by decide +kernel
theorem dBO_image_24 : decode cBO_image 24 = .ok (.getfield 11, 3) := by decide +kernel
theorem dBO_image_27 : decode cBO_image 27 = .ok (.iload_n 1, 1) := by decide +kernel
theorem dBO_image_28 : decode cBO_image 28 = .ok (.aaload, 1) := by decide +kernel
theorem dBO_image_29 : decode cBO_image 29 = .ok (.invokevirtual 57, 3) := by decide +kernel
theorem dBO_image_32 : decode cBO_image 32 = .ok (.ifCond .eq 11, 3) := by decide +kernel
theorem dBO_image_35 : decode cBO_image 35 = .ok (.new 61, 3) := by decide +kernel
theorem dBO_image_38 : decode cBO_image 38 = .ok (.dup, 1) := by decide +kernel
theorem dBO_image_39 : decode cBO_image 39 = .ok (.invokespecial 63, 3) := by decide +kernel
theorem dBO_image_42 : decode cBO_image 42 = .ok (.athrow, 1) := by decide +kernel
theorem dBO_image_43 : decode cBO_image 43 = .ok (.aload_n 0, 1) := by decide +kernel
theorem dBO_image_44 : decode cBO_image 44 = .ok (.getfield 11, 3) := by decide +kernel
theorem dBO_image_47 : decode cBO_image 47 = .ok (.iload_n 1, 1) := by decide +kernel
theorem dBO_image_48 : decode cBO_image 48 = .ok (.aaload, 1) := by decide +kernel
theorem dBO_image_49 : decode cBO_image 49 = .ok (.iload_n 2, 1) := by decide +kernel
theorem dBO_image_50 : decode cBO_image 50 = .ok (.invokevirtual 64, 3) := by decide +kernel
theorem dBO_image_53 : decode cBO_image 53 = .ok (.return_, 1) := by decide +kernel
theorem dBO_need_0 : decode cBO_need 0 = .ok (.iload_n 1, 1) := by decide +kernel
theorem dBO_need_1 : decode cBO_need 1 = .ok (.invokestatic 50, 3) := by decide +kernel
theorem dBO_need_4 : decode cBO_need 4 = .ok (.iload_n 2, 1) := by decide +kernel
theorem dBO_need_5 : decode cBO_need 5 = .ok (.invokestatic 50, 3) := by decide +kernel
theorem dBO_need_8 : decode cBO_need 8 = .ok (.aload_n 0, 1) := by decide +kernel
theorem dBO_need_9 : decode cBO_need 9 = .ok (.getfield 11, 3) := by decide +kernel
theorem dBO_need_12 : decode cBO_need 12 = .ok (.iload_n 1, 1) := by decide +kernel
theorem dBO_need_13 : decode cBO_need 13 = .ok (.aaload, 1) := by decide +kernel
theorem dBO_need_14 : decode cBO_need 14 = .ok (.getfield 67, 3) := by decide +kernel
theorem dBO_need_17 : decode cBO_need 17 = .ok (.astore_n 3, 1) := by decide +kernel
theorem dBO_need_18 : decode cBO_need 18 = .ok (.iload_n 1, 1) := by decide +kernel
theorem dBO_need_19 : decode cBO_need 19 = .ok (.iload_n 2, 1) := by decide +kernel
theorem dBO_need_20 : decode cBO_need 20 = .ok (.if_icmp .eq 11, 3) := by decide +kernel
theorem dBO_need_23 : decode cBO_need 23 = .ok (.aload_n 3, 1) := by decide +kernel
theorem dBO_need_24 : decode cBO_need 24 = .ok (.iload_n 2, 1) := by decide +kernel
theorem dBO_need_25 : decode cBO_need 25 = .ok (.invokevirtual 70, 3) := by decide +kernel
theorem dBO_need_28 : decode cBO_need 28 = .ok (.ifCond .eq 11, 3) := by decide +kernel
theorem dBO_need_31 : decode cBO_need 31 = .ok (.new 54, 3) := by decide +kernel
theorem dBO_need_34 : decode cBO_need 34 = .ok (.dup, 1) := by decide +kernel
theorem dBO_need_35 : decode cBO_need 35 = .ok (.invokespecial 56, 3) := by decide +kernel
theorem dBO_need_38 : decode cBO_need 38 = .ok (.athrow, 1) := by decide +kernel
theorem dBO_need_39 : decode cBO_need 39 = .ok (.aload_n 0, 1) := by decide +kernel
theorem dBO_need_40 : decode cBO_need 40 = .ok (.iload_n 1, 1) := by decide +kernel
theorem dBO_need_41 : decode cBO_need 41 = .ok (.aload_n 3, 1) := by decide +kernel
theorem dBO_need_42 : decode cBO_need 42 = .ok (.getfield 74, 3) := by decide +kernel
theorem dBO_need_45 : decode cBO_need 45 = .ok (.iconst 3, 1) := by decide +kernel
theorem dBO_need_46 : decode cBO_need 46 = .ok (.invokevirtual 77, 3) := by decide +kernel
theorem dBO_need_49 : decode cBO_need 49 = .ok (.aload_n 3, 1) := by decide +kernel
theorem dBO_need_50 : decode cBO_need 50 = .ok (.iload_n 2, 1) := by decide +kernel
theorem dBO_need_51 : decode cBO_need 51 = .ok (.invokevirtual 81, 3) := by decide +kernel
theorem dBO_need_54 : decode cBO_need 54 = .ok (.aload_n 3, 1) := by decide +kernel
theorem dBO_need_55 : decode cBO_need 55 = .ok (.getfield 74, 3) := by decide +kernel
theorem dBO_need_58 : decode cBO_need 58 = .ok (.ireturn, 1) := by decide +kernel
theorem dBO_symbol_0 : decode cBO_symbol 0 = .ok (.iload_n 1, 1) := by decide +kernel
theorem dBO_symbol_1 : decode cBO_symbol 1 = .ok (.invokestatic 50, 3) := by decide +kernel
theorem dBO_symbol_4 : decode cBO_symbol 4 = .ok (.aload_n 0, 1) := by decide +kernel
theorem dBO_symbol_5 : decode cBO_symbol 5 = .ok (.getfield 11, 3) := by decide +kernel
theorem dBO_symbol_8 : decode cBO_symbol 8 = .ok (.iload_n 1, 1) := by decide +kernel
theorem dBO_symbol_9 : decode cBO_symbol 9 = .ok (.aaload, 1) := by decide +kernel
theorem dBO_symbol_10 : decode cBO_symbol 10 = .ok (.getfield 84, 3) := by decide +kernel
theorem dBO_symbol_13 : decode cBO_symbol 13 = .ok (.astore 5, 2) := by decide +kernel
theorem dBO_symbol_15 : decode cBO_symbol 15 = .ok (.iload_n 2, 1) := by decide +kernel
theorem dBO_symbol_16 : decode cBO_symbol 16 = .ok (.invokestatic 88, 3) := by decide +kernel
theorem dBO_symbol_19 : decode cBO_symbol 19 = .ok (.ifCond .eq 30, 3) := by decide +kernel
theorem dBO_symbol_22 : decode cBO_symbol 22 = .ok (.aload 5, 2) := by decide +kernel
theorem dBO_symbol_24 : decode cBO_symbol 24 = .ok (.iload_n 2, 1) := by decide +kernel
theorem dBO_symbol_25 : decode cBO_symbol 25 = .ok (.invokevirtual 91, 3) := by decide +kernel
theorem dBO_symbol_28 : decode cBO_symbol 28 = .ok (.ifCond .ne 21, 3) := by decide +kernel
theorem dBO_symbol_31 : decode cBO_symbol 31 = .ok (.iload_n 3, 1) := by decide +kernel
theorem dBO_symbol_32 : decode cBO_symbol 32 = .ok (.iconst (-1), 1) := by decide +kernel
theorem dBO_symbol_33 : decode cBO_symbol 33 = .ok (.if_icmp .eq 24, 3) := by decide +kernel
theorem dBO_symbol_36 : decode cBO_symbol 36 = .ok (.aload_n 0, 1) := by decide +kernel
theorem dBO_symbol_37 : decode cBO_symbol 37 = .ok (.getfield 11, 3) := by decide +kernel
theorem dBO_symbol_40 : decode cBO_symbol 40 = .ok (.iload_n 1, 1) := by decide +kernel
theorem dBO_symbol_41 : decode cBO_symbol 41 = .ok (.aaload, 1) := by decide +kernel
theorem dBO_symbol_42 : decode cBO_symbol 42 = .ok (.iload_n 3, 1) := by decide +kernel
theorem dBO_symbol_43 : decode cBO_symbol 43 = .ok (.invokevirtual 94, 3) := by decide +kernel
theorem dBO_symbol_46 : decode cBO_symbol 46 = .ok (.ifCond .ne 11, 3) := by decide +kernel
theorem dBO_symbol_49 : decode cBO_symbol 49 = .ok (.new 54, 3) := by decide +kernel
theorem dBO_symbol_52 : decode cBO_symbol 52 = .ok (.dup, 1) := by decide +kernel
theorem dBO_symbol_53 : decode cBO_symbol 53 = .ok (.invokespecial 56, 3) := by decide +kernel
theorem dBO_symbol_56 : decode cBO_symbol 56 = .ok (.athrow, 1) := by decide +kernel
theorem dBO_symbol_57 : decode cBO_symbol 57 = .ok (.aload_n 0, 1) := by decide +kernel
theorem dBO_symbol_58 : decode cBO_symbol 58 = .ok (.iload_n 1, 1) := by decide +kernel
theorem dBO_symbol_59 : decode cBO_symbol 59 = .ok (.aload 5, 2) := by decide +kernel
theorem dBO_symbol_61 : decode cBO_symbol 61 = .ok (.getfield 97, 3) := by decide +kernel
theorem dBO_symbol_64 : decode cBO_symbol 64 = .ok (.bipush 6, 2) := by decide +kernel
theorem dBO_symbol_66 : decode cBO_symbol 66 = .ok (.invokevirtual 77, 3) := by decide +kernel
theorem dBO_symbol_69 : decode cBO_symbol 69 = .ok (.aload 5, 2) := by decide +kernel
theorem dBO_symbol_71 : decode cBO_symbol 71 = .ok (.iload_n 2, 1) := by decide +kernel
theorem dBO_symbol_72 : decode cBO_symbol 72 = .ok (.iload_n 3, 1) := by decide +kernel
theorem dBO_symbol_73 : decode cBO_symbol 73 = .ok (.iload 4, 2) := by decide +kernel
theorem dBO_symbol_75 : decode cBO_symbol 75 = .ok (.invokevirtual 98, 3) := by decide +kernel
theorem dBO_symbol_78 : decode cBO_symbol 78 = .ok (.ireturn, 1) := by decide +kernel
theorem dBO_relocation_0 : decode cBO_relocation 0 = .ok (.iload_n 1, 1) := by decide +kernel
theorem dBO_relocation_1 : decode cBO_relocation 1 = .ok (.invokestatic 50, 3) := by decide +kernel
theorem dBO_relocation_4 : decode cBO_relocation 4 = .ok (.aload_n 0, 1) := by decide +kernel
theorem dBO_relocation_5 : decode cBO_relocation 5 = .ok (.getfield 11, 3) := by decide +kernel
theorem dBO_relocation_8 : decode cBO_relocation 8 = .ok (.iload_n 1, 1) := by decide +kernel
theorem dBO_relocation_9 : decode cBO_relocation 9 = .ok (.aaload, 1) := by decide +kernel
theorem dBO_relocation_10 : decode cBO_relocation 10 = .ok (.astore 6, 2) := by decide +kernel
theorem dBO_relocation_12 : decode cBO_relocation 12 = .ok (.iload_n 2, 1) := by decide +kernel
theorem dBO_relocation_13 : decode cBO_relocation 13 = .ok (.ifCond .lt 17, 3) := by decide +kernel
theorem dBO_relocation_16 : decode cBO_relocation 16 = .ok (.iload_n 2, 1) := by decide +kernel
theorem dBO_relocation_17 : decode cBO_relocation 17 = .ok (.iconst 2, 1) := by decide +kernel
theorem dBO_relocation_18 : decode cBO_relocation 18 = .ok (.if_icmp .gt 12, 3) := by decide +kernel
theorem dBO_relocation_21 : decode cBO_relocation 21 = .ok (.aload 6, 2) := by decide +kernel
theorem dBO_relocation_23 : decode cBO_relocation 23 = .ok (.iload_n 3, 1) := by decide +kernel
theorem dBO_relocation_24 : decode cBO_relocation 24 = .ok (.invokevirtual 94, 3) := by decide +kernel
theorem dBO_relocation_27 : decode cBO_relocation 27 = .ok (.ifCond .ne 11, 3) := by decide +kernel
theorem dBO_relocation_30 : decode cBO_relocation 30 = .ok (.new 54, 3) := by decide +kernel
theorem dBO_relocation_33 : decode cBO_relocation 33 = .ok (.dup, 1) := by decide +kernel
theorem dBO_relocation_34 : decode cBO_relocation 34 = .ok (.invokespecial 56, 3) := by decide +kernel
theorem dBO_relocation_37 : decode cBO_relocation 37 = .ok (.athrow, 1) := by decide +kernel
theorem dBO_relocation_38 : decode cBO_relocation 38 = .ok (.iload_n 2, 1) := by decide +kernel
theorem dBO_relocation_39 : decode cBO_relocation 39 = .ok (.ifCond .eq 29, 3) := by decide +kernel
theorem dBO_relocation_42 : decode cBO_relocation 42 = .ok (.iload 4, 2) := by decide +kernel
theorem dBO_relocation_44 : decode cBO_relocation 44 = .ok (.ifCond .lt 16, 3) := by decide +kernel
theorem dBO_relocation_47 : decode cBO_relocation 47 = .ok (.iload 4, 2) := by decide +kernel
theorem dBO_relocation_49 : decode cBO_relocation 49 = .ok (.aload 6, 2) := by decide +kernel
theorem dBO_relocation_51 : decode cBO_relocation 51 = .ok (.getfield 84, 3) := by decide +kernel
theorem dBO_relocation_54 : decode cBO_relocation 54 = .ok (.getfield 97, 3) := by decide +kernel
theorem dBO_relocation_57 : decode cBO_relocation 57 = .ok (.if_icmp .lt 11, 3) := by decide +kernel
theorem dBO_relocation_60 : decode cBO_relocation 60 = .ok (.new 54, 3) := by decide +kernel
theorem dBO_relocation_63 : decode cBO_relocation 63 = .ok (.dup, 1) := by decide +kernel
theorem dBO_relocation_64 : decode cBO_relocation 64 = .ok (.invokespecial 56, 3) := by decide +kernel
theorem dBO_relocation_67 : decode cBO_relocation 67 = .ok (.athrow, 1) := by decide +kernel
theorem dBO_relocation_68 : decode cBO_relocation 68 = .ok (.aload_n 0, 1) := by decide +kernel
theorem dBO_relocation_69 : decode cBO_relocation 69 = .ok (.iload_n 1, 1) := by decide +kernel
theorem dBO_relocation_70 : decode cBO_relocation 70 = .ok (.aload 6, 2) := by decide +kernel
theorem dBO_relocation_72 : decode cBO_relocation 72 = .ok (.getfield 102, 3) := by decide +kernel
theorem dBO_relocation_75 : decode cBO_relocation 75 = .ok (.getfield 106, 3) := by decide +kernel
theorem dBO_relocation_78 : decode cBO_relocation 78 = .ok (.bipush 6, 2) := by decide +kernel
theorem dBO_relocation_80 : decode cBO_relocation 80 = .ok (.invokevirtual 77, 3) := by decide +kernel
theorem dBO_relocation_83 : decode cBO_relocation 83 = .ok (.aload 6, 2) := by decide +kernel
theorem dBO_relocation_85 : decode cBO_relocation 85 = .ok (.getfield 102, 3) := by decide +kernel
theorem dBO_relocation_88 : decode cBO_relocation 88 = .ok (.iload_n 2, 1) := by decide +kernel
theorem dBO_relocation_89 : decode cBO_relocation 89 = .ok (.iload_n 3, 1) := by decide +kernel
theorem dBO_relocation_90 : decode cBO_relocation 90 = .ok (.iload 4, 2) := by decide +kernel
theorem dBO_relocation_92 : decode cBO_relocation 92 = .ok (.iload 5, 2) := by decide +kernel
theorem dBO_relocation_94 : decode cBO_relocation 94 = .ok (.invokevirtual 109, 3) := by decide +kernel
theorem dBO_relocation_97 : decode cBO_relocation 97 = .ok (.ireturn, 1) := by decide +kernel
theorem dBO_open_0 : decode cBO_open 0 = .ok (.iload_n 1, 1) := by decide +kernel
theorem dBO_open_1 : decode cBO_open 1 = .ok (.invokestatic 50, 3) := by decide +kernel
theorem dBO_open_4 : decode cBO_open 4 = .ok (.aload_n 0, 1) := by decide +kernel
theorem dBO_open_5 : decode cBO_open 5 = .ok (.iload_n 1, 1) := by decide +kernel
theorem dBO_open_6 : decode cBO_open 6 = .ok (.invokevirtual 112, 3) := by decide +kernel
theorem dBO_open_9 : decode cBO_open 9 = .ok (.aload_n 0, 1) := by decide +kernel
theorem dBO_open_10 : decode cBO_open 10 = .ok (.invokevirtual 115, 3) := by decide +kernel
theorem dBO_open_13 : decode cBO_open 13 = .ok (.ifCond .ne 11, 3) := by decide +kernel
theorem dBO_open_16 : decode cBO_open 16 = .ok (.new 61, 3) := by decide +kernel
theorem dBO_open_19 : decode cBO_open 19 = .ok (.dup, 1) := by decide +kernel
theorem dBO_open_20 : decode cBO_open 20 = .ok (.invokespecial 63, 3) := by decide +kernel
theorem dBO_open_23 : decode cBO_open 23 = .ok (.athrow, 1) := by decide +kernel
theorem dBO_open_24 : decode cBO_open 24 = .ok (.aload_n 0, 1) := by decide +kernel
theorem dBO_open_25 : decode cBO_open 25 = .ok (.invokevirtual 118, 3) := by decide +kernel
theorem dBO_open_28 : decode cBO_open 28 = .ok (.ifCond .ne 15, 3) := by decide +kernel
theorem dBO_open_31 : decode cBO_open 31 = .ok (.aload_n 0, 1) := by decide +kernel
theorem dBO_open_32 : decode cBO_open 32 = .ok (.invokevirtual 121, 3) := by decide +kernel
theorem dBO_open_35 : decode cBO_open 35 = .ok (.new 61, 3) := by decide +kernel
theorem dBO_open_38 : decode cBO_open 38 = .ok (.dup, 1) := by decide +kernel
theorem dBO_open_39 : decode cBO_open 39 = .ok (.invokespecial 63, 3) := by decide +kernel
theorem dBO_open_42 : decode cBO_open 42 = .ok (.athrow, 1) := by decide +kernel
theorem dBO_open_43 : decode cBO_open 43 = .ok (.aload_n 0, 1) := by decide +kernel
theorem dBO_open_44 : decode cBO_open 44 = .ok (.getfield 32, 3) := by decide +kernel
theorem dBO_open_47 : decode cBO_open 47 = .ok (.getfield 74, 3) := by decide +kernel
theorem dBO_open_50 : decode cBO_open 50 = .ok (.istore 4, 2) := by decide +kernel
theorem dBO_open_52 : decode cBO_open 52 = .ok (.iload_n 3, 1) := by decide +kernel
theorem dBO_open_53 : decode cBO_open 53 = .ok (.ifCond .eq 14, 3) := by decide +kernel
theorem dBO_open_56 : decode cBO_open 56 = .ok (.aload_n 0, 1) := by decide +kernel
theorem dBO_open_57 : decode cBO_open 57 = .ok (.getfield 32, 3) := by decide +kernel
theorem dBO_open_60 : decode cBO_open 60 = .ok (.aload_n 0, 1) := by decide +kernel
theorem dBO_open_61 : decode cBO_open 61 = .ok (.getfield 39, 3) := by decide +kernel
theorem dBO_open_64 : decode cBO_open 64 = .ok (.invokevirtual 124, 3) := by decide +kernel
theorem dBO_open_67 : decode cBO_open 67 = .ok (.aload_n 0, 1) := by decide +kernel
theorem dBO_open_68 : decode cBO_open 68 = .ok (.iload_n 2, 1) := by decide +kernel
theorem dBO_open_69 : decode cBO_open 69 = .ok (.invokevirtual 128, 3) := by decide +kernel
theorem dBO_open_72 : decode cBO_open 72 = .ok (.ifCond .ne 24, 3) := by decide +kernel
theorem dBO_open_75 : decode cBO_open 75 = .ok (.aload_n 0, 1) := by decide +kernel
theorem dBO_open_76 : decode cBO_open 76 = .ok (.getfield 32, 3) := by decide +kernel
theorem dBO_open_79 : decode cBO_open 79 = .ok (.iload 4, 2) := by decide +kernel
theorem dBO_open_81 : decode cBO_open 81 = .ok (.invokevirtual 132, 3) := by decide +kernel
theorem dBO_open_84 : decode cBO_open 84 = .ok (.aload_n 0, 1) := by decide +kernel
theorem dBO_open_85 : decode cBO_open 85 = .ok (.invokevirtual 121, 3) := by decide +kernel
theorem dBO_open_88 : decode cBO_open 88 = .ok (.new 135, 3) := by decide +kernel
theorem dBO_open_91 : decode cBO_open 91 = .ok (.dup, 1) := by decide +kernel
theorem dBO_open_92 : decode cBO_open 92 = .ok (.invokespecial 137, 3) := by decide +kernel
theorem dBO_open_95 : decode cBO_open 95 = .ok (.athrow, 1) := by decide +kernel
theorem dBO_open_96 : decode cBO_open 96 = .ok (.aload_n 0, 1) := by decide +kernel
theorem dBO_open_97 : decode cBO_open 97 = .ok (.getfield 42, 3) := by decide +kernel
theorem dBO_open_100 : decode cBO_open 100 = .ok (.invokestatic 138, 3) := by decide +kernel
theorem dBO_open_103 : decode cBO_open 103 = .ok (.istore 5, 2) := by decide +kernel
theorem dBO_open_105 : decode cBO_open 105 = .ok (.aload_n 0, 1) := by decide +kernel
theorem dBO_open_106 : decode cBO_open 106 = .ok (.getfield 42, 3) := by decide +kernel
theorem dBO_open_109 : decode cBO_open 109 = .ok (.iload_n 1, 1) := by decide +kernel
theorem dBO_open_110 : decode cBO_open 110 = .ok (.invokestatic 144, 3) := by decide +kernel
theorem dBO_open_113 : decode cBO_open 113 = .ok (.ifCond .eq 9, 3) := by decide +kernel
theorem dBO_open_116 : decode cBO_open 116 = .ok (.aload_n 0, 1) := by decide +kernel
theorem dBO_open_117 : decode cBO_open 117 = .ok (.iload_n 1, 1) := by decide +kernel
theorem dBO_open_118 : decode cBO_open 118 = .ok (.iconst 1, 1) := by decide +kernel
theorem dBO_open_119 : decode cBO_open 119 = .ok (.invokevirtual 148, 3) := by decide +kernel
theorem dBO_open_122 : decode cBO_open 122 = .ok (.aload_n 0, 1) := by decide +kernel
theorem dBO_open_123 : decode cBO_open 123 = .ok (.getfield 11, 3) := by decide +kernel
theorem dBO_open_126 : decode cBO_open 126 = .ok (.iload_n 1, 1) := by decide +kernel
theorem dBO_open_127 : decode cBO_open 127 = .ok (.aaload, 1) := by decide +kernel
theorem dBO_open_128 : decode cBO_open 128 = .ok (.dup, 1) := by decide +kernel
theorem dBO_open_129 : decode cBO_open 129 = .ok (.getfield 152, 3) := by decide +kernel
theorem dBO_open_132 : decode cBO_open 132 = .ok (.iconst 1, 1) := by decide +kernel
theorem dBO_open_133 : decode cBO_open 133 = .ok (.iadd, 1) := by decide +kernel
theorem dBO_open_134 : decode cBO_open 134 = .ok (.putfield 152, 3) := by decide +kernel
theorem dBO_open_137 : decode cBO_open 137 = .ok (.iload 5, 2) := by decide +kernel
theorem dBO_open_139 : decode cBO_open 139 = .ok (.ireturn, 1) := by decide +kernel
theorem dBO_close_0 : decode cBO_close 0 = .ok (.iload_n 1, 1) := by decide +kernel
theorem dBO_close_1 : decode cBO_close 1 = .ok (.invokestatic 50, 3) := by decide +kernel
theorem dBO_close_4 : decode cBO_close 4 = .ok (.aload_n 0, 1) := by decide +kernel
theorem dBO_close_5 : decode cBO_close 5 = .ok (.getfield 11, 3) := by decide +kernel
theorem dBO_close_8 : decode cBO_close 8 = .ok (.iload_n 1, 1) := by decide +kernel
theorem dBO_close_9 : decode cBO_close 9 = .ok (.aaload, 1) := by decide +kernel
theorem dBO_close_10 : decode cBO_close 10 = .ok (.getfield 152, 3) := by decide +kernel
theorem dBO_close_13 : decode cBO_close 13 = .ok (.ifCond .ne 11, 3) := by decide +kernel
theorem dBO_close_16 : decode cBO_close 16 = .ok (.new 61, 3) := by decide +kernel
theorem dBO_close_19 : decode cBO_close 19 = .ok (.dup, 1) := by decide +kernel
theorem dBO_close_20 : decode cBO_close 20 = .ok (.invokespecial 63, 3) := by decide +kernel
theorem dBO_close_23 : decode cBO_close 23 = .ok (.athrow, 1) := by decide +kernel
theorem dBO_close_24 : decode cBO_close 24 = .ok (.aload_n 0, 1) := by decide +kernel
theorem dBO_close_25 : decode cBO_close 25 = .ok (.getfield 11, 3) := by decide +kernel
theorem dBO_close_28 : decode cBO_close 28 = .ok (.iload_n 1, 1) := by decide +kernel
theorem dBO_close_29 : decode cBO_close 29 = .ok (.aaload, 1) := by decide +kernel
theorem dBO_close_30 : decode cBO_close 30 = .ok (.dup, 1) := by decide +kernel
theorem dBO_close_31 : decode cBO_close 31 = .ok (.getfield 152, 3) := by decide +kernel
theorem dBO_close_34 : decode cBO_close 34 = .ok (.iconst 1, 1) := by decide +kernel
theorem dBO_close_35 : decode cBO_close 35 = .ok (.isub, 1) := by decide +kernel
theorem dBO_close_36 : decode cBO_close 36 = .ok (.putfield 152, 3) := by decide +kernel
theorem dBO_close_39 : decode cBO_close 39 = .ok (.aload_n 0, 1) := by decide +kernel
theorem dBO_close_40 : decode cBO_close 40 = .ok (.aload_n 0, 1) := by decide +kernel
theorem dBO_close_41 : decode cBO_close 41 = .ok (.invokevirtual 155, 3) := by decide +kernel
theorem dBO_close_44 : decode cBO_close 44 = .ok (.invokevirtual 159, 3) := by decide +kernel
theorem dBO_close_47 : decode cBO_close 47 = .ok (.ireturn, 1) := by decide +kernel
theorem dBO_call_0 : decode cBO_call 0 = .ok (.iload_n 1, 1) := by decide +kernel
theorem dBO_call_1 : decode cBO_call 1 = .ok (.invokestatic 50, 3) := by decide +kernel
theorem dBO_call_4 : decode cBO_call 4 = .ok (.aload_n 0, 1) := by decide +kernel
theorem dBO_call_5 : decode cBO_call 5 = .ok (.getfield 11, 3) := by decide +kernel
theorem dBO_call_8 : decode cBO_call 8 = .ok (.iload_n 1, 1) := by decide +kernel
theorem dBO_call_9 : decode cBO_call 9 = .ok (.aaload, 1) := by decide +kernel
theorem dBO_call_10 : decode cBO_call 10 = .ok (.astore_n 3, 1) := by decide +kernel
theorem dBO_call_11 : decode cBO_call 11 = .ok (.aload_n 3, 1) := by decide +kernel
theorem dBO_call_12 : decode cBO_call 12 = .ok (.getfield 102, 3) := by decide +kernel
theorem dBO_call_15 : decode cBO_call 15 = .ok (.astore 4, 2) := by decide +kernel
theorem dBO_call_17 : decode cBO_call 17 = .ok (.iload_n 2, 1) := by decide +kernel
theorem dBO_call_18 : decode cBO_call 18 = .ok (.ifCond .lt 12, 3) := by decide +kernel
theorem dBO_call_21 : decode cBO_call 21 = .ok (.iload_n 2, 1) := by decide +kernel
theorem dBO_call_22 : decode cBO_call 22 = .ok (.aload 4, 2) := by decide +kernel
theorem dBO_call_24 : decode cBO_call 24 = .ok (.getfield 106, 3) := by decide +kernel
theorem dBO_call_27 : decode cBO_call 27 = .ok (.if_icmp .lt 11, 3) := by decide +kernel
theorem dBO_call_30 : decode cBO_call 30 = .ok (.new 162, 3) := by decide +kernel
theorem dBO_call_33 : decode cBO_call 33 = .ok (.dup, 1) := by decide +kernel
theorem dBO_call_34 : decode cBO_call 34 = .ok (.invokespecial 164, 3) := by decide +kernel
theorem dBO_call_37 : decode cBO_call 37 = .ok (.athrow, 1) := by decide +kernel
theorem dBO_call_38 : decode cBO_call 38 = .ok (.aload 4, 2) := by decide +kernel
theorem dBO_call_40 : decode cBO_call 40 = .ok (.getfield 165, 3) := by decide +kernel
theorem dBO_call_43 : decode cBO_call 43 = .ok (.iload_n 2, 1) := by decide +kernel
theorem dBO_call_44 : decode cBO_call 44 = .ok (.iaload, 1) := by decide +kernel
theorem dBO_call_45 : decode cBO_call 45 = .ok (.iconst 2, 1) := by decide +kernel
theorem dBO_call_46 : decode cBO_call 46 = .ok (.if_icmp .eq 11, 3) := by decide +kernel
theorem dBO_call_49 : decode cBO_call 49 = .ok (.new 54, 3) := by decide +kernel
theorem dBO_call_52 : decode cBO_call 52 = .ok (.dup, 1) := by decide +kernel
theorem dBO_call_53 : decode cBO_call 53 = .ok (.invokespecial 56, 3) := by decide +kernel
theorem dBO_call_56 : decode cBO_call 56 = .ok (.athrow, 1) := by decide +kernel
theorem dBO_call_57 : decode cBO_call 57 = .ok (.aload_n 0, 1) := by decide +kernel
theorem dBO_call_58 : decode cBO_call 58 = .ok (.iload_n 1, 1) := by decide +kernel
theorem dBO_call_59 : decode cBO_call 59 = .ok (.invokevirtual 169, 3) := by decide +kernel
theorem dBO_call_62 : decode cBO_call 62 = .ok (.aload_n 3, 1) := by decide +kernel
theorem dBO_call_63 : decode cBO_call 63 = .ok (.getfield 172, 3) := by decide +kernel
theorem dBO_call_66 : decode cBO_call 66 = .ok (.aload 4, 2) := by decide +kernel
theorem dBO_call_68 : decode cBO_call 68 = .ok (.getfield 175, 3) := by decide +kernel
theorem dBO_call_71 : decode cBO_call 71 = .ok (.iload_n 2, 1) := by decide +kernel
theorem dBO_call_72 : decode cBO_call 72 = .ok (.iaload, 1) := by decide +kernel
theorem dBO_call_73 : decode cBO_call 73 = .ok (.iadd, 1) := by decide +kernel
theorem dBO_call_74 : decode cBO_call 74 = .ok (.istore 5, 2) := by decide +kernel
theorem dBO_call_76 : decode cBO_call 76 = .ok (.aload_n 0, 1) := by decide +kernel
theorem dBO_call_77 : decode cBO_call 77 = .ok (.getfield 18, 3) := by decide +kernel
theorem dBO_call_80 : decode cBO_call 80 = .ok (.getfield 178, 3) := by decide +kernel
theorem dBO_call_83 : decode cBO_call 83 = .ok (.iload 5, 2) := by decide +kernel
theorem dBO_call_85 : decode cBO_call 85 = .ok (.iaload, 1) := by decide +kernel
theorem dBO_call_86 : decode cBO_call 86 = .ok (.iload_n 2, 1) := by decide +kernel
theorem dBO_call_87 : decode cBO_call 87 = .ok (.invokestatic 181, 3) := by decide +kernel
theorem dBO_call_90 : decode cBO_call 90 = .ok (.if_icmp .ne 43, 3) := by decide +kernel
theorem dBO_call_93 : decode cBO_call 93 = .ok (.aload_n 0, 1) := by decide +kernel
theorem dBO_call_94 : decode cBO_call 94 = .ok (.iload_n 1, 1) := by decide +kernel
theorem dBO_call_95 : decode cBO_call 95 = .ok (.aload 4, 2) := by decide +kernel
theorem dBO_call_97 : decode cBO_call 97 = .ok (.getfield 184, 3) := by decide +kernel
theorem dBO_call_100 : decode cBO_call 100 = .ok (.iload_n 2, 1) := by decide +kernel
theorem dBO_call_101 : decode cBO_call 101 = .ok (.iaload, 1) := by decide +kernel
theorem dBO_call_102 : decode cBO_call 102 = .ok (.invokevirtual 186, 3) := by decide +kernel
theorem dBO_call_105 : decode cBO_call 105 = .ok (.istore 6, 2) := by decide +kernel
theorem dBO_call_107 : decode cBO_call 107 = .ok (.iload 6, 2) := by decide +kernel
theorem dBO_call_109 : decode cBO_call 109 = .ok (.iconst (-1), 1) := by decide +kernel
theorem dBO_call_110 : decode cBO_call 110 = .ok (.if_icmp .ne 11, 3) := by decide +kernel
theorem dBO_call_113 : decode cBO_call 113 = .ok (.new 135, 3) := by decide +kernel
theorem dBO_call_116 : decode cBO_call 116 = .ok (.dup, 1) := by decide +kernel
theorem dBO_call_117 : decode cBO_call 117 = .ok (.invokespecial 137, 3) := by decide +kernel
theorem dBO_call_120 : decode cBO_call 120 = .ok (.athrow, 1) := by decide +kernel
theorem dBO_call_121 : decode cBO_call 121 = .ok (.aload_n 0, 1) := by decide +kernel
theorem dBO_call_122 : decode cBO_call 122 = .ok (.getfield 18, 3) := by decide +kernel
theorem dBO_call_125 : decode cBO_call 125 = .ok (.getfield 178, 3) := by decide +kernel
theorem dBO_call_128 : decode cBO_call 128 = .ok (.iload 5, 2) := by decide +kernel
theorem dBO_call_130 : decode cBO_call 130 = .ok (.iload 6, 2) := by decide +kernel
theorem dBO_call_132 : decode cBO_call 132 = .ok (.iastore, 1) := by decide +kernel
theorem dBO_call_133 : decode cBO_call 133 = .ok (.aload_n 0, 1) := by decide +kernel
theorem dBO_call_134 : decode cBO_call 134 = .ok (.getfield 18, 3) := by decide +kernel
theorem dBO_call_137 : decode cBO_call 137 = .ok (.getfield 178, 3) := by decide +kernel
theorem dBO_call_140 : decode cBO_call 140 = .ok (.iload 5, 2) := by decide +kernel
theorem dBO_call_142 : decode cBO_call 142 = .ok (.iaload, 1) := by decide +kernel
theorem dBO_call_143 : decode cBO_call 143 = .ok (.ireturn, 1) := by decide +kernel
theorem dBO_find_0 : decode cBO_find 0 = .ok (.iload_n 1, 1) := by decide +kernel
theorem dBO_find_1 : decode cBO_find 1 = .ok (.invokestatic 50, 3) := by decide +kernel
theorem dBO_find_4 : decode cBO_find 4 = .ok (.iload_n 2, 1) := by decide +kernel
theorem dBO_find_5 : decode cBO_find 5 = .ok (.invokestatic 88, 3) := by decide +kernel
theorem dBO_find_8 : decode cBO_find 8 = .ok (.ifCond .ne 11, 3) := by decide +kernel
theorem dBO_find_11 : decode cBO_find 11 = .ok (.new 54, 3) := by decide +kernel
theorem dBO_find_14 : decode cBO_find 14 = .ok (.dup, 1) := by decide +kernel
theorem dBO_find_15 : decode cBO_find 15 = .ok (.invokespecial 56, 3) := by decide +kernel
theorem dBO_find_18 : decode cBO_find 18 = .ok (.athrow, 1) := by decide +kernel
theorem dBO_find_19 : decode cBO_find 19 = .ok (.aload_n 0, 1) := by decide +kernel
theorem dBO_find_20 : decode cBO_find 20 = .ok (.iload_n 1, 1) := by decide +kernel
theorem dBO_find_21 : decode cBO_find 21 = .ok (.invokevirtual 169, 3) := by decide +kernel
theorem dBO_find_24 : decode cBO_find 24 = .ok (.aload_n 0, 1) := by decide +kernel
theorem dBO_find_25 : decode cBO_find 25 = .ok (.iload_n 1, 1) := by decide +kernel
theorem dBO_find_26 : decode cBO_find 26 = .ok (.invokevirtual 112, 3) := by decide +kernel
theorem dBO_find_29 : decode cBO_find 29 = .ok (.aload_n 0, 1) := by decide +kernel
theorem dBO_find_30 : decode cBO_find 30 = .ok (.aload_n 0, 1) := by decide +kernel
theorem dBO_find_31 : decode cBO_find 31 = .ok (.getfield 39, 3) := by decide +kernel
theorem dBO_find_34 : decode cBO_find 34 = .ok (.iload_n 2, 1) := by decide +kernel
theorem dBO_find_35 : decode cBO_find 35 = .ok (.invokevirtual 190, 3) := by decide +kernel
theorem dBO_find_38 : decode cBO_find 38 = .ok (.istore_n 3, 1) := by decide +kernel
theorem dBO_find_39 : decode cBO_find 39 = .ok (.iload_n 3, 1) := by decide +kernel
theorem dBO_find_40 : decode cBO_find 40 = .ok (.iconst (-1), 1) := by decide +kernel
theorem dBO_find_41 : decode cBO_find 41 = .ok (.if_icmp .ne 11, 3) := by decide +kernel
theorem dBO_find_44 : decode cBO_find 44 = .ok (.new 135, 3) := by decide +kernel
theorem dBO_find_47 : decode cBO_find 47 = .ok (.dup, 1) := by decide +kernel
theorem dBO_find_48 : decode cBO_find 48 = .ok (.invokespecial 137, 3) := by decide +kernel
theorem dBO_find_51 : decode cBO_find 51 = .ok (.athrow, 1) := by decide +kernel
theorem dBO_find_52 : decode cBO_find 52 = .ok (.aload_n 0, 1) := by decide +kernel
theorem dBO_find_53 : decode cBO_find 53 = .ok (.iload_n 3, 1) := by decide +kernel
theorem dBO_find_54 : decode cBO_find 54 = .ok (.iload_n 2, 1) := by decide +kernel
theorem dBO_find_55 : decode cBO_find 55 = .ok (.invokevirtual 194, 3) := by decide +kernel
theorem dBO_find_58 : decode cBO_find 58 = .ok (.ireturn, 1) := by decide +kernel
theorem dBO_word_0 : decode cBO_word 0 = .ok (.iload_n 1, 1) := by decide +kernel
theorem dBO_word_1 : decode cBO_word 1 = .ok (.ifCond .lt 9, 3) := by decide +kernel
theorem dBO_word_4 : decode cBO_word 4 = .ok (.iload_n 1, 1) := by decide +kernel
theorem dBO_word_5 : decode cBO_word 5 = .ok (.bipush 32, 2) := by decide +kernel
theorem dBO_word_7 : decode cBO_word 7 = .ok (.if_icmp .lt 11, 3) := by decide +kernel
theorem dBO_word_10 : decode cBO_word 10 = .ok (.new 162, 3) := by decide +kernel
theorem dBO_word_13 : decode cBO_word 13 = .ok (.dup, 1) := by decide +kernel
theorem dBO_word_14 : decode cBO_word 14 = .ok (.invokespecial 164, 3) := by decide +kernel
theorem dBO_word_17 : decode cBO_word 17 = .ok (.athrow, 1) := by decide +kernel
theorem dBO_word_18 : decode cBO_word 18 = .ok (.aload_n 0, 1) := by decide +kernel
theorem dBO_word_19 : decode cBO_word 19 = .ok (.getfield 18, 3) := by decide +kernel
theorem dBO_word_22 : decode cBO_word 22 = .ok (.getfield 178, 3) := by decide +kernel
theorem dBO_word_25 : decode cBO_word 25 = .ok (.iload_n 1, 1) := by decide +kernel
theorem dBO_word_26 : decode cBO_word 26 = .ok (.iaload, 1) := by decide +kernel
theorem dBO_word_27 : decode cBO_word 27 = .ok (.ireturn, 1) := by decide +kernel
theorem dBO_store_0 : decode cBO_store 0 = .ok (.aload_n 0, 1) := by decide +kernel
theorem dBO_store_1 : decode cBO_store 1 = .ok (.getfield 18, 3) := by decide +kernel
theorem dBO_store_4 : decode cBO_store 4 = .ok (.iload_n 1, 1) := by decide +kernel
theorem dBO_store_5 : decode cBO_store 5 = .ok (.invokevirtual 197, 3) := by decide +kernel
theorem dBO_store_8 : decode cBO_store 8 = .ok (.ifCond .ne 5, 3) := by decide +kernel
theorem dBO_store_11 : decode cBO_store 11 = .ok (.iconst 0, 1) := by decide +kernel
theorem dBO_store_12 : decode cBO_store 12 = .ok (.ireturn, 1) := by decide +kernel
theorem dBO_store_13 : decode cBO_store 13 = .ok (.aload_n 0, 1) := by decide +kernel
theorem dBO_store_14 : decode cBO_store 14 = .ok (.getfield 18, 3) := by decide +kernel
theorem dBO_store_17 : decode cBO_store 17 = .ok (.getfield 178, 3) := by decide +kernel
theorem dBO_store_20 : decode cBO_store 20 = .ok (.iload_n 1, 1) := by decide +kernel
theorem dBO_store_21 : decode cBO_store 21 = .ok (.iload_n 2, 1) := by decide +kernel
theorem dBO_store_22 : decode cBO_store 22 = .ok (.iastore, 1) := by decide +kernel
theorem dBO_store_23 : decode cBO_store 23 = .ok (.iconst 1, 1) := by decide +kernel
theorem dBO_store_24 : decode cBO_store 24 = .ok (.ireturn, 1) := by decide +kernel
theorem dBO_base_0 : decode cBO_base 0 = .ok (.iload_n 1, 1) := by decide +kernel
theorem dBO_base_1 : decode cBO_base 1 = .ok (.invokestatic 200, 3) := by decide +kernel
theorem dBO_base_4 : decode cBO_base 4 = .ok (.ifCond .eq 15, 3) := by decide +kernel
theorem dBO_base_7 : decode cBO_base 7 = .ok (.aload_n 0, 1) := by decide +kernel
theorem dBO_base_8 : decode cBO_base 8 = .ok (.getfield 11, 3) := by decide +kernel
theorem dBO_base_11 : decode cBO_base 11 = .ok (.iload_n 1, 1) := by decide +kernel
theorem dBO_base_12 : decode cBO_base 12 = .ok (.aaload, 1) := by decide +kernel
theorem dBO_base_13 : decode cBO_base 13 = .ok (.getfield 172, 3) := by decide +kernel
theorem dBO_base_16 : decode cBO_base 16 = .ok (.goto 4, 3) := by decide +kernel
theorem dBO_base_19 : decode cBO_base 19 = .ok (.iconst (-1), 1) := by decide +kernel
theorem dBO_base_20 : decode cBO_base 20 = .ok (.ireturn, 1) := by decide +kernel
theorem dBO_opened_0 : decode cBO_opened 0 = .ok (.iload_n 1, 1) := by decide +kernel
theorem dBO_opened_1 : decode cBO_opened 1 = .ok (.invokestatic 200, 3) := by decide +kernel
theorem dBO_opened_4 : decode cBO_opened 4 = .ok (.ifCond .eq 15, 3) := by decide +kernel
theorem dBO_opened_7 : decode cBO_opened 7 = .ok (.aload_n 0, 1) := by decide +kernel
theorem dBO_opened_8 : decode cBO_opened 8 = .ok (.getfield 11, 3) := by decide +kernel
theorem dBO_opened_11 : decode cBO_opened 11 = .ok (.iload_n 1, 1) := by decide +kernel
theorem dBO_opened_12 : decode cBO_opened 12 = .ok (.aaload, 1) := by decide +kernel
theorem dBO_opened_13 : decode cBO_opened 13 = .ok (.getfield 152, 3) := by decide +kernel
theorem dBO_opened_16 : decode cBO_opened 16 = .ok (.goto 4, 3) := by decide +kernel
theorem dBO_opened_19 : decode cBO_opened 19 = .ok (.iconst 0, 1) := by decide +kernel
theorem dBO_opened_20 : decode cBO_opened 20 = .ok (.ireturn, 1) := by decide +kernel
theorem dBO_global_0 : decode cBO_global 0 = .ok (.iload_n 1, 1) := by decide +kernel
theorem dBO_global_1 : decode cBO_global 1 = .ok (.ifCond .lt 26, 3) := by decide +kernel
theorem dBO_global_4 : decode cBO_global 4 = .ok (.iload_n 1, 1) := by decide +kernel
theorem dBO_global_5 : decode cBO_global 5 = .ok (.aload_n 0, 1) := by decide +kernel
theorem dBO_global_6 : decode cBO_global 6 = .ok (.getfield 32, 3) := by decide +kernel
theorem dBO_global_9 : decode cBO_global 9 = .ok (.getfield 74, 3) := by decide +kernel
theorem dBO_global_12 : decode cBO_global 12 = .ok (.if_icmp .ge 15, 3) := by decide +kernel
theorem dBO_global_15 : decode cBO_global 15 = .ok (.aload_n 0, 1) := by decide +kernel
theorem dBO_global_16 : decode cBO_global 16 = .ok (.getfield 32, 3) := by decide +kernel
theorem dBO_global_19 : decode cBO_global 19 = .ok (.getfield 203, 3) := by decide +kernel
theorem dBO_global_22 : decode cBO_global 22 = .ok (.iload_n 1, 1) := by decide +kernel
theorem dBO_global_23 : decode cBO_global 23 = .ok (.iaload, 1) := by decide +kernel
theorem dBO_global_24 : decode cBO_global 24 = .ok (.goto 4, 3) := by decide +kernel
theorem dBO_global_27 : decode cBO_global 27 = .ok (.iconst (-1), 1) := by decide +kernel
theorem dBO_global_28 : decode cBO_global 28 = .ok (.ireturn, 1) := by decide +kernel
theorem dBO_events_0 : decode cBO_events 0 = .ok (.aload_n 0, 1) := by decide +kernel
theorem dBO_events_1 : decode cBO_events 1 = .ok (.getfield 25, 3) := by decide +kernel
theorem dBO_events_4 : decode cBO_events 4 = .ok (.getfield 206, 3) := by decide +kernel
theorem dBO_events_7 : decode cBO_events 7 = .ok (.ireturn, 1) := by decide +kernel
theorem dBO_event_0 : decode cBO_event 0 = .ok (.iload_n 1, 1) := by decide +kernel
theorem dBO_event_1 : decode cBO_event 1 = .ok (.ifCond .lt 20, 3) := by decide +kernel
theorem dBO_event_4 : decode cBO_event 4 = .ok (.iload_n 1, 1) := by decide +kernel
theorem dBO_event_5 : decode cBO_event 5 = .ok (.bipush 40, 2) := by decide +kernel
theorem dBO_event_7 : decode cBO_event 7 = .ok (.if_icmp .ge 14, 3) := by decide +kernel
theorem dBO_event_10 : decode cBO_event 10 = .ok (.iload_n 1, 1) := by decide +kernel
theorem dBO_event_11 : decode cBO_event 11 = .ok (.aload_n 0, 1) := by decide +kernel
theorem dBO_event_12 : decode cBO_event 12 = .ok (.getfield 25, 3) := by decide +kernel
theorem dBO_event_15 : decode cBO_event 15 = .ok (.getfield 206, 3) := by decide +kernel
theorem dBO_event_18 : decode cBO_event 18 = .ok (.if_icmp .lt 11, 3) := by decide +kernel
theorem dBO_event_21 : decode cBO_event 21 = .ok (.new 135, 3) := by decide +kernel
theorem dBO_event_24 : decode cBO_event 24 = .ok (.dup, 1) := by decide +kernel
theorem dBO_event_25 : decode cBO_event 25 = .ok (.invokespecial 137, 3) := by decide +kernel
theorem dBO_event_28 : decode cBO_event 28 = .ok (.athrow, 1) := by decide +kernel
theorem dBO_event_29 : decode cBO_event 29 = .ok (.aload_n 0, 1) := by decide +kernel
theorem dBO_event_30 : decode cBO_event 30 = .ok (.getfield 25, 3) := by decide +kernel
theorem dBO_event_33 : decode cBO_event 33 = .ok (.iload_n 1, 1) := by decide +kernel
theorem dBO_event_34 : decode cBO_event 34 = .ok (.invokevirtual 209, 3) := by decide +kernel
theorem dBO_event_37 : decode cBO_event 37 = .ok (.ireturn, 1) := by decide +kernel
theorem dBO_steps_0 : decode cBO_steps 0 = .ok (.aload_n 0, 1) := by decide +kernel
theorem dBO_steps_1 : decode cBO_steps 1 = .ok (.getfield 46, 3) := by decide +kernel
theorem dBO_steps_4 : decode cBO_steps 4 = .ok (.ireturn, 1) := by decide +kernel
theorem dBO_isObject_0 : decode cBO_isObject 0 = .ok (.iload_n 0, 1) := by decide +kernel
theorem dBO_isObject_1 : decode cBO_isObject 1 = .ok (.ifCond .lt 13, 3) := by decide +kernel
theorem dBO_isObject_4 : decode cBO_isObject 4 = .ok (.iload_n 0, 1) := by decide +kernel
theorem dBO_isObject_5 : decode cBO_isObject 5 = .ok (.bipush 6, 2) := by decide +kernel
theorem dBO_isObject_7 : decode cBO_isObject 7 = .ok (.if_icmp .ge 7, 3) := by decide +kernel
theorem dBO_isObject_10 : decode cBO_isObject 10 = .ok (.iconst 1, 1) := by decide +kernel
theorem dBO_isObject_11 : decode cBO_isObject 11 = .ok (.goto 4, 3) := by decide +kernel
theorem dBO_isObject_14 : decode cBO_isObject 14 = .ok (.iconst 0, 1) := by decide +kernel
theorem dBO_isObject_15 : decode cBO_isObject 15 = .ok (.ireturn, 1) := by decide +kernel
theorem dBO_checkObject_0 : decode cBO_checkObject 0 = .ok (.iload_n 0, 1) := by decide +kernel
theorem dBO_checkObject_1 : decode cBO_checkObject 1 = .ok (.invokestatic 200, 3) := by decide +kernel
theorem dBO_checkObject_4 : decode cBO_checkObject 4 = .ok (.ifCond .ne 11, 3) := by decide +kernel
theorem dBO_checkObject_7 : decode cBO_checkObject 7 = .ok (.new 162, 3) := by decide +kernel
theorem dBO_checkObject_10 : decode cBO_checkObject 10 = .ok (.dup, 1) := by decide +kernel
theorem dBO_checkObject_11 : decode cBO_checkObject 11 = .ok (.invokespecial 164, 3) := by decide +kernel
theorem dBO_checkObject_14 : decode cBO_checkObject 14 = .ok (.athrow, 1) := by decide +kernel
theorem dBO_checkObject_15 : decode cBO_checkObject 15 = .ok (.return_, 1) := by decide +kernel
theorem dBO_checkLoaded_0 : decode cBO_checkLoaded 0 = .ok (.aload_n 0, 1) := by decide +kernel
theorem dBO_checkLoaded_1 : decode cBO_checkLoaded 1 = .ok (.getfield 11, 3) := by decide +kernel
theorem dBO_checkLoaded_4 : decode cBO_checkLoaded 4 = .ok (.iload_n 1, 1) := by decide +kernel
theorem dBO_checkLoaded_5 : decode cBO_checkLoaded 5 = .ok (.aaload, 1) := by decide +kernel
theorem dBO_checkLoaded_6 : decode cBO_checkLoaded 6 = .ok (.invokevirtual 57, 3) := by decide +kernel
theorem dBO_checkLoaded_9 : decode cBO_checkLoaded 9 = .ok (.ifCond .ne 11, 3) := by decide +kernel
theorem dBO_checkLoaded_12 : decode cBO_checkLoaded 12 = .ok (.new 61, 3) := by decide +kernel
theorem dBO_checkLoaded_15 : decode cBO_checkLoaded 15 = .ok (.dup, 1) := by decide +kernel
theorem dBO_checkLoaded_16 : decode cBO_checkLoaded 16 = .ok (.invokespecial 63, 3) := by decide +kernel
theorem dBO_checkLoaded_19 : decode cBO_checkLoaded 19 = .ok (.athrow, 1) := by decide +kernel
theorem dBO_checkLoaded_20 : decode cBO_checkLoaded 20 = .ok (.return_, 1) := by decide +kernel
theorem dBO_checkMayGrow_0 : decode cBO_checkMayGrow 0 = .ok (.aload_n 0, 1) := by decide +kernel
theorem dBO_checkMayGrow_1 : decode cBO_checkMayGrow 1 = .ok (.getfield 11, 3) := by decide +kernel
theorem dBO_checkMayGrow_4 : decode cBO_checkMayGrow 4 = .ok (.iload_n 1, 1) := by decide +kernel
theorem dBO_checkMayGrow_5 : decode cBO_checkMayGrow 5 = .ok (.aaload, 1) := by decide +kernel
theorem dBO_checkMayGrow_6 : decode cBO_checkMayGrow 6 = .ok (.astore 4, 2) := by decide +kernel
theorem dBO_checkMayGrow_8 : decode cBO_checkMayGrow 8 = .ok (.aload 4, 2) := by decide +kernel
theorem dBO_checkMayGrow_10 : decode cBO_checkMayGrow 10 = .ok (.getfield 212, 3) := by decide +kernel
theorem dBO_checkMayGrow_13 : decode cBO_checkMayGrow 13 = .ok (.ifCond .eq 16, 3) := by decide +kernel
theorem dBO_checkMayGrow_16 : decode cBO_checkMayGrow 16 = .ok (.aload 4, 2) := by decide +kernel
theorem dBO_checkMayGrow_18 : decode cBO_checkMayGrow 18 = .ok (.invokevirtual 57, 3) := by decide +kernel
theorem dBO_checkMayGrow_21 : decode cBO_checkMayGrow 21 = .ok (.ifCond .ne 8, 3) := by decide +kernel
theorem dBO_checkMayGrow_24 : decode cBO_checkMayGrow 24 = .ok (.iload_n 2, 1) := by decide +kernel
theorem dBO_checkMayGrow_25 : decode cBO_checkMayGrow 25 = .ok (.iload_n 3, 1) := by decide +kernel
theorem dBO_checkMayGrow_26 : decode cBO_checkMayGrow 26 = .ok (.if_icmp .lt 11, 3) := by decide +kernel
theorem dBO_checkMayGrow_29 : decode cBO_checkMayGrow 29 = .ok (.new 61, 3) := by decide +kernel
theorem dBO_checkMayGrow_32 : decode cBO_checkMayGrow 32 = .ok (.dup, 1) := by decide +kernel
theorem dBO_checkMayGrow_33 : decode cBO_checkMayGrow 33 = .ok (.invokespecial 63, 3) := by decide +kernel
theorem dBO_checkMayGrow_36 : decode cBO_checkMayGrow 36 = .ok (.athrow, 1) := by decide +kernel
theorem dBO_checkMayGrow_37 : decode cBO_checkMayGrow 37 = .ok (.return_, 1) := by decide +kernel
theorem dBO_isIn_0 : decode cBO_isIn 0 = .ok (.iload_n 0, 1) := by decide +kernel
theorem dBO_isIn_1 : decode cBO_isIn 1 = .ok (.iload_n 1, 1) := by decide +kernel
theorem dBO_isIn_2 : decode cBO_isIn 2 = .ok (.ishr, 1) := by decide +kernel
theorem dBO_isIn_3 : decode cBO_isIn 3 = .ok (.iconst 1, 1) := by decide +kernel
theorem dBO_isIn_4 : decode cBO_isIn 4 = .ok (.iand, 1) := by decide +kernel
theorem dBO_isIn_5 : decode cBO_isIn 5 = .ok (.ifCond .eq 7, 3) := by decide +kernel
theorem dBO_isIn_8 : decode cBO_isIn 8 = .ok (.iconst 1, 1) := by decide +kernel
theorem dBO_isIn_9 : decode cBO_isIn 9 = .ok (.goto 4, 3) := by decide +kernel
theorem dBO_isIn_12 : decode cBO_isIn 12 = .ok (.iconst 0, 1) := by decide +kernel
theorem dBO_isIn_13 : decode cBO_isIn 13 = .ok (.ireturn, 1) := by decide +kernel
theorem dBO_isLetter_0 : decode cBO_isLetter 0 = .ok (.iload_n 0, 1) := by decide +kernel
theorem dBO_isLetter_1 : decode cBO_isLetter 1 = .ok (.bipush 97, 2) := by decide +kernel
theorem dBO_isLetter_3 : decode cBO_isLetter 3 = .ok (.if_icmp .lt 13, 3) := by decide +kernel
theorem dBO_isLetter_6 : decode cBO_isLetter 6 = .ok (.iload_n 0, 1) := by decide +kernel
theorem dBO_isLetter_7 : decode cBO_isLetter 7 = .ok (.bipush 122, 2) := by decide +kernel
theorem dBO_isLetter_9 : decode cBO_isLetter 9 = .ok (.if_icmp .gt 7, 3) := by decide +kernel
theorem dBO_isLetter_12 : decode cBO_isLetter 12 = .ok (.iconst 1, 1) := by decide +kernel
theorem dBO_isLetter_13 : decode cBO_isLetter 13 = .ok (.goto 4, 3) := by decide +kernel
theorem dBO_isLetter_16 : decode cBO_isLetter 16 = .ok (.iconst 0, 1) := by decide +kernel
theorem dBO_isLetter_17 : decode cBO_isLetter 17 = .ok (.ireturn, 1) := by decide +kernel
theorem dBO_isName_0 : decode cBO_isName 0 = .ok (.iconst 0, 1) := by decide +kernel
theorem dBO_isName_1 : decode cBO_isName 1 = .ok (.istore_n 1, 1) := by decide +kernel
theorem dBO_isName_2 : decode cBO_isName 2 = .ok (.iconst 0, 1) := by decide +kernel
theorem dBO_isName_3 : decode cBO_isName 3 = .ok (.istore_n 2, 1) := by decide +kernel
theorem dBO_isName_4 : decode cBO_isName 4 = .ok (.iload_n 2, 1) := by decide +kernel
theorem dBO_isName_5 : decode cBO_isName 5 = .ok (.bipush 32, 2) := by decide +kernel
theorem dBO_isName_7 : decode cBO_isName 7 = .ok (.if_icmp .ge 44, 3) := by decide +kernel
theorem dBO_isName_10 : decode cBO_isName 10 = .ok (.iload_n 0, 1) := by decide +kernel
theorem dBO_isName_11 : decode cBO_isName 11 = .ok (.iload_n 2, 1) := by decide +kernel
theorem dBO_isName_12 : decode cBO_isName 12 = .ok (.iushr, 1) := by decide +kernel
theorem dBO_isName_13 : decode cBO_isName 13 = .ok (.sipush 255, 3) := by decide +kernel
theorem dBO_isName_16 : decode cBO_isName 16 = .ok (.iand, 1) := by decide +kernel
theorem dBO_isName_17 : decode cBO_isName 17 = .ok (.istore_n 3, 1) := by decide +kernel
theorem dBO_isName_18 : decode cBO_isName 18 = .ok (.iload_n 3, 1) := by decide +kernel
theorem dBO_isName_19 : decode cBO_isName 19 = .ok (.ifCond .eq 16, 3) := by decide +kernel
theorem dBO_isName_22 : decode cBO_isName 22 = .ok (.iload_n 1, 1) := by decide +kernel
theorem dBO_isName_23 : decode cBO_isName 23 = .ok (.ifCond .ne 10, 3) := by decide +kernel
theorem dBO_isName_26 : decode cBO_isName 26 = .ok (.iload_n 3, 1) := by decide +kernel
theorem dBO_isName_27 : decode cBO_isName 27 = .ok (.invokestatic 214, 3) := by decide +kernel
theorem dBO_isName_30 : decode cBO_isName 30 = .ok (.ifCond .ne 5, 3) := by decide +kernel
theorem dBO_isName_33 : decode cBO_isName 33 = .ok (.iconst 0, 1) := by decide +kernel
theorem dBO_isName_34 : decode cBO_isName 34 = .ok (.ireturn, 1) := by decide +kernel
theorem dBO_isName_35 : decode cBO_isName 35 = .ok (.iload_n 3, 1) := by decide +kernel
theorem dBO_isName_36 : decode cBO_isName 36 = .ok (.ifCond .ne 7, 3) := by decide +kernel
theorem dBO_isName_39 : decode cBO_isName 39 = .ok (.iconst 1, 1) := by decide +kernel
theorem dBO_isName_40 : decode cBO_isName 40 = .ok (.goto 4, 3) := by decide +kernel
theorem dBO_isName_43 : decode cBO_isName 43 = .ok (.iconst 0, 1) := by decide +kernel
theorem dBO_isName_44 : decode cBO_isName 44 = .ok (.istore_n 1, 1) := by decide +kernel
theorem dBO_isName_45 : decode cBO_isName 45 = .ok (.iinc 2 8, 3) := by decide +kernel
theorem dBO_isName_48 : decode cBO_isName 48 = .ok (.goto (-44), 3) := by decide +kernel
theorem dBO_isName_51 : decode cBO_isName 51 = .ok (.iload_n 0, 1) := by decide +kernel
theorem dBO_isName_52 : decode cBO_isName 52 = .ok (.ifCond .eq 7, 3) := by decide +kernel
theorem dBO_isName_55 : decode cBO_isName 55 = .ok (.iconst 1, 1) := by decide +kernel
theorem dBO_isName_56 : decode cBO_isName 56 = .ok (.goto 4, 3) := by decide +kernel
theorem dBO_isName_59 : decode cBO_isName 59 = .ok (.iconst 0, 1) := by decide +kernel
theorem dBO_isName_60 : decode cBO_isName 60 = .ok (.ireturn, 1) := by decide +kernel
theorem dBO_chainOf_0 : decode cBO_chainOf 0 = .ok (.iconst 0, 1) := by decide +kernel
theorem dBO_chainOf_1 : decode cBO_chainOf 1 = .ok (.istore_n 1, 1) := by decide +kernel
theorem dBO_chainOf_2 : decode cBO_chainOf 2 = .ok (.iconst 0, 1) := by decide +kernel
theorem dBO_chainOf_3 : decode cBO_chainOf 3 = .ok (.istore_n 2, 1) := by decide +kernel
theorem dBO_chainOf_4 : decode cBO_chainOf 4 = .ok (.iload_n 2, 1) := by decide +kernel
theorem dBO_chainOf_5 : decode cBO_chainOf 5 = .ok (.bipush 32, 2) := by decide +kernel
theorem dBO_chainOf_7 : decode cBO_chainOf 7 = .ok (.if_icmp .ge 28, 3) := by decide +kernel
theorem dBO_chainOf_10 : decode cBO_chainOf 10 = .ok (.iload_n 0, 1) := by decide +kernel
theorem dBO_chainOf_11 : decode cBO_chainOf 11 = .ok (.iload_n 2, 1) := by decide +kernel
theorem dBO_chainOf_12 : decode cBO_chainOf 12 = .ok (.iushr, 1) := by decide +kernel
theorem dBO_chainOf_13 : decode cBO_chainOf 13 = .ok (.sipush 255, 3) := by decide +kernel
theorem dBO_chainOf_16 : decode cBO_chainOf 16 = .ok (.iand, 1) := by decide +kernel
theorem dBO_chainOf_17 : decode cBO_chainOf 17 = .ok (.istore_n 3, 1) := by decide +kernel
theorem dBO_chainOf_18 : decode cBO_chainOf 18 = .ok (.iload_n 3, 1) := by decide +kernel
theorem dBO_chainOf_19 : decode cBO_chainOf 19 = .ok (.ifCond .eq 10, 3) := by decide +kernel
theorem dBO_chainOf_22 : decode cBO_chainOf 22 = .ok (.bipush 16, 2) := by decide +kernel
theorem dBO_chainOf_24 : decode cBO_chainOf 24 = .ok (.iload_n 1, 1) := by decide +kernel
theorem dBO_chainOf_25 : decode cBO_chainOf 25 = .ok (.imul, 1) := by decide +kernel
theorem dBO_chainOf_26 : decode cBO_chainOf 26 = .ok (.iload_n 3, 1) := by decide +kernel
theorem dBO_chainOf_27 : decode cBO_chainOf 27 = .ok (.iadd, 1) := by decide +kernel
theorem dBO_chainOf_28 : decode cBO_chainOf 28 = .ok (.istore_n 1, 1) := by decide +kernel
theorem dBO_chainOf_29 : decode cBO_chainOf 29 = .ok (.iinc 2 8, 3) := by decide +kernel
theorem dBO_chainOf_32 : decode cBO_chainOf 32 = .ok (.goto (-28), 3) := by decide +kernel
theorem dBO_chainOf_35 : decode cBO_chainOf 35 = .ok (.iload_n 1, 1) := by decide +kernel
theorem dBO_chainOf_36 : decode cBO_chainOf 36 = .ok (.iconst 3, 1) := by decide +kernel
theorem dBO_chainOf_37 : decode cBO_chainOf 37 = .ok (.irem, 1) := by decide +kernel
theorem dBO_chainOf_38 : decode cBO_chainOf 38 = .ok (.ireturn, 1) := by decide +kernel
theorem dBO_unboundSlot_0 : decode cBO_unboundSlot 0 = .ok (.iconst (-1), 1) := by decide +kernel
theorem dBO_unboundSlot_1 : decode cBO_unboundSlot 1 = .ok (.iload_n 0, 1) := by decide +kernel
theorem dBO_unboundSlot_2 : decode cBO_unboundSlot 2 = .ok (.isub, 1) := by decide +kernel
theorem dBO_unboundSlot_3 : decode cBO_unboundSlot 3 = .ok (.ireturn, 1) := by decide +kernel
theorem dBO_fillClosure_0 : decode cBO_fillClosure 0 = .ok (.aload_n 0, 1) := by decide +kernel
theorem dBO_fillClosure_1 : decode cBO_fillClosure 1 = .ok (.getfield 39, 3) := by decide +kernel
theorem dBO_fillClosure_4 : decode cBO_fillClosure 4 = .ok (.iconst 0, 1) := by decide +kernel
theorem dBO_fillClosure_5 : decode cBO_fillClosure 5 = .ok (.invokevirtual 132, 3) := by decide +kernel
theorem dBO_fillClosure_8 : decode cBO_fillClosure 8 = .ok (.aload_n 0, 1) := by decide +kernel
theorem dBO_fillClosure_9 : decode cBO_fillClosure 9 = .ok (.getfield 39, 3) := by decide +kernel
theorem dBO_fillClosure_12 : decode cBO_fillClosure 12 = .ok (.iload_n 1, 1) := by decide +kernel
theorem dBO_fillClosure_13 : decode cBO_fillClosure 13 = .ok (.invokevirtual 81, 3) := by decide +kernel
theorem dBO_fillClosure_16 : decode cBO_fillClosure 16 = .ok (.iconst 0, 1) := by decide +kernel
theorem dBO_fillClosure_17 : decode cBO_fillClosure 17 = .ok (.istore_n 2, 1) := by decide +kernel
theorem dBO_fillClosure_18 : decode cBO_fillClosure 18 = .ok (.iload_n 2, 1) := by decide +kernel
theorem dBO_fillClosure_19 : decode cBO_fillClosure 19 = .ok (.bipush 6, 2) := by decide +kernel
theorem dBO_fillClosure_21 : decode cBO_fillClosure 21 = .ok (.if_icmp .ge 44, 3) := by decide +kernel
theorem dBO_fillClosure_24 : decode cBO_fillClosure 24 = .ok (.iload_n 2, 1) := by decide +kernel
theorem dBO_fillClosure_25 : decode cBO_fillClosure 25 = .ok (.aload_n 0, 1) := by decide +kernel
theorem dBO_fillClosure_26 : decode cBO_fillClosure 26 = .ok (.getfield 39, 3) := by decide +kernel
theorem dBO_fillClosure_29 : decode cBO_fillClosure 29 = .ok (.getfield 74, 3) := by decide +kernel
theorem dBO_fillClosure_32 : decode cBO_fillClosure 32 = .ok (.if_icmp .ge 33, 3) := by decide +kernel
theorem dBO_fillClosure_35 : decode cBO_fillClosure 35 = .ok (.aload_n 0, 1) := by decide +kernel
theorem dBO_fillClosure_36 : decode cBO_fillClosure 36 = .ok (.getfield 39, 3) := by decide +kernel
theorem dBO_fillClosure_39 : decode cBO_fillClosure 39 = .ok (.aload_n 0, 1) := by decide +kernel
theorem dBO_fillClosure_40 : decode cBO_fillClosure 40 = .ok (.getfield 11, 3) := by decide +kernel
theorem dBO_fillClosure_43 : decode cBO_fillClosure 43 = .ok (.aload_n 0, 1) := by decide +kernel
theorem dBO_fillClosure_44 : decode cBO_fillClosure 44 = .ok (.getfield 39, 3) := by decide +kernel
theorem dBO_fillClosure_47 : decode cBO_fillClosure 47 = .ok (.getfield 203, 3) := by decide +kernel
theorem dBO_fillClosure_50 : decode cBO_fillClosure 50 = .ok (.iload_n 2, 1) := by decide +kernel
theorem dBO_fillClosure_51 : decode cBO_fillClosure 51 = .ok (.iaload, 1) := by decide +kernel
theorem dBO_fillClosure_52 : decode cBO_fillClosure 52 = .ok (.aaload, 1) := by decide +kernel
theorem dBO_fillClosure_53 : decode cBO_fillClosure 53 = .ok (.getfield 67, 3) := by decide +kernel
theorem dBO_fillClosure_56 : decode cBO_fillClosure 56 = .ok (.invokevirtual 124, 3) := by decide +kernel
theorem dBO_fillClosure_59 : decode cBO_fillClosure 59 = .ok (.iinc 2 1, 3) := by decide +kernel
theorem dBO_fillClosure_62 : decode cBO_fillClosure 62 = .ok (.goto (-44), 3) := by decide +kernel
theorem dBO_fillClosure_65 : decode cBO_fillClosure 65 = .ok (.return_, 1) := by decide +kernel
theorem dBO_closureHasImages_0 : decode cBO_closureHasImages 0 = .ok (.iconst 0, 1) := by decide +kernel
theorem dBO_closureHasImages_1 : decode cBO_closureHasImages 1 = .ok (.istore_n 1, 1) := by decide +kernel
theorem dBO_closureHasImages_2 : decode cBO_closureHasImages 2 = .ok (.iload_n 1, 1) := by decide +kernel
theorem dBO_closureHasImages_3 : decode cBO_closureHasImages 3 = .ok (.aload_n 0, 1) := by decide +kernel
theorem dBO_closureHasImages_4 : decode cBO_closureHasImages 4 = .ok (.getfield 39, 3) := by decide +kernel
theorem dBO_closureHasImages_7 : decode cBO_closureHasImages 7 = .ok (.getfield 74, 3) := by decide +kernel
theorem dBO_closureHasImages_10 : decode cBO_closureHasImages 10 = .ok (.if_icmp .ge 31, 3) := by decide +kernel
theorem dBO_closureHasImages_13 : decode cBO_closureHasImages 13 = .ok (.aload_n 0, 1) := by decide +kernel
theorem dBO_closureHasImages_14 : decode cBO_closureHasImages 14 = .ok (.getfield 11, 3) := by decide +kernel
theorem dBO_closureHasImages_17 : decode cBO_closureHasImages 17 = .ok (.aload_n 0, 1) := by decide +kernel
theorem dBO_closureHasImages_18 : decode cBO_closureHasImages 18 = .ok (.getfield 39, 3) := by decide +kernel
theorem dBO_closureHasImages_21 : decode cBO_closureHasImages 21 = .ok (.getfield 203, 3) := by decide +kernel
theorem dBO_closureHasImages_24 : decode cBO_closureHasImages 24 = .ok (.iload_n 1, 1) := by decide +kernel
theorem dBO_closureHasImages_25 : decode cBO_closureHasImages 25 = .ok (.iaload, 1) := by decide +kernel
theorem dBO_closureHasImages_26 : decode cBO_closureHasImages 26 = .ok (.aaload, 1) := by decide +kernel
theorem dBO_closureHasImages_27 : decode cBO_closureHasImages 27 = .ok (.getfield 212, 3) := by decide +kernel
theorem dBO_closureHasImages_30 : decode cBO_closureHasImages 30 = .ok (.ifCond .ne 5, 3) := by decide +kernel
theorem dBO_closureHasImages_33 : decode cBO_closureHasImages 33 = .ok (.iconst 0, 1) := by decide +kernel
theorem dBO_closureHasImages_34 : decode cBO_closureHasImages 34 = .ok (.ireturn, 1) := by decide +kernel
theorem dBO_closureHasImages_35 : decode cBO_closureHasImages 35 = .ok (.iinc 1 1, 3) := by decide +kernel
theorem dBO_closureHasImages_38 : decode cBO_closureHasImages 38 = .ok (.goto (-36), 3) := by decide +kernel
theorem dBO_closureHasImages_41 : decode cBO_closureHasImages 41 = .ok (.iconst 1, 1) := by decide +kernel
theorem dBO_closureHasImages_42 : decode cBO_closureHasImages 42 = .ok (.ireturn, 1) := by decide +kernel
theorem dBO_loadClosure_0 : decode cBO_loadClosure 0 = .ok (.aload_n 0, 1) := by decide +kernel
theorem dBO_loadClosure_1 : decode cBO_loadClosure 1 = .ok (.iconst 0, 1) := by decide +kernel
theorem dBO_loadClosure_2 : decode cBO_loadClosure 2 = .ok (.putfield 42, 3) := by decide +kernel
theorem dBO_loadClosure_5 : decode cBO_loadClosure 5 = .ok (.iconst 0, 1) := by decide +kernel
theorem dBO_loadClosure_6 : decode cBO_loadClosure 6 = .ok (.istore_n 1, 1) := by decide +kernel
theorem dBO_loadClosure_7 : decode cBO_loadClosure 7 = .ok (.iload_n 1, 1) := by decide +kernel
theorem dBO_loadClosure_8 : decode cBO_loadClosure 8 = .ok (.aload_n 0, 1) := by decide +kernel
theorem dBO_loadClosure_9 : decode cBO_loadClosure 9 = .ok (.getfield 39, 3) := by decide +kernel
theorem dBO_loadClosure_12 : decode cBO_loadClosure 12 = .ok (.getfield 74, 3) := by decide +kernel
theorem dBO_loadClosure_15 : decode cBO_loadClosure 15 = .ok (.if_icmp .ge 41, 3) := by decide +kernel
theorem dBO_loadClosure_18 : decode cBO_loadClosure 18 = .ok (.aload_n 0, 1) := by decide +kernel
theorem dBO_loadClosure_19 : decode cBO_loadClosure 19 = .ok (.getfield 39, 3) := by decide +kernel
theorem dBO_loadClosure_22 : decode cBO_loadClosure 22 = .ok (.getfield 203, 3) := by decide +kernel
theorem dBO_loadClosure_25 : decode cBO_loadClosure 25 = .ok (.iload_n 1, 1) := by decide +kernel
theorem dBO_loadClosure_26 : decode cBO_loadClosure 26 = .ok (.iaload, 1) := by decide +kernel
theorem dBO_loadClosure_27 : decode cBO_loadClosure 27 = .ok (.istore_n 2, 1) := by decide +kernel
theorem dBO_loadClosure_28 : decode cBO_loadClosure 28 = .ok (.aload_n 0, 1) := by decide +kernel
theorem dBO_loadClosure_29 : decode cBO_loadClosure 29 = .ok (.getfield 11, 3) := by decide +kernel
theorem dBO_loadClosure_32 : decode cBO_loadClosure 32 = .ok (.iload_n 2, 1) := by decide +kernel
theorem dBO_loadClosure_33 : decode cBO_loadClosure 33 = .ok (.aaload, 1) := by decide +kernel
theorem dBO_loadClosure_34 : decode cBO_loadClosure 34 = .ok (.invokevirtual 57, 3) := by decide +kernel
theorem dBO_loadClosure_37 : decode cBO_loadClosure 37 = .ok (.ifCond .ne 13, 3) := by decide +kernel
theorem dBO_loadClosure_40 : decode cBO_loadClosure 40 = .ok (.aload_n 0, 1) := by decide +kernel
theorem dBO_loadClosure_41 : decode cBO_loadClosure 41 = .ok (.iload_n 2, 1) := by decide +kernel
theorem dBO_loadClosure_42 : decode cBO_loadClosure 42 = .ok (.invokevirtual 217, 3) := by decide +kernel
theorem dBO_loadClosure_45 : decode cBO_loadClosure 45 = .ok (.ifCond .ne 5, 3) := by decide +kernel
theorem dBO_loadClosure_48 : decode cBO_loadClosure 48 = .ok (.iconst 0, 1) := by decide +kernel
theorem dBO_loadClosure_49 : decode cBO_loadClosure 49 = .ok (.ireturn, 1) := by decide +kernel
theorem dBO_loadClosure_50 : decode cBO_loadClosure 50 = .ok (.iinc 1 1, 3) := by decide +kernel
theorem dBO_loadClosure_53 : decode cBO_loadClosure 53 = .ok (.goto (-46), 3) := by decide +kernel
theorem dBO_loadClosure_56 : decode cBO_loadClosure 56 = .ok (.iconst 1, 1) := by decide +kernel
theorem dBO_loadClosure_57 : decode cBO_loadClosure 57 = .ok (.ireturn, 1) := by decide +kernel
theorem dBO_load_0 : decode cBO_load 0 = .ok (.aload_n 0, 1) := by decide +kernel
theorem dBO_load_1 : decode cBO_load 1 = .ok (.getfield 11, 3) := by decide +kernel
theorem dBO_load_4 : decode cBO_load 4 = .ok (.iload_n 1, 1) := by decide +kernel
theorem dBO_load_5 : decode cBO_load 5 = .ok (.aaload, 1) := by decide +kernel
theorem dBO_load_6 : decode cBO_load 6 = .ok (.astore_n 2, 1) := by decide +kernel
theorem dBO_load_7 : decode cBO_load 7 = .ok (.aload_n 0, 1) := by decide +kernel
theorem dBO_load_8 : decode cBO_load 8 = .ok (.getfield 18, 3) := by decide +kernel
theorem dBO_load_11 : decode cBO_load 11 = .ok (.aload_n 2, 1) := by decide +kernel
theorem dBO_load_12 : decode cBO_load 12 = .ok (.getfield 212, 3) := by decide +kernel
theorem dBO_load_15 : decode cBO_load 15 = .ok (.invokevirtual 220, 3) := by decide +kernel
theorem dBO_load_18 : decode cBO_load 18 = .ok (.istore_n 3, 1) := by decide +kernel
theorem dBO_load_19 : decode cBO_load 19 = .ok (.iload_n 3, 1) := by decide +kernel
theorem dBO_load_20 : decode cBO_load 20 = .ok (.iconst (-1), 1) := by decide +kernel
theorem dBO_load_21 : decode cBO_load 21 = .ok (.if_icmp .ne 5, 3) := by decide +kernel
theorem dBO_load_24 : decode cBO_load 24 = .ok (.iconst 0, 1) := by decide +kernel
theorem dBO_load_25 : decode cBO_load 25 = .ok (.ireturn, 1) := by decide +kernel
theorem dBO_load_26 : decode cBO_load 26 = .ok (.aload_n 0, 1) := by decide +kernel
theorem dBO_load_27 : decode cBO_load 27 = .ok (.getfield 18, 3) := by decide +kernel
theorem dBO_load_30 : decode cBO_load 30 = .ok (.iload_n 3, 1) := by decide +kernel
theorem dBO_load_31 : decode cBO_load 31 = .ok (.aload_n 2, 1) := by decide +kernel
theorem dBO_load_32 : decode cBO_load 32 = .ok (.getfield 212, 3) := by decide +kernel
theorem dBO_load_35 : decode cBO_load 35 = .ok (.invokevirtual 223, 3) := by decide +kernel
theorem dBO_load_38 : decode cBO_load 38 = .ok (.aload_n 2, 1) := by decide +kernel
theorem dBO_load_39 : decode cBO_load 39 = .ok (.iload_n 3, 1) := by decide +kernel
theorem dBO_load_40 : decode cBO_load 40 = .ok (.putfield 172, 3) := by decide +kernel
theorem dBO_load_43 : decode cBO_load 43 = .ok (.aload_n 2, 1) := by decide +kernel
theorem dBO_load_44 : decode cBO_load 44 = .ok (.getfield 226, 3) := by decide +kernel
theorem dBO_load_47 : decode cBO_load 47 = .ok (.iconst 0, 1) := by decide +kernel
theorem dBO_load_48 : decode cBO_load 48 = .ok (.invokevirtual 132, 3) := by decide +kernel
theorem dBO_load_51 : decode cBO_load 51 = .ok (.aload_n 2, 1) := by decide +kernel
theorem dBO_load_52 : decode cBO_load 52 = .ok (.getfield 226, 3) := by decide +kernel
theorem dBO_load_55 : decode cBO_load 55 = .ok (.aload_n 0, 1) := by decide +kernel
theorem dBO_load_56 : decode cBO_load 56 = .ok (.getfield 39, 3) := by decide +kernel
theorem dBO_load_59 : decode cBO_load 59 = .ok (.invokevirtual 124, 3) := by decide +kernel
theorem dBO_load_62 : decode cBO_load 62 = .ok (.aload_n 0, 1) := by decide +kernel
theorem dBO_load_63 : decode cBO_load 63 = .ok (.dup, 1) := by decide +kernel
theorem dBO_load_64 : decode cBO_load 64 = .ok (.getfield 42, 3) := by decide +kernel
theorem dBO_load_67 : decode cBO_load 67 = .ok (.iconst 1, 1) := by decide +kernel
theorem dBO_load_68 : decode cBO_load 68 = .ok (.iload_n 1, 1) := by decide +kernel
theorem dBO_load_69 : decode cBO_load 69 = .ok (.ishl, 1) := by decide +kernel
theorem dBO_load_70 : decode cBO_load 70 = .ok (.ior, 1) := by decide +kernel
theorem dBO_load_71 : decode cBO_load 71 = .ok (.putfield 42, 3) := by decide +kernel
theorem dBO_load_74 : decode cBO_load 74 = .ok (.iconst 1, 1) := by decide +kernel
theorem dBO_load_75 : decode cBO_load 75 = .ok (.ireturn, 1) := by decide +kernel
theorem dBO_takeOut_0 : decode cBO_takeOut 0 = .ok (.aload_n 0, 1) := by decide +kernel
theorem dBO_takeOut_1 : decode cBO_takeOut 1 = .ok (.getfield 11, 3) := by decide +kernel
theorem dBO_takeOut_4 : decode cBO_takeOut 4 = .ok (.iload_n 1, 1) := by decide +kernel
theorem dBO_takeOut_5 : decode cBO_takeOut 5 = .ok (.aaload, 1) := by decide +kernel
theorem dBO_takeOut_6 : decode cBO_takeOut 6 = .ok (.astore_n 2, 1) := by decide +kernel
theorem dBO_takeOut_7 : decode cBO_takeOut 7 = .ok (.aload_n 0, 1) := by decide +kernel
theorem dBO_takeOut_8 : decode cBO_takeOut 8 = .ok (.getfield 18, 3) := by decide +kernel
theorem dBO_takeOut_11 : decode cBO_takeOut 11 = .ok (.aload_n 2, 1) := by decide +kernel
theorem dBO_takeOut_12 : decode cBO_takeOut 12 = .ok (.getfield 172, 3) := by decide +kernel
theorem dBO_takeOut_15 : decode cBO_takeOut 15 = .ok (.aload_n 2, 1) := by decide +kernel
theorem dBO_takeOut_16 : decode cBO_takeOut 16 = .ok (.getfield 212, 3) := by decide +kernel
theorem dBO_takeOut_19 : decode cBO_takeOut 19 = .ok (.invokevirtual 229, 3) := by decide +kernel
theorem dBO_takeOut_22 : decode cBO_takeOut 22 = .ok (.aload_n 2, 1) := by decide +kernel
theorem dBO_takeOut_23 : decode cBO_takeOut 23 = .ok (.iconst (-1), 1) := by decide +kernel
theorem dBO_takeOut_24 : decode cBO_takeOut 24 = .ok (.putfield 172, 3) := by decide +kernel
theorem dBO_takeOut_27 : decode cBO_takeOut 27 = .ok (.aload_n 2, 1) := by decide +kernel
theorem dBO_takeOut_28 : decode cBO_takeOut 28 = .ok (.iconst 0, 1) := by decide +kernel
theorem dBO_takeOut_29 : decode cBO_takeOut 29 = .ok (.putfield 232, 3) := by decide +kernel
theorem dBO_takeOut_32 : decode cBO_takeOut 32 = .ok (.aload_n 0, 1) := by decide +kernel
theorem dBO_takeOut_33 : decode cBO_takeOut 33 = .ok (.getfield 32, 3) := by decide +kernel
theorem dBO_takeOut_36 : decode cBO_takeOut 36 = .ok (.iload_n 1, 1) := by decide +kernel
theorem dBO_takeOut_37 : decode cBO_takeOut 37 = .ok (.invokevirtual 235, 3) := by decide +kernel
theorem dBO_takeOut_40 : decode cBO_takeOut 40 = .ok (.return_, 1) := by decide +kernel
theorem dBO_takeOutNewcomers_0 : decode cBO_takeOutNewcomers 0 = .ok (.iconst 0, 1) := by decide +kernel
theorem dBO_takeOutNewcomers_1 : decode cBO_takeOutNewcomers 1 = .ok (.istore_n 1, 1) := by decide +kernel
theorem dBO_takeOutNewcomers_2 : decode cBO_takeOutNewcomers 2 = .ok (.iload_n 1, 1) := by decide +kernel
theorem dBO_takeOutNewcomers_3 : decode cBO_takeOutNewcomers 3 = .ok (.bipush 6, 2) := by decide +kernel
theorem dBO_takeOutNewcomers_5 : decode cBO_takeOutNewcomers 5 = .ok (.if_icmp .ge 25, 3) := by decide +kernel
theorem dBO_takeOutNewcomers_8 : decode cBO_takeOutNewcomers 8 = .ok (.aload_n 0, 1) := by decide +kernel
theorem dBO_takeOutNewcomers_9 : decode cBO_takeOutNewcomers 9 = .ok (.getfield 42, 3) := by decide +kernel
theorem dBO_takeOutNewcomers_12 : decode cBO_takeOutNewcomers 12 = .ok (.iload_n 1, 1) := by decide +kernel
theorem dBO_takeOutNewcomers_13 : decode cBO_takeOutNewcomers 13 = .ok (.invokestatic 144, 3) := by decide +kernel
theorem dBO_takeOutNewcomers_16 : decode cBO_takeOutNewcomers 16 = .ok (.ifCond .eq 8, 3) := by decide +kernel
theorem dBO_takeOutNewcomers_19 : decode cBO_takeOutNewcomers 19 = .ok (.aload_n 0, 1) := by decide +kernel
theorem dBO_takeOutNewcomers_20 : decode cBO_takeOutNewcomers 20 = .ok (.iload_n 1, 1) := by decide +kernel
theorem dBO_takeOutNewcomers_21 : decode cBO_takeOutNewcomers 21 = .ok (.invokevirtual 238, 3) := by decide +kernel
theorem dBO_takeOutNewcomers_24 : decode cBO_takeOutNewcomers 24 = .ok (.iinc 1 1, 3) := by decide +kernel
theorem dBO_takeOutNewcomers_27 : decode cBO_takeOutNewcomers 27 = .ok (.goto (-25), 3) := by decide +kernel
theorem dBO_takeOutNewcomers_30 : decode cBO_takeOutNewcomers 30 = .ok (.return_, 1) := by decide +kernel
theorem dBO_relocateNewcomers_0 : decode cBO_relocateNewcomers 0 = .ok (.iconst 0, 1) := by decide +kernel
theorem dBO_relocateNewcomers_1 : decode cBO_relocateNewcomers 1 = .ok (.istore_n 2, 1) := by decide +kernel
theorem dBO_relocateNewcomers_2 : decode cBO_relocateNewcomers 2 = .ok (.iload_n 2, 1) := by decide +kernel
theorem dBO_relocateNewcomers_3 : decode cBO_relocateNewcomers 3 = .ok (.aload_n 0, 1) := by decide +kernel
theorem dBO_relocateNewcomers_4 : decode cBO_relocateNewcomers 4 = .ok (.getfield 39, 3) := by decide +kernel
theorem dBO_relocateNewcomers_7 : decode cBO_relocateNewcomers 7 = .ok (.getfield 74, 3) := by decide +kernel
theorem dBO_relocateNewcomers_10 : decode cBO_relocateNewcomers 10 = .ok (.if_icmp .ge 77, 3) := by decide +kernel
theorem dBO_relocateNewcomers_13 : decode cBO_relocateNewcomers 13 = .ok (.aload_n 0, 1) := by decide +kernel
theorem dBO_relocateNewcomers_14 : decode cBO_relocateNewcomers 14 = .ok (.getfield 39, 3) := by decide +kernel
theorem dBO_relocateNewcomers_17 : decode cBO_relocateNewcomers 17 = .ok (.getfield 203, 3) := by decide +kernel
theorem dBO_relocateNewcomers_20 : decode cBO_relocateNewcomers 20 = .ok (.iload_n 2, 1) := by decide +kernel
theorem dBO_relocateNewcomers_21 : decode cBO_relocateNewcomers 21 = .ok (.iaload, 1) := by decide +kernel
theorem dBO_relocateNewcomers_22 : decode cBO_relocateNewcomers 22 = .ok (.istore_n 3, 1) := by decide +kernel
theorem dBO_relocateNewcomers_23 : decode cBO_relocateNewcomers 23 = .ok (.aload_n 0, 1) := by decide +kernel
theorem dBO_relocateNewcomers_24 : decode cBO_relocateNewcomers 24 = .ok (.getfield 42, 3) := by decide +kernel
theorem dBO_relocateNewcomers_27 : decode cBO_relocateNewcomers 27 = .ok (.iload_n 3, 1) := by decide +kernel
theorem dBO_relocateNewcomers_28 : decode cBO_relocateNewcomers 28 = .ok (.invokestatic 144, 3) := by decide +kernel
theorem dBO_relocateNewcomers_31 : decode cBO_relocateNewcomers 31 = .ok (.ifCond .eq 18, 3) := by decide +kernel
theorem dBO_relocateNewcomers_34 : decode cBO_relocateNewcomers 34 = .ok (.aload_n 0, 1) := by decide +kernel
theorem dBO_relocateNewcomers_35 : decode cBO_relocateNewcomers 35 = .ok (.getfield 11, 3) := by decide +kernel
theorem dBO_relocateNewcomers_38 : decode cBO_relocateNewcomers 38 = .ok (.iload_n 3, 1) := by decide +kernel
theorem dBO_relocateNewcomers_39 : decode cBO_relocateNewcomers 39 = .ok (.aaload, 1) := by decide +kernel
theorem dBO_relocateNewcomers_40 : decode cBO_relocateNewcomers 40 = .ok (.getfield 102, 3) := by decide +kernel
theorem dBO_relocateNewcomers_43 : decode cBO_relocateNewcomers 43 = .ok (.getfield 106, 3) := by decide +kernel
theorem dBO_relocateNewcomers_46 : decode cBO_relocateNewcomers 46 = .ok (.goto 4, 3) := by decide +kernel
theorem dBO_relocateNewcomers_49 : decode cBO_relocateNewcomers 49 = .ok (.iconst 0, 1) := by decide +kernel
theorem dBO_relocateNewcomers_50 : decode cBO_relocateNewcomers 50 = .ok (.istore 4, 2) := by decide +kernel
theorem dBO_relocateNewcomers_52 : decode cBO_relocateNewcomers 52 = .ok (.iconst 0, 1) := by decide +kernel
theorem dBO_relocateNewcomers_53 : decode cBO_relocateNewcomers 53 = .ok (.istore 5, 2) := by decide +kernel
theorem dBO_relocateNewcomers_55 : decode cBO_relocateNewcomers 55 = .ok (.iload 5, 2) := by decide +kernel
theorem dBO_relocateNewcomers_57 : decode cBO_relocateNewcomers 57 = .ok (.iload 4, 2) := by decide +kernel
theorem dBO_relocateNewcomers_59 : decode cBO_relocateNewcomers 59 = .ok (.if_icmp .ge 22, 3) := by decide +kernel
theorem dBO_relocateNewcomers_62 : decode cBO_relocateNewcomers 62 = .ok (.aload_n 0, 1) := by decide +kernel
theorem dBO_relocateNewcomers_63 : decode cBO_relocateNewcomers 63 = .ok (.iload_n 3, 1) := by decide +kernel
theorem dBO_relocateNewcomers_64 : decode cBO_relocateNewcomers 64 = .ok (.iload 5, 2) := by decide +kernel
theorem dBO_relocateNewcomers_66 : decode cBO_relocateNewcomers 66 = .ok (.iload_n 1, 1) := by decide +kernel
theorem dBO_relocateNewcomers_67 : decode cBO_relocateNewcomers 67 = .ok (.invokevirtual 241, 3) := by decide +kernel
theorem dBO_relocateNewcomers_70 : decode cBO_relocateNewcomers 70 = .ok (.ifCond .ne 5, 3) := by decide +kernel
theorem dBO_relocateNewcomers_73 : decode cBO_relocateNewcomers 73 = .ok (.iconst 0, 1) := by decide +kernel
theorem dBO_relocateNewcomers_74 : decode cBO_relocateNewcomers 74 = .ok (.ireturn, 1) := by decide +kernel
theorem dBO_relocateNewcomers_75 : decode cBO_relocateNewcomers 75 = .ok (.iinc 5 1, 3) := by decide +kernel
theorem dBO_relocateNewcomers_78 : decode cBO_relocateNewcomers 78 = .ok (.goto (-23), 3) := by decide +kernel
theorem dBO_relocateNewcomers_81 : decode cBO_relocateNewcomers 81 = .ok (.iinc 2 1, 3) := by decide +kernel
theorem dBO_relocateNewcomers_84 : decode cBO_relocateNewcomers 84 = .ok (.goto (-82), 3) := by decide +kernel
theorem dBO_relocateNewcomers_87 : decode cBO_relocateNewcomers 87 = .ok (.iconst 1, 1) := by decide +kernel
theorem dBO_relocateNewcomers_88 : decode cBO_relocateNewcomers 88 = .ok (.ireturn, 1) := by decide +kernel
theorem dBO_doRelocation_0 : decode cBO_doRelocation 0 = .ok (.aload_n 0, 1) := by decide +kernel
theorem dBO_doRelocation_1 : decode cBO_doRelocation 1 = .ok (.getfield 11, 3) := by decide +kernel
theorem dBO_doRelocation_4 : decode cBO_doRelocation 4 = .ok (.iload_n 1, 1) := by decide +kernel
theorem dBO_doRelocation_5 : decode cBO_doRelocation 5 = .ok (.aaload, 1) := by decide +kernel
theorem dBO_doRelocation_6 : decode cBO_doRelocation 6 = .ok (.astore 4, 2) := by decide +kernel
theorem dBO_doRelocation_8 : decode cBO_doRelocation 8 = .ok (.aload 4, 2) := by decide +kernel
theorem dBO_doRelocation_10 : decode cBO_doRelocation 10 = .ok (.getfield 102, 3) := by decide +kernel
theorem dBO_doRelocation_13 : decode cBO_doRelocation 13 = .ok (.astore 5, 2) := by decide +kernel
theorem dBO_doRelocation_15 : decode cBO_doRelocation 15 = .ok (.aload 5, 2) := by decide +kernel
theorem dBO_doRelocation_17 : decode cBO_doRelocation 17 = .ok (.getfield 165, 3) := by decide +kernel
theorem dBO_doRelocation_20 : decode cBO_doRelocation 20 = .ok (.iload_n 2, 1) := by decide +kernel
theorem dBO_doRelocation_21 : decode cBO_doRelocation 21 = .ok (.iaload, 1) := by decide +kernel
theorem dBO_doRelocation_22 : decode cBO_doRelocation 22 = .ok (.istore 6, 2) := by decide +kernel
theorem dBO_doRelocation_24 : decode cBO_doRelocation 24 = .ok (.aload 4, 2) := by decide +kernel
theorem dBO_doRelocation_26 : decode cBO_doRelocation 26 = .ok (.getfield 172, 3) := by decide +kernel
theorem dBO_doRelocation_29 : decode cBO_doRelocation 29 = .ok (.aload 5, 2) := by decide +kernel
theorem dBO_doRelocation_31 : decode cBO_doRelocation 31 = .ok (.getfield 175, 3) := by decide +kernel
theorem dBO_doRelocation_34 : decode cBO_doRelocation 34 = .ok (.iload_n 2, 1) := by decide +kernel
theorem dBO_doRelocation_35 : decode cBO_doRelocation 35 = .ok (.iaload, 1) := by decide +kernel
theorem dBO_doRelocation_36 : decode cBO_doRelocation 36 = .ok (.iadd, 1) := by decide +kernel
theorem dBO_doRelocation_37 : decode cBO_doRelocation 37 = .ok (.istore 7, 2) := by decide +kernel
theorem dBO_doRelocation_39 : decode cBO_doRelocation 39 = .ok (.iload 6, 2) := by decide +kernel
theorem dBO_doRelocation_41 : decode cBO_doRelocation 41 = .ok (.ifCond .ne 28, 3) := by decide +kernel
theorem dBO_doRelocation_44 : decode cBO_doRelocation 44 = .ok (.aload_n 0, 1) := by decide +kernel
theorem dBO_doRelocation_45 : decode cBO_doRelocation 45 = .ok (.getfield 18, 3) := by decide +kernel
theorem dBO_doRelocation_48 : decode cBO_doRelocation 48 = .ok (.getfield 178, 3) := by decide +kernel
theorem dBO_doRelocation_51 : decode cBO_doRelocation 51 = .ok (.iload 7, 2) := by decide +kernel
theorem dBO_doRelocation_53 : decode cBO_doRelocation 53 = .ok (.aload 4, 2) := by decide +kernel
theorem dBO_doRelocation_55 : decode cBO_doRelocation 55 = .ok (.getfield 172, 3) := by decide +kernel
theorem dBO_doRelocation_58 : decode cBO_doRelocation 58 = .ok (.aload 5, 2) := by decide +kernel
theorem dBO_doRelocation_60 : decode cBO_doRelocation 60 = .ok (.getfield 245, 3) := by decide +kernel
theorem dBO_doRelocation_63 : decode cBO_doRelocation 63 = .ok (.iload_n 2, 1) := by decide +kernel
theorem dBO_doRelocation_64 : decode cBO_doRelocation 64 = .ok (.iaload, 1) := by decide +kernel
theorem dBO_doRelocation_65 : decode cBO_doRelocation 65 = .ok (.iadd, 1) := by decide +kernel
theorem dBO_doRelocation_66 : decode cBO_doRelocation 66 = .ok (.iastore, 1) := by decide +kernel
theorem dBO_doRelocation_67 : decode cBO_doRelocation 67 = .ok (.iconst 1, 1) := by decide +kernel
theorem dBO_doRelocation_68 : decode cBO_doRelocation 68 = .ok (.ireturn, 1) := by decide +kernel
theorem dBO_doRelocation_69 : decode cBO_doRelocation 69 = .ok (.iload 6, 2) := by decide +kernel
theorem dBO_doRelocation_71 : decode cBO_doRelocation 71 = .ok (.iconst 2, 1) := by decide +kernel
theorem dBO_doRelocation_72 : decode cBO_doRelocation 72 = .ok (.if_icmp .ne 23, 3) := by decide +kernel
theorem dBO_doRelocation_75 : decode cBO_doRelocation 75 = .ok (.iload_n 3, 1) := by decide +kernel
theorem dBO_doRelocation_76 : decode cBO_doRelocation 76 = .ok (.ifCond .eq 19, 3) := by decide +kernel
theorem dBO_doRelocation_79 : decode cBO_doRelocation 79 = .ok (.aload_n 0, 1) := by decide +kernel
theorem dBO_doRelocation_80 : decode cBO_doRelocation 80 = .ok (.getfield 18, 3) := by decide +kernel
theorem dBO_doRelocation_83 : decode cBO_doRelocation 83 = .ok (.getfield 178, 3) := by decide +kernel
theorem dBO_doRelocation_86 : decode cBO_doRelocation 86 = .ok (.iload 7, 2) := by decide +kernel
theorem dBO_doRelocation_88 : decode cBO_doRelocation 88 = .ok (.iload_n 2, 1) := by decide +kernel
theorem dBO_doRelocation_89 : decode cBO_doRelocation 89 = .ok (.invokestatic 181, 3) := by decide +kernel
theorem dBO_doRelocation_92 : decode cBO_doRelocation 92 = .ok (.iastore, 1) := by decide +kernel
theorem dBO_doRelocation_93 : decode cBO_doRelocation 93 = .ok (.iconst 1, 1) := by decide +kernel
theorem dBO_doRelocation_94 : decode cBO_doRelocation 94 = .ok (.ireturn, 1) := by decide +kernel
theorem dBO_doRelocation_95 : decode cBO_doRelocation 95 = .ok (.aload_n 0, 1) := by decide +kernel
theorem dBO_doRelocation_96 : decode cBO_doRelocation 96 = .ok (.iload_n 1, 1) := by decide +kernel
theorem dBO_doRelocation_97 : decode cBO_doRelocation 97 = .ok (.aload 5, 2) := by decide +kernel
theorem dBO_doRelocation_99 : decode cBO_doRelocation 99 = .ok (.getfield 184, 3) := by decide +kernel
theorem dBO_doRelocation_102 : decode cBO_doRelocation 102 = .ok (.iload_n 2, 1) := by decide +kernel
theorem dBO_doRelocation_103 : decode cBO_doRelocation 103 = .ok (.iaload, 1) := by decide +kernel
theorem dBO_doRelocation_104 : decode cBO_doRelocation 104 = .ok (.invokevirtual 186, 3) := by decide +kernel
theorem dBO_doRelocation_107 : decode cBO_doRelocation 107 = .ok (.istore 8, 2) := by decide +kernel
theorem dBO_doRelocation_109 : decode cBO_doRelocation 109 = .ok (.iload 8, 2) := by decide +kernel
theorem dBO_doRelocation_111 : decode cBO_doRelocation 111 = .ok (.iconst (-1), 1) := by decide +kernel
theorem dBO_doRelocation_112 : decode cBO_doRelocation 112 = .ok (.if_icmp .ne 5, 3) := by decide +kernel
theorem dBO_doRelocation_115 : decode cBO_doRelocation 115 = .ok (.iconst 0, 1) := by decide +kernel
theorem dBO_doRelocation_116 : decode cBO_doRelocation 116 = .ok (.ireturn, 1) := by decide +kernel
theorem dBO_doRelocation_117 : decode cBO_doRelocation 117 = .ok (.aload_n 0, 1) := by decide +kernel
theorem dBO_doRelocation_118 : decode cBO_doRelocation 118 = .ok (.getfield 18, 3) := by decide +kernel
theorem dBO_doRelocation_121 : decode cBO_doRelocation 121 = .ok (.getfield 178, 3) := by decide +kernel
theorem dBO_doRelocation_124 : decode cBO_doRelocation 124 = .ok (.iload 7, 2) := by decide +kernel
theorem dBO_doRelocation_126 : decode cBO_doRelocation 126 = .ok (.iload 6, 2) := by decide +kernel
theorem dBO_doRelocation_128 : decode cBO_doRelocation 128 = .ok (.iconst 1, 1) := by decide +kernel
theorem dBO_doRelocation_129 : decode cBO_doRelocation 129 = .ok (.if_icmp .ne 16, 3) := by decide +kernel
theorem dBO_doRelocation_132 : decode cBO_doRelocation 132 = .ok (.iload 8, 2) := by decide +kernel
theorem dBO_doRelocation_134 : decode cBO_doRelocation 134 = .ok (.aload 5, 2) := by decide +kernel
theorem dBO_doRelocation_136 : decode cBO_doRelocation 136 = .ok (.getfield 245, 3) := by decide +kernel
theorem dBO_doRelocation_139 : decode cBO_doRelocation 139 = .ok (.iload_n 2, 1) := by decide +kernel
theorem dBO_doRelocation_140 : decode cBO_doRelocation 140 = .ok (.iaload, 1) := by decide +kernel
theorem dBO_doRelocation_141 : decode cBO_doRelocation 141 = .ok (.iadd, 1) := by decide +kernel
theorem dBO_doRelocation_142 : decode cBO_doRelocation 142 = .ok (.goto 5, 3) := by decide +kernel
theorem dBO_doRelocation_145 : decode cBO_doRelocation 145 = .ok (.iload 8, 2) := by decide +kernel
theorem dBO_doRelocation_147 : decode cBO_doRelocation 147 = .ok (.iastore, 1) := by decide +kernel
theorem dBO_doRelocation_148 : decode cBO_doRelocation 148 = .ok (.iconst 1, 1) := by decide +kernel
theorem dBO_doRelocation_149 : decode cBO_doRelocation 149 = .ok (.ireturn, 1) := by decide +kernel
theorem dBO_resolve_0 : decode cBO_resolve 0 = .ok (.aload_n 0, 1) := by decide +kernel
theorem dBO_resolve_1 : decode cBO_resolve 1 = .ok (.getfield 11, 3) := by decide +kernel
theorem dBO_resolve_4 : decode cBO_resolve 4 = .ok (.iload_n 1, 1) := by decide +kernel
theorem dBO_resolve_5 : decode cBO_resolve 5 = .ok (.aaload, 1) := by decide +kernel
theorem dBO_resolve_6 : decode cBO_resolve 6 = .ok (.astore_n 3, 1) := by decide +kernel
theorem dBO_resolve_7 : decode cBO_resolve 7 = .ok (.aload_n 3, 1) := by decide +kernel
theorem dBO_resolve_8 : decode cBO_resolve 8 = .ok (.getfield 84, 3) := by decide +kernel
theorem dBO_resolve_11 : decode cBO_resolve 11 = .ok (.getfield 248, 3) := by decide +kernel
theorem dBO_resolve_14 : decode cBO_resolve 14 = .ok (.iload_n 2, 1) := by decide +kernel
theorem dBO_resolve_15 : decode cBO_resolve 15 = .ok (.iaload, 1) := by decide +kernel
theorem dBO_resolve_16 : decode cBO_resolve 16 = .ok (.istore 4, 2) := by decide +kernel
theorem dBO_resolve_18 : decode cBO_resolve 18 = .ok (.aload_n 0, 1) := by decide +kernel
theorem dBO_resolve_19 : decode cBO_resolve 19 = .ok (.iload_n 1, 1) := by decide +kernel
theorem dBO_resolve_20 : decode cBO_resolve 20 = .ok (.iload 4, 2) := by decide +kernel
theorem dBO_resolve_22 : decode cBO_resolve 22 = .ok (.invokevirtual 251, 3) := by decide +kernel
theorem dBO_resolve_25 : decode cBO_resolve 25 = .ok (.istore 5, 2) := by decide +kernel
theorem dBO_resolve_27 : decode cBO_resolve 27 = .ok (.iload 5, 2) := by decide +kernel
theorem dBO_resolve_29 : decode cBO_resolve 29 = .ok (.iconst (-1), 1) := by decide +kernel
theorem dBO_resolve_30 : decode cBO_resolve 30 = .ok (.if_icmp .ne 21, 3) := by decide +kernel
theorem dBO_resolve_33 : decode cBO_resolve 33 = .ok (.aload_n 3, 1) := by decide +kernel
theorem dBO_resolve_34 : decode cBO_resolve 34 = .ok (.getfield 84, 3) := by decide +kernel
theorem dBO_resolve_37 : decode cBO_resolve 37 = .ok (.getfield 254, 3) := by decide +kernel
theorem dBO_resolve_40 : decode cBO_resolve 40 = .ok (.iload_n 2, 1) := by decide +kernel
theorem dBO_resolve_41 : decode cBO_resolve 41 = .ok (.baload, 1) := by decide +kernel
theorem dBO_resolve_42 : decode cBO_resolve 42 = .ok (.ifCond .eq 7, 3) := by decide +kernel
theorem dBO_resolve_45 : decode cBO_resolve 45 = .ok (.iconst 0, 1) := by decide +kernel
theorem dBO_resolve_46 : decode cBO_resolve 46 = .ok (.goto 4, 3) := by decide +kernel
theorem dBO_resolve_49 : decode cBO_resolve 49 = .ok (.iconst (-1), 1) := by decide +kernel
theorem dBO_resolve_50 : decode cBO_resolve 50 = .ok (.ireturn, 1) := by decide +kernel
theorem dBO_resolve_51 : decode cBO_resolve 51 = .ok (.iload 5, 2) := by decide +kernel
theorem dBO_resolve_53 : decode cBO_resolve 53 = .ok (.iload_n 1, 1) := by decide +kernel
theorem dBO_resolve_54 : decode cBO_resolve 54 = .ok (.if_icmp .eq 16, 3) := by decide +kernel
theorem dBO_resolve_57 : decode cBO_resolve 57 = .ok (.aload_n 3, 1) := by decide +kernel
theorem dBO_resolve_58 : decode cBO_resolve 58 = .ok (.dup, 1) := by decide +kernel
theorem dBO_resolve_59 : decode cBO_resolve 59 = .ok (.getfield 232, 3) := by decide +kernel
theorem dBO_resolve_62 : decode cBO_resolve 62 = .ok (.iconst 1, 1) := by decide +kernel
theorem dBO_resolve_63 : decode cBO_resolve 63 = .ok (.iload 5, 2) := by decide +kernel
theorem dBO_resolve_65 : decode cBO_resolve 65 = .ok (.ishl, 1) := by decide +kernel
theorem dBO_resolve_66 : decode cBO_resolve 66 = .ok (.ior, 1) := by decide +kernel
theorem dBO_resolve_67 : decode cBO_resolve 67 = .ok (.putfield 232, 3) := by decide +kernel
theorem dBO_resolve_70 : decode cBO_resolve 70 = .ok (.aload_n 0, 1) := by decide +kernel
theorem dBO_resolve_71 : decode cBO_resolve 71 = .ok (.iload 5, 2) := by decide +kernel
theorem dBO_resolve_73 : decode cBO_resolve 73 = .ok (.iload 4, 2) := by decide +kernel
theorem dBO_resolve_75 : decode cBO_resolve 75 = .ok (.invokevirtual 194, 3) := by decide +kernel
theorem dBO_resolve_78 : decode cBO_resolve 78 = .ok (.ireturn, 1) := by decide +kernel
theorem dBO_lookUp_0 : decode cBO_lookUp 0 = .ok (.aload_n 0, 1) := by decide +kernel
theorem dBO_lookUp_1 : decode cBO_lookUp 1 = .ok (.aload_n 0, 1) := by decide +kernel
theorem dBO_lookUp_2 : decode cBO_lookUp 2 = .ok (.getfield 32, 3) := by decide +kernel
theorem dBO_lookUp_5 : decode cBO_lookUp 5 = .ok (.iload_n 2, 1) := by decide +kernel
theorem dBO_lookUp_6 : decode cBO_lookUp 6 = .ok (.invokevirtual 190, 3) := by decide +kernel
theorem dBO_lookUp_9 : decode cBO_lookUp 9 = .ok (.istore_n 3, 1) := by decide +kernel
theorem dBO_lookUp_10 : decode cBO_lookUp 10 = .ok (.iload_n 3, 1) := by decide +kernel
theorem dBO_lookUp_11 : decode cBO_lookUp 11 = .ok (.iconst (-1), 1) := by decide +kernel
theorem dBO_lookUp_12 : decode cBO_lookUp 12 = .ok (.if_icmp .eq 7, 3) := by decide +kernel
theorem dBO_lookUp_15 : decode cBO_lookUp 15 = .ok (.iload_n 3, 1) := by decide +kernel
theorem dBO_lookUp_16 : decode cBO_lookUp 16 = .ok (.goto 17, 3) := by decide +kernel
theorem dBO_lookUp_19 : decode cBO_lookUp 19 = .ok (.aload_n 0, 1) := by decide +kernel
theorem dBO_lookUp_20 : decode cBO_lookUp 20 = .ok (.aload_n 0, 1) := by decide +kernel
theorem dBO_lookUp_21 : decode cBO_lookUp 21 = .ok (.getfield 11, 3) := by decide +kernel
theorem dBO_lookUp_24 : decode cBO_lookUp 24 = .ok (.iload_n 1, 1) := by decide +kernel
theorem dBO_lookUp_25 : decode cBO_lookUp 25 = .ok (.aaload, 1) := by decide +kernel
theorem dBO_lookUp_26 : decode cBO_lookUp 26 = .ok (.getfield 226, 3) := by decide +kernel
theorem dBO_lookUp_29 : decode cBO_lookUp 29 = .ok (.iload_n 2, 1) := by decide +kernel
theorem dBO_lookUp_30 : decode cBO_lookUp 30 = .ok (.invokevirtual 190, 3) := by decide +kernel
theorem dBO_lookUp_33 : decode cBO_lookUp 33 = .ok (.ireturn, 1) := by decide +kernel
theorem dBO_firstDefining_0 : decode cBO_firstDefining 0 = .ok (.iload_n 2, 1) := by decide +kernel
theorem dBO_firstDefining_1 : decode cBO_firstDefining 1 = .ok (.invokestatic 258, 3) := by decide +kernel
theorem dBO_firstDefining_4 : decode cBO_firstDefining 4 = .ok (.istore_n 3, 1) := by decide +kernel
theorem dBO_firstDefining_5 : decode cBO_firstDefining 5 = .ok (.iconst 0, 1) := by decide +kernel
theorem dBO_firstDefining_6 : decode cBO_firstDefining 6 = .ok (.istore 4, 2) := by decide +kernel
theorem dBO_firstDefining_8 : decode cBO_firstDefining 8 = .ok (.iload 4, 2) := by decide +kernel
theorem dBO_firstDefining_10 : decode cBO_firstDefining 10 = .ok (.aload_n 1, 1) := by decide +kernel
theorem dBO_firstDefining_11 : decode cBO_firstDefining 11 = .ok (.getfield 74, 3) := by decide +kernel
theorem dBO_firstDefining_14 : decode cBO_firstDefining 14 = .ok (.if_icmp .ge 70, 3) := by decide +kernel
theorem dBO_firstDefining_17 : decode cBO_firstDefining 17 = .ok (.aload_n 1, 1) := by decide +kernel
theorem dBO_firstDefining_18 : decode cBO_firstDefining 18 = .ok (.getfield 203, 3) := by decide +kernel
theorem dBO_firstDefining_21 : decode cBO_firstDefining 21 = .ok (.iload 4, 2) := by decide +kernel
theorem dBO_firstDefining_23 : decode cBO_firstDefining 23 = .ok (.iaload, 1) := by decide +kernel
theorem dBO_firstDefining_24 : decode cBO_firstDefining 24 = .ok (.istore 5, 2) := by decide +kernel
theorem dBO_firstDefining_26 : decode cBO_firstDefining 26 = .ok (.aload_n 0, 1) := by decide +kernel
theorem dBO_firstDefining_27 : decode cBO_firstDefining 27 = .ok (.getfield 11, 3) := by decide +kernel
theorem dBO_firstDefining_30 : decode cBO_firstDefining 30 = .ok (.iload 5, 2) := by decide +kernel
theorem dBO_firstDefining_32 : decode cBO_firstDefining 32 = .ok (.aaload, 1) := by decide +kernel
theorem dBO_firstDefining_33 : decode cBO_firstDefining 33 = .ok (.astore 6, 2) := by decide +kernel
theorem dBO_firstDefining_35 : decode cBO_firstDefining 35 = .ok (.aload 6, 2) := by decide +kernel
theorem dBO_firstDefining_37 : decode cBO_firstDefining 37 = .ok (.invokevirtual 57, 3) := by decide +kernel
theorem dBO_firstDefining_40 : decode cBO_firstDefining 40 = .ok (.ifCond .eq 38, 3) := by decide +kernel
theorem dBO_firstDefining_43 : decode cBO_firstDefining 43 = .ok (.aload_n 0, 1) := by decide +kernel
theorem dBO_firstDefining_44 : decode cBO_firstDefining 44 = .ok (.dup, 1) := by decide +kernel
theorem dBO_firstDefining_45 : decode cBO_firstDefining 45 = .ok (.getfield 46, 3) := by decide +kernel
theorem dBO_firstDefining_48 : decode cBO_firstDefining 48 = .ok (.aload 6, 2) := by decide +kernel
theorem dBO_firstDefining_50 : decode cBO_firstDefining 50 = .ok (.getfield 84, 3) := by decide +kernel
theorem dBO_firstDefining_53 : decode cBO_firstDefining 53 = .ok (.iload_n 2, 1) := by decide +kernel
theorem dBO_firstDefining_54 : decode cBO_firstDefining 54 = .ok (.iload_n 3, 1) := by decide +kernel
theorem dBO_firstDefining_55 : decode cBO_firstDefining 55 = .ok (.invokevirtual 261, 3) := by decide +kernel
theorem dBO_firstDefining_58 : decode cBO_firstDefining 58 = .ok (.iadd, 1) := by decide +kernel
theorem dBO_firstDefining_59 : decode cBO_firstDefining 59 = .ok (.putfield 46, 3) := by decide +kernel
theorem dBO_firstDefining_62 : decode cBO_firstDefining 62 = .ok (.aload 6, 2) := by decide +kernel
theorem dBO_firstDefining_64 : decode cBO_firstDefining 64 = .ok (.getfield 84, 3) := by decide +kernel
theorem dBO_firstDefining_67 : decode cBO_firstDefining 67 = .ok (.iload_n 2, 1) := by decide +kernel
theorem dBO_firstDefining_68 : decode cBO_firstDefining 68 = .ok (.invokevirtual 264, 3) := by decide +kernel
theorem dBO_firstDefining_71 : decode cBO_firstDefining 71 = .ok (.iconst (-1), 1) := by decide +kernel
theorem dBO_firstDefining_72 : decode cBO_firstDefining 72 = .ok (.if_icmp .eq 6, 3) := by decide +kernel
theorem dBO_firstDefining_75 : decode cBO_firstDefining 75 = .ok (.iload 5, 2) := by decide +kernel
theorem dBO_firstDefining_77 : decode cBO_firstDefining 77 = .ok (.ireturn, 1) := by decide +kernel
theorem dBO_firstDefining_78 : decode cBO_firstDefining 78 = .ok (.iinc 4 1, 3) := by decide +kernel
theorem dBO_firstDefining_81 : decode cBO_firstDefining 81 = .ok (.goto (-73), 3) := by decide +kernel
theorem dBO_firstDefining_84 : decode cBO_firstDefining 84 = .ok (.iconst (-1), 1) := by decide +kernel
theorem dBO_firstDefining_85 : decode cBO_firstDefining 85 = .ok (.ireturn, 1) := by decide +kernel
theorem dBO_addressIn_0 : decode cBO_addressIn 0 = .ok (.aload_n 0, 1) := by decide +kernel
theorem dBO_addressIn_1 : decode cBO_addressIn 1 = .ok (.getfield 11, 3) := by decide +kernel
theorem dBO_addressIn_4 : decode cBO_addressIn 4 = .ok (.iload_n 1, 1) := by decide +kernel
theorem dBO_addressIn_5 : decode cBO_addressIn 5 = .ok (.aaload, 1) := by decide +kernel
theorem dBO_addressIn_6 : decode cBO_addressIn 6 = .ok (.getfield 172, 3) := by decide +kernel
theorem dBO_addressIn_9 : decode cBO_addressIn 9 = .ok (.aload_n 0, 1) := by decide +kernel
theorem dBO_addressIn_10 : decode cBO_addressIn 10 = .ok (.getfield 11, 3) := by decide +kernel
theorem dBO_addressIn_13 : decode cBO_addressIn 13 = .ok (.iload_n 1, 1) := by decide +kernel
theorem dBO_addressIn_14 : decode cBO_addressIn 14 = .ok (.aaload, 1) := by decide +kernel
theorem dBO_addressIn_15 : decode cBO_addressIn 15 = .ok (.getfield 84, 3) := by decide +kernel
theorem dBO_addressIn_18 : decode cBO_addressIn 18 = .ok (.iload_n 2, 1) := by decide +kernel
theorem dBO_addressIn_19 : decode cBO_addressIn 19 = .ok (.invokevirtual 264, 3) := by decide +kernel
theorem dBO_addressIn_22 : decode cBO_addressIn 22 = .ok (.iadd, 1) := by decide +kernel
theorem dBO_addressIn_23 : decode cBO_addressIn 23 = .ok (.ireturn, 1) := by decide +kernel
theorem dBO_goInto_0 : decode cBO_goInto 0 = .ok (.aload_n 0, 1) := by decide +kernel
theorem dBO_goInto_1 : decode cBO_goInto 1 = .ok (.dup, 1) := by decide +kernel
theorem dBO_goInto_2 : decode cBO_goInto 2 = .ok (.getfield 42, 3) := by decide +kernel
theorem dBO_goInto_5 : decode cBO_goInto 5 = .ok (.iconst 1, 1) := by decide +kernel
theorem dBO_goInto_6 : decode cBO_goInto 6 = .ok (.iload_n 1, 1) := by decide +kernel
theorem dBO_goInto_7 : decode cBO_goInto 7 = .ok (.ishl, 1) := by decide +kernel
theorem dBO_goInto_8 : decode cBO_goInto 8 = .ok (.iconst (-1), 1) := by decide +kernel
theorem dBO_goInto_9 : decode cBO_goInto 9 = .ok (.ixor, 1) := by decide +kernel
theorem dBO_goInto_10 : decode cBO_goInto 10 = .ok (.iand, 1) := by decide +kernel
theorem dBO_goInto_11 : decode cBO_goInto 11 = .ok (.putfield 42, 3) := by decide +kernel
theorem dBO_goInto_14 : decode cBO_goInto 14 = .ok (.aload_n 0, 1) := by decide +kernel
theorem dBO_goInto_15 : decode cBO_goInto 15 = .ok (.iload_n 1, 1) := by decide +kernel
theorem dBO_goInto_16 : decode cBO_goInto 16 = .ok (.iload_n 2, 1) := by decide +kernel
theorem dBO_goInto_17 : decode cBO_goInto 17 = .ok (.invokevirtual 267, 3) := by decide +kernel
theorem dBO_goInto_20 : decode cBO_goInto 20 = .ok (.aload_n 0, 1) := by decide +kernel
theorem dBO_goInto_21 : decode cBO_goInto 21 = .ok (.getfield 36, 3) := by decide +kernel
theorem dBO_goInto_24 : decode cBO_goInto 24 = .ok (.iload_n 1, 1) := by decide +kernel
theorem dBO_goInto_25 : decode cBO_goInto 25 = .ok (.invokevirtual 81, 3) := by decide +kernel
theorem dBO_goInto_28 : decode cBO_goInto 28 = .ok (.aload_n 0, 1) := by decide +kernel
theorem dBO_goInto_29 : decode cBO_goInto 29 = .ok (.getfield 25, 3) := by decide +kernel
theorem dBO_goInto_32 : decode cBO_goInto 32 = .ok (.iload_n 1, 1) := by decide +kernel
theorem dBO_goInto_33 : decode cBO_goInto 33 = .ok (.invokevirtual 270, 3) := by decide +kernel
theorem dBO_goInto_36 : decode cBO_goInto 36 = .ok (.return_, 1) := by decide +kernel
theorem dBO_goIntoNeeds_0 : decode cBO_goIntoNeeds 0 = .ok (.iload_n 2, 1) := by decide +kernel
theorem dBO_goIntoNeeds_1 : decode cBO_goIntoNeeds 1 = .ok (.bipush 6, 2) := by decide +kernel
theorem dBO_goIntoNeeds_3 : decode cBO_goIntoNeeds 3 = .ok (.if_icmp .lt 4, 3) := by decide +kernel
theorem dBO_goIntoNeeds_6 : decode cBO_goIntoNeeds 6 = .ok (.return_, 1) := by decide +kernel
theorem dBO_goIntoNeeds_7 : decode cBO_goIntoNeeds 7 = .ok (.aload_n 0, 1) := by decide +kernel
theorem dBO_goIntoNeeds_8 : decode cBO_goIntoNeeds 8 = .ok (.getfield 11, 3) := by decide +kernel
theorem dBO_goIntoNeeds_11 : decode cBO_goIntoNeeds 11 = .ok (.iload_n 1, 1) := by decide +kernel
theorem dBO_goIntoNeeds_12 : decode cBO_goIntoNeeds 12 = .ok (.aaload, 1) := by decide +kernel
theorem dBO_goIntoNeeds_13 : decode cBO_goIntoNeeds 13 = .ok (.getfield 67, 3) := by decide +kernel
theorem dBO_goIntoNeeds_16 : decode cBO_goIntoNeeds 16 = .ok (.astore_n 3, 1) := by decide +kernel
theorem dBO_goIntoNeeds_17 : decode cBO_goIntoNeeds 17 = .ok (.iconst 0, 1) := by decide +kernel
theorem dBO_goIntoNeeds_18 : decode cBO_goIntoNeeds 18 = .ok (.istore 4, 2) := by decide +kernel
theorem dBO_goIntoNeeds_20 : decode cBO_goIntoNeeds 20 = .ok (.iload 4, 2) := by decide +kernel
theorem dBO_goIntoNeeds_22 : decode cBO_goIntoNeeds 22 = .ok (.aload_n 3, 1) := by decide +kernel
theorem dBO_goIntoNeeds_23 : decode cBO_goIntoNeeds 23 = .ok (.getfield 74, 3) := by decide +kernel
theorem dBO_goIntoNeeds_26 : decode cBO_goIntoNeeds 26 = .ok (.if_icmp .ge 40, 3) := by decide +kernel
theorem dBO_goIntoNeeds_29 : decode cBO_goIntoNeeds 29 = .ok (.aload_n 0, 1) := by decide +kernel
theorem dBO_goIntoNeeds_30 : decode cBO_goIntoNeeds 30 = .ok (.getfield 42, 3) := by decide +kernel
theorem dBO_goIntoNeeds_33 : decode cBO_goIntoNeeds 33 = .ok (.aload_n 3, 1) := by decide +kernel
theorem dBO_goIntoNeeds_34 : decode cBO_goIntoNeeds 34 = .ok (.getfield 203, 3) := by decide +kernel
theorem dBO_goIntoNeeds_37 : decode cBO_goIntoNeeds 37 = .ok (.iload 4, 2) := by decide +kernel
theorem dBO_goIntoNeeds_39 : decode cBO_goIntoNeeds 39 = .ok (.iaload, 1) := by decide +kernel
theorem dBO_goIntoNeeds_40 : decode cBO_goIntoNeeds 40 = .ok (.invokestatic 144, 3) := by decide +kernel
theorem dBO_goIntoNeeds_43 : decode cBO_goIntoNeeds 43 = .ok (.ifCond .eq 17, 3) := by decide +kernel
theorem dBO_goIntoNeeds_46 : decode cBO_goIntoNeeds 46 = .ok (.aload_n 0, 1) := by decide +kernel
theorem dBO_goIntoNeeds_47 : decode cBO_goIntoNeeds 47 = .ok (.aload_n 3, 1) := by decide +kernel
theorem dBO_goIntoNeeds_48 : decode cBO_goIntoNeeds 48 = .ok (.getfield 203, 3) := by decide +kernel
theorem dBO_goIntoNeeds_51 : decode cBO_goIntoNeeds 51 = .ok (.iload 4, 2) := by decide +kernel
theorem dBO_goIntoNeeds_53 : decode cBO_goIntoNeeds 53 = .ok (.iaload, 1) := by decide +kernel
theorem dBO_goIntoNeeds_54 : decode cBO_goIntoNeeds 54 = .ok (.iload_n 2, 1) := by decide +kernel
theorem dBO_goIntoNeeds_55 : decode cBO_goIntoNeeds 55 = .ok (.iconst 1, 1) := by decide +kernel
theorem dBO_goIntoNeeds_56 : decode cBO_goIntoNeeds 56 = .ok (.iadd, 1) := by decide +kernel
theorem dBO_goIntoNeeds_57 : decode cBO_goIntoNeeds 57 = .ok (.invokevirtual 148, 3) := by decide +kernel
theorem dBO_goIntoNeeds_60 : decode cBO_goIntoNeeds 60 = .ok (.iinc 4 1, 3) := by decide +kernel
theorem dBO_goIntoNeeds_63 : decode cBO_goIntoNeeds 63 = .ok (.goto (-43), 3) := by decide +kernel
theorem dBO_goIntoNeeds_66 : decode cBO_goIntoNeeds 66 = .ok (.return_, 1) := by decide +kernel
theorem dBO_keptOnes_0 : decode cBO_keptOnes 0 = .ok (.iconst 0, 1) := by decide +kernel
theorem dBO_keptOnes_1 : decode cBO_keptOnes 1 = .ok (.istore_n 1, 1) := by decide +kernel
theorem dBO_keptOnes_2 : decode cBO_keptOnes 2 = .ok (.iconst 0, 1) := by decide +kernel
theorem dBO_keptOnes_3 : decode cBO_keptOnes 3 = .ok (.istore_n 2, 1) := by decide +kernel
theorem dBO_keptOnes_4 : decode cBO_keptOnes 4 = .ok (.iload_n 2, 1) := by decide +kernel
theorem dBO_keptOnes_5 : decode cBO_keptOnes 5 = .ok (.bipush 6, 2) := by decide +kernel
theorem dBO_keptOnes_7 : decode cBO_keptOnes 7 = .ok (.if_icmp .ge 27, 3) := by decide +kernel
theorem dBO_keptOnes_10 : decode cBO_keptOnes 10 = .ok (.aload_n 0, 1) := by decide +kernel
theorem dBO_keptOnes_11 : decode cBO_keptOnes 11 = .ok (.getfield 11, 3) := by decide +kernel
theorem dBO_keptOnes_14 : decode cBO_keptOnes 14 = .ok (.iload_n 2, 1) := by decide +kernel
theorem dBO_keptOnes_15 : decode cBO_keptOnes 15 = .ok (.aaload, 1) := by decide +kernel
theorem dBO_keptOnes_16 : decode cBO_keptOnes 16 = .ok (.getfield 152, 3) := by decide +kernel
theorem dBO_keptOnes_19 : decode cBO_keptOnes 19 = .ok (.ifCond .eq 9, 3) := by decide +kernel
theorem dBO_keptOnes_22 : decode cBO_keptOnes 22 = .ok (.iload_n 1, 1) := by decide +kernel
theorem dBO_keptOnes_23 : decode cBO_keptOnes 23 = .ok (.iconst 1, 1) := by decide +kernel
theorem dBO_keptOnes_24 : decode cBO_keptOnes 24 = .ok (.iload_n 2, 1) := by decide +kernel
theorem dBO_keptOnes_25 : decode cBO_keptOnes 25 = .ok (.ishl, 1) := by decide +kernel
theorem dBO_keptOnes_26 : decode cBO_keptOnes 26 = .ok (.ior, 1) := by decide +kernel
theorem dBO_keptOnes_27 : decode cBO_keptOnes 27 = .ok (.istore_n 1, 1) := by decide +kernel
theorem dBO_keptOnes_28 : decode cBO_keptOnes 28 = .ok (.iinc 2 1, 3) := by decide +kernel
theorem dBO_keptOnes_31 : decode cBO_keptOnes 31 = .ok (.goto (-27), 3) := by decide +kernel
theorem dBO_keptOnes_34 : decode cBO_keptOnes 34 = .ok (.iconst 1, 1) := by decide +kernel
theorem dBO_keptOnes_35 : decode cBO_keptOnes 35 = .ok (.istore_n 2, 1) := by decide +kernel
theorem dBO_keptOnes_36 : decode cBO_keptOnes 36 = .ok (.iload_n 2, 1) := by decide +kernel
theorem dBO_keptOnes_37 : decode cBO_keptOnes 37 = .ok (.bipush 6, 2) := by decide +kernel
theorem dBO_keptOnes_39 : decode cBO_keptOnes 39 = .ok (.if_icmp .ge 15, 3) := by decide +kernel
theorem dBO_keptOnes_42 : decode cBO_keptOnes 42 = .ok (.aload_n 0, 1) := by decide +kernel
theorem dBO_keptOnes_43 : decode cBO_keptOnes 43 = .ok (.iload_n 1, 1) := by decide +kernel
theorem dBO_keptOnes_44 : decode cBO_keptOnes 44 = .ok (.invokevirtual 273, 3) := by decide +kernel
theorem dBO_keptOnes_47 : decode cBO_keptOnes 47 = .ok (.istore_n 1, 1) := by decide +kernel
theorem dBO_keptOnes_48 : decode cBO_keptOnes 48 = .ok (.iinc 2 1, 3) := by decide +kernel
theorem dBO_keptOnes_51 : decode cBO_keptOnes 51 = .ok (.goto (-15), 3) := by decide +kernel
theorem dBO_keptOnes_54 : decode cBO_keptOnes 54 = .ok (.iload_n 1, 1) := by decide +kernel
theorem dBO_keptOnes_55 : decode cBO_keptOnes 55 = .ok (.ireturn, 1) := by decide +kernel
theorem dBO_withThoseKeptBy_0 : decode cBO_withThoseKeptBy 0 = .ok (.iload_n 1, 1) := by decide +kernel
theorem dBO_withThoseKeptBy_1 : decode cBO_withThoseKeptBy 1 = .ok (.istore_n 2, 1) := by decide +kernel
theorem dBO_withThoseKeptBy_2 : decode cBO_withThoseKeptBy 2 = .ok (.iconst 0, 1) := by decide +kernel
theorem dBO_withThoseKeptBy_3 : decode cBO_withThoseKeptBy 3 = .ok (.istore_n 3, 1) := by decide +kernel
theorem dBO_withThoseKeptBy_4 : decode cBO_withThoseKeptBy 4 = .ok (.iload_n 3, 1) := by decide +kernel
theorem dBO_withThoseKeptBy_5 : decode cBO_withThoseKeptBy 5 = .ok (.bipush 6, 2) := by decide +kernel
theorem dBO_withThoseKeptBy_7 : decode cBO_withThoseKeptBy 7 = .ok (.if_icmp .ge 42, 3) := by decide +kernel
theorem dBO_withThoseKeptBy_10 : decode cBO_withThoseKeptBy 10 = .ok (.iload_n 1, 1) := by decide +kernel
theorem dBO_withThoseKeptBy_11 : decode cBO_withThoseKeptBy 11 = .ok (.iload_n 3, 1) := by decide +kernel
theorem dBO_withThoseKeptBy_12 : decode cBO_withThoseKeptBy 12 = .ok (.invokestatic 144, 3) := by decide +kernel
theorem dBO_withThoseKeptBy_15 : decode cBO_withThoseKeptBy 15 = .ok (.ifCond .eq 28, 3) := by decide +kernel
theorem dBO_withThoseKeptBy_18 : decode cBO_withThoseKeptBy 18 = .ok (.iload_n 2, 1) := by decide +kernel
theorem dBO_withThoseKeptBy_19 : decode cBO_withThoseKeptBy 19 = .ok (.aload_n 0, 1) := by decide +kernel
theorem dBO_withThoseKeptBy_20 : decode cBO_withThoseKeptBy 20 = .ok (.getfield 11, 3) := by decide +kernel
theorem dBO_withThoseKeptBy_23 : decode cBO_withThoseKeptBy 23 = .ok (.iload_n 3, 1) := by decide +kernel
theorem dBO_withThoseKeptBy_24 : decode cBO_withThoseKeptBy 24 = .ok (.aaload, 1) := by decide +kernel
theorem dBO_withThoseKeptBy_25 : decode cBO_withThoseKeptBy 25 = .ok (.getfield 67, 3) := by decide +kernel
theorem dBO_withThoseKeptBy_28 : decode cBO_withThoseKeptBy 28 = .ok (.invokevirtual 276, 3) := by decide +kernel
theorem dBO_withThoseKeptBy_31 : decode cBO_withThoseKeptBy 31 = .ok (.aload_n 0, 1) := by decide +kernel
theorem dBO_withThoseKeptBy_32 : decode cBO_withThoseKeptBy 32 = .ok (.getfield 11, 3) := by decide +kernel
theorem dBO_withThoseKeptBy_35 : decode cBO_withThoseKeptBy 35 = .ok (.iload_n 3, 1) := by decide +kernel
theorem dBO_withThoseKeptBy_36 : decode cBO_withThoseKeptBy 36 = .ok (.aaload, 1) := by decide +kernel
theorem dBO_withThoseKeptBy_37 : decode cBO_withThoseKeptBy 37 = .ok (.getfield 232, 3) := by decide +kernel
theorem dBO_withThoseKeptBy_40 : decode cBO_withThoseKeptBy 40 = .ok (.ior, 1) := by decide +kernel
theorem dBO_withThoseKeptBy_41 : decode cBO_withThoseKeptBy 41 = .ok (.ior, 1) := by decide +kernel
theorem dBO_withThoseKeptBy_42 : decode cBO_withThoseKeptBy 42 = .ok (.istore_n 2, 1) := by decide +kernel
theorem dBO_withThoseKeptBy_43 : decode cBO_withThoseKeptBy 43 = .ok (.iinc 3 1, 3) := by decide +kernel
theorem dBO_withThoseKeptBy_46 : decode cBO_withThoseKeptBy 46 = .ok (.goto (-42), 3) := by decide +kernel
theorem dBO_withThoseKeptBy_49 : decode cBO_withThoseKeptBy 49 = .ok (.iload_n 2, 1) := by decide +kernel
theorem dBO_withThoseKeptBy_50 : decode cBO_withThoseKeptBy 50 = .ok (.ireturn, 1) := by decide +kernel
theorem dBO_endAllBut_0 : decode cBO_endAllBut 0 = .ok (.iconst 0, 1) := by decide +kernel
theorem dBO_endAllBut_1 : decode cBO_endAllBut 1 = .ok (.istore_n 2, 1) := by decide +kernel
theorem dBO_endAllBut_2 : decode cBO_endAllBut 2 = .ok (.aload_n 0, 1) := by decide +kernel
theorem dBO_endAllBut_3 : decode cBO_endAllBut 3 = .ok (.getfield 36, 3) := by decide +kernel
theorem dBO_endAllBut_6 : decode cBO_endAllBut 6 = .ok (.getfield 74, 3) := by decide +kernel
theorem dBO_endAllBut_9 : decode cBO_endAllBut 9 = .ok (.iconst 1, 1) := by decide +kernel
theorem dBO_endAllBut_10 : decode cBO_endAllBut 10 = .ok (.isub, 1) := by decide +kernel
theorem dBO_endAllBut_11 : decode cBO_endAllBut 11 = .ok (.istore_n 3, 1) := by decide +kernel
theorem dBO_endAllBut_12 : decode cBO_endAllBut 12 = .ok (.iload_n 3, 1) := by decide +kernel
theorem dBO_endAllBut_13 : decode cBO_endAllBut 13 = .ok (.ifCond .lt 58, 3) := by decide +kernel
theorem dBO_endAllBut_16 : decode cBO_endAllBut 16 = .ok (.aload_n 0, 1) := by decide +kernel
theorem dBO_endAllBut_17 : decode cBO_endAllBut 17 = .ok (.getfield 36, 3) := by decide +kernel
theorem dBO_endAllBut_20 : decode cBO_endAllBut 20 = .ok (.getfield 203, 3) := by decide +kernel
theorem dBO_endAllBut_23 : decode cBO_endAllBut 23 = .ok (.iload_n 3, 1) := by decide +kernel
theorem dBO_endAllBut_24 : decode cBO_endAllBut 24 = .ok (.iaload, 1) := by decide +kernel
theorem dBO_endAllBut_25 : decode cBO_endAllBut 25 = .ok (.istore 4, 2) := by decide +kernel
theorem dBO_endAllBut_27 : decode cBO_endAllBut 27 = .ok (.iload_n 1, 1) := by decide +kernel
theorem dBO_endAllBut_28 : decode cBO_endAllBut 28 = .ok (.iload 4, 2) := by decide +kernel
theorem dBO_endAllBut_30 : decode cBO_endAllBut 30 = .ok (.invokestatic 144, 3) := by decide +kernel
theorem dBO_endAllBut_33 : decode cBO_endAllBut 33 = .ok (.ifCond .ne 32, 3) := by decide +kernel
theorem dBO_endAllBut_36 : decode cBO_endAllBut 36 = .ok (.aload_n 0, 1) := by decide +kernel
theorem dBO_endAllBut_37 : decode cBO_endAllBut 37 = .ok (.getfield 25, 3) := by decide +kernel
theorem dBO_endAllBut_40 : decode cBO_endAllBut 40 = .ok (.iconst (-1), 1) := by decide +kernel
theorem dBO_endAllBut_41 : decode cBO_endAllBut 41 = .ok (.iload 4, 2) := by decide +kernel
theorem dBO_endAllBut_43 : decode cBO_endAllBut 43 = .ok (.isub, 1) := by decide +kernel
theorem dBO_endAllBut_44 : decode cBO_endAllBut 44 = .ok (.invokevirtual 270, 3) := by decide +kernel
theorem dBO_endAllBut_47 : decode cBO_endAllBut 47 = .ok (.aload_n 0, 1) := by decide +kernel
theorem dBO_endAllBut_48 : decode cBO_endAllBut 48 = .ok (.getfield 36, 3) := by decide +kernel
theorem dBO_endAllBut_51 : decode cBO_endAllBut 51 = .ok (.iload 4, 2) := by decide +kernel
theorem dBO_endAllBut_53 : decode cBO_endAllBut 53 = .ok (.invokevirtual 235, 3) := by decide +kernel
theorem dBO_endAllBut_56 : decode cBO_endAllBut 56 = .ok (.aload_n 0, 1) := by decide +kernel
theorem dBO_endAllBut_57 : decode cBO_endAllBut 57 = .ok (.iload 4, 2) := by decide +kernel
theorem dBO_endAllBut_59 : decode cBO_endAllBut 59 = .ok (.invokevirtual 238, 3) := by decide +kernel
theorem dBO_endAllBut_62 : decode cBO_endAllBut 62 = .ok (.iinc 2 1, 3) := by decide +kernel
theorem dBO_endAllBut_65 : decode cBO_endAllBut 65 = .ok (.iinc 3 (-1), 3) := by decide +kernel
theorem dBO_endAllBut_68 : decode cBO_endAllBut 68 = .ok (.goto (-56), 3) := by decide +kernel
theorem dBO_endAllBut_71 : decode cBO_endAllBut 71 = .ok (.iload_n 2, 1) := by decide +kernel
theorem dBO_endAllBut_72 : decode cBO_endAllBut 72 = .ok (.ireturn, 1) := by decide +kernel
