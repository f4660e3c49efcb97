theorem dX7_init_0 : decode cX7_init 0 = .ok (.aload_n 0, 1) := by decide +kernel
theorem dX7_init_1 : decode cX7_init 1 = .ok (.invokespecial 1, 3) := by decide +kernel
theorem dX7_init_4 : decode cX7_init 4 = .ok (.aload_n 0, 1) := by decide +kernel
theorem dX7_init_5 : decode cX7_init 5 = .ok (.new 7, 3) := by decide +kernel
theorem dX7_init_8 : decode cX7_init 8 = .ok (.dup, 1) := by decide +kernel
theorem dX7_init_9 : decode cX7_init 9 = .ok (.invokespecial 9, 3) := by decide +kernel
theorem dX7_init_12 : decode cX7_init 12 = .ok (.putfield 10, 3) := by decide +kernel
theorem dX7_init_15 : decode cX7_init 15 = .ok (.aload_n 0, 1) := by decide +kernel
theorem dX7_init_16 : decode cX7_init 16 = .ok (.new 16, 3) := by decide +kernel
theorem dX7_init_19 : decode cX7_init 19 = .ok (.dup, 1) := by decide +kernel
theorem dX7_init_20 : decode cX7_init 20 = .ok (.invokespecial 18, 3) := by decide +kernel
theorem dX7_init_23 : decode cX7_init 23 = .ok (.putfield 19, 3) := by decide +kernel
theorem dX7_init_26 : decode cX7_init 26 = .ok (.aload_n 0, 1) := by decide +kernel
theorem dX7_init_27 : decode cX7_init 27 = .ok (.new 16, 3) := by decide +kernel
theorem dX7_init_30 : decode cX7_init 30 = .ok (.dup, 1) := by decide +kernel
theorem dX7_init_31 : decode cX7_init 31 = .ok (.invokespecial 18, 3) := by decide +kernel
theorem dX7_init_34 : decode cX7_init 34 = .ok (.putfield 23, 3) := by decide +kernel
theorem dX7_init_37 : decode cX7_init 37 = .ok (.aload_n 0, 1) := by decide +kernel
theorem dX7_init_38 : decode cX7_init 38 = .ok (.new 26, 3) := by decide +kernel
theorem dX7_init_41 : decode cX7_init 41 = .ok (.dup, 1) := by decide +kernel
theorem dX7_init_42 : decode cX7_init 42 = .ok (.invokespecial 28, 3) := by decide +kernel
theorem dX7_init_45 : decode cX7_init 45 = .ok (.putfield 29, 3) := by decide +kernel
theorem dX7_init_48 : decode cX7_init 48 = .ok (.aload_n 0, 1) := by decide +kernel
theorem dX7_init_49 : decode cX7_init 49 = .ok (.new 33, 3) := by decide +kernel
theorem dX7_init_52 : decode cX7_init 52 = .ok (.dup, 1) := by decide +kernel
theorem dX7_init_53 : decode cX7_init 53 = .ok (.aload_n 0, 1) := by decide +kernel
theorem dX7_init_54 : decode cX7_init 54 = .ok (.getfield 10, 3) := by decide +kernel
theorem dX7_init_57 : decode cX7_init 57 = .ok (.aload_n 0, 1) := by decide +kernel
theorem dX7_init_58 : decode cX7_init 58 = .ok (.getfield 19, 3) := by decide +kernel
theorem dX7_init_61 : decode cX7_init 61 = .ok (.invokespecial 35, 3) := by decide +kernel
theorem dX7_init_64 : decode cX7_init 64 = .ok (.putfield 38, 3) := by decide +kernel
theorem dX7_init_67 : decode cX7_init 67 = .ok (.aload_n 0, 1) := by decide +kernel
theorem dX7_init_68 : decode cX7_init 68 = .ok (.new 42, 3) := by decide +kernel
theorem dX7_init_71 : decode cX7_init 71 = .ok (.dup, 1) := by decide +kernel
theorem dX7_init_72 : decode cX7_init 72 = .ok (.aload_n 0, 1) := by decide +kernel
theorem dX7_init_73 : decode cX7_init 73 = .ok (.getfield 10, 3) := by decide +kernel
theorem dX7_init_76 : decode cX7_init 76 = .ok (.invokespecial 44, 3) := by decide +kernel
theorem dX7_init_79 : decode cX7_init 79 = .ok (.putfield 47, 3) := by decide +kernel
theorem dX7_init_82 : decode cX7_init 82 = .ok (.aload_n 0, 1) := by decide +kernel
theorem dX7_init_83 : decode cX7_init 83 = .ok (.new 51, 3) := by decide +kernel
theorem dX7_init_86 : decode cX7_init 86 = .ok (.dup, 1) := by decide +kernel
theorem dX7_init_87 : decode cX7_init 87 = .ok (.aload_n 0, 1) := by decide +kernel
theorem dX7_init_88 : decode cX7_init 88 = .ok (.getfield 19, 3) := by decide +kernel
theorem dX7_init_91 : decode cX7_init 91 = .ok (.invokespecial 53, 3) := by decide +kernel
theorem dX7_init_94 : decode cX7_init 94 = .ok (.putfield 56, 3) := by decide +kernel
theorem dX7_init_97 : decode cX7_init 97 = .ok (.aload_n 0, 1) := by decide +kernel
theorem dX7_init_98 : decode cX7_init 98 = .ok (.new 60, 3) := by decide +kernel
theorem dX7_init_101 : decode cX7_init 101 = .ok (.dup, 1) := by decide +kernel
theorem dX7_init_102 : decode cX7_init 102 = .ok (.invokespecial 62, 3) := by decide +kernel
theorem dX7_init_105 : decode cX7_init 105 = .ok (.putfield 63, 3) := by decide +kernel
theorem dX7_init_108 : decode cX7_init 108 = .ok (.aload_n 0, 1) := by decide +kernel
theorem dX7_init_109 : decode cX7_init 109 = .ok (.iconst 0, 1) := by decide +kernel
theorem dX7_init_110 : decode cX7_init 110 = .ok (.putfield 67, 3) := by decide +kernel
theorem dX7_init_113 : decode cX7_init 113 = .ok (.return_, 1) := by decide +kernel
theorem dX7_feed_0 : decode cX7_feed 0 = .ok (.aload_n 0, 1) := by decide +kernel
theorem dX7_feed_1 : decode cX7_feed 1 = .ok (.getfield 10, 3) := by decide +kernel
theorem dX7_feed_4 : decode cX7_feed 4 = .ok (.bipush 20, 2) := by decide +kernel
theorem dX7_feed_6 : decode cX7_feed 6 = .ok (.invokevirtual 71, 3) := by decide +kernel
theorem dX7_feed_9 : decode cX7_feed 9 = .ok (.ifCond .ne 5, 3) := by decide +kernel
theorem dX7_feed_12 : decode cX7_feed 12 = .ok (.iconst (-1), 1) := by decide +kernel
theorem dX7_feed_13 : decode cX7_feed 13 = .ok (.ireturn, 1) := by decide +kernel
theorem dX7_feed_14 : decode cX7_feed 14 = .ok (.aload_n 0, 1) := by decide +kernel
theorem dX7_feed_15 : decode cX7_feed 15 = .ok (.getfield 10, 3) := by decide +kernel
theorem dX7_feed_18 : decode cX7_feed 18 = .ok (.iload_n 1, 1) := by decide +kernel
theorem dX7_feed_19 : decode cX7_feed 19 = .ok (.invokevirtual 75, 3) := by decide +kernel
theorem dX7_feed_22 : decode cX7_feed 22 = .ok (.aload_n 0, 1) := by decide +kernel
theorem dX7_feed_23 : decode cX7_feed 23 = .ok (.getfield 10, 3) := by decide +kernel
theorem dX7_feed_26 : decode cX7_feed 26 = .ok (.iload_n 2, 1) := by decide +kernel
theorem dX7_feed_27 : decode cX7_feed 27 = .ok (.invokevirtual 75, 3) := by decide +kernel
theorem dX7_feed_30 : decode cX7_feed 30 = .ok (.aload_n 0, 1) := by decide +kernel
theorem dX7_feed_31 : decode cX7_feed 31 = .ok (.getfield 10, 3) := by decide +kernel
theorem dX7_feed_34 : decode cX7_feed 34 = .ok (.iload_n 3, 1) := by decide +kernel
theorem dX7_feed_35 : decode cX7_feed 35 = .ok (.invokevirtual 75, 3) := by decide +kernel
theorem dX7_feed_38 : decode cX7_feed 38 = .ok (.aload_n 0, 1) := by decide +kernel
theorem dX7_feed_39 : decode cX7_feed 39 = .ok (.getfield 10, 3) := by decide +kernel
theorem dX7_feed_42 : decode cX7_feed 42 = .ok (.iload 4, 2) := by decide +kernel
theorem dX7_feed_44 : decode cX7_feed 44 = .ok (.invokevirtual 75, 3) := by decide +kernel
theorem dX7_feed_47 : decode cX7_feed 47 = .ok (.aload_n 0, 1) := by decide +kernel
theorem dX7_feed_48 : decode cX7_feed 48 = .ok (.getfield 10, 3) := by decide +kernel
theorem dX7_feed_51 : decode cX7_feed 51 = .ok (.iload 5, 2) := by decide +kernel
theorem dX7_feed_53 : decode cX7_feed 53 = .ok (.invokevirtual 75, 3) := by decide +kernel
theorem dX7_feed_56 : decode cX7_feed 56 = .ok (.aload_n 0, 1) := by decide +kernel
theorem dX7_feed_57 : decode cX7_feed 57 = .ok (.getfield 10, 3) := by decide +kernel
theorem dX7_feed_60 : decode cX7_feed 60 = .ok (.getfield 79, 3) := by decide +kernel
theorem dX7_feed_63 : decode cX7_feed 63 = .ok (.ireturn, 1) := by decide +kernel
theorem dX7_end_0 : decode cX7_end 0 = .ok (.iload_n 1, 1) := by decide +kernel
theorem dX7_end_1 : decode cX7_end 1 = .ok (.ifCond .lt 14, 3) := by decide +kernel
theorem dX7_end_4 : decode cX7_end 4 = .ok (.iload_n 1, 1) := by decide +kernel
theorem dX7_end_5 : decode cX7_end 5 = .ok (.aload_n 0, 1) := by decide +kernel
theorem dX7_end_6 : decode cX7_end 6 = .ok (.getfield 10, 3) := by decide +kernel
theorem dX7_end_9 : decode cX7_end 9 = .ok (.getfield 79, 3) := by decide +kernel
theorem dX7_end_12 : decode cX7_end 12 = .ok (.if_icmp .le 5, 3) := by decide +kernel
theorem dX7_end_15 : decode cX7_end 15 = .ok (.iconst 0, 1) := by decide +kernel
theorem dX7_end_16 : decode cX7_end 16 = .ok (.ireturn, 1) := by decide +kernel
theorem dX7_end_17 : decode cX7_end 17 = .ok (.aload_n 0, 1) := by decide +kernel
theorem dX7_end_18 : decode cX7_end 18 = .ok (.getfield 10, 3) := by decide +kernel
theorem dX7_end_21 : decode cX7_end 21 = .ok (.iload_n 1, 1) := by decide +kernel
theorem dX7_end_22 : decode cX7_end 22 = .ok (.putfield 79, 3) := by decide +kernel
theorem dX7_end_25 : decode cX7_end 25 = .ok (.iconst 1, 1) := by decide +kernel
theorem dX7_end_26 : decode cX7_end 26 = .ok (.ireturn, 1) := by decide +kernel
theorem dX7_bank_0 : decode cX7_bank 0 = .ok (.aload_n 0, 1) := by decide +kernel
theorem dX7_bank_1 : decode cX7_bank 1 = .ok (.getfield 38, 3) := by decide +kernel
theorem dX7_bank_4 : decode cX7_bank 4 = .ok (.invokevirtual 83, 3) := by decide +kernel
theorem dX7_bank_7 : decode cX7_bank 7 = .ok (.istore_n 1, 1) := by decide +kernel
theorem dX7_bank_8 : decode cX7_bank 8 = .ok (.aload_n 0, 1) := by decide +kernel
theorem dX7_bank_9 : decode cX7_bank 9 = .ok (.getfield 10, 3) := by decide +kernel
theorem dX7_bank_12 : decode cX7_bank 12 = .ok (.iconst 0, 1) := by decide +kernel
theorem dX7_bank_13 : decode cX7_bank 13 = .ok (.putfield 79, 3) := by decide +kernel
theorem dX7_bank_16 : decode cX7_bank 16 = .ok (.iload_n 1, 1) := by decide +kernel
theorem dX7_bank_17 : decode cX7_bank 17 = .ok (.ifCond .ne 13, 3) := by decide +kernel
theorem dX7_bank_20 : decode cX7_bank 20 = .ok (.new 87, 3) := by decide +kernel
theorem dX7_bank_23 : decode cX7_bank 23 = .ok (.dup, 1) := by decide +kernel
theorem dX7_bank_24 : decode cX7_bank 24 = .ok (.ldc 89, 2) := by decide +kernel
theorem dX7_bank_26 : decode cX7_bank 26 = .ok (.invokespecial 91, 3) := by decide +kernel
theorem dX7_bank_29 : decode cX7_bank 29 = .ok (.athrow, 1) := by decide +kernel
theorem dX7_bank_30 : decode cX7_bank 30 = .ok (.aload_n 0, 1) := by decide +kernel
theorem dX7_bank_31 : decode cX7_bank 31 = .ok (.getfield 19, 3) := by decide +kernel
theorem dX7_bank_34 : decode cX7_bank 34 = .ok (.getfield 94, 3) := by decide +kernel
theorem dX7_bank_37 : decode cX7_bank 37 = .ok (.bipush 12, 2) := by decide +kernel
theorem dX7_bank_39 : decode cX7_bank 39 = .ok (.if_icmp .lt 13, 3) := by decide +kernel
theorem dX7_bank_42 : decode cX7_bank 42 = .ok (.new 97, 3) := by decide +kernel
theorem dX7_bank_45 : decode cX7_bank 45 = .ok (.dup, 1) := by decide +kernel
theorem dX7_bank_46 : decode cX7_bank 46 = .ok (.ldc 99, 2) := by decide +kernel
theorem dX7_bank_48 : decode cX7_bank 48 = .ok (.invokespecial 101, 3) := by decide +kernel
theorem dX7_bank_51 : decode cX7_bank 51 = .ok (.athrow, 1) := by decide +kernel
theorem dX7_bank_52 : decode cX7_bank 52 = .ok (.aload_n 0, 1) := by decide +kernel
theorem dX7_bank_53 : decode cX7_bank 53 = .ok (.getfield 38, 3) := by decide +kernel
theorem dX7_bank_56 : decode cX7_bank 56 = .ok (.invokevirtual 102, 3) := by decide +kernel
theorem dX7_bank_59 : decode cX7_bank 59 = .ok (.aload_n 0, 1) := by decide +kernel
theorem dX7_bank_60 : decode cX7_bank 60 = .ok (.getfield 19, 3) := by decide +kernel
theorem dX7_bank_63 : decode cX7_bank 63 = .ok (.dup, 1) := by decide +kernel
theorem dX7_bank_64 : decode cX7_bank 64 = .ok (.getfield 94, 3) := by decide +kernel
theorem dX7_bank_67 : decode cX7_bank 67 = .ok (.iconst 1, 1) := by decide +kernel
theorem dX7_bank_68 : decode cX7_bank 68 = .ok (.iadd, 1) := by decide +kernel
theorem dX7_bank_69 : decode cX7_bank 69 = .ok (.putfield 94, 3) := by decide +kernel
theorem dX7_bank_72 : decode cX7_bank 72 = .ok (.aload_n 0, 1) := by decide +kernel
theorem dX7_bank_73 : decode cX7_bank 73 = .ok (.getfield 29, 3) := by decide +kernel
theorem dX7_bank_76 : decode cX7_bank 76 = .ok (.invokevirtual 105, 3) := by decide +kernel
theorem dX7_bank_79 : decode cX7_bank 79 = .ok (.aload_n 0, 1) := by decide +kernel
theorem dX7_bank_80 : decode cX7_bank 80 = .ok (.getfield 19, 3) := by decide +kernel
theorem dX7_bank_83 : decode cX7_bank 83 = .ok (.getfield 94, 3) := by decide +kernel
theorem dX7_bank_86 : decode cX7_bank 86 = .ok (.ireturn, 1) := by decide +kernel
theorem dX7_law_0 : decode cX7_law 0 = .ok (.aload_n 0, 1) := by decide +kernel
theorem dX7_law_1 : decode cX7_law 1 = .ok (.getfield 47, 3) := by decide +kernel
theorem dX7_law_4 : decode cX7_law 4 = .ok (.invokevirtual 108, 3) := by decide +kernel
theorem dX7_law_7 : decode cX7_law 7 = .ok (.istore_n 1, 1) := by decide +kernel
theorem dX7_law_8 : decode cX7_law 8 = .ok (.aload_n 0, 1) := by decide +kernel
theorem dX7_law_9 : decode cX7_law 9 = .ok (.getfield 10, 3) := by decide +kernel
theorem dX7_law_12 : decode cX7_law 12 = .ok (.iconst 0, 1) := by decide +kernel
theorem dX7_law_13 : decode cX7_law 13 = .ok (.putfield 79, 3) := by decide +kernel
theorem dX7_law_16 : decode cX7_law 16 = .ok (.iload_n 1, 1) := by decide +kernel
theorem dX7_law_17 : decode cX7_law 17 = .ok (.ifCond .ne 13, 3) := by decide +kernel
theorem dX7_law_20 : decode cX7_law 20 = .ok (.new 87, 3) := by decide +kernel
theorem dX7_law_23 : decode cX7_law 23 = .ok (.dup, 1) := by decide +kernel
theorem dX7_law_24 : decode cX7_law 24 = .ok (.ldc 89, 2) := by decide +kernel
theorem dX7_law_26 : decode cX7_law 26 = .ok (.invokespecial 91, 3) := by decide +kernel
theorem dX7_law_29 : decode cX7_law 29 = .ok (.athrow, 1) := by decide +kernel
theorem dX7_law_30 : decode cX7_law 30 = .ok (.aload_n 0, 1) := by decide +kernel
theorem dX7_law_31 : decode cX7_law 31 = .ok (.getfield 19, 3) := by decide +kernel
theorem dX7_law_34 : decode cX7_law 34 = .ok (.aload_n 0, 1) := by decide +kernel
theorem dX7_law_35 : decode cX7_law 35 = .ok (.getfield 47, 3) := by decide +kernel
theorem dX7_law_38 : decode cX7_law 38 = .ok (.getfield 109, 3) := by decide +kernel
theorem dX7_law_41 : decode cX7_law 41 = .ok (.aload_n 0, 1) := by decide +kernel
theorem dX7_law_42 : decode cX7_law 42 = .ok (.getfield 47, 3) := by decide +kernel
theorem dX7_law_45 : decode cX7_law 45 = .ok (.getfield 113, 3) := by decide +kernel
theorem dX7_law_48 : decode cX7_law 48 = .ok (.invokevirtual 116, 3) := by decide +kernel
theorem dX7_law_51 : decode cX7_law 51 = .ok (.aload_n 0, 1) := by decide +kernel
theorem dX7_law_52 : decode cX7_law 52 = .ok (.getfield 29, 3) := by decide +kernel
theorem dX7_law_55 : decode cX7_law 55 = .ok (.invokevirtual 105, 3) := by decide +kernel
theorem dX7_law_58 : decode cX7_law 58 = .ok (.aload_n 0, 1) := by decide +kernel
theorem dX7_law_59 : decode cX7_law 59 = .ok (.getfield 19, 3) := by decide +kernel
theorem dX7_law_62 : decode cX7_law 62 = .ok (.getfield 120, 3) := by decide +kernel
theorem dX7_law_65 : decode cX7_law 65 = .ok (.ireturn, 1) := by decide +kernel
theorem dX7_fault_0 : decode cX7_fault 0 = .ok (.aload_n 0, 1) := by decide +kernel
theorem dX7_fault_1 : decode cX7_fault 1 = .ok (.getfield 10, 3) := by decide +kernel
theorem dX7_fault_4 : decode cX7_fault 4 = .ok (.getfield 123, 3) := by decide +kernel
theorem dX7_fault_7 : decode cX7_fault 7 = .ok (.ireturn, 1) := by decide +kernel
theorem dX7_vault_0 : decode cX7_vault 0 = .ok (.aload_n 0, 1) := by decide +kernel
theorem dX7_vault_1 : decode cX7_vault 1 = .ok (.iload_n 1, 1) := by decide +kernel
theorem dX7_vault_2 : decode cX7_vault 2 = .ok (.invokevirtual 126, 3) := by decide +kernel
theorem dX7_vault_5 : decode cX7_vault 5 = .ok (.iload_n 2, 1) := by decide +kernel
theorem dX7_vault_6 : decode cX7_vault 6 = .ok (.tableswitch 130 0 6 #[42, 52, 62, 72, 84, 97, 117], 42) := by decide +kernel
theorem dX7_vault_48 : decode cX7_vault 48 = .ok (.aload_n 0, 1) := by decide +kernel
theorem dX7_vault_49 : decode cX7_vault 49 = .ok (.getfield 19, 3) := by decide +kernel
theorem dX7_vault_52 : decode cX7_vault 52 = .ok (.getfield 129, 3) := by decide +kernel
theorem dX7_vault_55 : decode cX7_vault 55 = .ok (.iload_n 1, 1) := by decide +kernel
theorem dX7_vault_56 : decode cX7_vault 56 = .ok (.iaload, 1) := by decide +kernel
theorem dX7_vault_57 : decode cX7_vault 57 = .ok (.ireturn, 1) := by decide +kernel
theorem dX7_vault_58 : decode cX7_vault 58 = .ok (.aload_n 0, 1) := by decide +kernel
theorem dX7_vault_59 : decode cX7_vault 59 = .ok (.getfield 19, 3) := by decide +kernel
theorem dX7_vault_62 : decode cX7_vault 62 = .ok (.getfield 132, 3) := by decide +kernel
theorem dX7_vault_65 : decode cX7_vault 65 = .ok (.iload_n 1, 1) := by decide +kernel
theorem dX7_vault_66 : decode cX7_vault 66 = .ok (.iaload, 1) := by decide +kernel
theorem dX7_vault_67 : decode cX7_vault 67 = .ok (.ireturn, 1) := by decide +kernel
theorem dX7_vault_68 : decode cX7_vault 68 = .ok (.aload_n 0, 1) := by decide +kernel
theorem dX7_vault_69 : decode cX7_vault 69 = .ok (.getfield 19, 3) := by decide +kernel
theorem dX7_vault_72 : decode cX7_vault 72 = .ok (.getfield 135, 3) := by decide +kernel
theorem dX7_vault_75 : decode cX7_vault 75 = .ok (.iload_n 1, 1) := by decide +kernel
theorem dX7_vault_76 : decode cX7_vault 76 = .ok (.iaload, 1) := by decide +kernel
theorem dX7_vault_77 : decode cX7_vault 77 = .ok (.ireturn, 1) := by decide +kernel
theorem dX7_vault_78 : decode cX7_vault 78 = .ok (.aload_n 0, 1) := by decide +kernel
theorem dX7_vault_79 : decode cX7_vault 79 = .ok (.getfield 19, 3) := by decide +kernel
theorem dX7_vault_82 : decode cX7_vault 82 = .ok (.getfield 138, 3) := by decide +kernel
theorem dX7_vault_85 : decode cX7_vault 85 = .ok (.iload_n 1, 1) := by decide +kernel
theorem dX7_vault_86 : decode cX7_vault 86 = .ok (.ishr, 1) := by decide +kernel
theorem dX7_vault_87 : decode cX7_vault 87 = .ok (.iconst 1, 1) := by decide +kernel
theorem dX7_vault_88 : decode cX7_vault 88 = .ok (.iand, 1) := by decide +kernel
theorem dX7_vault_89 : decode cX7_vault 89 = .ok (.ireturn, 1) := by decide +kernel
theorem dX7_vault_90 : decode cX7_vault 90 = .ok (.aload_n 0, 1) := by decide +kernel
theorem dX7_vault_91 : decode cX7_vault 91 = .ok (.getfield 19, 3) := by decide +kernel
theorem dX7_vault_94 : decode cX7_vault 94 = .ok (.getfield 132, 3) := by decide +kernel
theorem dX7_vault_97 : decode cX7_vault 97 = .ok (.iload_n 1, 1) := by decide +kernel
theorem dX7_vault_98 : decode cX7_vault 98 = .ok (.iaload, 1) := by decide +kernel
theorem dX7_vault_99 : decode cX7_vault 99 = .ok (.invokestatic 141, 3) := by decide +kernel
theorem dX7_vault_102 : decode cX7_vault 102 = .ok (.ireturn, 1) := by decide +kernel
theorem dX7_vault_103 : decode cX7_vault 103 = .ok (.aload_n 0, 1) := by decide +kernel
theorem dX7_vault_104 : decode cX7_vault 104 = .ok (.getfield 19, 3) := by decide +kernel
theorem dX7_vault_107 : decode cX7_vault 107 = .ok (.getfield 132, 3) := by decide +kernel
theorem dX7_vault_110 : decode cX7_vault 110 = .ok (.iload_n 1, 1) := by decide +kernel
theorem dX7_vault_111 : decode cX7_vault 111 = .ok (.iaload, 1) := by decide +kernel
theorem dX7_vault_112 : decode cX7_vault 112 = .ok (.aload_n 0, 1) := by decide +kernel
theorem dX7_vault_113 : decode cX7_vault 113 = .ok (.getfield 19, 3) := by decide +kernel
theorem dX7_vault_116 : decode cX7_vault 116 = .ok (.getfield 145, 3) := by decide +kernel
theorem dX7_vault_119 : decode cX7_vault 119 = .ok (.invokestatic 148, 3) := by decide +kernel
theorem dX7_vault_122 : decode cX7_vault 122 = .ok (.ireturn, 1) := by decide +kernel
theorem dX7_vault_123 : decode cX7_vault 123 = .ok (.aload_n 0, 1) := by decide +kernel
theorem dX7_vault_124 : decode cX7_vault 124 = .ok (.getfield 19, 3) := by decide +kernel
theorem dX7_vault_127 : decode cX7_vault 127 = .ok (.getfield 132, 3) := by decide +kernel
theorem dX7_vault_130 : decode cX7_vault 130 = .ok (.iload_n 1, 1) := by decide +kernel
theorem dX7_vault_131 : decode cX7_vault 131 = .ok (.iaload, 1) := by decide +kernel
theorem dX7_vault_132 : decode cX7_vault 132 = .ok (.invokestatic 152, 3) := by decide +kernel
theorem dX7_vault_135 : decode cX7_vault 135 = .ok (.ireturn, 1) := by decide +kernel
theorem dX7_vault_136 : decode cX7_vault 136 = .ok (.new 155, 3) := by decide +kernel
theorem dX7_vault_139 : decode cX7_vault 139 = .ok (.dup, 1) := by decide +kernel
theorem dX7_vault_140 : decode cX7_vault 140 = .ok (.ldc 157, 2) := by decide +kernel
theorem dX7_vault_142 : decode cX7_vault 142 = .ok (.invokespecial 159, 3) := by decide +kernel
theorem dX7_vault_145 : decode cX7_vault 145 = .ok (.athrow, 1) := by decide +kernel
theorem dX7_left_0 : decode cX7_left 0 = .ok (.aload_n 0, 1) := by decide +kernel
theorem dX7_left_1 : decode cX7_left 1 = .ok (.iload_n 1, 1) := by decide +kernel
theorem dX7_left_2 : decode cX7_left 2 = .ok (.invokevirtual 160, 3) := by decide +kernel
theorem dX7_left_5 : decode cX7_left 5 = .ok (.aload_n 0, 1) := by decide +kernel
theorem dX7_left_6 : decode cX7_left 6 = .ok (.iload_n 2, 1) := by decide +kernel
theorem dX7_left_7 : decode cX7_left 7 = .ok (.invokevirtual 126, 3) := by decide +kernel
theorem dX7_left_10 : decode cX7_left 10 = .ok (.aload_n 0, 1) := by decide +kernel
theorem dX7_left_11 : decode cX7_left 11 = .ok (.getfield 19, 3) := by decide +kernel
theorem dX7_left_14 : decode cX7_left 14 = .ok (.iload_n 1, 1) := by decide +kernel
theorem dX7_left_15 : decode cX7_left 15 = .ok (.iload_n 2, 1) := by decide +kernel
theorem dX7_left_16 : decode cX7_left 16 = .ok (.invokevirtual 163, 3) := by decide +kernel
theorem dX7_left_19 : decode cX7_left 19 = .ok (.ireturn, 1) := by decide +kernel
theorem dX7_code_0 : decode cX7_code 0 = .ok (.aload_n 0, 1) := by decide +kernel
theorem dX7_code_1 : decode cX7_code 1 = .ok (.iload_n 1, 1) := by decide +kernel
theorem dX7_code_2 : decode cX7_code 2 = .ok (.invokevirtual 160, 3) := by decide +kernel
theorem dX7_code_5 : decode cX7_code 5 = .ok (.aload_n 0, 1) := by decide +kernel
theorem dX7_code_6 : decode cX7_code 6 = .ok (.iload_n 2, 1) := by decide +kernel
theorem dX7_code_7 : decode cX7_code 7 = .ok (.invokevirtual 126, 3) := by decide +kernel
theorem dX7_code_10 : decode cX7_code 10 = .ok (.aload_n 0, 1) := by decide +kernel
theorem dX7_code_11 : decode cX7_code 11 = .ok (.getfield 56, 3) := by decide +kernel
theorem dX7_code_14 : decode cX7_code 14 = .ok (.iload_n 1, 1) := by decide +kernel
theorem dX7_code_15 : decode cX7_code 15 = .ok (.iload_n 2, 1) := by decide +kernel
theorem dX7_code_16 : decode cX7_code 16 = .ok (.invokevirtual 166, 3) := by decide +kernel
theorem dX7_code_19 : decode cX7_code 19 = .ok (.iload_n 3, 1) := by decide +kernel
theorem dX7_code_20 : decode cX7_code 20 = .ok (.ifCond .lt 26, 3) := by decide +kernel
theorem dX7_code_23 : decode cX7_code 23 = .ok (.iload_n 3, 1) := by decide +kernel
theorem dX7_code_24 : decode cX7_code 24 = .ok (.aload_n 0, 1) := by decide +kernel
theorem dX7_code_25 : decode cX7_code 25 = .ok (.getfield 56, 3) := by decide +kernel
theorem dX7_code_28 : decode cX7_code 28 = .ok (.getfield 170, 3) := by decide +kernel
theorem dX7_code_31 : decode cX7_code 31 = .ok (.if_icmp .ge 15, 3) := by decide +kernel
theorem dX7_code_34 : decode cX7_code 34 = .ok (.aload_n 0, 1) := by decide +kernel
theorem dX7_code_35 : decode cX7_code 35 = .ok (.getfield 56, 3) := by decide +kernel
theorem dX7_code_38 : decode cX7_code 38 = .ok (.getfield 173, 3) := by decide +kernel
theorem dX7_code_41 : decode cX7_code 41 = .ok (.iload_n 3, 1) := by decide +kernel
theorem dX7_code_42 : decode cX7_code 42 = .ok (.iaload, 1) := by decide +kernel
theorem dX7_code_43 : decode cX7_code 43 = .ok (.goto 4, 3) := by decide +kernel
theorem dX7_code_46 : decode cX7_code 46 = .ok (.iconst (-1), 1) := by decide +kernel
theorem dX7_code_47 : decode cX7_code 47 = .ok (.ireturn, 1) := by decide +kernel
theorem dX7_wheel_0 : decode cX7_wheel 0 = .ok (.aload_n 0, 1) := by decide +kernel
theorem dX7_wheel_1 : decode cX7_wheel 1 = .ok (.iload_n 1, 1) := by decide +kernel
theorem dX7_wheel_2 : decode cX7_wheel 2 = .ok (.invokevirtual 160, 3) := by decide +kernel
theorem dX7_wheel_5 : decode cX7_wheel 5 = .ok (.aload_n 0, 1) := by decide +kernel
theorem dX7_wheel_6 : decode cX7_wheel 6 = .ok (.iload_n 2, 1) := by decide +kernel
theorem dX7_wheel_7 : decode cX7_wheel 7 = .ok (.invokevirtual 126, 3) := by decide +kernel
theorem dX7_wheel_10 : decode cX7_wheel 10 = .ok (.iload_n 3, 1) := by decide +kernel
theorem dX7_wheel_11 : decode cX7_wheel 11 = .ok (.invokestatic 176, 3) := by decide +kernel
theorem dX7_wheel_14 : decode cX7_wheel 14 = .ok (.aload_n 0, 1) := by decide +kernel
theorem dX7_wheel_15 : decode cX7_wheel 15 = .ok (.getfield 56, 3) := by decide +kernel
theorem dX7_wheel_18 : decode cX7_wheel 18 = .ok (.iload_n 1, 1) := by decide +kernel
theorem dX7_wheel_19 : decode cX7_wheel 19 = .ok (.iload_n 2, 1) := by decide +kernel
theorem dX7_wheel_20 : decode cX7_wheel 20 = .ok (.invokevirtual 166, 3) := by decide +kernel
theorem dX7_wheel_23 : decode cX7_wheel 23 = .ok (.aload_n 0, 1) := by decide +kernel
theorem dX7_wheel_24 : decode cX7_wheel 24 = .ok (.getfield 56, 3) := by decide +kernel
theorem dX7_wheel_27 : decode cX7_wheel 27 = .ok (.iload_n 3, 1) := by decide +kernel
theorem dX7_wheel_28 : decode cX7_wheel 28 = .ok (.invokevirtual 179, 3) := by decide +kernel
theorem dX7_wheel_31 : decode cX7_wheel 31 = .ok (.istore 5, 2) := by decide +kernel
theorem dX7_wheel_33 : decode cX7_wheel 33 = .ok (.iload 4, 2) := by decide +kernel
theorem dX7_wheel_35 : decode cX7_wheel 35 = .ok (.ifCond .eq 6, 3) := by decide +kernel
theorem dX7_wheel_38 : decode cX7_wheel 38 = .ok (.iload 5, 2) := by decide +kernel
theorem dX7_wheel_40 : decode cX7_wheel 40 = .ok (.ireturn, 1) := by decide +kernel
theorem dX7_wheel_41 : decode cX7_wheel 41 = .ok (.iload 5, 2) := by decide +kernel
theorem dX7_wheel_43 : decode cX7_wheel 43 = .ok (.invokestatic 182, 3) := by decide +kernel
theorem dX7_wheel_46 : decode cX7_wheel 46 = .ok (.iconst 1, 1) := by decide +kernel
theorem dX7_wheel_47 : decode cX7_wheel 47 = .ok (.if_icmp .ne 11, 3) := by decide +kernel
theorem dX7_wheel_50 : decode cX7_wheel 50 = .ok (.iload 5, 2) := by decide +kernel
theorem dX7_wheel_52 : decode cX7_wheel 52 = .ok (.invokestatic 187, 3) := by decide +kernel
theorem dX7_wheel_55 : decode cX7_wheel 55 = .ok (.goto 4, 3) := by decide +kernel
theorem dX7_wheel_58 : decode cX7_wheel 58 = .ok (.iconst (-1), 1) := by decide +kernel
theorem dX7_wheel_59 : decode cX7_wheel 59 = .ok (.ireturn, 1) := by decide +kernel
theorem dX7_click_0 : decode cX7_click 0 = .ok (.iload_n 1, 1) := by decide +kernel
theorem dX7_click_1 : decode cX7_click 1 = .ok (.invokestatic 176, 3) := by decide +kernel
theorem dX7_click_4 : decode cX7_click 4 = .ok (.iload_n 2, 1) := by decide +kernel
theorem dX7_click_5 : decode cX7_click 5 = .ok (.ifCond .lt 19, 3) := by decide +kernel
theorem dX7_click_8 : decode cX7_click 8 = .ok (.iload_n 2, 1) := by decide +kernel
theorem dX7_click_9 : decode cX7_click 9 = .ok (.bipush 6, 2) := by decide +kernel
theorem dX7_click_11 : decode cX7_click 11 = .ok (.if_icmp .ge 13, 3) := by decide +kernel
theorem dX7_click_14 : decode cX7_click 14 = .ok (.iload_n 3, 1) := by decide +kernel
theorem dX7_click_15 : decode cX7_click 15 = .ok (.ifCond .lt 9, 3) := by decide +kernel
theorem dX7_click_18 : decode cX7_click 18 = .ok (.iload_n 3, 1) := by decide +kernel
theorem dX7_click_19 : decode cX7_click 19 = .ok (.bipush 6, 2) := by decide +kernel
theorem dX7_click_21 : decode cX7_click 21 = .ok (.if_icmp .lt 13, 3) := by decide +kernel
theorem dX7_click_24 : decode cX7_click 24 = .ok (.new 87, 3) := by decide +kernel
theorem dX7_click_27 : decode cX7_click 27 = .ok (.dup, 1) := by decide +kernel
theorem dX7_click_28 : decode cX7_click 28 = .ok (.ldc 190, 2) := by decide +kernel
theorem dX7_click_30 : decode cX7_click 30 = .ok (.invokespecial 91, 3) := by decide +kernel
theorem dX7_click_33 : decode cX7_click 33 = .ok (.athrow, 1) := by decide +kernel
theorem dX7_click_34 : decode cX7_click 34 = .ok (.aload_n 0, 1) := by decide +kernel
theorem dX7_click_35 : decode cX7_click 35 = .ok (.getfield 19, 3) := by decide +kernel
theorem dX7_click_38 : decode cX7_click 38 = .ok (.getfield 192, 3) := by decide +kernel
theorem dX7_click_41 : decode cX7_click 41 = .ok (.iload_n 1, 1) := by decide +kernel
theorem dX7_click_42 : decode cX7_click 42 = .ok (.bipush 36, 2) := by decide +kernel
theorem dX7_click_44 : decode cX7_click 44 = .ok (.imul, 1) := by decide +kernel
theorem dX7_click_45 : decode cX7_click 45 = .ok (.iload_n 2, 1) := by decide +kernel
theorem dX7_click_46 : decode cX7_click 46 = .ok (.bipush 6, 2) := by decide +kernel
theorem dX7_click_48 : decode cX7_click 48 = .ok (.imul, 1) := by decide +kernel
theorem dX7_click_49 : decode cX7_click 49 = .ok (.iadd, 1) := by decide +kernel
theorem dX7_click_50 : decode cX7_click 50 = .ok (.iload_n 3, 1) := by decide +kernel
theorem dX7_click_51 : decode cX7_click 51 = .ok (.iadd, 1) := by decide +kernel
theorem dX7_click_52 : decode cX7_click 52 = .ok (.iaload, 1) := by decide +kernel
theorem dX7_click_53 : decode cX7_click 53 = .ok (.ireturn, 1) := by decide +kernel
theorem dX7_sound_0 : decode cX7_sound 0 = .ok (.iload_n 1, 1) := by decide +kernel
theorem dX7_sound_1 : decode cX7_sound 1 = .ok (.invokestatic 193, 3) := by decide +kernel
theorem dX7_sound_4 : decode cX7_sound 4 = .ok (.iload_n 2, 1) := by decide +kernel
theorem dX7_sound_5 : decode cX7_sound 5 = .ok (.invokestatic 193, 3) := by decide +kernel
theorem dX7_sound_8 : decode cX7_sound 8 = .ok (.aload_n 0, 1) := by decide +kernel
theorem dX7_sound_9 : decode cX7_sound 9 = .ok (.getfield 19, 3) := by decide +kernel
theorem dX7_sound_12 : decode cX7_sound 12 = .ok (.iload_n 1, 1) := by decide +kernel
theorem dX7_sound_13 : decode cX7_sound 13 = .ok (.iload_n 2, 1) := by decide +kernel
theorem dX7_sound_14 : decode cX7_sound 14 = .ok (.invokevirtual 196, 3) := by decide +kernel
theorem dX7_sound_17 : decode cX7_sound 17 = .ok (.ireturn, 1) := by decide +kernel
theorem dX7_turn_0 : decode cX7_turn 0 = .ok (.aload_n 0, 1) := by decide +kernel
theorem dX7_turn_1 : decode cX7_turn 1 = .ok (.iload_n 1, 1) := by decide +kernel
theorem dX7_turn_2 : decode cX7_turn 2 = .ok (.invokevirtual 160, 3) := by decide +kernel
theorem dX7_turn_5 : decode cX7_turn 5 = .ok (.aload_n 0, 1) := by decide +kernel
theorem dX7_turn_6 : decode cX7_turn 6 = .ok (.iload_n 2, 1) := by decide +kernel
theorem dX7_turn_7 : decode cX7_turn 7 = .ok (.invokevirtual 126, 3) := by decide +kernel
theorem dX7_turn_10 : decode cX7_turn 10 = .ok (.iload_n 3, 1) := by decide +kernel
theorem dX7_turn_11 : decode cX7_turn 11 = .ok (.invokestatic 193, 3) := by decide +kernel
theorem dX7_turn_14 : decode cX7_turn 14 = .ok (.aload_n 0, 1) := by decide +kernel
theorem dX7_turn_15 : decode cX7_turn 15 = .ok (.getfield 19, 3) := by decide +kernel
theorem dX7_turn_18 : decode cX7_turn 18 = .ok (.iload_n 2, 1) := by decide +kernel
theorem dX7_turn_19 : decode cX7_turn 19 = .ok (.invokevirtual 199, 3) := by decide +kernel
theorem dX7_turn_22 : decode cX7_turn 22 = .ok (.ifCond .eq 13, 3) := by decide +kernel
theorem dX7_turn_25 : decode cX7_turn 25 = .ok (.new 202, 3) := by decide +kernel
theorem dX7_turn_28 : decode cX7_turn 28 = .ok (.dup, 1) := by decide +kernel
theorem dX7_turn_29 : decode cX7_turn 29 = .ok (.ldc 204, 2) := by decide +kernel
theorem dX7_turn_31 : decode cX7_turn 31 = .ok (.invokespecial 206, 3) := by decide +kernel
theorem dX7_turn_34 : decode cX7_turn 34 = .ok (.athrow, 1) := by decide +kernel
theorem dX7_turn_35 : decode cX7_turn 35 = .ok (.aload_n 0, 1) := by decide +kernel
theorem dX7_turn_36 : decode cX7_turn 36 = .ok (.getfield 29, 3) := by decide +kernel
theorem dX7_turn_39 : decode cX7_turn 39 = .ok (.aload_n 0, 1) := by decide +kernel
theorem dX7_turn_40 : decode cX7_turn 40 = .ok (.getfield 19, 3) := by decide +kernel
theorem dX7_turn_43 : decode cX7_turn 43 = .ok (.invokevirtual 207, 3) := by decide +kernel
theorem dX7_turn_46 : decode cX7_turn 46 = .ok (.aload_n 0, 1) := by decide +kernel
theorem dX7_turn_47 : decode cX7_turn 47 = .ok (.getfield 19, 3) := by decide +kernel
theorem dX7_turn_50 : decode cX7_turn 50 = .ok (.getfield 129, 3) := by decide +kernel
theorem dX7_turn_53 : decode cX7_turn 53 = .ok (.iload_n 2, 1) := by decide +kernel
theorem dX7_turn_54 : decode cX7_turn 54 = .ok (.iaload, 1) := by decide +kernel
theorem dX7_turn_55 : decode cX7_turn 55 = .ok (.istore 4, 2) := by decide +kernel
theorem dX7_turn_57 : decode cX7_turn 57 = .ok (.aload_n 0, 1) := by decide +kernel
theorem dX7_turn_58 : decode cX7_turn 58 = .ok (.getfield 19, 3) := by decide +kernel
theorem dX7_turn_61 : decode cX7_turn 61 = .ok (.iload_n 3, 1) := by decide +kernel
theorem dX7_turn_62 : decode cX7_turn 62 = .ok (.iload 4, 2) := by decide +kernel
theorem dX7_turn_64 : decode cX7_turn 64 = .ok (.invokevirtual 196, 3) := by decide +kernel
theorem dX7_turn_67 : decode cX7_turn 67 = .ok (.istore 5, 2) := by decide +kernel
theorem dX7_turn_69 : decode cX7_turn 69 = .ok (.aload_n 0, 1) := by decide +kernel
theorem dX7_turn_70 : decode cX7_turn 70 = .ok (.getfield 56, 3) := by decide +kernel
theorem dX7_turn_73 : decode cX7_turn 73 = .ok (.iload_n 1, 1) := by decide +kernel
theorem dX7_turn_74 : decode cX7_turn 74 = .ok (.iload_n 2, 1) := by decide +kernel
theorem dX7_turn_75 : decode cX7_turn 75 = .ok (.invokevirtual 166, 3) := by decide +kernel
theorem dX7_turn_78 : decode cX7_turn 78 = .ok (.aload_n 0, 1) := by decide +kernel
theorem dX7_turn_79 : decode cX7_turn 79 = .ok (.getfield 56, 3) := by decide +kernel
theorem dX7_turn_82 : decode cX7_turn 82 = .ok (.iload_n 3, 1) := by decide +kernel
theorem dX7_turn_83 : decode cX7_turn 83 = .ok (.iload 4, 2) := by decide +kernel
theorem dX7_turn_85 : decode cX7_turn 85 = .ok (.invokevirtual 210, 3) := by decide +kernel
theorem dX7_turn_88 : decode cX7_turn 88 = .ok (.aload_n 0, 1) := by decide +kernel
theorem dX7_turn_89 : decode cX7_turn 89 = .ok (.getfield 19, 3) := by decide +kernel
theorem dX7_turn_92 : decode cX7_turn 92 = .ok (.iload_n 1, 1) := by decide +kernel
theorem dX7_turn_93 : decode cX7_turn 93 = .ok (.iload_n 2, 1) := by decide +kernel
theorem dX7_turn_94 : decode cX7_turn 94 = .ok (.aload_n 0, 1) := by decide +kernel
theorem dX7_turn_95 : decode cX7_turn 95 = .ok (.getfield 56, 3) := by decide +kernel
theorem dX7_turn_98 : decode cX7_turn 98 = .ok (.invokevirtual 213, 3) := by decide +kernel
theorem dX7_turn_101 : decode cX7_turn 101 = .ok (.iload_n 3, 1) := by decide +kernel
theorem dX7_turn_102 : decode cX7_turn 102 = .ok (.iload 4, 2) := by decide +kernel
theorem dX7_turn_104 : decode cX7_turn 104 = .ok (.if_icmp .ne 18, 3) := by decide +kernel
theorem dX7_turn_107 : decode cX7_turn 107 = .ok (.aload_n 0, 1) := by decide +kernel
theorem dX7_turn_108 : decode cX7_turn 108 = .ok (.getfield 19, 3) := by decide +kernel
theorem dX7_turn_111 : decode cX7_turn 111 = .ok (.dup, 1) := by decide +kernel
theorem dX7_turn_112 : decode cX7_turn 112 = .ok (.getfield 138, 3) := by decide +kernel
theorem dX7_turn_115 : decode cX7_turn 115 = .ok (.iconst 1, 1) := by decide +kernel
theorem dX7_turn_116 : decode cX7_turn 116 = .ok (.iload_n 2, 1) := by decide +kernel
theorem dX7_turn_117 : decode cX7_turn 117 = .ok (.ishl, 1) := by decide +kernel
theorem dX7_turn_118 : decode cX7_turn 118 = .ok (.ior, 1) := by decide +kernel
theorem dX7_turn_119 : decode cX7_turn 119 = .ok (.putfield 138, 3) := by decide +kernel
theorem dX7_turn_122 : decode cX7_turn 122 = .ok (.aload_n 0, 1) := by decide +kernel
theorem dX7_turn_123 : decode cX7_turn 123 = .ok (.getfield 19, 3) := by decide +kernel
theorem dX7_turn_126 : decode cX7_turn 126 = .ok (.iload_n 1, 1) := by decide +kernel
theorem dX7_turn_127 : decode cX7_turn 127 = .ok (.iload_n 2, 1) := by decide +kernel
theorem dX7_turn_128 : decode cX7_turn 128 = .ok (.iload_n 3, 1) := by decide +kernel
theorem dX7_turn_129 : decode cX7_turn 129 = .ok (.iload 5, 2) := by decide +kernel
theorem dX7_turn_131 : decode cX7_turn 131 = .ok (.invokevirtual 217, 3) := by decide +kernel
theorem dX7_turn_134 : decode cX7_turn 134 = .ok (.iload 5, 2) := by decide +kernel
theorem dX7_turn_136 : decode cX7_turn 136 = .ok (.ireturn, 1) := by decide +kernel
theorem dX7_tell_0 : decode cX7_tell 0 = .ok (.aload_n 0, 1) := by decide +kernel
theorem dX7_tell_1 : decode cX7_tell 1 = .ok (.iload_n 1, 1) := by decide +kernel
theorem dX7_tell_2 : decode cX7_tell 2 = .ok (.iload_n 2, 1) := by decide +kernel
theorem dX7_tell_3 : decode cX7_tell 3 = .ok (.iload_n 3, 1) := by decide +kernel
theorem dX7_tell_4 : decode cX7_tell 4 = .ok (.invokevirtual 221, 3) := by decide +kernel
theorem dX7_tell_7 : decode cX7_tell 7 = .ok (.aload_n 0, 1) := by decide +kernel
theorem dX7_tell_8 : decode cX7_tell 8 = .ok (.getfield 29, 3) := by decide +kernel
theorem dX7_tell_11 : decode cX7_tell 11 = .ok (.aload_n 0, 1) := by decide +kernel
theorem dX7_tell_12 : decode cX7_tell 12 = .ok (.getfield 19, 3) := by decide +kernel
theorem dX7_tell_15 : decode cX7_tell 15 = .ok (.invokevirtual 207, 3) := by decide +kernel
theorem dX7_tell_18 : decode cX7_tell 18 = .ok (.aload_n 0, 1) := by decide +kernel
theorem dX7_tell_19 : decode cX7_tell 19 = .ok (.getfield 19, 3) := by decide +kernel
theorem dX7_tell_22 : decode cX7_tell 22 = .ok (.iload_n 2, 1) := by decide +kernel
theorem dX7_tell_23 : decode cX7_tell 23 = .ok (.iload_n 1, 1) := by decide +kernel
theorem dX7_tell_24 : decode cX7_tell 24 = .ok (.iload_n 3, 1) := by decide +kernel
theorem dX7_tell_25 : decode cX7_tell 25 = .ok (.invokevirtual 225, 3) := by decide +kernel
theorem dX7_tell_28 : decode cX7_tell 28 = .ok (.aload_n 0, 1) := by decide +kernel
theorem dX7_tell_29 : decode cX7_tell 29 = .ok (.getfield 19, 3) := by decide +kernel
theorem dX7_tell_32 : decode cX7_tell 32 = .ok (.iload_n 2, 1) := by decide +kernel
theorem dX7_tell_33 : decode cX7_tell 33 = .ok (.iload_n 3, 1) := by decide +kernel
theorem dX7_tell_34 : decode cX7_tell 34 = .ok (.invokevirtual 163, 3) := by decide +kernel
theorem dX7_tell_37 : decode cX7_tell 37 = .ok (.ireturn, 1) := by decide +kernel
theorem dX7_forget_0 : decode cX7_forget 0 = .ok (.aload_n 0, 1) := by decide +kernel
theorem dX7_forget_1 : decode cX7_forget 1 = .ok (.iload_n 1, 1) := by decide +kernel
theorem dX7_forget_2 : decode cX7_forget 2 = .ok (.invokevirtual 160, 3) := by decide +kernel
theorem dX7_forget_5 : decode cX7_forget 5 = .ok (.aload_n 0, 1) := by decide +kernel
theorem dX7_forget_6 : decode cX7_forget 6 = .ok (.iload_n 2, 1) := by decide +kernel
theorem dX7_forget_7 : decode cX7_forget 7 = .ok (.invokevirtual 126, 3) := by decide +kernel
theorem dX7_forget_10 : decode cX7_forget 10 = .ok (.aload_n 0, 1) := by decide +kernel
theorem dX7_forget_11 : decode cX7_forget 11 = .ok (.getfield 29, 3) := by decide +kernel
theorem dX7_forget_14 : decode cX7_forget 14 = .ok (.aload_n 0, 1) := by decide +kernel
theorem dX7_forget_15 : decode cX7_forget 15 = .ok (.getfield 19, 3) := by decide +kernel
theorem dX7_forget_18 : decode cX7_forget 18 = .ok (.invokevirtual 207, 3) := by decide +kernel
theorem dX7_forget_21 : decode cX7_forget 21 = .ok (.aload_n 0, 1) := by decide +kernel
theorem dX7_forget_22 : decode cX7_forget 22 = .ok (.getfield 19, 3) := by decide +kernel
theorem dX7_forget_25 : decode cX7_forget 25 = .ok (.iload_n 1, 1) := by decide +kernel
theorem dX7_forget_26 : decode cX7_forget 26 = .ok (.iload_n 2, 1) := by decide +kernel
theorem dX7_forget_27 : decode cX7_forget 27 = .ok (.invokevirtual 163, 3) := by decide +kernel
theorem dX7_forget_30 : decode cX7_forget 30 = .ok (.istore_n 3, 1) := by decide +kernel
theorem dX7_forget_31 : decode cX7_forget 31 = .ok (.aload_n 0, 1) := by decide +kernel
theorem dX7_forget_32 : decode cX7_forget 32 = .ok (.getfield 19, 3) := by decide +kernel
theorem dX7_forget_35 : decode cX7_forget 35 = .ok (.iload_n 1, 1) := by decide +kernel
theorem dX7_forget_36 : decode cX7_forget 36 = .ok (.iload_n 2, 1) := by decide +kernel
theorem dX7_forget_37 : decode cX7_forget 37 = .ok (.invokevirtual 228, 3) := by decide +kernel
theorem dX7_forget_40 : decode cX7_forget 40 = .ok (.iload_n 3, 1) := by decide +kernel
theorem dX7_forget_41 : decode cX7_forget 41 = .ok (.ireturn, 1) := by decide +kernel
theorem dX7_change_0 : decode cX7_change 0 = .ok (.aload_n 0, 1) := by decide +kernel
theorem dX7_change_1 : decode cX7_change 1 = .ok (.iload_n 1, 1) := by decide +kernel
theorem dX7_change_2 : decode cX7_change 2 = .ok (.invokevirtual 126, 3) := by decide +kernel
theorem dX7_change_5 : decode cX7_change 5 = .ok (.iload_n 2, 1) := by decide +kernel
theorem dX7_change_6 : decode cX7_change 6 = .ok (.invokestatic 193, 3) := by decide +kernel
theorem dX7_change_9 : decode cX7_change 9 = .ok (.aload_n 0, 1) := by decide +kernel
theorem dX7_change_10 : decode cX7_change 10 = .ok (.getfield 29, 3) := by decide +kernel
theorem dX7_change_13 : decode cX7_change 13 = .ok (.aload_n 0, 1) := by decide +kernel
theorem dX7_change_14 : decode cX7_change 14 = .ok (.getfield 19, 3) := by decide +kernel
theorem dX7_change_17 : decode cX7_change 17 = .ok (.invokevirtual 207, 3) := by decide +kernel
theorem dX7_change_20 : decode cX7_change 20 = .ok (.aload_n 0, 1) := by decide +kernel
theorem dX7_change_21 : decode cX7_change 21 = .ok (.getfield 19, 3) := by decide +kernel
theorem dX7_change_24 : decode cX7_change 24 = .ok (.getfield 129, 3) := by decide +kernel
theorem dX7_change_27 : decode cX7_change 27 = .ok (.iload_n 1, 1) := by decide +kernel
theorem dX7_change_28 : decode cX7_change 28 = .ok (.iaload, 1) := by decide +kernel
theorem dX7_change_29 : decode cX7_change 29 = .ok (.istore_n 3, 1) := by decide +kernel
theorem dX7_change_30 : decode cX7_change 30 = .ok (.aload_n 0, 1) := by decide +kernel
theorem dX7_change_31 : decode cX7_change 31 = .ok (.getfield 19, 3) := by decide +kernel
theorem dX7_change_34 : decode cX7_change 34 = .ok (.iload_n 1, 1) := by decide +kernel
theorem dX7_change_35 : decode cX7_change 35 = .ok (.iload_n 2, 1) := by decide +kernel
theorem dX7_change_36 : decode cX7_change 36 = .ok (.invokevirtual 231, 3) := by decide +kernel
theorem dX7_change_39 : decode cX7_change 39 = .ok (.aload_n 0, 1) := by decide +kernel
theorem dX7_change_40 : decode cX7_change 40 = .ok (.getfield 19, 3) := by decide +kernel
theorem dX7_change_43 : decode cX7_change 43 = .ok (.dup, 1) := by decide +kernel
theorem dX7_change_44 : decode cX7_change 44 = .ok (.getfield 234, 3) := by decide +kernel
theorem dX7_change_47 : decode cX7_change 47 = .ok (.iconst 1, 1) := by decide +kernel
theorem dX7_change_48 : decode cX7_change 48 = .ok (.iadd, 1) := by decide +kernel
theorem dX7_change_49 : decode cX7_change 49 = .ok (.putfield 234, 3) := by decide +kernel
theorem dX7_change_52 : decode cX7_change 52 = .ok (.iload_n 3, 1) := by decide +kernel
theorem dX7_change_53 : decode cX7_change 53 = .ok (.ireturn, 1) := by decide +kernel
theorem dX7_guard_0 : decode cX7_guard 0 = .ok (.aload_n 0, 1) := by decide +kernel
theorem dX7_guard_1 : decode cX7_guard 1 = .ok (.iload_n 1, 1) := by decide +kernel
theorem dX7_guard_2 : decode cX7_guard 2 = .ok (.invokevirtual 126, 3) := by decide +kernel
theorem dX7_guard_5 : decode cX7_guard 5 = .ok (.iload_n 2, 1) := by decide +kernel
theorem dX7_guard_6 : decode cX7_guard 6 = .ok (.ifCond .lt 9, 3) := by decide +kernel
theorem dX7_guard_9 : decode cX7_guard 9 = .ok (.iload_n 2, 1) := by decide +kernel
theorem dX7_guard_10 : decode cX7_guard 10 = .ok (.bipush 7, 2) := by decide +kernel
theorem dX7_guard_12 : decode cX7_guard 12 = .ok (.if_icmp .lt 13, 3) := by decide +kernel
theorem dX7_guard_15 : decode cX7_guard 15 = .ok (.new 87, 3) := by decide +kernel
theorem dX7_guard_18 : decode cX7_guard 18 = .ok (.dup, 1) := by decide +kernel
theorem dX7_guard_19 : decode cX7_guard 19 = .ok (.ldc 237, 2) := by decide +kernel
theorem dX7_guard_21 : decode cX7_guard 21 = .ok (.invokespecial 91, 3) := by decide +kernel
theorem dX7_guard_24 : decode cX7_guard 24 = .ok (.athrow, 1) := by decide +kernel
theorem dX7_guard_25 : decode cX7_guard 25 = .ok (.aload_n 0, 1) := by decide +kernel
theorem dX7_guard_26 : decode cX7_guard 26 = .ok (.getfield 29, 3) := by decide +kernel
theorem dX7_guard_29 : decode cX7_guard 29 = .ok (.aload_n 0, 1) := by decide +kernel
theorem dX7_guard_30 : decode cX7_guard 30 = .ok (.getfield 19, 3) := by decide +kernel
theorem dX7_guard_33 : decode cX7_guard 33 = .ok (.invokevirtual 207, 3) := by decide +kernel
theorem dX7_guard_36 : decode cX7_guard 36 = .ok (.aload_n 0, 1) := by decide +kernel
theorem dX7_guard_37 : decode cX7_guard 37 = .ok (.getfield 19, 3) := by decide +kernel
theorem dX7_guard_40 : decode cX7_guard 40 = .ok (.getfield 132, 3) := by decide +kernel
theorem dX7_guard_43 : decode cX7_guard 43 = .ok (.iload_n 1, 1) := by decide +kernel
theorem dX7_guard_44 : decode cX7_guard 44 = .ok (.iaload, 1) := by decide +kernel
theorem dX7_guard_45 : decode cX7_guard 45 = .ok (.istore 4, 2) := by decide +kernel
theorem dX7_guard_47 : decode cX7_guard 47 = .ok (.iload_n 3, 1) := by decide +kernel
theorem dX7_guard_48 : decode cX7_guard 48 = .ok (.ifCond .eq 12, 3) := by decide +kernel
theorem dX7_guard_51 : decode cX7_guard 51 = .ok (.iload 4, 2) := by decide +kernel
theorem dX7_guard_53 : decode cX7_guard 53 = .ok (.iconst 1, 1) := by decide +kernel
theorem dX7_guard_54 : decode cX7_guard 54 = .ok (.iload_n 2, 1) := by decide +kernel
theorem dX7_guard_55 : decode cX7_guard 55 = .ok (.ishl, 1) := by decide +kernel
theorem dX7_guard_56 : decode cX7_guard 56 = .ok (.ior, 1) := by decide +kernel
theorem dX7_guard_57 : decode cX7_guard 57 = .ok (.goto 11, 3) := by decide +kernel
theorem dX7_guard_60 : decode cX7_guard 60 = .ok (.iload 4, 2) := by decide +kernel
theorem dX7_guard_62 : decode cX7_guard 62 = .ok (.iconst 1, 1) := by decide +kernel
theorem dX7_guard_63 : decode cX7_guard 63 = .ok (.iload_n 2, 1) := by decide +kernel
theorem dX7_guard_64 : decode cX7_guard 64 = .ok (.ishl, 1) := by decide +kernel
theorem dX7_guard_65 : decode cX7_guard 65 = .ok (.iconst (-1), 1) := by decide +kernel
theorem dX7_guard_66 : decode cX7_guard 66 = .ok (.ixor, 1) := by decide +kernel
theorem dX7_guard_67 : decode cX7_guard 67 = .ok (.iand, 1) := by decide +kernel
theorem dX7_guard_68 : decode cX7_guard 68 = .ok (.istore 5, 2) := by decide +kernel
theorem dX7_guard_70 : decode cX7_guard 70 = .ok (.aload_n 0, 1) := by decide +kernel
theorem dX7_guard_71 : decode cX7_guard 71 = .ok (.getfield 19, 3) := by decide +kernel
theorem dX7_guard_74 : decode cX7_guard 74 = .ok (.getfield 132, 3) := by decide +kernel
theorem dX7_guard_77 : decode cX7_guard 77 = .ok (.iload_n 1, 1) := by decide +kernel
theorem dX7_guard_78 : decode cX7_guard 78 = .ok (.iload 5, 2) := by decide +kernel
theorem dX7_guard_80 : decode cX7_guard 80 = .ok (.iastore, 1) := by decide +kernel
theorem dX7_guard_81 : decode cX7_guard 81 = .ok (.iload 5, 2) := by decide +kernel
theorem dX7_guard_83 : decode cX7_guard 83 = .ok (.iload 4, 2) := by decide +kernel
theorem dX7_guard_85 : decode cX7_guard 85 = .ok (.if_icmp .eq 7, 3) := by decide +kernel
theorem dX7_guard_88 : decode cX7_guard 88 = .ok (.iconst 1, 1) := by decide +kernel
theorem dX7_guard_89 : decode cX7_guard 89 = .ok (.goto 4, 3) := by decide +kernel
theorem dX7_guard_92 : decode cX7_guard 92 = .ok (.iconst 0, 1) := by decide +kernel
theorem dX7_guard_93 : decode cX7_guard 93 = .ok (.ireturn, 1) := by decide +kernel
theorem dX7_days_0 : decode cX7_days 0 = .ok (.iload_n 1, 1) := by decide +kernel
theorem dX7_days_1 : decode cX7_days 1 = .ok (.iconst 1, 1) := by decide +kernel
theorem dX7_days_2 : decode cX7_days 2 = .ok (.if_icmp .lt 9, 3) := by decide +kernel
theorem dX7_days_5 : decode cX7_days 5 = .ok (.iload_n 1, 1) := by decide +kernel
theorem dX7_days_6 : decode cX7_days 6 = .ok (.bipush 60, 2) := by decide +kernel
theorem dX7_days_8 : decode cX7_days 8 = .ok (.if_icmp .le 13, 3) := by decide +kernel
theorem dX7_days_11 : decode cX7_days 11 = .ok (.new 87, 3) := by decide +kernel
theorem dX7_days_14 : decode cX7_days 14 = .ok (.dup, 1) := by decide +kernel
theorem dX7_days_15 : decode cX7_days 15 = .ok (.ldc 239, 2) := by decide +kernel
theorem dX7_days_17 : decode cX7_days 17 = .ok (.invokespecial 91, 3) := by decide +kernel
theorem dX7_days_20 : decode cX7_days 20 = .ok (.athrow, 1) := by decide +kernel
theorem dX7_days_21 : decode cX7_days 21 = .ok (.aload_n 0, 1) := by decide +kernel
theorem dX7_days_22 : decode cX7_days 22 = .ok (.getfield 29, 3) := by decide +kernel
theorem dX7_days_25 : decode cX7_days 25 = .ok (.aload_n 0, 1) := by decide +kernel
theorem dX7_days_26 : decode cX7_days 26 = .ok (.getfield 19, 3) := by decide +kernel
theorem dX7_days_29 : decode cX7_days 29 = .ok (.invokevirtual 207, 3) := by decide +kernel
theorem dX7_days_32 : decode cX7_days 32 = .ok (.aload_n 0, 1) := by decide +kernel
theorem dX7_days_33 : decode cX7_days 33 = .ok (.getfield 63, 3) := by decide +kernel
theorem dX7_days_36 : decode cX7_days 36 = .ok (.aload_n 0, 1) := by decide +kernel
theorem dX7_days_37 : decode cX7_days 37 = .ok (.getfield 19, 3) := by decide +kernel
theorem dX7_days_40 : decode cX7_days 40 = .ok (.aload_n 0, 1) := by decide +kernel
theorem dX7_days_41 : decode cX7_days 41 = .ok (.getfield 19, 3) := by decide +kernel
theorem dX7_days_44 : decode cX7_days 44 = .ok (.getfield 241, 3) := by decide +kernel
theorem dX7_days_47 : decode cX7_days 47 = .ok (.iload_n 1, 1) := by decide +kernel
theorem dX7_days_48 : decode cX7_days 48 = .ok (.invokevirtual 244, 3) := by decide +kernel
theorem dX7_days_51 : decode cX7_days 51 = .ok (.iconst 0, 1) := by decide +kernel
theorem dX7_days_52 : decode cX7_days 52 = .ok (.istore_n 2, 1) := by decide +kernel
theorem dX7_days_53 : decode cX7_days 53 = .ok (.iload_n 2, 1) := by decide +kernel
theorem dX7_days_54 : decode cX7_days 54 = .ok (.aload_n 0, 1) := by decide +kernel
theorem dX7_days_55 : decode cX7_days 55 = .ok (.getfield 19, 3) := by decide +kernel
theorem dX7_days_58 : decode cX7_days 58 = .ok (.getfield 248, 3) := by decide +kernel
theorem dX7_days_61 : decode cX7_days 61 = .ok (.if_icmp .ge 37, 3) := by decide +kernel
theorem dX7_days_64 : decode cX7_days 64 = .ok (.aload_n 0, 1) := by decide +kernel
theorem dX7_days_65 : decode cX7_days 65 = .ok (.getfield 63, 3) := by decide +kernel
theorem dX7_days_68 : decode cX7_days 68 = .ok (.iload_n 2, 1) := by decide +kernel
theorem dX7_days_69 : decode cX7_days 69 = .ok (.invokevirtual 251, 3) := by decide +kernel
theorem dX7_days_72 : decode cX7_days 72 = .ok (.ifCond .eq 20, 3) := by decide +kernel
theorem dX7_days_75 : decode cX7_days 75 = .ok (.aload_n 0, 1) := by decide +kernel
theorem dX7_days_76 : decode cX7_days 76 = .ok (.getfield 19, 3) := by decide +kernel
theorem dX7_days_79 : decode cX7_days 79 = .ok (.iload_n 2, 1) := by decide +kernel
theorem dX7_days_80 : decode cX7_days 80 = .ok (.aload_n 0, 1) := by decide +kernel
theorem dX7_days_81 : decode cX7_days 81 = .ok (.getfield 63, 3) := by decide +kernel
theorem dX7_days_84 : decode cX7_days 84 = .ok (.getfield 254, 3) := by decide +kernel
theorem dX7_days_87 : decode cX7_days 87 = .ok (.iload_n 2, 1) := by decide +kernel
theorem dX7_days_88 : decode cX7_days 88 = .ok (.iaload, 1) := by decide +kernel
theorem dX7_days_89 : decode cX7_days 89 = .ok (.invokevirtual 231, 3) := by decide +kernel
theorem dX7_days_92 : decode cX7_days 92 = .ok (.iinc 2 1, 3) := by decide +kernel
theorem dX7_days_95 : decode cX7_days 95 = .ok (.goto (-42), 3) := by decide +kernel
theorem dX7_days_98 : decode cX7_days 98 = .ok (.aload_n 0, 1) := by decide +kernel
theorem dX7_days_99 : decode cX7_days 99 = .ok (.getfield 19, 3) := by decide +kernel
theorem dX7_days_102 : decode cX7_days 102 = .ok (.dup, 1) := by decide +kernel
theorem dX7_days_103 : decode cX7_days 103 = .ok (.getfield 234, 3) := by decide +kernel
theorem dX7_days_106 : decode cX7_days 106 = .ok (.aload_n 0, 1) := by decide +kernel
theorem dX7_days_107 : decode cX7_days 107 = .ok (.getfield 63, 3) := by decide +kernel
theorem dX7_days_110 : decode cX7_days 110 = .ok (.getfield 255, 3) := by decide +kernel
theorem dX7_days_113 : decode cX7_days 113 = .ok (.iadd, 1) := by decide +kernel
theorem dX7_days_114 : decode cX7_days 114 = .ok (.putfield 234, 3) := by decide +kernel
theorem dX7_days_117 : decode cX7_days 117 = .ok (.aload_n 0, 1) := by decide +kernel
theorem dX7_days_118 : decode cX7_days 118 = .ok (.getfield 19, 3) := by decide +kernel
theorem dX7_days_121 : decode cX7_days 121 = .ok (.aload_n 0, 1) := by decide +kernel
theorem dX7_days_122 : decode cX7_days 122 = .ok (.getfield 63, 3) := by decide +kernel
theorem dX7_days_125 : decode cX7_days 125 = .ok (.getfield 258, 3) := by decide +kernel
theorem dX7_days_128 : decode cX7_days 128 = .ok (.putfield 241, 3) := by decide +kernel
theorem dX7_days_131 : decode cX7_days 131 = .ok (.aload_n 0, 1) := by decide +kernel
theorem dX7_days_132 : decode cX7_days 132 = .ok (.getfield 19, 3) := by decide +kernel
theorem dX7_days_135 : decode cX7_days 135 = .ok (.sipush 9999, 3) := by decide +kernel
theorem dX7_days_138 : decode cX7_days 138 = .ok (.aload_n 0, 1) := by decide +kernel
theorem dX7_days_139 : decode cX7_days 139 = .ok (.getfield 19, 3) := by decide +kernel
theorem dX7_days_142 : decode cX7_days 142 = .ok (.getfield 145, 3) := by decide +kernel
theorem dX7_days_145 : decode cX7_days 145 = .ok (.iload_n 1, 1) := by decide +kernel
theorem dX7_days_146 : decode cX7_days 146 = .ok (.iadd, 1) := by decide +kernel
theorem dX7_days_147 : decode cX7_days 147 = .ok (.invokestatic 259, 3) := by decide +kernel
theorem dX7_days_150 : decode cX7_days 150 = .ok (.putfield 145, 3) := by decide +kernel
theorem dX7_days_153 : decode cX7_days 153 = .ok (.aload_n 0, 1) := by decide +kernel
theorem dX7_days_154 : decode cX7_days 154 = .ok (.getfield 63, 3) := by decide +kernel
theorem dX7_days_157 : decode cX7_days 157 = .ok (.getfield 255, 3) := by decide +kernel
theorem dX7_days_160 : decode cX7_days 160 = .ok (.ireturn, 1) := by decide +kernel
theorem dX7_parts_0 : decode cX7_parts 0 = .ok (.aload_n 0, 1) := by decide +kernel
theorem dX7_parts_1 : decode cX7_parts 1 = .ok (.iload_n 1, 1) := by decide +kernel
theorem dX7_parts_2 : decode cX7_parts 2 = .ok (.invokevirtual 160, 3) := by decide +kernel
theorem dX7_parts_5 : decode cX7_parts 5 = .ok (.aload_n 0, 1) := by decide +kernel
theorem dX7_parts_6 : decode cX7_parts 6 = .ok (.iload_n 2, 1) := by decide +kernel
theorem dX7_parts_7 : decode cX7_parts 7 = .ok (.invokevirtual 126, 3) := by decide +kernel
theorem dX7_parts_10 : decode cX7_parts 10 = .ok (.iload_n 3, 1) := by decide +kernel
theorem dX7_parts_11 : decode cX7_parts 11 = .ok (.invokestatic 193, 3) := by decide +kernel
theorem dX7_parts_14 : decode cX7_parts 14 = .ok (.aload_n 0, 1) := by decide +kernel
theorem dX7_parts_15 : decode cX7_parts 15 = .ok (.getfield 56, 3) := by decide +kernel
theorem dX7_parts_18 : decode cX7_parts 18 = .ok (.iload_n 1, 1) := by decide +kernel
theorem dX7_parts_19 : decode cX7_parts 19 = .ok (.iload_n 2, 1) := by decide +kernel
theorem dX7_parts_20 : decode cX7_parts 20 = .ok (.invokevirtual 166, 3) := by decide +kernel
theorem dX7_parts_23 : decode cX7_parts 23 = .ok (.iload 4, 2) := by decide +kernel
theorem dX7_parts_25 : decode cX7_parts 25 = .ok (.ifCond .eq 17, 3) := by decide +kernel
theorem dX7_parts_28 : decode cX7_parts 28 = .ok (.aload_n 0, 1) := by decide +kernel
theorem dX7_parts_29 : decode cX7_parts 29 = .ok (.getfield 56, 3) := by decide +kernel
theorem dX7_parts_32 : decode cX7_parts 32 = .ok (.iload_n 3, 1) := by decide +kernel
theorem dX7_parts_33 : decode cX7_parts 33 = .ok (.sipush 217, 3) := by decide +kernel
theorem dX7_parts_36 : decode cX7_parts 36 = .ok (.invokevirtual 264, 3) := by decide +kernel
theorem dX7_parts_39 : decode cX7_parts 39 = .ok (.goto 11, 3) := by decide +kernel
theorem dX7_parts_42 : decode cX7_parts 42 = .ok (.aload_n 0, 1) := by decide +kernel
theorem dX7_parts_43 : decode cX7_parts 43 = .ok (.getfield 56, 3) := by decide +kernel
theorem dX7_parts_46 : decode cX7_parts 46 = .ok (.iload_n 3, 1) := by decide +kernel
theorem dX7_parts_47 : decode cX7_parts 47 = .ok (.invokevirtual 267, 3) := by decide +kernel
theorem dX7_parts_50 : decode cX7_parts 50 = .ok (.ireturn, 1) := by decide +kernel
theorem dX7_next_0 : decode cX7_next 0 = .ok (.aload_n 0, 1) := by decide +kernel
theorem dX7_next_1 : decode cX7_next 1 = .ok (.iload_n 1, 1) := by decide +kernel
theorem dX7_next_2 : decode cX7_next 2 = .ok (.invokevirtual 160, 3) := by decide +kernel
theorem dX7_next_5 : decode cX7_next 5 = .ok (.aload_n 0, 1) := by decide +kernel
theorem dX7_next_6 : decode cX7_next 6 = .ok (.iload_n 2, 1) := by decide +kernel
theorem dX7_next_7 : decode cX7_next 7 = .ok (.invokevirtual 126, 3) := by decide +kernel
theorem dX7_next_10 : decode cX7_next 10 = .ok (.aload_n 0, 1) := by decide +kernel
theorem dX7_next_11 : decode cX7_next 11 = .ok (.getfield 56, 3) := by decide +kernel
theorem dX7_next_14 : decode cX7_next 14 = .ok (.iload_n 1, 1) := by decide +kernel
theorem dX7_next_15 : decode cX7_next 15 = .ok (.iload_n 2, 1) := by decide +kernel
theorem dX7_next_16 : decode cX7_next 16 = .ok (.invokevirtual 166, 3) := by decide +kernel
theorem dX7_next_19 : decode cX7_next 19 = .ok (.aload_n 0, 1) := by decide +kernel
theorem dX7_next_20 : decode cX7_next 20 = .ok (.getfield 56, 3) := by decide +kernel
theorem dX7_next_23 : decode cX7_next 23 = .ok (.invokevirtual 270, 3) := by decide +kernel
theorem dX7_next_26 : decode cX7_next 26 = .ok (.ireturn, 1) := by decide +kernel
theorem dX7_outright_0 : decode cX7_outright 0 = .ok (.aload_n 0, 1) := by decide +kernel
theorem dX7_outright_1 : decode cX7_outright 1 = .ok (.iload_n 1, 1) := by decide +kernel
theorem dX7_outright_2 : decode cX7_outright 2 = .ok (.invokevirtual 160, 3) := by decide +kernel
theorem dX7_outright_5 : decode cX7_outright 5 = .ok (.aload_n 0, 1) := by decide +kernel
theorem dX7_outright_6 : decode cX7_outright 6 = .ok (.iload_n 2, 1) := by decide +kernel
theorem dX7_outright_7 : decode cX7_outright 7 = .ok (.invokevirtual 126, 3) := by decide +kernel
theorem dX7_outright_10 : decode cX7_outright 10 = .ok (.aload_n 0, 1) := by decide +kernel
theorem dX7_outright_11 : decode cX7_outright 11 = .ok (.getfield 56, 3) := by decide +kernel
theorem dX7_outright_14 : decode cX7_outright 14 = .ok (.iload_n 1, 1) := by decide +kernel
theorem dX7_outright_15 : decode cX7_outright 15 = .ok (.iload_n 2, 1) := by decide +kernel
theorem dX7_outright_16 : decode cX7_outright 16 = .ok (.invokevirtual 166, 3) := by decide +kernel
theorem dX7_outright_19 : decode cX7_outright 19 = .ok (.iconst 0, 1) := by decide +kernel
theorem dX7_outright_20 : decode cX7_outright 20 = .ok (.istore_n 3, 1) := by decide +kernel
theorem dX7_outright_21 : decode cX7_outright 21 = .ok (.iload_n 3, 1) := by decide +kernel
theorem dX7_outright_22 : decode cX7_outright 22 = .ok (.sipush 216, 3) := by decide +kernel
theorem dX7_outright_25 : decode cX7_outright 25 = .ok (.if_icmp .ge 24, 3) := by decide +kernel
theorem dX7_outright_28 : decode cX7_outright 28 = .ok (.aload_n 0, 1) := by decide +kernel
theorem dX7_outright_29 : decode cX7_outright 29 = .ok (.getfield 56, 3) := by decide +kernel
theorem dX7_outright_32 : decode cX7_outright 32 = .ok (.iload_n 3, 1) := by decide +kernel
theorem dX7_outright_33 : decode cX7_outright 33 = .ok (.iconst 2, 1) := by decide +kernel
theorem dX7_outright_34 : decode cX7_outright 34 = .ok (.invokevirtual 264, 3) := by decide +kernel
theorem dX7_outright_37 : decode cX7_outright 37 = .ok (.iconst 2, 1) := by decide +kernel
theorem dX7_outright_38 : decode cX7_outright 38 = .ok (.if_icmp .ge 5, 3) := by decide +kernel
theorem dX7_outright_41 : decode cX7_outright 41 = .ok (.iload_n 3, 1) := by decide +kernel
theorem dX7_outright_42 : decode cX7_outright 42 = .ok (.ireturn, 1) := by decide +kernel
theorem dX7_outright_43 : decode cX7_outright 43 = .ok (.iinc 3 1, 3) := by decide +kernel
theorem dX7_outright_46 : decode cX7_outright 46 = .ok (.goto (-25), 3) := by decide +kernel
theorem dX7_outright_49 : decode cX7_outright 49 = .ok (.iconst (-1), 1) := by decide +kernel
theorem dX7_outright_50 : decode cX7_outright 50 = .ok (.ireturn, 1) := by decide +kernel
theorem dX7_worst_0 : decode cX7_worst 0 = .ok (.aload_n 0, 1) := by decide +kernel
theorem dX7_worst_1 : decode cX7_worst 1 = .ok (.iload_n 1, 1) := by decide +kernel
theorem dX7_worst_2 : decode cX7_worst 2 = .ok (.invokevirtual 160, 3) := by decide +kernel
theorem dX7_worst_5 : decode cX7_worst 5 = .ok (.aload_n 0, 1) := by decide +kernel
theorem dX7_worst_6 : decode cX7_worst 6 = .ok (.iload_n 2, 1) := by decide +kernel
theorem dX7_worst_7 : decode cX7_worst 7 = .ok (.invokevirtual 126, 3) := by decide +kernel
theorem dX7_worst_10 : decode cX7_worst 10 = .ok (.aload_n 0, 1) := by decide +kernel
theorem dX7_worst_11 : decode cX7_worst 11 = .ok (.getfield 56, 3) := by decide +kernel
theorem dX7_worst_14 : decode cX7_worst 14 = .ok (.iload_n 1, 1) := by decide +kernel
theorem dX7_worst_15 : decode cX7_worst 15 = .ok (.iload_n 2, 1) := by decide +kernel
theorem dX7_worst_16 : decode cX7_worst 16 = .ok (.invokevirtual 166, 3) := by decide +kernel
theorem dX7_worst_19 : decode cX7_worst 19 = .ok (.aload_n 0, 1) := by decide +kernel
theorem dX7_worst_20 : decode cX7_worst 20 = .ok (.getfield 56, 3) := by decide +kernel
theorem dX7_worst_23 : decode cX7_worst 23 = .ok (.invokevirtual 274, 3) := by decide +kernel
theorem dX7_worst_26 : decode cX7_worst 26 = .ok (.ireturn, 1) := by decide +kernel
theorem dX7_quietest_0 : decode cX7_quietest 0 = .ok (.iload_n 1, 1) := by decide +kernel
theorem dX7_quietest_1 : decode cX7_quietest 1 = .ok (.invokestatic 193, 3) := by decide +kernel
theorem dX7_quietest_4 : decode cX7_quietest 4 = .ok (.aload_n 0, 1) := by decide +kernel
theorem dX7_quietest_5 : decode cX7_quietest 5 = .ok (.getfield 56, 3) := by decide +kernel
theorem dX7_quietest_8 : decode cX7_quietest 8 = .ok (.iload_n 1, 1) := by decide +kernel
theorem dX7_quietest_9 : decode cX7_quietest 9 = .ok (.invokevirtual 277, 3) := by decide +kernel
theorem dX7_quietest_12 : decode cX7_quietest 12 = .ok (.aload_n 0, 1) := by decide +kernel
theorem dX7_quietest_13 : decode cX7_quietest 13 = .ok (.getfield 56, 3) := by decide +kernel
theorem dX7_quietest_16 : decode cX7_quietest 16 = .ok (.iload_n 1, 1) := by decide +kernel
theorem dX7_quietest_17 : decode cX7_quietest 17 = .ok (.invokevirtual 280, 3) := by decide +kernel
theorem dX7_quietest_20 : decode cX7_quietest 20 = .ok (.ireturn, 1) := by decide +kernel
theorem dX7_loudest_0 : decode cX7_loudest 0 = .ok (.iconst 0, 1) := by decide +kernel
theorem dX7_loudest_1 : decode cX7_loudest 1 = .ok (.istore_n 1, 1) := by decide +kernel
theorem dX7_loudest_2 : decode cX7_loudest 2 = .ok (.aload_n 0, 1) := by decide +kernel
theorem dX7_loudest_3 : decode cX7_loudest 3 = .ok (.getfield 19, 3) := by decide +kernel
theorem dX7_loudest_6 : decode cX7_loudest 6 = .ok (.iconst 0, 1) := by decide +kernel
theorem dX7_loudest_7 : decode cX7_loudest 7 = .ok (.invokevirtual 283, 3) := by decide +kernel
theorem dX7_loudest_10 : decode cX7_loudest 10 = .ok (.istore_n 2, 1) := by decide +kernel
theorem dX7_loudest_11 : decode cX7_loudest 11 = .ok (.iconst 1, 1) := by decide +kernel
theorem dX7_loudest_12 : decode cX7_loudest 12 = .ok (.istore_n 3, 1) := by decide +kernel
theorem dX7_loudest_13 : decode cX7_loudest 13 = .ok (.iload_n 3, 1) := by decide +kernel
theorem dX7_loudest_14 : decode cX7_loudest 14 = .ok (.sipush 216, 3) := by decide +kernel
theorem dX7_loudest_17 : decode cX7_loudest 17 = .ok (.if_icmp .ge 30, 3) := by decide +kernel
theorem dX7_loudest_20 : decode cX7_loudest 20 = .ok (.aload_n 0, 1) := by decide +kernel
theorem dX7_loudest_21 : decode cX7_loudest 21 = .ok (.getfield 19, 3) := by decide +kernel
theorem dX7_loudest_24 : decode cX7_loudest 24 = .ok (.iload_n 3, 1) := by decide +kernel
theorem dX7_loudest_25 : decode cX7_loudest 25 = .ok (.invokevirtual 283, 3) := by decide +kernel
theorem dX7_loudest_28 : decode cX7_loudest 28 = .ok (.istore 4, 2) := by decide +kernel
theorem dX7_loudest_30 : decode cX7_loudest 30 = .ok (.iload 4, 2) := by decide +kernel
theorem dX7_loudest_32 : decode cX7_loudest 32 = .ok (.iload_n 2, 1) := by decide +kernel
theorem dX7_loudest_33 : decode cX7_loudest 33 = .ok (.if_icmp .le 8, 3) := by decide +kernel
theorem dX7_loudest_36 : decode cX7_loudest 36 = .ok (.iload_n 3, 1) := by decide +kernel
theorem dX7_loudest_37 : decode cX7_loudest 37 = .ok (.istore_n 1, 1) := by decide +kernel
theorem dX7_loudest_38 : decode cX7_loudest 38 = .ok (.iload 4, 2) := by decide +kernel
theorem dX7_loudest_40 : decode cX7_loudest 40 = .ok (.istore_n 2, 1) := by decide +kernel
theorem dX7_loudest_41 : decode cX7_loudest 41 = .ok (.iinc 3 1, 3) := by decide +kernel
theorem dX7_loudest_44 : decode cX7_loudest 44 = .ok (.goto (-31), 3) := by decide +kernel
theorem dX7_loudest_47 : decode cX7_loudest 47 = .ok (.iload_n 1, 1) := by decide +kernel
theorem dX7_loudest_48 : decode cX7_loudest 48 = .ok (.ireturn, 1) := by decide +kernel
theorem dX7_deaf_0 : decode cX7_deaf 0 = .ok (.iconst 0, 1) := by decide +kernel
theorem dX7_deaf_1 : decode cX7_deaf 1 = .ok (.istore_n 1, 1) := by decide +kernel
theorem dX7_deaf_2 : decode cX7_deaf 2 = .ok (.iconst 0, 1) := by decide +kernel
theorem dX7_deaf_3 : decode cX7_deaf 3 = .ok (.istore_n 2, 1) := by decide +kernel
theorem dX7_deaf_4 : decode cX7_deaf 4 = .ok (.iload_n 2, 1) := by decide +kernel
theorem dX7_deaf_5 : decode cX7_deaf 5 = .ok (.iconst 3, 1) := by decide +kernel
theorem dX7_deaf_6 : decode cX7_deaf 6 = .ok (.if_icmp .ge 60, 3) := by decide +kernel
theorem dX7_deaf_9 : decode cX7_deaf 9 = .ok (.iconst 1, 1) := by decide +kernel
theorem dX7_deaf_10 : decode cX7_deaf 10 = .ok (.istore_n 3, 1) := by decide +kernel
theorem dX7_deaf_11 : decode cX7_deaf 11 = .ok (.iconst 0, 1) := by decide +kernel
theorem dX7_deaf_12 : decode cX7_deaf 12 = .ok (.istore 4, 2) := by decide +kernel
theorem dX7_deaf_14 : decode cX7_deaf 14 = .ok (.iload 4, 2) := by decide +kernel
theorem dX7_deaf_16 : decode cX7_deaf 16 = .ok (.bipush 6, 2) := by decide +kernel
theorem dX7_deaf_18 : decode cX7_deaf 18 = .ok (.if_icmp .ge 32, 3) := by decide +kernel
theorem dX7_deaf_21 : decode cX7_deaf 21 = .ok (.iload_n 3, 1) := by decide +kernel
theorem dX7_deaf_22 : decode cX7_deaf 22 = .ok (.ifCond .eq 20, 3) := by decide +kernel
theorem dX7_deaf_25 : decode cX7_deaf 25 = .ok (.aload_n 0, 1) := by decide +kernel
theorem dX7_deaf_26 : decode cX7_deaf 26 = .ok (.getfield 19, 3) := by decide +kernel
theorem dX7_deaf_29 : decode cX7_deaf 29 = .ok (.iload_n 2, 1) := by decide +kernel
theorem dX7_deaf_30 : decode cX7_deaf 30 = .ok (.iload 4, 2) := by decide +kernel
theorem dX7_deaf_32 : decode cX7_deaf 32 = .ok (.invokevirtual 286, 3) := by decide +kernel
theorem dX7_deaf_35 : decode cX7_deaf 35 = .ok (.ifCond .ne 7, 3) := by decide +kernel
theorem dX7_deaf_38 : decode cX7_deaf 38 = .ok (.iconst 1, 1) := by decide +kernel
theorem dX7_deaf_39 : decode cX7_deaf 39 = .ok (.goto 4, 3) := by decide +kernel
theorem dX7_deaf_42 : decode cX7_deaf 42 = .ok (.iconst 0, 1) := by decide +kernel
theorem dX7_deaf_43 : decode cX7_deaf 43 = .ok (.istore_n 3, 1) := by decide +kernel
theorem dX7_deaf_44 : decode cX7_deaf 44 = .ok (.iinc 4 1, 3) := by decide +kernel
theorem dX7_deaf_47 : decode cX7_deaf 47 = .ok (.goto (-33), 3) := by decide +kernel
theorem dX7_deaf_50 : decode cX7_deaf 50 = .ok (.iload_n 3, 1) := by decide +kernel
theorem dX7_deaf_51 : decode cX7_deaf 51 = .ok (.ifCond .eq 9, 3) := by decide +kernel
theorem dX7_deaf_54 : decode cX7_deaf 54 = .ok (.iload_n 1, 1) := by decide +kernel
theorem dX7_deaf_55 : decode cX7_deaf 55 = .ok (.iconst 1, 1) := by decide +kernel
theorem dX7_deaf_56 : decode cX7_deaf 56 = .ok (.iload_n 2, 1) := by decide +kernel
theorem dX7_deaf_57 : decode cX7_deaf 57 = .ok (.ishl, 1) := by decide +kernel
theorem dX7_deaf_58 : decode cX7_deaf 58 = .ok (.ior, 1) := by decide +kernel
theorem dX7_deaf_59 : decode cX7_deaf 59 = .ok (.istore_n 1, 1) := by decide +kernel
theorem dX7_deaf_60 : decode cX7_deaf 60 = .ok (.iinc 2 1, 3) := by decide +kernel
theorem dX7_deaf_63 : decode cX7_deaf 63 = .ok (.goto (-59), 3) := by decide +kernel
theorem dX7_deaf_66 : decode cX7_deaf 66 = .ok (.iload_n 1, 1) := by decide +kernel
theorem dX7_deaf_67 : decode cX7_deaf 67 = .ok (.ireturn, 1) := by decide +kernel
theorem dX7_alone_0 : decode cX7_alone 0 = .ok (.aload_n 0, 1) := by decide +kernel
theorem dX7_alone_1 : decode cX7_alone 1 = .ok (.iload_n 1, 1) := by decide +kernel
theorem dX7_alone_2 : decode cX7_alone 2 = .ok (.invokevirtual 126, 3) := by decide +kernel
theorem dX7_alone_5 : decode cX7_alone 5 = .ok (.iconst 0, 1) := by decide +kernel
theorem dX7_alone_6 : decode cX7_alone 6 = .ok (.istore_n 2, 1) := by decide +kernel
theorem dX7_alone_7 : decode cX7_alone 7 = .ok (.iconst 0, 1) := by decide +kernel
theorem dX7_alone_8 : decode cX7_alone 8 = .ok (.istore_n 3, 1) := by decide +kernel
theorem dX7_alone_9 : decode cX7_alone 9 = .ok (.iload_n 3, 1) := by decide +kernel
theorem dX7_alone_10 : decode cX7_alone 10 = .ok (.aload_n 0, 1) := by decide +kernel
theorem dX7_alone_11 : decode cX7_alone 11 = .ok (.getfield 19, 3) := by decide +kernel
theorem dX7_alone_14 : decode cX7_alone 14 = .ok (.getfield 289, 3) := by decide +kernel
theorem dX7_alone_17 : decode cX7_alone 17 = .ok (.if_icmp .ge 28, 3) := by decide +kernel
theorem dX7_alone_20 : decode cX7_alone 20 = .ok (.aload_n 0, 1) := by decide +kernel
theorem dX7_alone_21 : decode cX7_alone 21 = .ok (.getfield 19, 3) := by decide +kernel
theorem dX7_alone_24 : decode cX7_alone 24 = .ok (.iload_n 3, 1) := by decide +kernel
theorem dX7_alone_25 : decode cX7_alone 25 = .ok (.iload_n 1, 1) := by decide +kernel
theorem dX7_alone_26 : decode cX7_alone 26 = .ok (.invokevirtual 163, 3) := by decide +kernel
theorem dX7_alone_29 : decode cX7_alone 29 = .ok (.iconst 1, 1) := by decide +kernel
theorem dX7_alone_30 : decode cX7_alone 30 = .ok (.if_icmp .ne 9, 3) := by decide +kernel
theorem dX7_alone_33 : decode cX7_alone 33 = .ok (.iload_n 2, 1) := by decide +kernel
theorem dX7_alone_34 : decode cX7_alone 34 = .ok (.iconst 1, 1) := by decide +kernel
theorem dX7_alone_35 : decode cX7_alone 35 = .ok (.iload_n 3, 1) := by decide +kernel
theorem dX7_alone_36 : decode cX7_alone 36 = .ok (.ishl, 1) := by decide +kernel
theorem dX7_alone_37 : decode cX7_alone 37 = .ok (.ior, 1) := by decide +kernel
theorem dX7_alone_38 : decode cX7_alone 38 = .ok (.istore_n 2, 1) := by decide +kernel
theorem dX7_alone_39 : decode cX7_alone 39 = .ok (.iinc 3 1, 3) := by decide +kernel
theorem dX7_alone_42 : decode cX7_alone 42 = .ok (.goto (-33), 3) := by decide +kernel
theorem dX7_alone_45 : decode cX7_alone 45 = .ok (.iload_n 2, 1) := by decide +kernel
theorem dX7_alone_46 : decode cX7_alone 46 = .ok (.ireturn, 1) := by decide +kernel
theorem dX7_together_0 : decode cX7_together 0 = .ok (.aload_n 0, 1) := by decide +kernel
theorem dX7_together_1 : decode cX7_together 1 = .ok (.iload_n 2, 1) := by decide +kernel
theorem dX7_together_2 : decode cX7_together 2 = .ok (.invokevirtual 126, 3) := by decide +kernel
theorem dX7_together_5 : decode cX7_together 5 = .ok (.aload_n 0, 1) := by decide +kernel
theorem dX7_together_6 : decode cX7_together 6 = .ok (.getfield 19, 3) := by decide +kernel
theorem dX7_together_9 : decode cX7_together 9 = .ok (.iload_n 1, 1) := by decide +kernel
theorem dX7_together_10 : decode cX7_together 10 = .ok (.iload_n 2, 1) := by decide +kernel
theorem dX7_together_11 : decode cX7_together 11 = .ok (.invokevirtual 292, 3) := by decide +kernel
theorem dX7_together_14 : decode cX7_together 14 = .ok (.iconst 1, 1) := by decide +kernel
theorem dX7_together_15 : decode cX7_together 15 = .ok (.if_icmp .ne 7, 3) := by decide +kernel
theorem dX7_together_18 : decode cX7_together 18 = .ok (.iconst 1, 1) := by decide +kernel
theorem dX7_together_19 : decode cX7_together 19 = .ok (.goto 4, 3) := by decide +kernel
theorem dX7_together_22 : decode cX7_together 22 = .ok (.iconst 0, 1) := by decide +kernel
theorem dX7_together_23 : decode cX7_together 23 = .ok (.ireturn, 1) := by decide +kernel
theorem dX7_fewest_0 : decode cX7_fewest 0 = .ok (.aload_n 0, 1) := by decide +kernel
theorem dX7_fewest_1 : decode cX7_fewest 1 = .ok (.iload_n 1, 1) := by decide +kernel
theorem dX7_fewest_2 : decode cX7_fewest 2 = .ok (.invokevirtual 126, 3) := by decide +kernel
theorem dX7_fewest_5 : decode cX7_fewest 5 = .ok (.iconst 1, 1) := by decide +kernel
theorem dX7_fewest_6 : decode cX7_fewest 6 = .ok (.aload_n 0, 1) := by decide +kernel
theorem dX7_fewest_7 : decode cX7_fewest 7 = .ok (.getfield 19, 3) := by decide +kernel
theorem dX7_fewest_10 : decode cX7_fewest 10 = .ok (.getfield 289, 3) := by decide +kernel
theorem dX7_fewest_13 : decode cX7_fewest 13 = .ok (.ishl, 1) := by decide +kernel
theorem dX7_fewest_14 : decode cX7_fewest 14 = .ok (.iconst 1, 1) := by decide +kernel
theorem dX7_fewest_15 : decode cX7_fewest 15 = .ok (.isub, 1) := by decide +kernel
theorem dX7_fewest_16 : decode cX7_fewest 16 = .ok (.istore_n 3, 1) := by decide +kernel
theorem dX7_fewest_17 : decode cX7_fewest 17 = .ok (.iconst (-1), 1) := by decide +kernel
theorem dX7_fewest_18 : decode cX7_fewest 18 = .ok (.istore 4, 2) := by decide +kernel
theorem dX7_fewest_20 : decode cX7_fewest 20 = .ok (.bipush 7, 2) := by decide +kernel
theorem dX7_fewest_22 : decode cX7_fewest 22 = .ok (.istore 5, 2) := by decide +kernel
theorem dX7_fewest_24 : decode cX7_fewest 24 = .ok (.iconst 0, 1) := by decide +kernel
theorem dX7_fewest_25 : decode cX7_fewest 25 = .ok (.istore 6, 2) := by decide +kernel
theorem dX7_fewest_27 : decode cX7_fewest 27 = .ok (.iload 6, 2) := by decide +kernel
theorem dX7_fewest_29 : decode cX7_fewest 29 = .ok (.iload_n 3, 1) := by decide +kernel
theorem dX7_fewest_30 : decode cX7_fewest 30 = .ok (.if_icmp .gt 70, 3) := by decide +kernel
theorem dX7_fewest_33 : decode cX7_fewest 33 = .ok (.iload_n 2, 1) := by decide +kernel
theorem dX7_fewest_34 : decode cX7_fewest 34 = .ok (.ifCond .eq 12, 3) := by decide +kernel
theorem dX7_fewest_37 : decode cX7_fewest 37 = .ok (.iload_n 3, 1) := by decide +kernel
theorem dX7_fewest_38 : decode cX7_fewest 38 = .ok (.iload 6, 2) := by decide +kernel
theorem dX7_fewest_40 : decode cX7_fewest 40 = .ok (.iconst (-1), 1) := by decide +kernel
theorem dX7_fewest_41 : decode cX7_fewest 41 = .ok (.ixor, 1) := by decide +kernel
theorem dX7_fewest_42 : decode cX7_fewest 42 = .ok (.iand, 1) := by decide +kernel
theorem dX7_fewest_43 : decode cX7_fewest 43 = .ok (.goto 5, 3) := by decide +kernel
theorem dX7_fewest_46 : decode cX7_fewest 46 = .ok (.iload 6, 2) := by decide +kernel
theorem dX7_fewest_48 : decode cX7_fewest 48 = .ok (.istore 7, 2) := by decide +kernel
theorem dX7_fewest_50 : decode cX7_fewest 50 = .ok (.iload 6, 2) := by decide +kernel
theorem dX7_fewest_52 : decode cX7_fewest 52 = .ok (.invokestatic 182, 3) := by decide +kernel
theorem dX7_fewest_55 : decode cX7_fewest 55 = .ok (.iload 5, 2) := by decide +kernel
theorem dX7_fewest_57 : decode cX7_fewest 57 = .ok (.if_icmp .ge 37, 3) := by decide +kernel
theorem dX7_fewest_60 : decode cX7_fewest 60 = .ok (.aload_n 0, 1) := by decide +kernel
theorem dX7_fewest_61 : decode cX7_fewest 61 = .ok (.getfield 19, 3) := by decide +kernel
theorem dX7_fewest_64 : decode cX7_fewest 64 = .ok (.iload 7, 2) := by decide +kernel
theorem dX7_fewest_66 : decode cX7_fewest 66 = .ok (.iload_n 1, 1) := by decide +kernel
theorem dX7_fewest_67 : decode cX7_fewest 67 = .ok (.invokevirtual 292, 3) := by decide +kernel
theorem dX7_fewest_70 : decode cX7_fewest 70 = .ok (.iconst 1, 1) := by decide +kernel
theorem dX7_fewest_71 : decode cX7_fewest 71 = .ok (.if_icmp .ne 7, 3) := by decide +kernel
theorem dX7_fewest_74 : decode cX7_fewest 74 = .ok (.iconst 1, 1) := by decide +kernel
theorem dX7_fewest_75 : decode cX7_fewest 75 = .ok (.goto 4, 3) := by decide +kernel
theorem dX7_fewest_78 : decode cX7_fewest 78 = .ok (.iconst 0, 1) := by decide +kernel
theorem dX7_fewest_79 : decode cX7_fewest 79 = .ok (.iload_n 2, 1) := by decide +kernel
theorem dX7_fewest_80 : decode cX7_fewest 80 = .ok (.if_icmp .eq 14, 3) := by decide +kernel
theorem dX7_fewest_83 : decode cX7_fewest 83 = .ok (.iload 6, 2) := by decide +kernel
theorem dX7_fewest_85 : decode cX7_fewest 85 = .ok (.istore 4, 2) := by decide +kernel
theorem dX7_fewest_87 : decode cX7_fewest 87 = .ok (.iload 6, 2) := by decide +kernel
theorem dX7_fewest_89 : decode cX7_fewest 89 = .ok (.invokestatic 182, 3) := by decide +kernel
theorem dX7_fewest_92 : decode cX7_fewest 92 = .ok (.istore 5, 2) := by decide +kernel
theorem dX7_fewest_94 : decode cX7_fewest 94 = .ok (.iinc 6 1, 3) := by decide +kernel
theorem dX7_fewest_97 : decode cX7_fewest 97 = .ok (.goto (-70), 3) := by decide +kernel
theorem dX7_fewest_100 : decode cX7_fewest 100 = .ok (.iload 4, 2) := by decide +kernel
theorem dX7_fewest_102 : decode cX7_fewest 102 = .ok (.ireturn, 1) := by decide +kernel
theorem dX7_pair_0 : decode cX7_pair 0 = .ok (.aload_n 0, 1) := by decide +kernel
theorem dX7_pair_1 : decode cX7_pair 1 = .ok (.iload_n 1, 1) := by decide +kernel
theorem dX7_pair_2 : decode cX7_pair 2 = .ok (.invokevirtual 126, 3) := by decide +kernel
theorem dX7_pair_5 : decode cX7_pair 5 = .ok (.iconst (-1), 1) := by decide +kernel
theorem dX7_pair_6 : decode cX7_pair 6 = .ok (.istore_n 2, 1) := by decide +kernel
theorem dX7_pair_7 : decode cX7_pair 7 = .ok (.sipush 217, 3) := by decide +kernel
theorem dX7_pair_10 : decode cX7_pair 10 = .ok (.istore_n 3, 1) := by decide +kernel
theorem dX7_pair_11 : decode cX7_pair 11 = .ok (.iconst 0, 1) := by decide +kernel
theorem dX7_pair_12 : decode cX7_pair 12 = .ok (.istore 4, 2) := by decide +kernel
theorem dX7_pair_14 : decode cX7_pair 14 = .ok (.iload 4, 2) := by decide +kernel
theorem dX7_pair_16 : decode cX7_pair 16 = .ok (.aload_n 0, 1) := by decide +kernel
theorem dX7_pair_17 : decode cX7_pair 17 = .ok (.getfield 19, 3) := by decide +kernel
theorem dX7_pair_20 : decode cX7_pair 20 = .ok (.getfield 289, 3) := by decide +kernel
theorem dX7_pair_23 : decode cX7_pair 23 = .ok (.if_icmp .ge 70, 3) := by decide +kernel
theorem dX7_pair_26 : decode cX7_pair 26 = .ok (.iload 4, 2) := by decide +kernel
theorem dX7_pair_28 : decode cX7_pair 28 = .ok (.iconst 1, 1) := by decide +kernel
theorem dX7_pair_29 : decode cX7_pair 29 = .ok (.iadd, 1) := by decide +kernel
theorem dX7_pair_30 : decode cX7_pair 30 = .ok (.istore 5, 2) := by decide +kernel
theorem dX7_pair_32 : decode cX7_pair 32 = .ok (.iload 5, 2) := by decide +kernel
theorem dX7_pair_34 : decode cX7_pair 34 = .ok (.aload_n 0, 1) := by decide +kernel
theorem dX7_pair_35 : decode cX7_pair 35 = .ok (.getfield 19, 3) := by decide +kernel
theorem dX7_pair_38 : decode cX7_pair 38 = .ok (.getfield 289, 3) := by decide +kernel
theorem dX7_pair_41 : decode cX7_pair 41 = .ok (.if_icmp .ge 46, 3) := by decide +kernel
theorem dX7_pair_44 : decode cX7_pair 44 = .ok (.aload_n 0, 1) := by decide +kernel
theorem dX7_pair_45 : decode cX7_pair 45 = .ok (.getfield 19, 3) := by decide +kernel
theorem dX7_pair_48 : decode cX7_pair 48 = .ok (.iconst 1, 1) := by decide +kernel
theorem dX7_pair_49 : decode cX7_pair 49 = .ok (.iload 4, 2) := by decide +kernel
theorem dX7_pair_51 : decode cX7_pair 51 = .ok (.ishl, 1) := by decide +kernel
theorem dX7_pair_52 : decode cX7_pair 52 = .ok (.iconst 1, 1) := by decide +kernel
theorem dX7_pair_53 : decode cX7_pair 53 = .ok (.iload 5, 2) := by decide +kernel
theorem dX7_pair_55 : decode cX7_pair 55 = .ok (.ishl, 1) := by decide +kernel
theorem dX7_pair_56 : decode cX7_pair 56 = .ok (.ior, 1) := by decide +kernel
theorem dX7_pair_57 : decode cX7_pair 57 = .ok (.iload_n 1, 1) := by decide +kernel
theorem dX7_pair_58 : decode cX7_pair 58 = .ok (.invokevirtual 292, 3) := by decide +kernel
theorem dX7_pair_61 : decode cX7_pair 61 = .ok (.istore 6, 2) := by decide +kernel
theorem dX7_pair_63 : decode cX7_pair 63 = .ok (.iload 6, 2) := by decide +kernel
theorem dX7_pair_65 : decode cX7_pair 65 = .ok (.iload_n 3, 1) := by decide +kernel
theorem dX7_pair_66 : decode cX7_pair 66 = .ok (.if_icmp .ge 15, 3) := by decide +kernel
theorem dX7_pair_69 : decode cX7_pair 69 = .ok (.bipush 10, 2) := by decide +kernel
theorem dX7_pair_71 : decode cX7_pair 71 = .ok (.iload 4, 2) := by decide +kernel
theorem dX7_pair_73 : decode cX7_pair 73 = .ok (.imul, 1) := by decide +kernel
theorem dX7_pair_74 : decode cX7_pair 74 = .ok (.iload 5, 2) := by decide +kernel
theorem dX7_pair_76 : decode cX7_pair 76 = .ok (.iadd, 1) := by decide +kernel
theorem dX7_pair_77 : decode cX7_pair 77 = .ok (.istore_n 2, 1) := by decide +kernel
theorem dX7_pair_78 : decode cX7_pair 78 = .ok (.iload 6, 2) := by decide +kernel
theorem dX7_pair_80 : decode cX7_pair 80 = .ok (.istore_n 3, 1) := by decide +kernel
theorem dX7_pair_81 : decode cX7_pair 81 = .ok (.iinc 5 1, 3) := by decide +kernel
theorem dX7_pair_84 : decode cX7_pair 84 = .ok (.goto (-52), 3) := by decide +kernel
theorem dX7_pair_87 : decode cX7_pair 87 = .ok (.iinc 4 1, 3) := by decide +kernel
theorem dX7_pair_90 : decode cX7_pair 90 = .ok (.goto (-76), 3) := by decide +kernel
theorem dX7_pair_93 : decode cX7_pair 93 = .ok (.iload_n 2, 1) := by decide +kernel
theorem dX7_pair_94 : decode cX7_pair 94 = .ok (.ireturn, 1) := by decide +kernel
theorem dX7_gains_0 : decode cX7_gains 0 = .ok (.aload_n 0, 1) := by decide +kernel
theorem dX7_gains_1 : decode cX7_gains 1 = .ok (.iload_n 1, 1) := by decide +kernel
theorem dX7_gains_2 : decode cX7_gains 2 = .ok (.iload_n 2, 1) := by decide +kernel
theorem dX7_gains_3 : decode cX7_gains 3 = .ok (.iload_n 3, 1) := by decide +kernel
theorem dX7_gains_4 : decode cX7_gains 4 = .ok (.invokevirtual 221, 3) := by decide +kernel
theorem dX7_gains_7 : decode cX7_gains 7 = .ok (.aload_n 0, 1) := by decide +kernel
theorem dX7_gains_8 : decode cX7_gains 8 = .ok (.getfield 19, 3) := by decide +kernel
theorem dX7_gains_11 : decode cX7_gains 11 = .ok (.iload_n 1, 1) := by decide +kernel
theorem dX7_gains_12 : decode cX7_gains 12 = .ok (.iload_n 3, 1) := by decide +kernel
theorem dX7_gains_13 : decode cX7_gains 13 = .ok (.invokevirtual 163, 3) := by decide +kernel
theorem dX7_gains_16 : decode cX7_gains 16 = .ok (.aload_n 0, 1) := by decide +kernel
theorem dX7_gains_17 : decode cX7_gains 17 = .ok (.getfield 19, 3) := by decide +kernel
theorem dX7_gains_20 : decode cX7_gains 20 = .ok (.iconst 1, 1) := by decide +kernel
theorem dX7_gains_21 : decode cX7_gains 21 = .ok (.iload_n 1, 1) := by decide +kernel
theorem dX7_gains_22 : decode cX7_gains 22 = .ok (.ishl, 1) := by decide +kernel
theorem dX7_gains_23 : decode cX7_gains 23 = .ok (.iconst 1, 1) := by decide +kernel
theorem dX7_gains_24 : decode cX7_gains 24 = .ok (.iload_n 2, 1) := by decide +kernel
theorem dX7_gains_25 : decode cX7_gains 25 = .ok (.ishl, 1) := by decide +kernel
theorem dX7_gains_26 : decode cX7_gains 26 = .ok (.ior, 1) := by decide +kernel
theorem dX7_gains_27 : decode cX7_gains 27 = .ok (.iload_n 3, 1) := by decide +kernel
theorem dX7_gains_28 : decode cX7_gains 28 = .ok (.invokevirtual 292, 3) := by decide +kernel
theorem dX7_gains_31 : decode cX7_gains 31 = .ok (.isub, 1) := by decide +kernel
theorem dX7_gains_32 : decode cX7_gains 32 = .ok (.ireturn, 1) := by decide +kernel
theorem dX7_contract_0 : decode cX7_contract 0 = .ok (.iload_n 1, 1) := by decide +kernel
theorem dX7_contract_1 : decode cX7_contract 1 = .ok (.ifCond .lt 14, 3) := by decide +kernel
theorem dX7_contract_4 : decode cX7_contract 4 = .ok (.iload_n 1, 1) := by decide +kernel
theorem dX7_contract_5 : decode cX7_contract 5 = .ok (.aload_n 0, 1) := by decide +kernel
theorem dX7_contract_6 : decode cX7_contract 6 = .ok (.getfield 19, 3) := by decide +kernel
theorem dX7_contract_9 : decode cX7_contract 9 = .ok (.getfield 295, 3) := by decide +kernel
theorem dX7_contract_12 : decode cX7_contract 12 = .ok (.if_icmp .lt 14, 3) := by decide +kernel
theorem dX7_contract_15 : decode cX7_contract 15 = .ok (.new 298, 3) := by decide +kernel
theorem dX7_contract_18 : decode cX7_contract 18 = .ok (.dup, 1) := by decide +kernel
theorem dX7_contract_19 : decode cX7_contract 19 = .ok (.ldc_w 300, 3) := by decide +kernel
theorem dX7_contract_22 : decode cX7_contract 22 = .ok (.invokespecial 302, 3) := by decide +kernel
theorem dX7_contract_25 : decode cX7_contract 25 = .ok (.athrow, 1) := by decide +kernel
theorem dX7_contract_26 : decode cX7_contract 26 = .ok (.iload_n 2, 1) := by decide +kernel
theorem dX7_contract_27 : decode cX7_contract 27 = .ok (.tableswitch 89 0 4 #[33, 50, 60, 70, 80], 33) := by decide +kernel
theorem dX7_contract_60 : decode cX7_contract 60 = .ok (.aload_n 0, 1) := by decide +kernel
theorem dX7_contract_61 : decode cX7_contract 61 = .ok (.getfield 19, 3) := by decide +kernel
theorem dX7_contract_64 : decode cX7_contract 64 = .ok (.iload_n 1, 1) := by decide +kernel
theorem dX7_contract_65 : decode cX7_contract 65 = .ok (.invokevirtual 303, 3) := by decide +kernel
theorem dX7_contract_68 : decode cX7_contract 68 = .ok (.ifCond .eq 7, 3) := by decide +kernel
theorem dX7_contract_71 : decode cX7_contract 71 = .ok (.iconst 1, 1) := by decide +kernel
theorem dX7_contract_72 : decode cX7_contract 72 = .ok (.goto 4, 3) := by decide +kernel
theorem dX7_contract_75 : decode cX7_contract 75 = .ok (.iconst 0, 1) := by decide +kernel
theorem dX7_contract_76 : decode cX7_contract 76 = .ok (.ireturn, 1) := by decide +kernel
theorem dX7_contract_77 : decode cX7_contract 77 = .ok (.aload_n 0, 1) := by decide +kernel
theorem dX7_contract_78 : decode cX7_contract 78 = .ok (.getfield 19, 3) := by decide +kernel
theorem dX7_contract_81 : decode cX7_contract 81 = .ok (.getfield 306, 3) := by decide +kernel
theorem dX7_contract_84 : decode cX7_contract 84 = .ok (.iload_n 1, 1) := by decide +kernel
theorem dX7_contract_85 : decode cX7_contract 85 = .ok (.iaload, 1) := by decide +kernel
theorem dX7_contract_86 : decode cX7_contract 86 = .ok (.ireturn, 1) := by decide +kernel
theorem dX7_contract_87 : decode cX7_contract 87 = .ok (.aload_n 0, 1) := by decide +kernel
theorem dX7_contract_88 : decode cX7_contract 88 = .ok (.getfield 19, 3) := by decide +kernel
theorem dX7_contract_91 : decode cX7_contract 91 = .ok (.getfield 309, 3) := by decide +kernel
theorem dX7_contract_94 : decode cX7_contract 94 = .ok (.iload_n 1, 1) := by decide +kernel
theorem dX7_contract_95 : decode cX7_contract 95 = .ok (.iaload, 1) := by decide +kernel
theorem dX7_contract_96 : decode cX7_contract 96 = .ok (.ireturn, 1) := by decide +kernel
theorem dX7_contract_97 : decode cX7_contract 97 = .ok (.aload_n 0, 1) := by decide +kernel
theorem dX7_contract_98 : decode cX7_contract 98 = .ok (.getfield 19, 3) := by decide +kernel
theorem dX7_contract_101 : decode cX7_contract 101 = .ok (.getfield 312, 3) := by decide +kernel
theorem dX7_contract_104 : decode cX7_contract 104 = .ok (.iload_n 1, 1) := by decide +kernel
theorem dX7_contract_105 : decode cX7_contract 105 = .ok (.iaload, 1) := by decide +kernel
theorem dX7_contract_106 : decode cX7_contract 106 = .ok (.ireturn, 1) := by decide +kernel
theorem dX7_contract_107 : decode cX7_contract 107 = .ok (.aload_n 0, 1) := by decide +kernel
theorem dX7_contract_108 : decode cX7_contract 108 = .ok (.getfield 19, 3) := by decide +kernel
theorem dX7_contract_111 : decode cX7_contract 111 = .ok (.iload_n 1, 1) := by decide +kernel
theorem dX7_contract_112 : decode cX7_contract 112 = .ok (.invokevirtual 315, 3) := by decide +kernel
theorem dX7_contract_115 : decode cX7_contract 115 = .ok (.ireturn, 1) := by decide +kernel
theorem dX7_contract_116 : decode cX7_contract 116 = .ok (.new 155, 3) := by decide +kernel
theorem dX7_contract_119 : decode cX7_contract 119 = .ok (.dup, 1) := by decide +kernel
theorem dX7_contract_120 : decode cX7_contract 120 = .ok (.ldc_w 318, 3) := by decide +kernel
theorem dX7_contract_123 : decode cX7_contract 123 = .ok (.invokespecial 159, 3) := by decide +kernel
theorem dX7_contract_126 : decode cX7_contract 126 = .ok (.athrow, 1) := by decide +kernel
theorem dX7_broken_0 : decode cX7_broken 0 = .ok (.iconst 0, 1) := by decide +kernel
theorem dX7_broken_1 : decode cX7_broken 1 = .ok (.istore_n 1, 1) := by decide +kernel
theorem dX7_broken_2 : decode cX7_broken 2 = .ok (.iconst 0, 1) := by decide +kernel
theorem dX7_broken_3 : decode cX7_broken 3 = .ok (.istore_n 2, 1) := by decide +kernel
theorem dX7_broken_4 : decode cX7_broken 4 = .ok (.iload_n 2, 1) := by decide +kernel
theorem dX7_broken_5 : decode cX7_broken 5 = .ok (.aload_n 0, 1) := by decide +kernel
theorem dX7_broken_6 : decode cX7_broken 6 = .ok (.getfield 19, 3) := by decide +kernel
theorem dX7_broken_9 : decode cX7_broken 9 = .ok (.getfield 295, 3) := by decide +kernel
theorem dX7_broken_12 : decode cX7_broken 12 = .ok (.if_icmp .ge 26, 3) := by decide +kernel
theorem dX7_broken_15 : decode cX7_broken 15 = .ok (.aload_n 0, 1) := by decide +kernel
theorem dX7_broken_16 : decode cX7_broken 16 = .ok (.getfield 19, 3) := by decide +kernel
theorem dX7_broken_19 : decode cX7_broken 19 = .ok (.iload_n 2, 1) := by decide +kernel
theorem dX7_broken_20 : decode cX7_broken 20 = .ok (.invokevirtual 320, 3) := by decide +kernel
theorem dX7_broken_23 : decode cX7_broken 23 = .ok (.ifCond .eq 9, 3) := by decide +kernel
theorem dX7_broken_26 : decode cX7_broken 26 = .ok (.iload_n 1, 1) := by decide +kernel
theorem dX7_broken_27 : decode cX7_broken 27 = .ok (.iconst 1, 1) := by decide +kernel
theorem dX7_broken_28 : decode cX7_broken 28 = .ok (.iload_n 2, 1) := by decide +kernel
theorem dX7_broken_29 : decode cX7_broken 29 = .ok (.ishl, 1) := by decide +kernel
theorem dX7_broken_30 : decode cX7_broken 30 = .ok (.ior, 1) := by decide +kernel
theorem dX7_broken_31 : decode cX7_broken 31 = .ok (.istore_n 1, 1) := by decide +kernel
theorem dX7_broken_32 : decode cX7_broken 32 = .ok (.iinc 2 1, 3) := by decide +kernel
theorem dX7_broken_35 : decode cX7_broken 35 = .ok (.goto (-31), 3) := by decide +kernel
theorem dX7_broken_38 : decode cX7_broken 38 = .ok (.iload_n 1, 1) := by decide +kernel
theorem dX7_broken_39 : decode cX7_broken 39 = .ok (.ireturn, 1) := by decide +kernel
theorem dX7_breaks_0 : decode cX7_breaks 0 = .ok (.iconst 0, 1) := by decide +kernel
theorem dX7_breaks_1 : decode cX7_breaks 1 = .ok (.istore_n 1, 1) := by decide +kernel
theorem dX7_breaks_2 : decode cX7_breaks 2 = .ok (.iconst 0, 1) := by decide +kernel
theorem dX7_breaks_3 : decode cX7_breaks 3 = .ok (.istore_n 2, 1) := by decide +kernel
theorem dX7_breaks_4 : decode cX7_breaks 4 = .ok (.iload_n 2, 1) := by decide +kernel
theorem dX7_breaks_5 : decode cX7_breaks 5 = .ok (.aload_n 0, 1) := by decide +kernel
theorem dX7_breaks_6 : decode cX7_breaks 6 = .ok (.getfield 19, 3) := by decide +kernel
theorem dX7_breaks_9 : decode cX7_breaks 9 = .ok (.getfield 295, 3) := by decide +kernel
theorem dX7_breaks_12 : decode cX7_breaks 12 = .ok (.if_icmp .ge 40, 3) := by decide +kernel
theorem dX7_breaks_15 : decode cX7_breaks 15 = .ok (.aload_n 0, 1) := by decide +kernel
theorem dX7_breaks_16 : decode cX7_breaks 16 = .ok (.getfield 19, 3) := by decide +kernel
theorem dX7_breaks_19 : decode cX7_breaks 19 = .ok (.iload_n 2, 1) := by decide +kernel
theorem dX7_breaks_20 : decode cX7_breaks 20 = .ok (.invokevirtual 315, 3) := by decide +kernel
theorem dX7_breaks_23 : decode cX7_breaks 23 = .ok (.istore_n 3, 1) := by decide +kernel
theorem dX7_breaks_24 : decode cX7_breaks 24 = .ok (.iload_n 3, 1) := by decide +kernel
theorem dX7_breaks_25 : decode cX7_breaks 25 = .ok (.ifCond .eq 21, 3) := by decide +kernel
theorem dX7_breaks_28 : decode cX7_breaks 28 = .ok (.iload_n 1, 1) := by decide +kernel
theorem dX7_breaks_29 : decode cX7_breaks 29 = .ok (.iload_n 3, 1) := by decide +kernel
theorem dX7_breaks_30 : decode cX7_breaks 30 = .ok (.aload_n 0, 1) := by decide +kernel
theorem dX7_breaks_31 : decode cX7_breaks 31 = .ok (.getfield 19, 3) := by decide +kernel
theorem dX7_breaks_34 : decode cX7_breaks 34 = .ok (.iload_n 3, 1) := by decide +kernel
theorem dX7_breaks_35 : decode cX7_breaks 35 = .ok (.invokestatic 187, 3) := by decide +kernel
theorem dX7_breaks_38 : decode cX7_breaks 38 = .ok (.invokevirtual 315, 3) := by decide +kernel
theorem dX7_breaks_41 : decode cX7_breaks 41 = .ok (.invokestatic 323, 3) := by decide +kernel
theorem dX7_breaks_44 : decode cX7_breaks 44 = .ok (.ior, 1) := by decide +kernel
theorem dX7_breaks_45 : decode cX7_breaks 45 = .ok (.istore_n 1, 1) := by decide +kernel
theorem dX7_breaks_46 : decode cX7_breaks 46 = .ok (.iinc 2 1, 3) := by decide +kernel
theorem dX7_breaks_49 : decode cX7_breaks 49 = .ok (.goto (-45), 3) := by decide +kernel
theorem dX7_breaks_52 : decode cX7_breaks 52 = .ok (.iload_n 1, 1) := by decide +kernel
theorem dX7_breaks_53 : decode cX7_breaks 53 = .ok (.ireturn, 1) := by decide +kernel
theorem dX7_rota_0 : decode cX7_rota 0 = .ok (.aload_n 0, 1) := by decide +kernel
theorem dX7_rota_1 : decode cX7_rota 1 = .ok (.iload_n 1, 1) := by decide +kernel
theorem dX7_rota_2 : decode cX7_rota 2 = .ok (.invokevirtual 126, 3) := by decide +kernel
theorem dX7_rota_5 : decode cX7_rota 5 = .ok (.iload_n 2, 1) := by decide +kernel
theorem dX7_rota_6 : decode cX7_rota 6 = .ok (.ifCond .lt 9, 3) := by decide +kernel
theorem dX7_rota_9 : decode cX7_rota 9 = .ok (.iload_n 2, 1) := by decide +kernel
theorem dX7_rota_10 : decode cX7_rota 10 = .ok (.bipush 7, 2) := by decide +kernel
theorem dX7_rota_12 : decode cX7_rota 12 = .ok (.if_icmp .lt 14, 3) := by decide +kernel
theorem dX7_rota_15 : decode cX7_rota 15 = .ok (.new 87, 3) := by decide +kernel
theorem dX7_rota_18 : decode cX7_rota 18 = .ok (.dup, 1) := by decide +kernel
theorem dX7_rota_19 : decode cX7_rota 19 = .ok (.ldc_w 326, 3) := by decide +kernel
theorem dX7_rota_22 : decode cX7_rota 22 = .ok (.invokespecial 91, 3) := by decide +kernel
theorem dX7_rota_25 : decode cX7_rota 25 = .ok (.athrow, 1) := by decide +kernel
theorem dX7_rota_26 : decode cX7_rota 26 = .ok (.aload_n 0, 1) := by decide +kernel
theorem dX7_rota_27 : decode cX7_rota 27 = .ok (.getfield 19, 3) := by decide +kernel
theorem dX7_rota_30 : decode cX7_rota 30 = .ok (.getfield 132, 3) := by decide +kernel
theorem dX7_rota_33 : decode cX7_rota 33 = .ok (.iload_n 1, 1) := by decide +kernel
theorem dX7_rota_34 : decode cX7_rota 34 = .ok (.iaload, 1) := by decide +kernel
theorem dX7_rota_35 : decode cX7_rota 35 = .ok (.istore_n 3, 1) := by decide +kernel
theorem dX7_rota_36 : decode cX7_rota 36 = .ok (.iconst 0, 1) := by decide +kernel
theorem dX7_rota_37 : decode cX7_rota 37 = .ok (.istore 4, 2) := by decide +kernel
theorem dX7_rota_39 : decode cX7_rota 39 = .ok (.bipush 8, 2) := by decide +kernel
theorem dX7_rota_41 : decode cX7_rota 41 = .ok (.istore 5, 2) := by decide +kernel
theorem dX7_rota_43 : decode cX7_rota 43 = .ok (.iconst 0, 1) := by decide +kernel
theorem dX7_rota_44 : decode cX7_rota 44 = .ok (.istore 6, 2) := by decide +kernel
theorem dX7_rota_46 : decode cX7_rota 46 = .ok (.iload 6, 2) := by decide +kernel
theorem dX7_rota_48 : decode cX7_rota 48 = .ok (.bipush 127, 2) := by decide +kernel
theorem dX7_rota_50 : decode cX7_rota 50 = .ok (.if_icmp .gt 48, 3) := by decide +kernel
theorem dX7_rota_53 : decode cX7_rota 53 = .ok (.iload 6, 2) := by decide +kernel
theorem dX7_rota_55 : decode cX7_rota 55 = .ok (.iload_n 3, 1) := by decide +kernel
theorem dX7_rota_56 : decode cX7_rota 56 = .ok (.iand, 1) := by decide +kernel
theorem dX7_rota_57 : decode cX7_rota 57 = .ok (.ifCond .ne 35, 3) := by decide +kernel
theorem dX7_rota_60 : decode cX7_rota 60 = .ok (.iload 6, 2) := by decide +kernel
theorem dX7_rota_62 : decode cX7_rota 62 = .ok (.invokestatic 182, 3) := by decide +kernel
theorem dX7_rota_65 : decode cX7_rota 65 = .ok (.iload 5, 2) := by decide +kernel
theorem dX7_rota_67 : decode cX7_rota 67 = .ok (.if_icmp .ge 25, 3) := by decide +kernel
theorem dX7_rota_70 : decode cX7_rota 70 = .ok (.iload_n 3, 1) := by decide +kernel
theorem dX7_rota_71 : decode cX7_rota 71 = .ok (.iload 6, 2) := by decide +kernel
theorem dX7_rota_73 : decode cX7_rota 73 = .ok (.ior, 1) := by decide +kernel
theorem dX7_rota_74 : decode cX7_rota 74 = .ok (.invokestatic 152, 3) := by decide +kernel
theorem dX7_rota_77 : decode cX7_rota 77 = .ok (.iload_n 2, 1) := by decide +kernel
theorem dX7_rota_78 : decode cX7_rota 78 = .ok (.if_icmp .gt 14, 3) := by decide +kernel
theorem dX7_rota_81 : decode cX7_rota 81 = .ok (.iload 6, 2) := by decide +kernel
theorem dX7_rota_83 : decode cX7_rota 83 = .ok (.istore 4, 2) := by decide +kernel
theorem dX7_rota_85 : decode cX7_rota 85 = .ok (.iload 6, 2) := by decide +kernel
theorem dX7_rota_87 : decode cX7_rota 87 = .ok (.invokestatic 182, 3) := by decide +kernel
theorem dX7_rota_90 : decode cX7_rota 90 = .ok (.istore 5, 2) := by decide +kernel
theorem dX7_rota_92 : decode cX7_rota 92 = .ok (.iinc 6 1, 3) := by decide +kernel
theorem dX7_rota_95 : decode cX7_rota 95 = .ok (.goto (-49), 3) := by decide +kernel
theorem dX7_rota_98 : decode cX7_rota 98 = .ok (.iload 4, 2) := by decide +kernel
theorem dX7_rota_100 : decode cX7_rota 100 = .ok (.ireturn, 1) := by decide +kernel
theorem dX7_richest_0 : decode cX7_richest 0 = .ok (.aload_n 0, 1) := by decide +kernel
theorem dX7_richest_1 : decode cX7_richest 1 = .ok (.iload_n 1, 1) := by decide +kernel
theorem dX7_richest_2 : decode cX7_richest 2 = .ok (.invokevirtual 160, 3) := by decide +kernel
theorem dX7_richest_5 : decode cX7_richest 5 = .ok (.iconst (-1), 1) := by decide +kernel
theorem dX7_richest_6 : decode cX7_richest 6 = .ok (.istore_n 3, 1) := by decide +kernel
theorem dX7_richest_7 : decode cX7_richest 7 = .ok (.iconst 0, 1) := by decide +kernel
theorem dX7_richest_8 : decode cX7_richest 8 = .ok (.istore 4, 2) := by decide +kernel
theorem dX7_richest_10 : decode cX7_richest 10 = .ok (.iconst 0, 1) := by decide +kernel
theorem dX7_richest_11 : decode cX7_richest 11 = .ok (.istore 5, 2) := by decide +kernel
theorem dX7_richest_13 : decode cX7_richest 13 = .ok (.iload 5, 2) := by decide +kernel
theorem dX7_richest_15 : decode cX7_richest 15 = .ok (.aload_n 0, 1) := by decide +kernel
theorem dX7_richest_16 : decode cX7_richest 16 = .ok (.getfield 19, 3) := by decide +kernel
theorem dX7_richest_19 : decode cX7_richest 19 = .ok (.getfield 248, 3) := by decide +kernel
theorem dX7_richest_22 : decode cX7_richest 22 = .ok (.if_icmp .ge 73, 3) := by decide +kernel
theorem dX7_richest_25 : decode cX7_richest 25 = .ok (.aload_n 0, 1) := by decide +kernel
theorem dX7_richest_26 : decode cX7_richest 26 = .ok (.getfield 19, 3) := by decide +kernel
theorem dX7_richest_29 : decode cX7_richest 29 = .ok (.iload 5, 2) := by decide +kernel
theorem dX7_richest_31 : decode cX7_richest 31 = .ok (.invokevirtual 199, 3) := by decide +kernel
theorem dX7_richest_34 : decode cX7_richest 34 = .ok (.ifCond .eq 6, 3) := by decide +kernel
theorem dX7_richest_37 : decode cX7_richest 37 = .ok (.goto 52, 3) := by decide +kernel
theorem dX7_richest_40 : decode cX7_richest 40 = .ok (.iload_n 2, 1) := by decide +kernel
theorem dX7_richest_41 : decode cX7_richest 41 = .ok (.ifCond .eq 17, 3) := by decide +kernel
theorem dX7_richest_44 : decode cX7_richest 44 = .ok (.aload_n 0, 1) := by decide +kernel
theorem dX7_richest_45 : decode cX7_richest 45 = .ok (.getfield 19, 3) := by decide +kernel
theorem dX7_richest_48 : decode cX7_richest 48 = .ok (.iload_n 1, 1) := by decide +kernel
theorem dX7_richest_49 : decode cX7_richest 49 = .ok (.iload 5, 2) := by decide +kernel
theorem dX7_richest_51 : decode cX7_richest 51 = .ok (.invokevirtual 163, 3) := by decide +kernel
theorem dX7_richest_54 : decode cX7_richest 54 = .ok (.ineg, 1) := by decide +kernel
theorem dX7_richest_55 : decode cX7_richest 55 = .ok (.goto 13, 3) := by decide +kernel
theorem dX7_richest_58 : decode cX7_richest 58 = .ok (.aload_n 0, 1) := by decide +kernel
theorem dX7_richest_59 : decode cX7_richest 59 = .ok (.getfield 19, 3) := by decide +kernel
theorem dX7_richest_62 : decode cX7_richest 62 = .ok (.iload_n 1, 1) := by decide +kernel
theorem dX7_richest_63 : decode cX7_richest 63 = .ok (.iload 5, 2) := by decide +kernel
theorem dX7_richest_65 : decode cX7_richest 65 = .ok (.invokevirtual 328, 3) := by decide +kernel
theorem dX7_richest_68 : decode cX7_richest 68 = .ok (.istore 6, 2) := by decide +kernel
theorem dX7_richest_70 : decode cX7_richest 70 = .ok (.iload_n 3, 1) := by decide +kernel
theorem dX7_richest_71 : decode cX7_richest 71 = .ok (.iconst (-1), 1) := by decide +kernel
theorem dX7_richest_72 : decode cX7_richest 72 = .ok (.if_icmp .eq 10, 3) := by decide +kernel
theorem dX7_richest_75 : decode cX7_richest 75 = .ok (.iload 6, 2) := by decide +kernel
theorem dX7_richest_77 : decode cX7_richest 77 = .ok (.iload 4, 2) := by decide +kernel
theorem dX7_richest_79 : decode cX7_richest 79 = .ok (.if_icmp .le 10, 3) := by decide +kernel
theorem dX7_richest_82 : decode cX7_richest 82 = .ok (.iload 5, 2) := by decide +kernel
theorem dX7_richest_84 : decode cX7_richest 84 = .ok (.istore_n 3, 1) := by decide +kernel
theorem dX7_richest_85 : decode cX7_richest 85 = .ok (.iload 6, 2) := by decide +kernel
theorem dX7_richest_87 : decode cX7_richest 87 = .ok (.istore 4, 2) := by decide +kernel
theorem dX7_richest_89 : decode cX7_richest 89 = .ok (.iinc 5 1, 3) := by decide +kernel
theorem dX7_richest_92 : decode cX7_richest 92 = .ok (.goto (-79), 3) := by decide +kernel
theorem dX7_richest_95 : decode cX7_richest 95 = .ok (.iload_n 3, 1) := by decide +kernel
theorem dX7_richest_96 : decode cX7_richest 96 = .ok (.ireturn, 1) := by decide +kernel
theorem dX7_first_0 : decode cX7_first 0 = .ok (.aload_n 0, 1) := by decide +kernel
theorem dX7_first_1 : decode cX7_first 1 = .ok (.iload_n 1, 1) := by decide +kernel
theorem dX7_first_2 : decode cX7_first 2 = .ok (.invokevirtual 126, 3) := by decide +kernel
theorem dX7_first_5 : decode cX7_first 5 = .ok (.aload_n 0, 1) := by decide +kernel
theorem dX7_first_6 : decode cX7_first 6 = .ok (.getfield 19, 3) := by decide +kernel
theorem dX7_first_9 : decode cX7_first 9 = .ok (.getfield 331, 3) := by decide +kernel
theorem dX7_first_12 : decode cX7_first 12 = .ok (.iconst 1, 1) := by decide +kernel
theorem dX7_first_13 : decode cX7_first 13 = .ok (.isub, 1) := by decide +kernel
theorem dX7_first_14 : decode cX7_first 14 = .ok (.istore_n 2, 1) := by decide +kernel
theorem dX7_first_15 : decode cX7_first 15 = .ok (.iload_n 2, 1) := by decide +kernel
theorem dX7_first_16 : decode cX7_first 16 = .ok (.ifCond .lt 45, 3) := by decide +kernel
theorem dX7_first_19 : decode cX7_first 19 = .ok (.aload_n 0, 1) := by decide +kernel
theorem dX7_first_20 : decode cX7_first 20 = .ok (.getfield 19, 3) := by decide +kernel
theorem dX7_first_23 : decode cX7_first 23 = .ok (.iload_n 2, 1) := by decide +kernel
theorem dX7_first_24 : decode cX7_first 24 = .ok (.iconst 2, 1) := by decide +kernel
theorem dX7_first_25 : decode cX7_first 25 = .ok (.invokevirtual 334, 3) := by decide +kernel
theorem dX7_first_28 : decode cX7_first 28 = .ok (.iload_n 1, 1) := by decide +kernel
theorem dX7_first_29 : decode cX7_first 29 = .ok (.if_icmp .ne 26, 3) := by decide +kernel
theorem dX7_first_32 : decode cX7_first 32 = .ok (.aload_n 0, 1) := by decide +kernel
theorem dX7_first_33 : decode cX7_first 33 = .ok (.getfield 19, 3) := by decide +kernel
theorem dX7_first_36 : decode cX7_first 36 = .ok (.iload_n 2, 1) := by decide +kernel
theorem dX7_first_37 : decode cX7_first 37 = .ok (.iconst 5, 1) := by decide +kernel
theorem dX7_first_38 : decode cX7_first 38 = .ok (.invokevirtual 334, 3) := by decide +kernel
theorem dX7_first_41 : decode cX7_first 41 = .ok (.iconst 1, 1) := by decide +kernel
theorem dX7_first_42 : decode cX7_first 42 = .ok (.if_icmp .ne 13, 3) := by decide +kernel
theorem dX7_first_45 : decode cX7_first 45 = .ok (.aload_n 0, 1) := by decide +kernel
theorem dX7_first_46 : decode cX7_first 46 = .ok (.getfield 19, 3) := by decide +kernel
theorem dX7_first_49 : decode cX7_first 49 = .ok (.iload_n 2, 1) := by decide +kernel
theorem dX7_first_50 : decode cX7_first 50 = .ok (.iconst 1, 1) := by decide +kernel
theorem dX7_first_51 : decode cX7_first 51 = .ok (.invokevirtual 334, 3) := by decide +kernel
theorem dX7_first_54 : decode cX7_first 54 = .ok (.ireturn, 1) := by decide +kernel
theorem dX7_first_55 : decode cX7_first 55 = .ok (.iinc 2 (-1), 3) := by decide +kernel
theorem dX7_first_58 : decode cX7_first 58 = .ok (.goto (-43), 3) := by decide +kernel
theorem dX7_first_61 : decode cX7_first 61 = .ok (.iconst (-1), 1) := by decide +kernel
theorem dX7_first_62 : decode cX7_first 62 = .ok (.ireturn, 1) := by decide +kernel
theorem dX7_turned_0 : decode cX7_turned 0 = .ok (.aload_n 0, 1) := by decide +kernel
theorem dX7_turned_1 : decode cX7_turned 1 = .ok (.iload_n 1, 1) := by decide +kernel
theorem dX7_turned_2 : decode cX7_turned 2 = .ok (.invokevirtual 126, 3) := by decide +kernel
theorem dX7_turned_5 : decode cX7_turned 5 = .ok (.iload_n 2, 1) := by decide +kernel
theorem dX7_turned_6 : decode cX7_turned 6 = .ok (.iconst (-1), 1) := by decide +kernel
theorem dX7_turned_7 : decode cX7_turned 7 = .ok (.if_icmp .eq 8, 3) := by decide +kernel
theorem dX7_turned_10 : decode cX7_turned 10 = .ok (.aload_n 0, 1) := by decide +kernel
theorem dX7_turned_11 : decode cX7_turned 11 = .ok (.iload_n 2, 1) := by decide +kernel
theorem dX7_turned_12 : decode cX7_turned 12 = .ok (.invokevirtual 160, 3) := by decide +kernel
theorem dX7_turned_15 : decode cX7_turned 15 = .ok (.iconst 0, 1) := by decide +kernel
theorem dX7_turned_16 : decode cX7_turned 16 = .ok (.istore_n 3, 1) := by decide +kernel
theorem dX7_turned_17 : decode cX7_turned 17 = .ok (.iconst 0, 1) := by decide +kernel
theorem dX7_turned_18 : decode cX7_turned 18 = .ok (.istore 4, 2) := by decide +kernel
theorem dX7_turned_20 : decode cX7_turned 20 = .ok (.iload 4, 2) := by decide +kernel
theorem dX7_turned_22 : decode cX7_turned 22 = .ok (.aload_n 0, 1) := by decide +kernel
theorem dX7_turned_23 : decode cX7_turned 23 = .ok (.getfield 19, 3) := by decide +kernel
theorem dX7_turned_26 : decode cX7_turned 26 = .ok (.getfield 331, 3) := by decide +kernel
theorem dX7_turned_29 : decode cX7_turned 29 = .ok (.if_icmp .ge 57, 3) := by decide +kernel
theorem dX7_turned_32 : decode cX7_turned 32 = .ok (.aload_n 0, 1) := by decide +kernel
theorem dX7_turned_33 : decode cX7_turned 33 = .ok (.getfield 19, 3) := by decide +kernel
theorem dX7_turned_36 : decode cX7_turned 36 = .ok (.iload 4, 2) := by decide +kernel
theorem dX7_turned_38 : decode cX7_turned 38 = .ok (.iconst 2, 1) := by decide +kernel
theorem dX7_turned_39 : decode cX7_turned 39 = .ok (.invokevirtual 334, 3) := by decide +kernel
theorem dX7_turned_42 : decode cX7_turned 42 = .ok (.iload_n 1, 1) := by decide +kernel
theorem dX7_turned_43 : decode cX7_turned 43 = .ok (.if_icmp .ne 7, 3) := by decide +kernel
theorem dX7_turned_46 : decode cX7_turned 46 = .ok (.iconst 1, 1) := by decide +kernel
theorem dX7_turned_47 : decode cX7_turned 47 = .ok (.goto 4, 3) := by decide +kernel
theorem dX7_turned_50 : decode cX7_turned 50 = .ok (.iconst 0, 1) := by decide +kernel
theorem dX7_turned_51 : decode cX7_turned 51 = .ok (.istore 5, 2) := by decide +kernel
theorem dX7_turned_53 : decode cX7_turned 53 = .ok (.iload 5, 2) := by decide +kernel
theorem dX7_turned_55 : decode cX7_turned 55 = .ok (.ifCond .eq 25, 3) := by decide +kernel
theorem dX7_turned_58 : decode cX7_turned 58 = .ok (.iload_n 2, 1) := by decide +kernel
theorem dX7_turned_59 : decode cX7_turned 59 = .ok (.iconst (-1), 1) := by decide +kernel
theorem dX7_turned_60 : decode cX7_turned 60 = .ok (.if_icmp .eq 17, 3) := by decide +kernel
theorem dX7_turned_63 : decode cX7_turned 63 = .ok (.aload_n 0, 1) := by decide +kernel
theorem dX7_turned_64 : decode cX7_turned 64 = .ok (.getfield 19, 3) := by decide +kernel
theorem dX7_turned_67 : decode cX7_turned 67 = .ok (.iload 4, 2) := by decide +kernel
theorem dX7_turned_69 : decode cX7_turned 69 = .ok (.iconst 1, 1) := by decide +kernel
theorem dX7_turned_70 : decode cX7_turned 70 = .ok (.invokevirtual 334, 3) := by decide +kernel
theorem dX7_turned_73 : decode cX7_turned 73 = .ok (.iload_n 2, 1) := by decide +kernel
theorem dX7_turned_74 : decode cX7_turned 74 = .ok (.if_icmp .ne 6, 3) := by decide +kernel
theorem dX7_turned_77 : decode cX7_turned 77 = .ok (.iinc 3 1, 3) := by decide +kernel
theorem dX7_turned_80 : decode cX7_turned 80 = .ok (.iinc 4 1, 3) := by decide +kernel
theorem dX7_turned_83 : decode cX7_turned 83 = .ok (.goto (-63), 3) := by decide +kernel
theorem dX7_turned_86 : decode cX7_turned 86 = .ok (.iload_n 3, 1) := by decide +kernel
theorem dX7_turned_87 : decode cX7_turned 87 = .ok (.ireturn, 1) := by decide +kernel
theorem dX7_price_0 : decode cX7_price 0 = .ok (.aload_n 0, 1) := by decide +kernel
theorem dX7_price_1 : decode cX7_price 1 = .ok (.iload_n 1, 1) := by decide +kernel
theorem dX7_price_2 : decode cX7_price 2 = .ok (.invokevirtual 160, 3) := by decide +kernel
theorem dX7_price_5 : decode cX7_price 5 = .ok (.iconst 0, 1) := by decide +kernel
theorem dX7_price_6 : decode cX7_price 6 = .ok (.istore_n 2, 1) := by decide +kernel
theorem dX7_price_7 : decode cX7_price 7 = .ok (.iconst 0, 1) := by decide +kernel
theorem dX7_price_8 : decode cX7_price 8 = .ok (.istore_n 3, 1) := by decide +kernel
theorem dX7_price_9 : decode cX7_price 9 = .ok (.iload_n 3, 1) := by decide +kernel
theorem dX7_price_10 : decode cX7_price 10 = .ok (.aload_n 0, 1) := by decide +kernel
theorem dX7_price_11 : decode cX7_price 11 = .ok (.getfield 19, 3) := by decide +kernel
theorem dX7_price_14 : decode cX7_price 14 = .ok (.getfield 248, 3) := by decide +kernel
theorem dX7_price_17 : decode cX7_price 17 = .ok (.if_icmp .ge 21, 3) := by decide +kernel
theorem dX7_price_20 : decode cX7_price 20 = .ok (.iload_n 2, 1) := by decide +kernel
theorem dX7_price_21 : decode cX7_price 21 = .ok (.aload_n 0, 1) := by decide +kernel
theorem dX7_price_22 : decode cX7_price 22 = .ok (.getfield 19, 3) := by decide +kernel
theorem dX7_price_25 : decode cX7_price 25 = .ok (.iload_n 1, 1) := by decide +kernel
theorem dX7_price_26 : decode cX7_price 26 = .ok (.iload_n 3, 1) := by decide +kernel
theorem dX7_price_27 : decode cX7_price 27 = .ok (.invokevirtual 328, 3) := by decide +kernel
theorem dX7_price_30 : decode cX7_price 30 = .ok (.iadd, 1) := by decide +kernel
theorem dX7_price_31 : decode cX7_price 31 = .ok (.istore_n 2, 1) := by decide +kernel
theorem dX7_price_32 : decode cX7_price 32 = .ok (.iinc 3 1, 3) := by decide +kernel
theorem dX7_price_35 : decode cX7_price 35 = .ok (.goto (-26), 3) := by decide +kernel
theorem dX7_price_38 : decode cX7_price 38 = .ok (.iload_n 2, 1) := by decide +kernel
theorem dX7_price_39 : decode cX7_price 39 = .ok (.ireturn, 1) := by decide +kernel
theorem dX7_risky_0 : decode cX7_risky 0 = .ok (.aload_n 0, 1) := by decide +kernel
theorem dX7_risky_1 : decode cX7_risky 1 = .ok (.getfield 19, 3) := by decide +kernel
theorem dX7_risky_4 : decode cX7_risky 4 = .ok (.getfield 289, 3) := by decide +kernel
theorem dX7_risky_7 : decode cX7_risky 7 = .ok (.ifCond .ne 5, 3) := by decide +kernel
theorem dX7_risky_10 : decode cX7_risky 10 = .ok (.iconst (-1), 1) := by decide +kernel
theorem dX7_risky_11 : decode cX7_risky 11 = .ok (.ireturn, 1) := by decide +kernel
theorem dX7_risky_12 : decode cX7_risky 12 = .ok (.iconst (-1), 1) := by decide +kernel
theorem dX7_risky_13 : decode cX7_risky 13 = .ok (.istore_n 1, 1) := by decide +kernel
theorem dX7_risky_14 : decode cX7_risky 14 = .ok (.iconst 0, 1) := by decide +kernel
theorem dX7_risky_15 : decode cX7_risky 15 = .ok (.istore_n 2, 1) := by decide +kernel
theorem dX7_risky_16 : decode cX7_risky 16 = .ok (.iconst 0, 1) := by decide +kernel
theorem dX7_risky_17 : decode cX7_risky 17 = .ok (.istore_n 3, 1) := by decide +kernel
theorem dX7_risky_18 : decode cX7_risky 18 = .ok (.iload_n 3, 1) := by decide +kernel
theorem dX7_risky_19 : decode cX7_risky 19 = .ok (.aload_n 0, 1) := by decide +kernel
theorem dX7_risky_20 : decode cX7_risky 20 = .ok (.getfield 19, 3) := by decide +kernel
theorem dX7_risky_23 : decode cX7_risky 23 = .ok (.getfield 248, 3) := by decide +kernel
theorem dX7_risky_26 : decode cX7_risky 26 = .ok (.if_icmp .ge 64, 3) := by decide +kernel
theorem dX7_risky_29 : decode cX7_risky 29 = .ok (.iconst 0, 1) := by decide +kernel
theorem dX7_risky_30 : decode cX7_risky 30 = .ok (.istore 4, 2) := by decide +kernel
theorem dX7_risky_32 : decode cX7_risky 32 = .ok (.iconst 0, 1) := by decide +kernel
theorem dX7_risky_33 : decode cX7_risky 33 = .ok (.istore 5, 2) := by decide +kernel
theorem dX7_risky_35 : decode cX7_risky 35 = .ok (.iload 5, 2) := by decide +kernel
theorem dX7_risky_37 : decode cX7_risky 37 = .ok (.aload_n 0, 1) := by decide +kernel
theorem dX7_risky_38 : decode cX7_risky 38 = .ok (.getfield 19, 3) := by decide +kernel
theorem dX7_risky_41 : decode cX7_risky 41 = .ok (.getfield 289, 3) := by decide +kernel
theorem dX7_risky_44 : decode cX7_risky 44 = .ok (.if_icmp .ge 24, 3) := by decide +kernel
theorem dX7_risky_47 : decode cX7_risky 47 = .ok (.iload 4, 2) := by decide +kernel
theorem dX7_risky_49 : decode cX7_risky 49 = .ok (.aload_n 0, 1) := by decide +kernel
theorem dX7_risky_50 : decode cX7_risky 50 = .ok (.getfield 19, 3) := by decide +kernel
theorem dX7_risky_53 : decode cX7_risky 53 = .ok (.iload 5, 2) := by decide +kernel
theorem dX7_risky_55 : decode cX7_risky 55 = .ok (.iload_n 3, 1) := by decide +kernel
theorem dX7_risky_56 : decode cX7_risky 56 = .ok (.invokevirtual 163, 3) := by decide +kernel
theorem dX7_risky_59 : decode cX7_risky 59 = .ok (.iadd, 1) := by decide +kernel
theorem dX7_risky_60 : decode cX7_risky 60 = .ok (.istore 4, 2) := by decide +kernel
theorem dX7_risky_62 : decode cX7_risky 62 = .ok (.iinc 5 1, 3) := by decide +kernel
theorem dX7_risky_65 : decode cX7_risky 65 = .ok (.goto (-30), 3) := by decide +kernel
theorem dX7_risky_68 : decode cX7_risky 68 = .ok (.iload_n 1, 1) := by decide +kernel
theorem dX7_risky_69 : decode cX7_risky 69 = .ok (.iconst (-1), 1) := by decide +kernel
theorem dX7_risky_70 : decode cX7_risky 70 = .ok (.if_icmp .eq 9, 3) := by decide +kernel
theorem dX7_risky_73 : decode cX7_risky 73 = .ok (.iload 4, 2) := by decide +kernel
theorem dX7_risky_75 : decode cX7_risky 75 = .ok (.iload_n 2, 1) := by decide +kernel
theorem dX7_risky_76 : decode cX7_risky 76 = .ok (.if_icmp .ge 8, 3) := by decide +kernel
theorem dX7_risky_79 : decode cX7_risky 79 = .ok (.iload_n 3, 1) := by decide +kernel
theorem dX7_risky_80 : decode cX7_risky 80 = .ok (.istore_n 1, 1) := by decide +kernel
theorem dX7_risky_81 : decode cX7_risky 81 = .ok (.iload 4, 2) := by decide +kernel
theorem dX7_risky_83 : decode cX7_risky 83 = .ok (.istore_n 2, 1) := by decide +kernel
theorem dX7_risky_84 : decode cX7_risky 84 = .ok (.iinc 3 1, 3) := by decide +kernel
theorem dX7_risky_87 : decode cX7_risky 87 = .ok (.goto (-69), 3) := by decide +kernel
theorem dX7_risky_90 : decode cX7_risky 90 = .ok (.iload_n 1, 1) := by decide +kernel
theorem dX7_risky_91 : decode cX7_risky 91 = .ok (.ireturn, 1) := by decide +kernel
theorem dX7_when_0 : decode cX7_when 0 = .ok (.aload_n 0, 1) := by decide +kernel
theorem dX7_when_1 : decode cX7_when 1 = .ok (.iload_n 1, 1) := by decide +kernel
theorem dX7_when_2 : decode cX7_when 2 = .ok (.invokevirtual 160, 3) := by decide +kernel
theorem dX7_when_5 : decode cX7_when 5 = .ok (.aload_n 0, 1) := by decide +kernel
theorem dX7_when_6 : decode cX7_when 6 = .ok (.iload_n 2, 1) := by decide +kernel
theorem dX7_when_7 : decode cX7_when 7 = .ok (.invokevirtual 126, 3) := by decide +kernel
theorem dX7_when_10 : decode cX7_when 10 = .ok (.aload_n 0, 1) := by decide +kernel
theorem dX7_when_11 : decode cX7_when 11 = .ok (.getfield 19, 3) := by decide +kernel
theorem dX7_when_14 : decode cX7_when 14 = .ok (.getfield 129, 3) := by decide +kernel
theorem dX7_when_17 : decode cX7_when 17 = .ok (.iload_n 2, 1) := by decide +kernel
theorem dX7_when_18 : decode cX7_when 18 = .ok (.iaload, 1) := by decide +kernel
theorem dX7_when_19 : decode cX7_when 19 = .ok (.istore_n 3, 1) := by decide +kernel
theorem dX7_when_20 : decode cX7_when 20 = .ok (.aload_n 0, 1) := by decide +kernel
theorem dX7_when_21 : decode cX7_when 21 = .ok (.getfield 56, 3) := by decide +kernel
theorem dX7_when_24 : decode cX7_when 24 = .ok (.iload_n 1, 1) := by decide +kernel
theorem dX7_when_25 : decode cX7_when 25 = .ok (.iload_n 2, 1) := by decide +kernel
theorem dX7_when_26 : decode cX7_when 26 = .ok (.invokevirtual 166, 3) := by decide +kernel
theorem dX7_when_29 : decode cX7_when 29 = .ok (.iconst 1, 1) := by decide +kernel
theorem dX7_when_30 : decode cX7_when 30 = .ok (.istore 4, 2) := by decide +kernel
theorem dX7_when_32 : decode cX7_when 32 = .ok (.iload 4, 2) := by decide +kernel
theorem dX7_when_34 : decode cX7_when 34 = .ok (.bipush 20, 2) := by decide +kernel
theorem dX7_when_36 : decode cX7_when 36 = .ok (.if_icmp .gt 37, 3) := by decide +kernel
theorem dX7_when_39 : decode cX7_when 39 = .ok (.aload_n 0, 1) := by decide +kernel
theorem dX7_when_40 : decode cX7_when 40 = .ok (.getfield 56, 3) := by decide +kernel
theorem dX7_when_43 : decode cX7_when 43 = .ok (.invokevirtual 270, 3) := by decide +kernel
theorem dX7_when_46 : decode cX7_when 46 = .ok (.istore 5, 2) := by decide +kernel
theorem dX7_when_48 : decode cX7_when 48 = .ok (.iload 5, 2) := by decide +kernel
theorem dX7_when_50 : decode cX7_when 50 = .ok (.iload_n 3, 1) := by decide +kernel
theorem dX7_when_51 : decode cX7_when 51 = .ok (.if_icmp .ne 6, 3) := by decide +kernel
theorem dX7_when_54 : decode cX7_when 54 = .ok (.iload 4, 2) := by decide +kernel
theorem dX7_when_56 : decode cX7_when 56 = .ok (.ireturn, 1) := by decide +kernel
theorem dX7_when_57 : decode cX7_when 57 = .ok (.aload_n 0, 1) := by decide +kernel
theorem dX7_when_58 : decode cX7_when 58 = .ok (.getfield 56, 3) := by decide +kernel
theorem dX7_when_61 : decode cX7_when 61 = .ok (.iload 5, 2) := by decide +kernel
theorem dX7_when_63 : decode cX7_when 63 = .ok (.iload_n 3, 1) := by decide +kernel
theorem dX7_when_64 : decode cX7_when 64 = .ok (.invokevirtual 210, 3) := by decide +kernel
theorem dX7_when_67 : decode cX7_when 67 = .ok (.iinc 4 1, 3) := by decide +kernel
theorem dX7_when_70 : decode cX7_when 70 = .ok (.goto (-38), 3) := by decide +kernel
theorem dX7_when_73 : decode cX7_when 73 = .ok (.iconst (-1), 1) := by decide +kernel
theorem dX7_when_74 : decode cX7_when 74 = .ok (.ireturn, 1) := by decide +kernel
theorem dX7_trial_0 : decode cX7_trial 0 = .ok (.iload_n 1, 1) := by decide +kernel
theorem dX7_trial_1 : decode cX7_trial 1 = .ok (.invokestatic 337, 3) := by decide +kernel
theorem dX7_trial_4 : decode cX7_trial 4 = .ok (.aload_n 0, 1) := by decide +kernel
theorem dX7_trial_5 : decode cX7_trial 5 = .ok (.getfield 63, 3) := by decide +kernel
theorem dX7_trial_8 : decode cX7_trial 8 = .ok (.aload_n 0, 1) := by decide +kernel
theorem dX7_trial_9 : decode cX7_trial 9 = .ok (.getfield 19, 3) := by decide +kernel
theorem dX7_trial_12 : decode cX7_trial 12 = .ok (.aload_n 0, 1) := by decide +kernel
theorem dX7_trial_13 : decode cX7_trial 13 = .ok (.getfield 19, 3) := by decide +kernel
theorem dX7_trial_16 : decode cX7_trial 16 = .ok (.getfield 241, 3) := by decide +kernel
theorem dX7_trial_19 : decode cX7_trial 19 = .ok (.iload_n 1, 1) := by decide +kernel
theorem dX7_trial_20 : decode cX7_trial 20 = .ok (.invokevirtual 244, 3) := by decide +kernel
theorem dX7_trial_23 : decode cX7_trial 23 = .ok (.iload_n 2, 1) := by decide +kernel
theorem dX7_trial_24 : decode cX7_trial 24 = .ok (.ifCond .eq 10, 3) := by decide +kernel
theorem dX7_trial_27 : decode cX7_trial 27 = .ok (.aload_n 0, 1) := by decide +kernel
theorem dX7_trial_28 : decode cX7_trial 28 = .ok (.invokevirtual 340, 3) := by decide +kernel
theorem dX7_trial_31 : decode cX7_trial 31 = .ok (.goto 14, 3) := by decide +kernel
theorem dX7_trial_34 : decode cX7_trial 34 = .ok (.aload_n 0, 1) := by decide +kernel
theorem dX7_trial_35 : decode cX7_trial 35 = .ok (.getfield 63, 3) := by decide +kernel
theorem dX7_trial_38 : decode cX7_trial 38 = .ok (.aload_n 0, 1) := by decide +kernel
theorem dX7_trial_39 : decode cX7_trial 39 = .ok (.getfield 19, 3) := by decide +kernel
theorem dX7_trial_42 : decode cX7_trial 42 = .ok (.invokevirtual 343, 3) := by decide +kernel
theorem dX7_trial_45 : decode cX7_trial 45 = .ok (.ireturn, 1) := by decide +kernel
theorem dX7_span_0 : decode cX7_span 0 = .ok (.iload_n 1, 1) := by decide +kernel
theorem dX7_span_1 : decode cX7_span 1 = .ok (.invokestatic 337, 3) := by decide +kernel
theorem dX7_span_4 : decode cX7_span 4 = .ok (.iconst (-1), 1) := by decide +kernel
theorem dX7_span_5 : decode cX7_span 5 = .ok (.istore_n 3, 1) := by decide +kernel
theorem dX7_span_6 : decode cX7_span 6 = .ok (.iconst 1, 1) := by decide +kernel
theorem dX7_span_7 : decode cX7_span 7 = .ok (.istore 4, 2) := by decide +kernel
theorem dX7_span_9 : decode cX7_span 9 = .ok (.iload 4, 2) := by decide +kernel
theorem dX7_span_11 : decode cX7_span 11 = .ok (.bipush 6, 2) := by decide +kernel
theorem dX7_span_13 : decode cX7_span 13 = .ok (.if_icmp .gt 66, 3) := by decide +kernel
theorem dX7_span_16 : decode cX7_span 16 = .ok (.aload_n 0, 1) := by decide +kernel
theorem dX7_span_17 : decode cX7_span 17 = .ok (.getfield 63, 3) := by decide +kernel
theorem dX7_span_20 : decode cX7_span 20 = .ok (.aload_n 0, 1) := by decide +kernel
theorem dX7_span_21 : decode cX7_span 21 = .ok (.getfield 19, 3) := by decide +kernel
theorem dX7_span_24 : decode cX7_span 24 = .ok (.iload 4, 2) := by decide +kernel
theorem dX7_span_26 : decode cX7_span 26 = .ok (.iload_n 1, 1) := by decide +kernel
theorem dX7_span_27 : decode cX7_span 27 = .ok (.invokevirtual 244, 3) := by decide +kernel
theorem dX7_span_30 : decode cX7_span 30 = .ok (.aload_n 0, 1) := by decide +kernel
theorem dX7_span_31 : decode cX7_span 31 = .ok (.getfield 63, 3) := by decide +kernel
theorem dX7_span_34 : decode cX7_span 34 = .ok (.aload_n 0, 1) := by decide +kernel
theorem dX7_span_35 : decode cX7_span 35 = .ok (.getfield 19, 3) := by decide +kernel
theorem dX7_span_38 : decode cX7_span 38 = .ok (.invokevirtual 343, 3) := by decide +kernel
theorem dX7_span_41 : decode cX7_span 41 = .ok (.invokestatic 182, 3) := by decide +kernel
theorem dX7_span_44 : decode cX7_span 44 = .ok (.istore 5, 2) := by decide +kernel
theorem dX7_span_46 : decode cX7_span 46 = .ok (.iload_n 3, 1) := by decide +kernel
theorem dX7_span_47 : decode cX7_span 47 = .ok (.iconst (-1), 1) := by decide +kernel
theorem dX7_span_48 : decode cX7_span 48 = .ok (.if_icmp .eq 22, 3) := by decide +kernel
theorem dX7_span_51 : decode cX7_span 51 = .ok (.iload_n 2, 1) := by decide +kernel
theorem dX7_span_52 : decode cX7_span 52 = .ok (.ifCond .eq 12, 3) := by decide +kernel
theorem dX7_span_55 : decode cX7_span 55 = .ok (.iload 5, 2) := by decide +kernel
theorem dX7_span_57 : decode cX7_span 57 = .ok (.iload_n 3, 1) := by decide +kernel
theorem dX7_span_58 : decode cX7_span 58 = .ok (.if_icmp .le 15, 3) := by decide +kernel
theorem dX7_span_61 : decode cX7_span 61 = .ok (.goto 9, 3) := by decide +kernel
theorem dX7_span_64 : decode cX7_span 64 = .ok (.iload 5, 2) := by decide +kernel
theorem dX7_span_66 : decode cX7_span 66 = .ok (.iload_n 3, 1) := by decide +kernel
theorem dX7_span_67 : decode cX7_span 67 = .ok (.if_icmp .ge 6, 3) := by decide +kernel
theorem dX7_span_70 : decode cX7_span 70 = .ok (.iload 5, 2) := by decide +kernel
theorem dX7_span_72 : decode cX7_span 72 = .ok (.istore_n 3, 1) := by decide +kernel
theorem dX7_span_73 : decode cX7_span 73 = .ok (.iinc 4 1, 3) := by decide +kernel
theorem dX7_span_76 : decode cX7_span 76 = .ok (.goto (-67), 3) := by decide +kernel
theorem dX7_span_79 : decode cX7_span 79 = .ok (.iload_n 3, 1) := by decide +kernel
theorem dX7_span_80 : decode cX7_span 80 = .ok (.ireturn, 1) := by decide +kernel
theorem dX7_log_0 : decode cX7_log 0 = .ok (.iload_n 2, 1) := by decide +kernel
theorem dX7_log_1 : decode cX7_log 1 = .ok (.ifCond .lt 9, 3) := by decide +kernel
theorem dX7_log_4 : decode cX7_log 4 = .ok (.iload_n 2, 1) := by decide +kernel
theorem dX7_log_5 : decode cX7_log 5 = .ok (.bipush 6, 2) := by decide +kernel
theorem dX7_log_7 : decode cX7_log 7 = .ok (.if_icmp .lt 14, 3) := by decide +kernel
theorem dX7_log_10 : decode cX7_log 10 = .ok (.new 155, 3) := by decide +kernel
theorem dX7_log_13 : decode cX7_log 13 = .ok (.dup, 1) := by decide +kernel
theorem dX7_log_14 : decode cX7_log 14 = .ok (.ldc_w 347, 3) := by decide +kernel
theorem dX7_log_17 : decode cX7_log 17 = .ok (.invokespecial 159, 3) := by decide +kernel
theorem dX7_log_20 : decode cX7_log 20 = .ok (.athrow, 1) := by decide +kernel
theorem dX7_log_21 : decode cX7_log 21 = .ok (.iload_n 1, 1) := by decide +kernel
theorem dX7_log_22 : decode cX7_log 22 = .ok (.ifCond .lt 26, 3) := by decide +kernel
theorem dX7_log_25 : decode cX7_log 25 = .ok (.iload_n 1, 1) := by decide +kernel
theorem dX7_log_26 : decode cX7_log 26 = .ok (.aload_n 0, 1) := by decide +kernel
theorem dX7_log_27 : decode cX7_log 27 = .ok (.getfield 19, 3) := by decide +kernel
theorem dX7_log_30 : decode cX7_log 30 = .ok (.getfield 331, 3) := by decide +kernel
theorem dX7_log_33 : decode cX7_log 33 = .ok (.if_icmp .ge 15, 3) := by decide +kernel
theorem dX7_log_36 : decode cX7_log 36 = .ok (.aload_n 0, 1) := by decide +kernel
theorem dX7_log_37 : decode cX7_log 37 = .ok (.getfield 19, 3) := by decide +kernel
theorem dX7_log_40 : decode cX7_log 40 = .ok (.iload_n 1, 1) := by decide +kernel
theorem dX7_log_41 : decode cX7_log 41 = .ok (.iload_n 2, 1) := by decide +kernel
theorem dX7_log_42 : decode cX7_log 42 = .ok (.invokevirtual 334, 3) := by decide +kernel
theorem dX7_log_45 : decode cX7_log 45 = .ok (.goto 6, 3) := by decide +kernel
theorem dX7_log_48 : decode cX7_log 48 = .ok (.sipush (-999), 3) := by decide +kernel
theorem dX7_log_51 : decode cX7_log 51 = .ok (.ireturn, 1) := by decide +kernel
theorem dX7_seed_0 : decode cX7_seed 0 = .ok (.aload_n 0, 1) := by decide +kernel
theorem dX7_seed_1 : decode cX7_seed 1 = .ok (.getfield 19, 3) := by decide +kernel
theorem dX7_seed_4 : decode cX7_seed 4 = .ok (.getfield 241, 3) := by decide +kernel
theorem dX7_seed_7 : decode cX7_seed 7 = .ok (.istore_n 2, 1) := by decide +kernel
theorem dX7_seed_8 : decode cX7_seed 8 = .ok (.aload_n 0, 1) := by decide +kernel
theorem dX7_seed_9 : decode cX7_seed 9 = .ok (.getfield 19, 3) := by decide +kernel
theorem dX7_seed_12 : decode cX7_seed 12 = .ok (.iload_n 1, 1) := by decide +kernel
theorem dX7_seed_13 : decode cX7_seed 13 = .ok (.putfield 241, 3) := by decide +kernel
theorem dX7_seed_16 : decode cX7_seed 16 = .ok (.iload_n 2, 1) := by decide +kernel
theorem dX7_seed_17 : decode cX7_seed 17 = .ok (.ireturn, 1) := by decide +kernel
theorem dX7_undo_0 : decode cX7_undo 0 = .ok (.aload_n 0, 1) := by decide +kernel
theorem dX7_undo_1 : decode cX7_undo 1 = .ok (.getfield 29, 3) := by decide +kernel
theorem dX7_undo_4 : decode cX7_undo 4 = .ok (.aload_n 0, 1) := by decide +kernel
theorem dX7_undo_5 : decode cX7_undo 5 = .ok (.getfield 19, 3) := by decide +kernel
theorem dX7_undo_8 : decode cX7_undo 8 = .ok (.invokevirtual 349, 3) := by decide +kernel
theorem dX7_undo_11 : decode cX7_undo 11 = .ok (.ireturn, 1) := by decide +kernel
theorem dX7_image_0 : decode cX7_image 0 = .ok (.aload_n 0, 1) := by decide +kernel
theorem dX7_image_1 : decode cX7_image 1 = .ok (.getfield 23, 3) := by decide +kernel
theorem dX7_image_4 : decode cX7_image 4 = .ok (.aload_n 0, 1) := by decide +kernel
theorem dX7_image_5 : decode cX7_image 5 = .ok (.getfield 19, 3) := by decide +kernel
theorem dX7_image_8 : decode cX7_image 8 = .ok (.invokevirtual 353, 3) := by decide +kernel
theorem dX7_image_11 : decode cX7_image 11 = .ok (.aload_n 0, 1) := by decide +kernel
theorem dX7_image_12 : decode cX7_image 12 = .ok (.iconst 1, 1) := by decide +kernel
theorem dX7_image_13 : decode cX7_image 13 = .ok (.putfield 67, 3) := by decide +kernel
theorem dX7_image_16 : decode cX7_image 16 = .ok (.return_, 1) := by decide +kernel
theorem dX7_back_0 : decode cX7_back 0 = .ok (.aload_n 0, 1) := by decide +kernel
theorem dX7_back_1 : decode cX7_back 1 = .ok (.getfield 67, 3) := by decide +kernel
theorem dX7_back_4 : decode cX7_back 4 = .ok (.ifCond .ne 5, 3) := by decide +kernel
theorem dX7_back_7 : decode cX7_back 7 = .ok (.iconst 0, 1) := by decide +kernel
theorem dX7_back_8 : decode cX7_back 8 = .ok (.ireturn, 1) := by decide +kernel
theorem dX7_back_9 : decode cX7_back 9 = .ok (.aload_n 0, 1) := by decide +kernel
theorem dX7_back_10 : decode cX7_back 10 = .ok (.getfield 19, 3) := by decide +kernel
theorem dX7_back_13 : decode cX7_back 13 = .ok (.aload_n 0, 1) := by decide +kernel
theorem dX7_back_14 : decode cX7_back 14 = .ok (.getfield 23, 3) := by decide +kernel
theorem dX7_back_17 : decode cX7_back 17 = .ok (.invokevirtual 353, 3) := by decide +kernel
theorem dX7_back_20 : decode cX7_back 20 = .ok (.aload_n 0, 1) := by decide +kernel
theorem dX7_back_21 : decode cX7_back 21 = .ok (.getfield 29, 3) := by decide +kernel
theorem dX7_back_24 : decode cX7_back 24 = .ok (.invokevirtual 105, 3) := by decide +kernel
theorem dX7_back_27 : decode cX7_back 27 = .ok (.iconst 1, 1) := by decide +kernel
theorem dX7_back_28 : decode cX7_back 28 = .ok (.ireturn, 1) := by decide +kernel
theorem dX7_count_0 : decode cX7_count 0 = .ok (.iload_n 1, 1) := by decide +kernel
theorem dX7_count_1 : decode cX7_count 1 = .ok (.tableswitch 171 0 12 #[67, 75, 83, 91, 99, 107, 115, 123, 131, 139, 147, 155, 163], 67) := by decide +kernel
theorem dX7_count_68 : decode cX7_count 68 = .ok (.aload_n 0, 1) := by decide +kernel
theorem dX7_count_69 : decode cX7_count 69 = .ok (.getfield 19, 3) := by decide +kernel
theorem dX7_count_72 : decode cX7_count 72 = .ok (.getfield 248, 3) := by decide +kernel
theorem dX7_count_75 : decode cX7_count 75 = .ok (.ireturn, 1) := by decide +kernel
theorem dX7_count_76 : decode cX7_count 76 = .ok (.aload_n 0, 1) := by decide +kernel
theorem dX7_count_77 : decode cX7_count 77 = .ok (.getfield 19, 3) := by decide +kernel
theorem dX7_count_80 : decode cX7_count 80 = .ok (.getfield 289, 3) := by decide +kernel
theorem dX7_count_83 : decode cX7_count 83 = .ok (.ireturn, 1) := by decide +kernel
theorem dX7_count_84 : decode cX7_count 84 = .ok (.aload_n 0, 1) := by decide +kernel
theorem dX7_count_85 : decode cX7_count 85 = .ok (.getfield 19, 3) := by decide +kernel
theorem dX7_count_88 : decode cX7_count 88 = .ok (.getfield 295, 3) := by decide +kernel
theorem dX7_count_91 : decode cX7_count 91 = .ok (.ireturn, 1) := by decide +kernel
theorem dX7_count_92 : decode cX7_count 92 = .ok (.aload_n 0, 1) := by decide +kernel
theorem dX7_count_93 : decode cX7_count 93 = .ok (.getfield 19, 3) := by decide +kernel
theorem dX7_count_96 : decode cX7_count 96 = .ok (.getfield 94, 3) := by decide +kernel
theorem dX7_count_99 : decode cX7_count 99 = .ok (.ireturn, 1) := by decide +kernel
theorem dX7_count_100 : decode cX7_count 100 = .ok (.aload_n 0, 1) := by decide +kernel
theorem dX7_count_101 : decode cX7_count 101 = .ok (.getfield 19, 3) := by decide +kernel
theorem dX7_count_104 : decode cX7_count 104 = .ok (.getfield 120, 3) := by decide +kernel
theorem dX7_count_107 : decode cX7_count 107 = .ok (.ireturn, 1) := by decide +kernel
theorem dX7_count_108 : decode cX7_count 108 = .ok (.aload_n 0, 1) := by decide +kernel
theorem dX7_count_109 : decode cX7_count 109 = .ok (.getfield 19, 3) := by decide +kernel
theorem dX7_count_112 : decode cX7_count 112 = .ok (.getfield 145, 3) := by decide +kernel
theorem dX7_count_115 : decode cX7_count 115 = .ok (.ireturn, 1) := by decide +kernel
theorem dX7_count_116 : decode cX7_count 116 = .ok (.aload_n 0, 1) := by decide +kernel
theorem dX7_count_117 : decode cX7_count 117 = .ok (.getfield 19, 3) := by decide +kernel
theorem dX7_count_120 : decode cX7_count 120 = .ok (.getfield 356, 3) := by decide +kernel
theorem dX7_count_123 : decode cX7_count 123 = .ok (.ireturn, 1) := by decide +kernel
theorem dX7_count_124 : decode cX7_count 124 = .ok (.aload_n 0, 1) := by decide +kernel
theorem dX7_count_125 : decode cX7_count 125 = .ok (.getfield 19, 3) := by decide +kernel
theorem dX7_count_128 : decode cX7_count 128 = .ok (.getfield 138, 3) := by decide +kernel
theorem dX7_count_131 : decode cX7_count 131 = .ok (.ireturn, 1) := by decide +kernel
theorem dX7_count_132 : decode cX7_count 132 = .ok (.aload_n 0, 1) := by decide +kernel
theorem dX7_count_133 : decode cX7_count 133 = .ok (.getfield 19, 3) := by decide +kernel
theorem dX7_count_136 : decode cX7_count 136 = .ok (.invokevirtual 359, 3) := by decide +kernel
theorem dX7_count_139 : decode cX7_count 139 = .ok (.ireturn, 1) := by decide +kernel
theorem dX7_count_140 : decode cX7_count 140 = .ok (.aload_n 0, 1) := by decide +kernel
theorem dX7_count_141 : decode cX7_count 141 = .ok (.getfield 19, 3) := by decide +kernel
theorem dX7_count_144 : decode cX7_count 144 = .ok (.getfield 331, 3) := by decide +kernel
theorem dX7_count_147 : decode cX7_count 147 = .ok (.ireturn, 1) := by decide +kernel
theorem dX7_count_148 : decode cX7_count 148 = .ok (.aload_n 0, 1) := by decide +kernel
theorem dX7_count_149 : decode cX7_count 149 = .ok (.getfield 19, 3) := by decide +kernel
theorem dX7_count_152 : decode cX7_count 152 = .ok (.getfield 234, 3) := by decide +kernel
theorem dX7_count_155 : decode cX7_count 155 = .ok (.ireturn, 1) := by decide +kernel
theorem dX7_count_156 : decode cX7_count 156 = .ok (.aload_n 0, 1) := by decide +kernel
theorem dX7_count_157 : decode cX7_count 157 = .ok (.getfield 19, 3) := by decide +kernel
theorem dX7_count_160 : decode cX7_count 160 = .ok (.invokevirtual 362, 3) := by decide +kernel
theorem dX7_count_163 : decode cX7_count 163 = .ok (.ireturn, 1) := by decide +kernel
theorem dX7_count_164 : decode cX7_count 164 = .ok (.aload_n 0, 1) := by decide +kernel
theorem dX7_count_165 : decode cX7_count 165 = .ok (.getfield 29, 3) := by decide +kernel
theorem dX7_count_168 : decode cX7_count 168 = .ok (.getfield 365, 3) := by decide +kernel
theorem dX7_count_171 : decode cX7_count 171 = .ok (.ireturn, 1) := by decide +kernel
theorem dX7_count_172 : decode cX7_count 172 = .ok (.iconst (-1), 1) := by decide +kernel
theorem dX7_count_173 : decode cX7_count 173 = .ok (.ireturn, 1) := by decide +kernel
theorem dX7_needVault_0 : decode cX7_needVault 0 = .ok (.iload_n 1, 1) := by decide +kernel
theorem dX7_needVault_1 : decode cX7_needVault 1 = .ok (.ifCond .lt 14, 3) := by decide +kernel
theorem dX7_needVault_4 : decode cX7_needVault 4 = .ok (.iload_n 1, 1) := by decide +kernel
theorem dX7_needVault_5 : decode cX7_needVault 5 = .ok (.aload_n 0, 1) := by decide +kernel
theorem dX7_needVault_6 : decode cX7_needVault 6 = .ok (.getfield 19, 3) := by decide +kernel
theorem dX7_needVault_9 : decode cX7_needVault 9 = .ok (.getfield 248, 3) := by decide +kernel
theorem dX7_needVault_12 : decode cX7_needVault 12 = .ok (.if_icmp .lt 14, 3) := by decide +kernel
theorem dX7_needVault_15 : decode cX7_needVault 15 = .ok (.new 298, 3) := by decide +kernel
theorem dX7_needVault_18 : decode cX7_needVault 18 = .ok (.dup, 1) := by decide +kernel
theorem dX7_needVault_19 : decode cX7_needVault 19 = .ok (.ldc_w 366, 3) := by decide +kernel
theorem dX7_needVault_22 : decode cX7_needVault 22 = .ok (.invokespecial 302, 3) := by decide +kernel
theorem dX7_needVault_25 : decode cX7_needVault 25 = .ok (.athrow, 1) := by decide +kernel
theorem dX7_needVault_26 : decode cX7_needVault 26 = .ok (.return_, 1) := by decide +kernel
theorem dX7_needPerson_0 : decode cX7_needPerson 0 = .ok (.iload_n 1, 1) := by decide +kernel
theorem dX7_needPerson_1 : decode cX7_needPerson 1 = .ok (.ifCond .lt 14, 3) := by decide +kernel
theorem dX7_needPerson_4 : decode cX7_needPerson 4 = .ok (.iload_n 1, 1) := by decide +kernel
theorem dX7_needPerson_5 : decode cX7_needPerson 5 = .ok (.aload_n 0, 1) := by decide +kernel
theorem dX7_needPerson_6 : decode cX7_needPerson 6 = .ok (.getfield 19, 3) := by decide +kernel
theorem dX7_needPerson_9 : decode cX7_needPerson 9 = .ok (.getfield 289, 3) := by decide +kernel
theorem dX7_needPerson_12 : decode cX7_needPerson 12 = .ok (.if_icmp .lt 14, 3) := by decide +kernel
theorem dX7_needPerson_15 : decode cX7_needPerson 15 = .ok (.new 298, 3) := by decide +kernel
theorem dX7_needPerson_18 : decode cX7_needPerson 18 = .ok (.dup, 1) := by decide +kernel
theorem dX7_needPerson_19 : decode cX7_needPerson 19 = .ok (.ldc_w 368, 3) := by decide +kernel
theorem dX7_needPerson_22 : decode cX7_needPerson 22 = .ok (.invokespecial 302, 3) := by decide +kernel
theorem dX7_needPerson_25 : decode cX7_needPerson 25 = .ok (.athrow, 1) := by decide +kernel
theorem dX7_needPerson_26 : decode cX7_needPerson 26 = .ok (.return_, 1) := by decide +kernel
theorem dX7_needCode_0 : decode cX7_needCode 0 = .ok (.iload_n 0, 1) := by decide +kernel
theorem dX7_needCode_1 : decode cX7_needCode 1 = .ok (.ifCond .lt 10, 3) := by decide +kernel
theorem dX7_needCode_4 : decode cX7_needCode 4 = .ok (.iload_n 0, 1) := by decide +kernel
theorem dX7_needCode_5 : decode cX7_needCode 5 = .ok (.sipush 216, 3) := by decide +kernel
theorem dX7_needCode_8 : decode cX7_needCode 8 = .ok (.if_icmp .lt 14, 3) := by decide +kernel
theorem dX7_needCode_11 : decode cX7_needCode 11 = .ok (.new 298, 3) := by decide +kernel
theorem dX7_needCode_14 : decode cX7_needCode 14 = .ok (.dup, 1) := by decide +kernel
theorem dX7_needCode_15 : decode cX7_needCode 15 = .ok (.ldc_w 370, 3) := by decide +kernel
theorem dX7_needCode_18 : decode cX7_needCode 18 = .ok (.invokespecial 302, 3) := by decide +kernel
theorem dX7_needCode_21 : decode cX7_needCode 21 = .ok (.athrow, 1) := by decide +kernel
theorem dX7_needCode_22 : decode cX7_needCode 22 = .ok (.return_, 1) := by decide +kernel
theorem dX7_needWheel_0 : decode cX7_needWheel 0 = .ok (.iload_n 0, 1) := by decide +kernel
theorem dX7_needWheel_1 : decode cX7_needWheel 1 = .ok (.ifCond .lt 8, 3) := by decide +kernel
theorem dX7_needWheel_4 : decode cX7_needWheel 4 = .ok (.iload_n 0, 1) := by decide +kernel
theorem dX7_needWheel_5 : decode cX7_needWheel 5 = .ok (.iconst 3, 1) := by decide +kernel
theorem dX7_needWheel_6 : decode cX7_needWheel 6 = .ok (.if_icmp .lt 14, 3) := by decide +kernel
theorem dX7_needWheel_9 : decode cX7_needWheel 9 = .ok (.new 298, 3) := by decide +kernel
theorem dX7_needWheel_12 : decode cX7_needWheel 12 = .ok (.dup, 1) := by decide +kernel
theorem dX7_needWheel_13 : decode cX7_needWheel 13 = .ok (.ldc_w 372, 3) := by decide +kernel
theorem dX7_needWheel_16 : decode cX7_needWheel 16 = .ok (.invokespecial 302, 3) := by decide +kernel
theorem dX7_needWheel_19 : decode cX7_needWheel 19 = .ok (.athrow, 1) := by decide +kernel
theorem dX7_needWheel_20 : decode cX7_needWheel 20 = .ok (.return_, 1) := by decide +kernel
theorem dX7_needTwo_0 : decode cX7_needTwo 0 = .ok (.aload_n 0, 1) := by decide +kernel
theorem dX7_needTwo_1 : decode cX7_needTwo 1 = .ok (.iload_n 1, 1) := by decide +kernel
theorem dX7_needTwo_2 : decode cX7_needTwo 2 = .ok (.invokevirtual 160, 3) := by decide +kernel
theorem dX7_needTwo_5 : decode cX7_needTwo 5 = .ok (.aload_n 0, 1) := by decide +kernel
theorem dX7_needTwo_6 : decode cX7_needTwo 6 = .ok (.iload_n 2, 1) := by decide +kernel
theorem dX7_needTwo_7 : decode cX7_needTwo 7 = .ok (.invokevirtual 160, 3) := by decide +kernel
theorem dX7_needTwo_10 : decode cX7_needTwo 10 = .ok (.aload_n 0, 1) := by decide +kernel
theorem dX7_needTwo_11 : decode cX7_needTwo 11 = .ok (.iload_n 3, 1) := by decide +kernel
theorem dX7_needTwo_12 : decode cX7_needTwo 12 = .ok (.invokevirtual 126, 3) := by decide +kernel
theorem dX7_needTwo_15 : decode cX7_needTwo 15 = .ok (.iload_n 1, 1) := by decide +kernel
theorem dX7_needTwo_16 : decode cX7_needTwo 16 = .ok (.iload_n 2, 1) := by decide +kernel
theorem dX7_needTwo_17 : decode cX7_needTwo 17 = .ok (.if_icmp .ne 14, 3) := by decide +kernel
theorem dX7_needTwo_20 : decode cX7_needTwo 20 = .ok (.new 87, 3) := by decide +kernel
theorem dX7_needTwo_23 : decode cX7_needTwo 23 = .ok (.dup, 1) := by decide +kernel
theorem dX7_needTwo_24 : decode cX7_needTwo 24 = .ok (.ldc_w 374, 3) := by decide +kernel
theorem dX7_needTwo_27 : decode cX7_needTwo 27 = .ok (.invokespecial 91, 3) := by decide +kernel
theorem dX7_needTwo_30 : decode cX7_needTwo 30 = .ok (.athrow, 1) := by decide +kernel
theorem dX7_needTwo_31 : decode cX7_needTwo 31 = .ok (.return_, 1) := by decide +kernel
theorem dX7_needTrial_0 : decode cX7_needTrial 0 = .ok (.iload_n 0, 1) := by decide +kernel
theorem dX7_needTrial_1 : decode cX7_needTrial 1 = .ok (.ifCond .lt 9, 3) := by decide +kernel
theorem dX7_needTrial_4 : decode cX7_needTrial 4 = .ok (.iload_n 0, 1) := by decide +kernel
theorem dX7_needTrial_5 : decode cX7_needTrial 5 = .ok (.bipush 40, 2) := by decide +kernel
theorem dX7_needTrial_7 : decode cX7_needTrial 7 = .ok (.if_icmp .le 14, 3) := by decide +kernel
theorem dX7_needTrial_10 : decode cX7_needTrial 10 = .ok (.new 87, 3) := by decide +kernel
theorem dX7_needTrial_13 : decode cX7_needTrial 13 = .ok (.dup, 1) := by decide +kernel
theorem dX7_needTrial_14 : decode cX7_needTrial 14 = .ok (.ldc_w 376, 3) := by decide +kernel
theorem dX7_needTrial_17 : decode cX7_needTrial 17 = .ok (.invokespecial 91, 3) := by decide +kernel
theorem dX7_needTrial_20 : decode cX7_needTrial 20 = .ok (.athrow, 1) := by decide +kernel
theorem dX7_needTrial_21 : decode cX7_needTrial 21 = .ok (.return_, 1) := by decide +kernel
theorem dX7_leftWholeAfterwards_0 : decode cX7_leftWholeAfterwards 0 = .ok (.iconst 0, 1) := by decide +kernel
theorem dX7_leftWholeAfterwards_1 : decode cX7_leftWholeAfterwards 1 = .ok (.istore_n 1, 1) := by decide +kernel
theorem dX7_leftWholeAfterwards_2 : decode cX7_leftWholeAfterwards 2 = .ok (.iconst 0, 1) := by decide +kernel
theorem dX7_leftWholeAfterwards_3 : decode cX7_leftWholeAfterwards 3 = .ok (.istore_n 2, 1) := by decide +kernel
theorem dX7_leftWholeAfterwards_4 : decode cX7_leftWholeAfterwards 4 = .ok (.iload_n 2, 1) := by decide +kernel
theorem dX7_leftWholeAfterwards_5 : decode cX7_leftWholeAfterwards 5 = .ok (.aload_n 0, 1) := by decide +kernel
theorem dX7_leftWholeAfterwards_6 : decode cX7_leftWholeAfterwards 6 = .ok (.getfield 19, 3) := by decide +kernel
theorem dX7_leftWholeAfterwards_9 : decode cX7_leftWholeAfterwards 9 = .ok (.getfield 248, 3) := by decide +kernel
theorem dX7_leftWholeAfterwards_12 : decode cX7_leftWholeAfterwards 12 = .ok (.if_icmp .ge 57, 3) := by decide +kernel
theorem dX7_leftWholeAfterwards_15 : decode cX7_leftWholeAfterwards 15 = .ok (.iconst 0, 1) := by decide +kernel
theorem dX7_leftWholeAfterwards_16 : decode cX7_leftWholeAfterwards 16 = .ok (.istore_n 3, 1) := by decide +kernel
theorem dX7_leftWholeAfterwards_17 : decode cX7_leftWholeAfterwards 17 = .ok (.iload_n 3, 1) := by decide +kernel
theorem dX7_leftWholeAfterwards_18 : decode cX7_leftWholeAfterwards 18 = .ok (.aload_n 0, 1) := by decide +kernel
theorem dX7_leftWholeAfterwards_19 : decode cX7_leftWholeAfterwards 19 = .ok (.getfield 19, 3) := by decide +kernel
theorem dX7_leftWholeAfterwards_22 : decode cX7_leftWholeAfterwards 22 = .ok (.getfield 289, 3) := by decide +kernel
theorem dX7_leftWholeAfterwards_25 : decode cX7_leftWholeAfterwards 25 = .ok (.if_icmp .ge 38, 3) := by decide +kernel
theorem dX7_leftWholeAfterwards_28 : decode cX7_leftWholeAfterwards 28 = .ok (.aload_n 0, 1) := by decide +kernel
theorem dX7_leftWholeAfterwards_29 : decode cX7_leftWholeAfterwards 29 = .ok (.getfield 63, 3) := by decide +kernel
theorem dX7_leftWholeAfterwards_32 : decode cX7_leftWholeAfterwards 32 = .ok (.iload_n 2, 1) := by decide +kernel
theorem dX7_leftWholeAfterwards_33 : decode cX7_leftWholeAfterwards 33 = .ok (.invokevirtual 251, 3) := by decide +kernel
theorem dX7_leftWholeAfterwards_36 : decode cX7_leftWholeAfterwards 36 = .ok (.ifCond .ne 18, 3) := by decide +kernel
theorem dX7_leftWholeAfterwards_39 : decode cX7_leftWholeAfterwards 39 = .ok (.aload_n 0, 1) := by decide +kernel
theorem dX7_leftWholeAfterwards_40 : decode cX7_leftWholeAfterwards 40 = .ok (.getfield 19, 3) := by decide +kernel
theorem dX7_leftWholeAfterwards_43 : decode cX7_leftWholeAfterwards 43 = .ok (.iload_n 3, 1) := by decide +kernel
theorem dX7_leftWholeAfterwards_44 : decode cX7_leftWholeAfterwards 44 = .ok (.iload_n 2, 1) := by decide +kernel
theorem dX7_leftWholeAfterwards_45 : decode cX7_leftWholeAfterwards 45 = .ok (.invokevirtual 163, 3) := by decide +kernel
theorem dX7_leftWholeAfterwards_48 : decode cX7_leftWholeAfterwards 48 = .ok (.sipush 216, 3) := by decide +kernel
theorem dX7_leftWholeAfterwards_51 : decode cX7_leftWholeAfterwards 51 = .ok (.if_icmp .ne 6, 3) := by decide +kernel
theorem dX7_leftWholeAfterwards_54 : decode cX7_leftWholeAfterwards 54 = .ok (.iinc 1 1, 3) := by decide +kernel
theorem dX7_leftWholeAfterwards_57 : decode cX7_leftWholeAfterwards 57 = .ok (.iinc 3 1, 3) := by decide +kernel
theorem dX7_leftWholeAfterwards_60 : decode cX7_leftWholeAfterwards 60 = .ok (.goto (-43), 3) := by decide +kernel
theorem dX7_leftWholeAfterwards_63 : decode cX7_leftWholeAfterwards 63 = .ok (.iinc 2 1, 3) := by decide +kernel
theorem dX7_leftWholeAfterwards_66 : decode cX7_leftWholeAfterwards 66 = .ok (.goto (-62), 3) := by decide +kernel
theorem dX7_leftWholeAfterwards_69 : decode cX7_leftWholeAfterwards 69 = .ok (.iload_n 1, 1) := by decide +kernel
theorem dX7_leftWholeAfterwards_70 : decode cX7_leftWholeAfterwards 70 = .ok (.ireturn, 1) := by decide +kernel
theorem dX7_fewerOf_0 : decode cX7_fewerOf 0 = .ok (.iload_n 0, 1) := by decide +kernel
theorem dX7_fewerOf_1 : decode cX7_fewerOf 1 = .ok (.invokestatic 182, 3) := by decide +kernel
theorem dX7_fewerOf_4 : decode cX7_fewerOf 4 = .ok (.iload_n 1, 1) := by decide +kernel
theorem dX7_fewerOf_5 : decode cX7_fewerOf 5 = .ok (.invokestatic 182, 3) := by decide +kernel
theorem dX7_fewerOf_8 : decode cX7_fewerOf 8 = .ok (.isub, 1) := by decide +kernel
theorem dX7_fewerOf_9 : decode cX7_fewerOf 9 = .ok (.istore_n 2, 1) := by decide +kernel
theorem dX7_fewerOf_10 : decode cX7_fewerOf 10 = .ok (.iload_n 2, 1) := by decide +kernel
theorem dX7_fewerOf_11 : decode cX7_fewerOf 11 = .ok (.ifCond .lt 12, 3) := by decide +kernel
theorem dX7_fewerOf_14 : decode cX7_fewerOf 14 = .ok (.iload_n 2, 1) := by decide +kernel
theorem dX7_fewerOf_15 : decode cX7_fewerOf 15 = .ok (.ifCond .ne 12, 3) := by decide +kernel
theorem dX7_fewerOf_18 : decode cX7_fewerOf 18 = .ok (.iload_n 0, 1) := by decide +kernel
theorem dX7_fewerOf_19 : decode cX7_fewerOf 19 = .ok (.iload_n 1, 1) := by decide +kernel
theorem dX7_fewerOf_20 : decode cX7_fewerOf 20 = .ok (.if_icmp .ge 7, 3) := by decide +kernel
theorem dX7_fewerOf_23 : decode cX7_fewerOf 23 = .ok (.iload_n 0, 1) := by decide +kernel
theorem dX7_fewerOf_24 : decode cX7_fewerOf 24 = .ok (.goto 4, 3) := by decide +kernel
theorem dX7_fewerOf_27 : decode cX7_fewerOf 27 = .ok (.iload_n 1, 1) := by decide +kernel
theorem dX7_fewerOf_28 : decode cX7_fewerOf 28 = .ok (.ireturn, 1) := by decide +kernel
theorem dX7_gaps_0 : decode cX7_gaps 0 = .ok (.bipush 127, 2) := by decide +kernel
theorem dX7_gaps_2 : decode cX7_gaps 2 = .ok (.iload_n 0, 1) := by decide +kernel
theorem dX7_gaps_3 : decode cX7_gaps 3 = .ok (.iconst (-1), 1) := by decide +kernel
theorem dX7_gaps_4 : decode cX7_gaps 4 = .ok (.ixor, 1) := by decide +kernel
theorem dX7_gaps_5 : decode cX7_gaps 5 = .ok (.iand, 1) := by decide +kernel
theorem dX7_gaps_6 : decode cX7_gaps 6 = .ok (.ireturn, 1) := by decide +kernel
theorem dX7_soon_0 : decode cX7_soon 0 = .ok (.iconst 0, 1) := by decide +kernel
theorem dX7_soon_1 : decode cX7_soon 1 = .ok (.istore_n 2, 1) := by decide +kernel
theorem dX7_soon_2 : decode cX7_soon 2 = .ok (.iload_n 2, 1) := by decide +kernel
theorem dX7_soon_3 : decode cX7_soon 3 = .ok (.bipush 7, 2) := by decide +kernel
theorem dX7_soon_5 : decode cX7_soon 5 = .ok (.if_icmp .ge 32, 3) := by decide +kernel
theorem dX7_soon_8 : decode cX7_soon 8 = .ok (.sipush 9999, 3) := by decide +kernel
theorem dX7_soon_11 : decode cX7_soon 11 = .ok (.iload_n 1, 1) := by decide +kernel
theorem dX7_soon_12 : decode cX7_soon 12 = .ok (.iload_n 2, 1) := by decide +kernel
theorem dX7_soon_13 : decode cX7_soon 13 = .ok (.iadd, 1) := by decide +kernel
theorem dX7_soon_14 : decode cX7_soon 14 = .ok (.invokestatic 259, 3) := by decide +kernel
theorem dX7_soon_17 : decode cX7_soon 17 = .ok (.bipush 7, 2) := by decide +kernel
theorem dX7_soon_19 : decode cX7_soon 19 = .ok (.irem, 1) := by decide +kernel
theorem dX7_soon_20 : decode cX7_soon 20 = .ok (.istore_n 3, 1) := by decide +kernel
theorem dX7_soon_21 : decode cX7_soon 21 = .ok (.iload_n 0, 1) := by decide +kernel
theorem dX7_soon_22 : decode cX7_soon 22 = .ok (.iload_n 3, 1) := by decide +kernel
theorem dX7_soon_23 : decode cX7_soon 23 = .ok (.ishr, 1) := by decide +kernel
theorem dX7_soon_24 : decode cX7_soon 24 = .ok (.iconst 1, 1) := by decide +kernel
theorem dX7_soon_25 : decode cX7_soon 25 = .ok (.iand, 1) := by decide +kernel
theorem dX7_soon_26 : decode cX7_soon 26 = .ok (.ifCond .ne 5, 3) := by decide +kernel
theorem dX7_soon_29 : decode cX7_soon 29 = .ok (.iload_n 2, 1) := by decide +kernel
theorem dX7_soon_30 : decode cX7_soon 30 = .ok (.ireturn, 1) := by decide +kernel
theorem dX7_soon_31 : decode cX7_soon 31 = .ok (.iinc 2 1, 3) := by decide +kernel
theorem dX7_soon_34 : decode cX7_soon 34 = .ok (.goto (-32), 3) := by decide +kernel
theorem dX7_soon_37 : decode cX7_soon 37 = .ok (.iconst (-1), 1) := by decide +kernel
theorem dX7_soon_38 : decode cX7_soon 38 = .ok (.ireturn, 1) := by decide +kernel
theorem dX7_longestGap_0 : decode cX7_longestGap 0 = .ok (.iload_n 0, 1) := by decide +kernel
theorem dX7_longestGap_1 : decode cX7_longestGap 1 = .ok (.bipush 127, 2) := by decide +kernel
theorem dX7_longestGap_3 : decode cX7_longestGap 3 = .ok (.iand, 1) := by decide +kernel
theorem dX7_longestGap_4 : decode cX7_longestGap 4 = .ok (.ifCond .ne 6, 3) := by decide +kernel
theorem dX7_longestGap_7 : decode cX7_longestGap 7 = .ok (.bipush 7, 2) := by decide +kernel
theorem dX7_longestGap_9 : decode cX7_longestGap 9 = .ok (.ireturn, 1) := by decide +kernel
theorem dX7_longestGap_10 : decode cX7_longestGap 10 = .ok (.iconst 0, 1) := by decide +kernel
theorem dX7_longestGap_11 : decode cX7_longestGap 11 = .ok (.istore_n 1, 1) := by decide +kernel
theorem dX7_longestGap_12 : decode cX7_longestGap 12 = .ok (.iconst 0, 1) := by decide +kernel
theorem dX7_longestGap_13 : decode cX7_longestGap 13 = .ok (.istore_n 2, 1) := by decide +kernel
theorem dX7_longestGap_14 : decode cX7_longestGap 14 = .ok (.iconst 0, 1) := by decide +kernel
theorem dX7_longestGap_15 : decode cX7_longestGap 15 = .ok (.istore_n 3, 1) := by decide +kernel
theorem dX7_longestGap_16 : decode cX7_longestGap 16 = .ok (.iload_n 3, 1) := by decide +kernel
theorem dX7_longestGap_17 : decode cX7_longestGap 17 = .ok (.bipush 14, 2) := by decide +kernel
theorem dX7_longestGap_19 : decode cX7_longestGap 19 = .ok (.if_icmp .ge 34, 3) := by decide +kernel
theorem dX7_longestGap_22 : decode cX7_longestGap 22 = .ok (.iload_n 0, 1) := by decide +kernel
theorem dX7_longestGap_23 : decode cX7_longestGap 23 = .ok (.iload_n 3, 1) := by decide +kernel
theorem dX7_longestGap_24 : decode cX7_longestGap 24 = .ok (.bipush 7, 2) := by decide +kernel
theorem dX7_longestGap_26 : decode cX7_longestGap 26 = .ok (.irem, 1) := by decide +kernel
theorem dX7_longestGap_27 : decode cX7_longestGap 27 = .ok (.ishr, 1) := by decide +kernel
theorem dX7_longestGap_28 : decode cX7_longestGap 28 = .ok (.iconst 1, 1) := by decide +kernel
theorem dX7_longestGap_29 : decode cX7_longestGap 29 = .ok (.iand, 1) := by decide +kernel
theorem dX7_longestGap_30 : decode cX7_longestGap 30 = .ok (.ifCond .ne 9, 3) := by decide +kernel
theorem dX7_longestGap_33 : decode cX7_longestGap 33 = .ok (.iload_n 1, 1) := by decide +kernel
theorem dX7_longestGap_34 : decode cX7_longestGap 34 = .ok (.iconst 1, 1) := by decide +kernel
theorem dX7_longestGap_35 : decode cX7_longestGap 35 = .ok (.iadd, 1) := by decide +kernel
theorem dX7_longestGap_36 : decode cX7_longestGap 36 = .ok (.goto 4, 3) := by decide +kernel
theorem dX7_longestGap_39 : decode cX7_longestGap 39 = .ok (.iconst 0, 1) := by decide +kernel
theorem dX7_longestGap_40 : decode cX7_longestGap 40 = .ok (.istore_n 1, 1) := by decide +kernel
theorem dX7_longestGap_41 : decode cX7_longestGap 41 = .ok (.iload_n 2, 1) := by decide +kernel
theorem dX7_longestGap_42 : decode cX7_longestGap 42 = .ok (.iload_n 1, 1) := by decide +kernel
theorem dX7_longestGap_43 : decode cX7_longestGap 43 = .ok (.invokestatic 378, 3) := by decide +kernel
theorem dX7_longestGap_46 : decode cX7_longestGap 46 = .ok (.istore_n 2, 1) := by decide +kernel
theorem dX7_longestGap_47 : decode cX7_longestGap 47 = .ok (.iinc 3 1, 3) := by decide +kernel
theorem dX7_longestGap_50 : decode cX7_longestGap 50 = .ok (.goto (-34), 3) := by decide +kernel
theorem dX7_longestGap_53 : decode cX7_longestGap 53 = .ok (.iload_n 2, 1) := by decide +kernel
theorem dX7_longestGap_54 : decode cX7_longestGap 54 = .ok (.ireturn, 1) := by decide +kernel
