theorem dX8_init_0 : decode cX8_init 0 = .ok (.aload_n 0, 1) := by decide +kernel
theorem dX8_init_1 : decode cX8_init 1 = .ok (.invokespecial 1, 3) := by decide +kernel
theorem dX8_init_4 : decode cX8_init 4 = .ok (.aload_n 0, 1) := by decide +kernel
theorem dX8_init_5 : decode cX8_init 5 = .ok (.sipush 272, 3) := by decide +kernel
theorem dX8_init_8 : decode cX8_init 8 = .ok (.newarray .int, 2) := by decide +kernel
theorem dX8_init_10 : decode cX8_init 10 = .ok (.putfield 7, 3) := by decide +kernel
theorem dX8_init_13 : decode cX8_init 13 = .ok (.aload_n 0, 1) := by decide +kernel
theorem dX8_init_14 : decode cX8_init 14 = .ok (.sipush 1088, 3) := by decide +kernel
theorem dX8_init_17 : decode cX8_init 17 = .ok (.newarray .int, 2) := by decide +kernel
theorem dX8_init_19 : decode cX8_init 19 = .ok (.putfield 13, 3) := by decide +kernel
theorem dX8_init_22 : decode cX8_init 22 = .ok (.aload_n 0, 1) := by decide +kernel
theorem dX8_init_23 : decode cX8_init 23 = .ok (.sipush 260, 3) := by decide +kernel
theorem dX8_init_26 : decode cX8_init 26 = .ok (.newarray .int, 2) := by decide +kernel
theorem dX8_init_28 : decode cX8_init 28 = .ok (.putfield 16, 3) := by decide +kernel
theorem dX8_init_31 : decode cX8_init 31 = .ok (.aload_n 0, 1) := by decide +kernel
theorem dX8_init_32 : decode cX8_init 32 = .ok (.iconst 4, 1) := by decide +kernel
theorem dX8_init_33 : decode cX8_init 33 = .ok (.newarray .int, 2) := by decide +kernel
theorem dX8_init_35 : decode cX8_init 35 = .ok (.putfield 19, 3) := by decide +kernel
theorem dX8_init_38 : decode cX8_init 38 = .ok (.aload_n 0, 1) := by decide +kernel
theorem dX8_init_39 : decode cX8_init 39 = .ok (.iconst 4, 1) := by decide +kernel
theorem dX8_init_40 : decode cX8_init 40 = .ok (.newarray .boolean, 2) := by decide +kernel
theorem dX8_init_42 : decode cX8_init 42 = .ok (.putfield 22, 3) := by decide +kernel
theorem dX8_init_45 : decode cX8_init 45 = .ok (.aload_n 0, 1) := by decide +kernel
theorem dX8_init_46 : decode cX8_init 46 = .ok (.bipush 65, 2) := by decide +kernel
theorem dX8_init_48 : decode cX8_init 48 = .ok (.newarray .int, 2) := by decide +kernel
theorem dX8_init_50 : decode cX8_init 50 = .ok (.putfield 26, 3) := by decide +kernel
theorem dX8_init_53 : decode cX8_init 53 = .ok (.aload_n 0, 1) := by decide +kernel
theorem dX8_init_54 : decode cX8_init 54 = .ok (.bipush 65, 2) := by decide +kernel
theorem dX8_init_56 : decode cX8_init 56 = .ok (.newarray .int, 2) := by decide +kernel
theorem dX8_init_58 : decode cX8_init 58 = .ok (.putfield 29, 3) := by decide +kernel
theorem dX8_init_61 : decode cX8_init 61 = .ok (.aload_n 0, 1) := by decide +kernel
theorem dX8_init_62 : decode cX8_init 62 = .ok (.bipush 65, 2) := by decide +kernel
theorem dX8_init_64 : decode cX8_init 64 = .ok (.newarray .int, 2) := by decide +kernel
theorem dX8_init_66 : decode cX8_init 66 = .ok (.putfield 32, 3) := by decide +kernel
theorem dX8_init_69 : decode cX8_init 69 = .ok (.aload_n 0, 1) := by decide +kernel
theorem dX8_init_70 : decode cX8_init 70 = .ok (.sipush 128, 3) := by decide +kernel
theorem dX8_init_73 : decode cX8_init 73 = .ok (.newarray .int, 2) := by decide +kernel
theorem dX8_init_75 : decode cX8_init 75 = .ok (.putfield 35, 3) := by decide +kernel
theorem dX8_init_78 : decode cX8_init 78 = .ok (.aload_n 0, 1) := by decide +kernel
theorem dX8_init_79 : decode cX8_init 79 = .ok (.iconst 4, 1) := by decide +kernel
theorem dX8_init_80 : decode cX8_init 80 = .ok (.newarray .int, 2) := by decide +kernel
theorem dX8_init_82 : decode cX8_init 82 = .ok (.putfield 38, 3) := by decide +kernel
theorem dX8_init_85 : decode cX8_init 85 = .ok (.aload_n 0, 1) := by decide +kernel
theorem dX8_init_86 : decode cX8_init 86 = .ok (.getfield 7, 3) := by decide +kernel
theorem dX8_init_89 : decode cX8_init 89 = .ok (.sipush 260, 3) := by decide +kernel
theorem dX8_init_92 : decode cX8_init 92 = .ok (.iconst 4, 1) := by decide +kernel
theorem dX8_init_93 : decode cX8_init 93 = .ok (.iastore, 1) := by decide +kernel
theorem dX8_init_94 : decode cX8_init 94 = .ok (.return_, 1) := by decide +kernel
theorem dX8_thrown_0 : decode cX8_thrown 0 = .ok (.aload_n 0, 1) := by decide +kernel
theorem dX8_thrown_1 : decode cX8_thrown 1 = .ok (.getfield 41, 3) := by decide +kernel
theorem dX8_thrown_4 : decode cX8_thrown 4 = .ok (.ireturn, 1) := by decide +kernel
theorem dX8_in_0 : decode cX8_in 0 = .ok (.iload_n 0, 1) := by decide +kernel
theorem dX8_in_1 : decode cX8_in 1 = .ok (.iload_n 1, 1) := by decide +kernel
theorem dX8_in_2 : decode cX8_in 2 = .ok (.if_icmp .lt 12, 3) := by decide +kernel
theorem dX8_in_5 : decode cX8_in 5 = .ok (.iload_n 0, 1) := by decide +kernel
theorem dX8_in_6 : decode cX8_in 6 = .ok (.iload_n 2, 1) := by decide +kernel
theorem dX8_in_7 : decode cX8_in 7 = .ok (.if_icmp .gt 7, 3) := by decide +kernel
theorem dX8_in_10 : decode cX8_in 10 = .ok (.iconst 1, 1) := by decide +kernel
theorem dX8_in_11 : decode cX8_in 11 = .ok (.goto 4, 3) := by decide +kernel
theorem dX8_in_14 : decode cX8_in 14 = .ok (.iconst 0, 1) := by decide +kernel
theorem dX8_in_15 : decode cX8_in 15 = .ok (.ireturn, 1) := by decide +kernel
theorem dX8_fails_0 : decode cX8_fails 0 = .ok (.aload_n 0, 1) := by decide +kernel
theorem dX8_fails_1 : decode cX8_fails 1 = .ok (.iload_n 1, 1) := by decide +kernel
theorem dX8_fails_2 : decode cX8_fails 2 = .ok (.putfield 41, 3) := by decide +kernel
theorem dX8_fails_5 : decode cX8_fails 5 = .ok (.iconst 0, 1) := by decide +kernel
theorem dX8_fails_6 : decode cX8_fails 6 = .ok (.ireturn, 1) := by decide +kernel
theorem dX8_isList_0 : decode cX8_isList 0 = .ok (.iload_n 0, 1) := by decide +kernel
theorem dX8_isList_1 : decode cX8_isList 1 = .ok (.iconst 0, 1) := by decide +kernel
theorem dX8_isList_2 : decode cX8_isList 2 = .ok (.iconst 3, 1) := by decide +kernel
theorem dX8_isList_3 : decode cX8_isList 3 = .ok (.invokestatic 45, 3) := by decide +kernel
theorem dX8_isList_6 : decode cX8_isList 6 = .ok (.ireturn, 1) := by decide +kernel
theorem dX8_doc_0 : decode cX8_doc 0 = .ok (.aload_n 0, 1) := by decide +kernel
theorem dX8_doc_1 : decode cX8_doc 1 = .ok (.getfield 7, 3) := by decide +kernel
theorem dX8_doc_4 : decode cX8_doc 4 = .ok (.iconst 4, 1) := by decide +kernel
theorem dX8_doc_5 : decode cX8_doc 5 = .ok (.bipush 64, 2) := by decide +kernel
theorem dX8_doc_7 : decode cX8_doc 7 = .ok (.iload_n 1, 1) := by decide +kernel
theorem dX8_doc_8 : decode cX8_doc 8 = .ok (.imul, 1) := by decide +kernel
theorem dX8_doc_9 : decode cX8_doc 9 = .ok (.iadd, 1) := by decide +kernel
theorem dX8_doc_10 : decode cX8_doc 10 = .ok (.iload_n 2, 1) := by decide +kernel
theorem dX8_doc_11 : decode cX8_doc 11 = .ok (.iadd, 1) := by decide +kernel
theorem dX8_doc_12 : decode cX8_doc 12 = .ok (.iaload, 1) := by decide +kernel
theorem dX8_doc_13 : decode cX8_doc 13 = .ok (.ireturn, 1) := by decide +kernel
theorem dX8_save_0 : decode cX8_save 0 = .ok (.aload_n 0, 1) := by decide +kernel
theorem dX8_save_1 : decode cX8_save 1 = .ok (.getfield 49, 3) := by decide +kernel
theorem dX8_save_4 : decode cX8_save 4 = .ok (.iconst 4, 1) := by decide +kernel
theorem dX8_save_5 : decode cX8_save 5 = .ok (.if_icmp .ne 44, 3) := by decide +kernel
theorem dX8_save_8 : decode cX8_save 8 = .ok (.iconst 0, 1) := by decide +kernel
theorem dX8_save_9 : decode cX8_save 9 = .ok (.istore_n 1, 1) := by decide +kernel
theorem dX8_save_10 : decode cX8_save 10 = .ok (.iload_n 1, 1) := by decide +kernel
theorem dX8_save_11 : decode cX8_save 11 = .ok (.sipush 816, 3) := by decide +kernel
theorem dX8_save_14 : decode cX8_save 14 = .ok (.if_icmp .ge 25, 3) := by decide +kernel
theorem dX8_save_17 : decode cX8_save 17 = .ok (.aload_n 0, 1) := by decide +kernel
theorem dX8_save_18 : decode cX8_save 18 = .ok (.getfield 13, 3) := by decide +kernel
theorem dX8_save_21 : decode cX8_save 21 = .ok (.iload_n 1, 1) := by decide +kernel
theorem dX8_save_22 : decode cX8_save 22 = .ok (.aload_n 0, 1) := by decide +kernel
theorem dX8_save_23 : decode cX8_save 23 = .ok (.getfield 13, 3) := by decide +kernel
theorem dX8_save_26 : decode cX8_save 26 = .ok (.iload_n 1, 1) := by decide +kernel
theorem dX8_save_27 : decode cX8_save 27 = .ok (.sipush 272, 3) := by decide +kernel
theorem dX8_save_30 : decode cX8_save 30 = .ok (.iadd, 1) := by decide +kernel
theorem dX8_save_31 : decode cX8_save 31 = .ok (.iaload, 1) := by decide +kernel
theorem dX8_save_32 : decode cX8_save 32 = .ok (.iastore, 1) := by decide +kernel
theorem dX8_save_33 : decode cX8_save 33 = .ok (.iinc 1 1, 3) := by decide +kernel
theorem dX8_save_36 : decode cX8_save 36 = .ok (.goto (-26), 3) := by decide +kernel
theorem dX8_save_39 : decode cX8_save 39 = .ok (.aload_n 0, 1) := by decide +kernel
theorem dX8_save_40 : decode cX8_save 40 = .ok (.dup, 1) := by decide +kernel
theorem dX8_save_41 : decode cX8_save 41 = .ok (.getfield 49, 3) := by decide +kernel
theorem dX8_save_44 : decode cX8_save 44 = .ok (.iconst 1, 1) := by decide +kernel
theorem dX8_save_45 : decode cX8_save 45 = .ok (.isub, 1) := by decide +kernel
theorem dX8_save_46 : decode cX8_save 46 = .ok (.putfield 49, 3) := by decide +kernel
theorem dX8_save_49 : decode cX8_save 49 = .ok (.iconst 0, 1) := by decide +kernel
theorem dX8_save_50 : decode cX8_save 50 = .ok (.istore_n 1, 1) := by decide +kernel
theorem dX8_save_51 : decode cX8_save 51 = .ok (.iload_n 1, 1) := by decide +kernel
theorem dX8_save_52 : decode cX8_save 52 = .ok (.sipush 272, 3) := by decide +kernel
theorem dX8_save_55 : decode cX8_save 55 = .ok (.if_icmp .ge 30, 3) := by decide +kernel
theorem dX8_save_58 : decode cX8_save 58 = .ok (.aload_n 0, 1) := by decide +kernel
theorem dX8_save_59 : decode cX8_save 59 = .ok (.getfield 13, 3) := by decide +kernel
theorem dX8_save_62 : decode cX8_save 62 = .ok (.sipush 272, 3) := by decide +kernel
theorem dX8_save_65 : decode cX8_save 65 = .ok (.aload_n 0, 1) := by decide +kernel
theorem dX8_save_66 : decode cX8_save 66 = .ok (.getfield 49, 3) := by decide +kernel
theorem dX8_save_69 : decode cX8_save 69 = .ok (.imul, 1) := by decide +kernel
theorem dX8_save_70 : decode cX8_save 70 = .ok (.iload_n 1, 1) := by decide +kernel
theorem dX8_save_71 : decode cX8_save 71 = .ok (.iadd, 1) := by decide +kernel
theorem dX8_save_72 : decode cX8_save 72 = .ok (.aload_n 0, 1) := by decide +kernel
theorem dX8_save_73 : decode cX8_save 73 = .ok (.getfield 7, 3) := by decide +kernel
theorem dX8_save_76 : decode cX8_save 76 = .ok (.iload_n 1, 1) := by decide +kernel
theorem dX8_save_77 : decode cX8_save 77 = .ok (.iaload, 1) := by decide +kernel
theorem dX8_save_78 : decode cX8_save 78 = .ok (.iastore, 1) := by decide +kernel
theorem dX8_save_79 : decode cX8_save 79 = .ok (.iinc 1 1, 3) := by decide +kernel
theorem dX8_save_82 : decode cX8_save 82 = .ok (.goto (-31), 3) := by decide +kernel
theorem dX8_save_85 : decode cX8_save 85 = .ok (.aload_n 0, 1) := by decide +kernel
theorem dX8_save_86 : decode cX8_save 86 = .ok (.dup, 1) := by decide +kernel
theorem dX8_save_87 : decode cX8_save 87 = .ok (.getfield 49, 3) := by decide +kernel
theorem dX8_save_90 : decode cX8_save 90 = .ok (.iconst 1, 1) := by decide +kernel
theorem dX8_save_91 : decode cX8_save 91 = .ok (.iadd, 1) := by decide +kernel
theorem dX8_save_92 : decode cX8_save 92 = .ok (.putfield 49, 3) := by decide +kernel
theorem dX8_save_95 : decode cX8_save 95 = .ok (.return_, 1) := by decide +kernel
theorem dX8_drop_0 : decode cX8_drop 0 = .ok (.aload_n 0, 1) := by decide +kernel
theorem dX8_drop_1 : decode cX8_drop 1 = .ok (.getfield 7, 3) := by decide +kernel
theorem dX8_drop_4 : decode cX8_drop 4 = .ok (.sipush 261, 3) := by decide +kernel
theorem dX8_drop_7 : decode cX8_drop 7 = .ok (.dup2, 1) := by decide +kernel
theorem dX8_drop_8 : decode cX8_drop 8 = .ok (.iaload, 1) := by decide +kernel
theorem dX8_drop_9 : decode cX8_drop 9 = .ok (.iconst 1, 1) := by decide +kernel
theorem dX8_drop_10 : decode cX8_drop 10 = .ok (.isub, 1) := by decide +kernel
theorem dX8_drop_11 : decode cX8_drop 11 = .ok (.iastore, 1) := by decide +kernel
theorem dX8_drop_12 : decode cX8_drop 12 = .ok (.iload_n 1, 1) := by decide +kernel
theorem dX8_drop_13 : decode cX8_drop 13 = .ok (.istore_n 2, 1) := by decide +kernel
theorem dX8_drop_14 : decode cX8_drop 14 = .ok (.iload_n 2, 1) := by decide +kernel
theorem dX8_drop_15 : decode cX8_drop 15 = .ok (.aload_n 0, 1) := by decide +kernel
theorem dX8_drop_16 : decode cX8_drop 16 = .ok (.getfield 7, 3) := by decide +kernel
theorem dX8_drop_19 : decode cX8_drop 19 = .ok (.sipush 261, 3) := by decide +kernel
theorem dX8_drop_22 : decode cX8_drop 22 = .ok (.iaload, 1) := by decide +kernel
theorem dX8_drop_23 : decode cX8_drop 23 = .ok (.if_icmp .ge 31, 3) := by decide +kernel
theorem dX8_drop_26 : decode cX8_drop 26 = .ok (.aload_n 0, 1) := by decide +kernel
theorem dX8_drop_27 : decode cX8_drop 27 = .ok (.getfield 7, 3) := by decide +kernel
theorem dX8_drop_30 : decode cX8_drop 30 = .ok (.sipush 262, 3) := by decide +kernel
theorem dX8_drop_33 : decode cX8_drop 33 = .ok (.iload_n 2, 1) := by decide +kernel
theorem dX8_drop_34 : decode cX8_drop 34 = .ok (.iadd, 1) := by decide +kernel
theorem dX8_drop_35 : decode cX8_drop 35 = .ok (.aload_n 0, 1) := by decide +kernel
theorem dX8_drop_36 : decode cX8_drop 36 = .ok (.getfield 7, 3) := by decide +kernel
theorem dX8_drop_39 : decode cX8_drop 39 = .ok (.sipush 262, 3) := by decide +kernel
theorem dX8_drop_42 : decode cX8_drop 42 = .ok (.iload_n 2, 1) := by decide +kernel
theorem dX8_drop_43 : decode cX8_drop 43 = .ok (.iadd, 1) := by decide +kernel
theorem dX8_drop_44 : decode cX8_drop 44 = .ok (.iconst 1, 1) := by decide +kernel
theorem dX8_drop_45 : decode cX8_drop 45 = .ok (.iadd, 1) := by decide +kernel
theorem dX8_drop_46 : decode cX8_drop 46 = .ok (.iaload, 1) := by decide +kernel
theorem dX8_drop_47 : decode cX8_drop 47 = .ok (.iastore, 1) := by decide +kernel
theorem dX8_drop_48 : decode cX8_drop 48 = .ok (.iinc 2 1, 3) := by decide +kernel
theorem dX8_drop_51 : decode cX8_drop 51 = .ok (.goto (-37), 3) := by decide +kernel
theorem dX8_drop_54 : decode cX8_drop 54 = .ok (.return_, 1) := by decide +kernel
theorem dX8_changes_0 : decode cX8_changes 0 = .ok (.aload_n 0, 1) := by decide +kernel
theorem dX8_changes_1 : decode cX8_changes 1 = .ok (.getfield 22, 3) := by decide +kernel
theorem dX8_changes_4 : decode cX8_changes 4 = .ok (.iload_n 1, 1) := by decide +kernel
theorem dX8_changes_5 : decode cX8_changes 5 = .ok (.iconst 0, 1) := by decide +kernel
theorem dX8_changes_6 : decode cX8_changes 6 = .ok (.bastore, 1) := by decide +kernel
theorem dX8_changes_7 : decode cX8_changes 7 = .ok (.aload_n 0, 1) := by decide +kernel
theorem dX8_changes_8 : decode cX8_changes 8 = .ok (.getfield 7, 3) := by decide +kernel
theorem dX8_changes_11 : decode cX8_changes 11 = .ok (.sipush 261, 3) := by decide +kernel
theorem dX8_changes_14 : decode cX8_changes 14 = .ok (.iaload, 1) := by decide +kernel
theorem dX8_changes_15 : decode cX8_changes 15 = .ok (.iconst 1, 1) := by decide +kernel
theorem dX8_changes_16 : decode cX8_changes 16 = .ok (.isub, 1) := by decide +kernel
theorem dX8_changes_17 : decode cX8_changes 17 = .ok (.istore_n 2, 1) := by decide +kernel
theorem dX8_changes_18 : decode cX8_changes 18 = .ok (.iload_n 2, 1) := by decide +kernel
theorem dX8_changes_19 : decode cX8_changes 19 = .ok (.ifCond .lt 31, 3) := by decide +kernel
theorem dX8_changes_22 : decode cX8_changes 22 = .ok (.aload_n 0, 1) := by decide +kernel
theorem dX8_changes_23 : decode cX8_changes 23 = .ok (.getfield 7, 3) := by decide +kernel
theorem dX8_changes_26 : decode cX8_changes 26 = .ok (.sipush 262, 3) := by decide +kernel
theorem dX8_changes_29 : decode cX8_changes 29 = .ok (.iload_n 2, 1) := by decide +kernel
theorem dX8_changes_30 : decode cX8_changes 30 = .ok (.iadd, 1) := by decide +kernel
theorem dX8_changes_31 : decode cX8_changes 31 = .ok (.iaload, 1) := by decide +kernel
theorem dX8_changes_32 : decode cX8_changes 32 = .ok (.bipush 100, 2) := by decide +kernel
theorem dX8_changes_34 : decode cX8_changes 34 = .ok (.idiv, 1) := by decide +kernel
theorem dX8_changes_35 : decode cX8_changes 35 = .ok (.iload_n 1, 1) := by decide +kernel
theorem dX8_changes_36 : decode cX8_changes 36 = .ok (.if_icmp .ne 8, 3) := by decide +kernel
theorem dX8_changes_39 : decode cX8_changes 39 = .ok (.aload_n 0, 1) := by decide +kernel
theorem dX8_changes_40 : decode cX8_changes 40 = .ok (.iload_n 2, 1) := by decide +kernel
theorem dX8_changes_41 : decode cX8_changes 41 = .ok (.invokevirtual 52, 3) := by decide +kernel
theorem dX8_changes_44 : decode cX8_changes 44 = .ok (.iinc 2 (-1), 3) := by decide +kernel
theorem dX8_changes_47 : decode cX8_changes 47 = .ok (.goto (-29), 3) := by decide +kernel
theorem dX8_changes_50 : decode cX8_changes 50 = .ok (.return_, 1) := by decide +kernel
theorem dX8_add_0 : decode cX8_add 0 = .ok (.aload_n 0, 1) := by decide +kernel
theorem dX8_add_1 : decode cX8_add 1 = .ok (.getfield 7, 3) := by decide +kernel
theorem dX8_add_4 : decode cX8_add 4 = .ok (.iconst 4, 1) := by decide +kernel
theorem dX8_add_5 : decode cX8_add 5 = .ok (.bipush 64, 2) := by decide +kernel
theorem dX8_add_7 : decode cX8_add 7 = .ok (.iload_n 1, 1) := by decide +kernel
theorem dX8_add_8 : decode cX8_add 8 = .ok (.imul, 1) := by decide +kernel
theorem dX8_add_9 : decode cX8_add 9 = .ok (.iadd, 1) := by decide +kernel
theorem dX8_add_10 : decode cX8_add 10 = .ok (.aload_n 0, 1) := by decide +kernel
theorem dX8_add_11 : decode cX8_add 11 = .ok (.getfield 7, 3) := by decide +kernel
theorem dX8_add_14 : decode cX8_add 14 = .ok (.iload_n 1, 1) := by decide +kernel
theorem dX8_add_15 : decode cX8_add 15 = .ok (.iaload, 1) := by decide +kernel
theorem dX8_add_16 : decode cX8_add 16 = .ok (.iadd, 1) := by decide +kernel
theorem dX8_add_17 : decode cX8_add 17 = .ok (.iload_n 2, 1) := by decide +kernel
theorem dX8_add_18 : decode cX8_add 18 = .ok (.iastore, 1) := by decide +kernel
theorem dX8_add_19 : decode cX8_add 19 = .ok (.aload_n 0, 1) := by decide +kernel
theorem dX8_add_20 : decode cX8_add 20 = .ok (.getfield 7, 3) := by decide +kernel
theorem dX8_add_23 : decode cX8_add 23 = .ok (.iload_n 1, 1) := by decide +kernel
theorem dX8_add_24 : decode cX8_add 24 = .ok (.dup2, 1) := by decide +kernel
theorem dX8_add_25 : decode cX8_add 25 = .ok (.iaload, 1) := by decide +kernel
theorem dX8_add_26 : decode cX8_add 26 = .ok (.iconst 1, 1) := by decide +kernel
theorem dX8_add_27 : decode cX8_add 27 = .ok (.iadd, 1) := by decide +kernel
theorem dX8_add_28 : decode cX8_add 28 = .ok (.iastore, 1) := by decide +kernel
theorem dX8_add_29 : decode cX8_add 29 = .ok (.return_, 1) := by decide +kernel
theorem dX8_isBehind_0 : decode cX8_isBehind 0 = .ok (.aload_n 0, 1) := by decide +kernel
theorem dX8_isBehind_1 : decode cX8_isBehind 1 = .ok (.getfield 7, 3) := by decide +kernel
theorem dX8_isBehind_4 : decode cX8_isBehind 4 = .ok (.iload_n 1, 1) := by decide +kernel
theorem dX8_isBehind_5 : decode cX8_isBehind 5 = .ok (.iaload, 1) := by decide +kernel
theorem dX8_isBehind_6 : decode cX8_isBehind 6 = .ok (.ifCond .eq 20, 3) := by decide +kernel
theorem dX8_isBehind_9 : decode cX8_isBehind 9 = .ok (.aload_n 0, 1) := by decide +kernel
theorem dX8_isBehind_10 : decode cX8_isBehind 10 = .ok (.iload_n 1, 1) := by decide +kernel
theorem dX8_isBehind_11 : decode cX8_isBehind 11 = .ok (.aload_n 0, 1) := by decide +kernel
theorem dX8_isBehind_12 : decode cX8_isBehind 12 = .ok (.getfield 7, 3) := by decide +kernel
theorem dX8_isBehind_15 : decode cX8_isBehind 15 = .ok (.iload_n 1, 1) := by decide +kernel
theorem dX8_isBehind_16 : decode cX8_isBehind 16 = .ok (.iaload, 1) := by decide +kernel
theorem dX8_isBehind_17 : decode cX8_isBehind 17 = .ok (.iconst 1, 1) := by decide +kernel
theorem dX8_isBehind_18 : decode cX8_isBehind 18 = .ok (.isub, 1) := by decide +kernel
theorem dX8_isBehind_19 : decode cX8_isBehind 19 = .ok (.invokevirtual 56, 3) := by decide +kernel
theorem dX8_isBehind_22 : decode cX8_isBehind 22 = .ok (.iload_n 2, 1) := by decide +kernel
theorem dX8_isBehind_23 : decode cX8_isBehind 23 = .ok (.if_icmp .ge 7, 3) := by decide +kernel
theorem dX8_isBehind_26 : decode cX8_isBehind 26 = .ok (.iconst 1, 1) := by decide +kernel
theorem dX8_isBehind_27 : decode cX8_isBehind 27 = .ok (.goto 4, 3) := by decide +kernel
theorem dX8_isBehind_30 : decode cX8_isBehind 30 = .ok (.iconst 0, 1) := by decide +kernel
theorem dX8_isBehind_31 : decode cX8_isBehind 31 = .ok (.ireturn, 1) := by decide +kernel
theorem dX8_append_0 : decode cX8_append 0 = .ok (.aload_n 0, 1) := by decide +kernel
theorem dX8_append_1 : decode cX8_append 1 = .ok (.iconst 0, 1) := by decide +kernel
theorem dX8_append_2 : decode cX8_append 2 = .ok (.putfield 41, 3) := by decide +kernel
theorem dX8_append_5 : decode cX8_append 5 = .ok (.iload_n 1, 1) := by decide +kernel
theorem dX8_append_6 : decode cX8_append 6 = .ok (.invokestatic 60, 3) := by decide +kernel
theorem dX8_append_9 : decode cX8_append 9 = .ok (.ifCond .ne 9, 3) := by decide +kernel
theorem dX8_append_12 : decode cX8_append 12 = .ok (.aload_n 0, 1) := by decide +kernel
theorem dX8_append_13 : decode cX8_append 13 = .ok (.iconst 1, 1) := by decide +kernel
theorem dX8_append_14 : decode cX8_append 14 = .ok (.invokevirtual 64, 3) := by decide +kernel
theorem dX8_append_17 : decode cX8_append 17 = .ok (.ireturn, 1) := by decide +kernel
theorem dX8_append_18 : decode cX8_append 18 = .ok (.iload_n 2, 1) := by decide +kernel
theorem dX8_append_19 : decode cX8_append 19 = .ok (.iconst 0, 1) := by decide +kernel
theorem dX8_append_20 : decode cX8_append 20 = .ok (.sipush 511, 3) := by decide +kernel
theorem dX8_append_23 : decode cX8_append 23 = .ok (.invokestatic 45, 3) := by decide +kernel
theorem dX8_append_26 : decode cX8_append 26 = .ok (.ifCond .eq 12, 3) := by decide +kernel
theorem dX8_append_29 : decode cX8_append 29 = .ok (.aload_n 0, 1) := by decide +kernel
theorem dX8_append_30 : decode cX8_append 30 = .ok (.iload_n 1, 1) := by decide +kernel
theorem dX8_append_31 : decode cX8_append 31 = .ok (.iload_n 2, 1) := by decide +kernel
theorem dX8_append_32 : decode cX8_append 32 = .ok (.invokevirtual 68, 3) := by decide +kernel
theorem dX8_append_35 : decode cX8_append 35 = .ok (.ifCond .ne 9, 3) := by decide +kernel
theorem dX8_append_38 : decode cX8_append 38 = .ok (.aload_n 0, 1) := by decide +kernel
theorem dX8_append_39 : decode cX8_append 39 = .ok (.iconst 2, 1) := by decide +kernel
theorem dX8_append_40 : decode cX8_append 40 = .ok (.invokevirtual 64, 3) := by decide +kernel
theorem dX8_append_43 : decode cX8_append 43 = .ok (.ireturn, 1) := by decide +kernel
theorem dX8_append_44 : decode cX8_append 44 = .ok (.aload_n 0, 1) := by decide +kernel
theorem dX8_append_45 : decode cX8_append 45 = .ok (.getfield 7, 3) := by decide +kernel
theorem dX8_append_48 : decode cX8_append 48 = .ok (.iload_n 1, 1) := by decide +kernel
theorem dX8_append_49 : decode cX8_append 49 = .ok (.iaload, 1) := by decide +kernel
theorem dX8_append_50 : decode cX8_append 50 = .ok (.bipush 64, 2) := by decide +kernel
theorem dX8_append_52 : decode cX8_append 52 = .ok (.if_icmp .ne 9, 3) := by decide +kernel
theorem dX8_append_55 : decode cX8_append 55 = .ok (.aload_n 0, 1) := by decide +kernel
theorem dX8_append_56 : decode cX8_append 56 = .ok (.iconst 3, 1) := by decide +kernel
theorem dX8_append_57 : decode cX8_append 57 = .ok (.invokevirtual 64, 3) := by decide +kernel
theorem dX8_append_60 : decode cX8_append 60 = .ok (.ireturn, 1) := by decide +kernel
theorem dX8_append_61 : decode cX8_append 61 = .ok (.aload_n 0, 1) := by decide +kernel
theorem dX8_append_62 : decode cX8_append 62 = .ok (.invokevirtual 72, 3) := by decide +kernel
theorem dX8_append_65 : decode cX8_append 65 = .ok (.aload_n 0, 1) := by decide +kernel
theorem dX8_append_66 : decode cX8_append 66 = .ok (.iload_n 1, 1) := by decide +kernel
theorem dX8_append_67 : decode cX8_append 67 = .ok (.invokevirtual 75, 3) := by decide +kernel
theorem dX8_append_70 : decode cX8_append 70 = .ok (.aload_n 0, 1) := by decide +kernel
theorem dX8_append_71 : decode cX8_append 71 = .ok (.iload_n 1, 1) := by decide +kernel
theorem dX8_append_72 : decode cX8_append 72 = .ok (.iload_n 2, 1) := by decide +kernel
theorem dX8_append_73 : decode cX8_append 73 = .ok (.invokevirtual 78, 3) := by decide +kernel
theorem dX8_append_76 : decode cX8_append 76 = .ok (.aload_n 0, 1) := by decide +kernel
theorem dX8_append_77 : decode cX8_append 77 = .ok (.getfield 7, 3) := by decide +kernel
theorem dX8_append_80 : decode cX8_append 80 = .ok (.iload_n 1, 1) := by decide +kernel
theorem dX8_append_81 : decode cX8_append 81 = .ok (.iaload, 1) := by decide +kernel
theorem dX8_append_82 : decode cX8_append 82 = .ok (.ireturn, 1) := by decide +kernel
theorem dX8_appendRange_0 : decode cX8_appendRange 0 = .ok (.aload_n 0, 1) := by decide +kernel
theorem dX8_appendRange_1 : decode cX8_appendRange 1 = .ok (.iconst 0, 1) := by decide +kernel
theorem dX8_appendRange_2 : decode cX8_appendRange 2 = .ok (.putfield 41, 3) := by decide +kernel
theorem dX8_appendRange_5 : decode cX8_appendRange 5 = .ok (.iload_n 1, 1) := by decide +kernel
theorem dX8_appendRange_6 : decode cX8_appendRange 6 = .ok (.invokestatic 60, 3) := by decide +kernel
theorem dX8_appendRange_9 : decode cX8_appendRange 9 = .ok (.ifCond .ne 9, 3) := by decide +kernel
theorem dX8_appendRange_12 : decode cX8_appendRange 12 = .ok (.aload_n 0, 1) := by decide +kernel
theorem dX8_appendRange_13 : decode cX8_appendRange 13 = .ok (.iconst 1, 1) := by decide +kernel
theorem dX8_appendRange_14 : decode cX8_appendRange 14 = .ok (.invokevirtual 64, 3) := by decide +kernel
theorem dX8_appendRange_17 : decode cX8_appendRange 17 = .ok (.ireturn, 1) := by decide +kernel
theorem dX8_appendRange_18 : decode cX8_appendRange 18 = .ok (.iload_n 2, 1) := by decide +kernel
theorem dX8_appendRange_19 : decode cX8_appendRange 19 = .ok (.iconst 0, 1) := by decide +kernel
theorem dX8_appendRange_20 : decode cX8_appendRange 20 = .ok (.sipush 511, 3) := by decide +kernel
theorem dX8_appendRange_23 : decode cX8_appendRange 23 = .ok (.invokestatic 45, 3) := by decide +kernel
theorem dX8_appendRange_26 : decode cX8_appendRange 26 = .ok (.ifCond .eq 48, 3) := by decide +kernel
theorem dX8_appendRange_29 : decode cX8_appendRange 29 = .ok (.iload_n 3, 1) := by decide +kernel
theorem dX8_appendRange_30 : decode cX8_appendRange 30 = .ok (.iconst 1, 1) := by decide +kernel
theorem dX8_appendRange_31 : decode cX8_appendRange 31 = .ok (.sipush 511, 3) := by decide +kernel
theorem dX8_appendRange_34 : decode cX8_appendRange 34 = .ok (.invokestatic 45, 3) := by decide +kernel
theorem dX8_appendRange_37 : decode cX8_appendRange 37 = .ok (.ifCond .eq 37, 3) := by decide +kernel
theorem dX8_appendRange_40 : decode cX8_appendRange 40 = .ok (.iload 4, 2) := by decide +kernel
theorem dX8_appendRange_42 : decode cX8_appendRange 42 = .ok (.iconst 1, 1) := by decide +kernel
theorem dX8_appendRange_43 : decode cX8_appendRange 43 = .ok (.bipush 64, 2) := by decide +kernel
theorem dX8_appendRange_45 : decode cX8_appendRange 45 = .ok (.invokestatic 45, 3) := by decide +kernel
theorem dX8_appendRange_48 : decode cX8_appendRange 48 = .ok (.ifCond .eq 26, 3) := by decide +kernel
theorem dX8_appendRange_51 : decode cX8_appendRange 51 = .ok (.iload_n 2, 1) := by decide +kernel
theorem dX8_appendRange_52 : decode cX8_appendRange 52 = .ok (.iload_n 3, 1) := by decide +kernel
theorem dX8_appendRange_53 : decode cX8_appendRange 53 = .ok (.iload 4, 2) := by decide +kernel
theorem dX8_appendRange_55 : decode cX8_appendRange 55 = .ok (.iconst 1, 1) := by decide +kernel
theorem dX8_appendRange_56 : decode cX8_appendRange 56 = .ok (.isub, 1) := by decide +kernel
theorem dX8_appendRange_57 : decode cX8_appendRange 57 = .ok (.imul, 1) := by decide +kernel
theorem dX8_appendRange_58 : decode cX8_appendRange 58 = .ok (.iadd, 1) := by decide +kernel
theorem dX8_appendRange_59 : decode cX8_appendRange 59 = .ok (.sipush 511, 3) := by decide +kernel
theorem dX8_appendRange_62 : decode cX8_appendRange 62 = .ok (.if_icmp .gt 12, 3) := by decide +kernel
theorem dX8_appendRange_65 : decode cX8_appendRange 65 = .ok (.aload_n 0, 1) := by decide +kernel
theorem dX8_appendRange_66 : decode cX8_appendRange 66 = .ok (.iload_n 1, 1) := by decide +kernel
theorem dX8_appendRange_67 : decode cX8_appendRange 67 = .ok (.iload_n 2, 1) := by decide +kernel
theorem dX8_appendRange_68 : decode cX8_appendRange 68 = .ok (.invokevirtual 68, 3) := by decide +kernel
theorem dX8_appendRange_71 : decode cX8_appendRange 71 = .ok (.ifCond .ne 9, 3) := by decide +kernel
theorem dX8_appendRange_74 : decode cX8_appendRange 74 = .ok (.aload_n 0, 1) := by decide +kernel
theorem dX8_appendRange_75 : decode cX8_appendRange 75 = .ok (.iconst 2, 1) := by decide +kernel
theorem dX8_appendRange_76 : decode cX8_appendRange 76 = .ok (.invokevirtual 64, 3) := by decide +kernel
theorem dX8_appendRange_79 : decode cX8_appendRange 79 = .ok (.ireturn, 1) := by decide +kernel
theorem dX8_appendRange_80 : decode cX8_appendRange 80 = .ok (.aload_n 0, 1) := by decide +kernel
theorem dX8_appendRange_81 : decode cX8_appendRange 81 = .ok (.getfield 7, 3) := by decide +kernel
theorem dX8_appendRange_84 : decode cX8_appendRange 84 = .ok (.iload_n 1, 1) := by decide +kernel
theorem dX8_appendRange_85 : decode cX8_appendRange 85 = .ok (.iaload, 1) := by decide +kernel
theorem dX8_appendRange_86 : decode cX8_appendRange 86 = .ok (.iload 4, 2) := by decide +kernel
theorem dX8_appendRange_88 : decode cX8_appendRange 88 = .ok (.iadd, 1) := by decide +kernel
theorem dX8_appendRange_89 : decode cX8_appendRange 89 = .ok (.bipush 64, 2) := by decide +kernel
theorem dX8_appendRange_91 : decode cX8_appendRange 91 = .ok (.if_icmp .le 9, 3) := by decide +kernel
theorem dX8_appendRange_94 : decode cX8_appendRange 94 = .ok (.aload_n 0, 1) := by decide +kernel
theorem dX8_appendRange_95 : decode cX8_appendRange 95 = .ok (.iconst 3, 1) := by decide +kernel
theorem dX8_appendRange_96 : decode cX8_appendRange 96 = .ok (.invokevirtual 64, 3) := by decide +kernel
theorem dX8_appendRange_99 : decode cX8_appendRange 99 = .ok (.ireturn, 1) := by decide +kernel
theorem dX8_appendRange_100 : decode cX8_appendRange 100 = .ok (.aload_n 0, 1) := by decide +kernel
theorem dX8_appendRange_101 : decode cX8_appendRange 101 = .ok (.invokevirtual 72, 3) := by decide +kernel
theorem dX8_appendRange_104 : decode cX8_appendRange 104 = .ok (.aload_n 0, 1) := by decide +kernel
theorem dX8_appendRange_105 : decode cX8_appendRange 105 = .ok (.iload_n 1, 1) := by decide +kernel
theorem dX8_appendRange_106 : decode cX8_appendRange 106 = .ok (.invokevirtual 75, 3) := by decide +kernel
theorem dX8_appendRange_109 : decode cX8_appendRange 109 = .ok (.iconst 0, 1) := by decide +kernel
theorem dX8_appendRange_110 : decode cX8_appendRange 110 = .ok (.istore 5, 2) := by decide +kernel
theorem dX8_appendRange_112 : decode cX8_appendRange 112 = .ok (.iload 5, 2) := by decide +kernel
theorem dX8_appendRange_114 : decode cX8_appendRange 114 = .ok (.iload 4, 2) := by decide +kernel
theorem dX8_appendRange_116 : decode cX8_appendRange 116 = .ok (.if_icmp .ge 20, 3) := by decide +kernel
theorem dX8_appendRange_119 : decode cX8_appendRange 119 = .ok (.aload_n 0, 1) := by decide +kernel
theorem dX8_appendRange_120 : decode cX8_appendRange 120 = .ok (.iload_n 1, 1) := by decide +kernel
theorem dX8_appendRange_121 : decode cX8_appendRange 121 = .ok (.iload_n 2, 1) := by decide +kernel
theorem dX8_appendRange_122 : decode cX8_appendRange 122 = .ok (.iload_n 3, 1) := by decide +kernel
theorem dX8_appendRange_123 : decode cX8_appendRange 123 = .ok (.iload 5, 2) := by decide +kernel
theorem dX8_appendRange_125 : decode cX8_appendRange 125 = .ok (.imul, 1) := by decide +kernel
theorem dX8_appendRange_126 : decode cX8_appendRange 126 = .ok (.iadd, 1) := by decide +kernel
theorem dX8_appendRange_127 : decode cX8_appendRange 127 = .ok (.invokevirtual 78, 3) := by decide +kernel
theorem dX8_appendRange_130 : decode cX8_appendRange 130 = .ok (.iinc 5 1, 3) := by decide +kernel
theorem dX8_appendRange_133 : decode cX8_appendRange 133 = .ok (.goto (-21), 3) := by decide +kernel
theorem dX8_appendRange_136 : decode cX8_appendRange 136 = .ok (.aload_n 0, 1) := by decide +kernel
theorem dX8_appendRange_137 : decode cX8_appendRange 137 = .ok (.getfield 7, 3) := by decide +kernel
theorem dX8_appendRange_140 : decode cX8_appendRange 140 = .ok (.iload_n 1, 1) := by decide +kernel
theorem dX8_appendRange_141 : decode cX8_appendRange 141 = .ok (.iaload, 1) := by decide +kernel
theorem dX8_appendRange_142 : decode cX8_appendRange 142 = .ok (.ireturn, 1) := by decide +kernel
theorem dX8_clear_0 : decode cX8_clear 0 = .ok (.aload_n 0, 1) := by decide +kernel
theorem dX8_clear_1 : decode cX8_clear 1 = .ok (.iconst 0, 1) := by decide +kernel
theorem dX8_clear_2 : decode cX8_clear 2 = .ok (.putfield 41, 3) := by decide +kernel
theorem dX8_clear_5 : decode cX8_clear 5 = .ok (.iload_n 1, 1) := by decide +kernel
theorem dX8_clear_6 : decode cX8_clear 6 = .ok (.invokestatic 60, 3) := by decide +kernel
theorem dX8_clear_9 : decode cX8_clear 9 = .ok (.ifCond .ne 9, 3) := by decide +kernel
theorem dX8_clear_12 : decode cX8_clear 12 = .ok (.aload_n 0, 1) := by decide +kernel
theorem dX8_clear_13 : decode cX8_clear 13 = .ok (.iconst 1, 1) := by decide +kernel
theorem dX8_clear_14 : decode cX8_clear 14 = .ok (.invokevirtual 64, 3) := by decide +kernel
theorem dX8_clear_17 : decode cX8_clear 17 = .ok (.ireturn, 1) := by decide +kernel
theorem dX8_clear_18 : decode cX8_clear 18 = .ok (.aload_n 0, 1) := by decide +kernel
theorem dX8_clear_19 : decode cX8_clear 19 = .ok (.invokevirtual 72, 3) := by decide +kernel
theorem dX8_clear_22 : decode cX8_clear 22 = .ok (.aload_n 0, 1) := by decide +kernel
theorem dX8_clear_23 : decode cX8_clear 23 = .ok (.iload_n 1, 1) := by decide +kernel
theorem dX8_clear_24 : decode cX8_clear 24 = .ok (.invokevirtual 75, 3) := by decide +kernel
theorem dX8_clear_27 : decode cX8_clear 27 = .ok (.aload_n 0, 1) := by decide +kernel
theorem dX8_clear_28 : decode cX8_clear 28 = .ok (.getfield 7, 3) := by decide +kernel
theorem dX8_clear_31 : decode cX8_clear 31 = .ok (.iload_n 1, 1) := by decide +kernel
theorem dX8_clear_32 : decode cX8_clear 32 = .ok (.iaload, 1) := by decide +kernel
theorem dX8_clear_33 : decode cX8_clear 33 = .ok (.istore_n 2, 1) := by decide +kernel
theorem dX8_clear_34 : decode cX8_clear 34 = .ok (.aload_n 0, 1) := by decide +kernel
theorem dX8_clear_35 : decode cX8_clear 35 = .ok (.getfield 7, 3) := by decide +kernel
theorem dX8_clear_38 : decode cX8_clear 38 = .ok (.iload_n 1, 1) := by decide +kernel
theorem dX8_clear_39 : decode cX8_clear 39 = .ok (.iconst 0, 1) := by decide +kernel
theorem dX8_clear_40 : decode cX8_clear 40 = .ok (.iastore, 1) := by decide +kernel
theorem dX8_clear_41 : decode cX8_clear 41 = .ok (.iload_n 2, 1) := by decide +kernel
theorem dX8_clear_42 : decode cX8_clear 42 = .ok (.ireturn, 1) := by decide +kernel
theorem dX8_size_0 : decode cX8_size 0 = .ok (.aload_n 0, 1) := by decide +kernel
theorem dX8_size_1 : decode cX8_size 1 = .ok (.iconst 0, 1) := by decide +kernel
theorem dX8_size_2 : decode cX8_size 2 = .ok (.putfield 41, 3) := by decide +kernel
theorem dX8_size_5 : decode cX8_size 5 = .ok (.iload_n 1, 1) := by decide +kernel
theorem dX8_size_6 : decode cX8_size 6 = .ok (.invokestatic 60, 3) := by decide +kernel
theorem dX8_size_9 : decode cX8_size 9 = .ok (.ifCond .eq 12, 3) := by decide +kernel
theorem dX8_size_12 : decode cX8_size 12 = .ok (.aload_n 0, 1) := by decide +kernel
theorem dX8_size_13 : decode cX8_size 13 = .ok (.getfield 7, 3) := by decide +kernel
theorem dX8_size_16 : decode cX8_size 16 = .ok (.iload_n 1, 1) := by decide +kernel
theorem dX8_size_17 : decode cX8_size 17 = .ok (.iaload, 1) := by decide +kernel
theorem dX8_size_18 : decode cX8_size 18 = .ok (.goto 8, 3) := by decide +kernel
theorem dX8_size_21 : decode cX8_size 21 = .ok (.aload_n 0, 1) := by decide +kernel
theorem dX8_size_22 : decode cX8_size 22 = .ok (.iconst 1, 1) := by decide +kernel
theorem dX8_size_23 : decode cX8_size 23 = .ok (.invokevirtual 64, 3) := by decide +kernel
theorem dX8_size_26 : decode cX8_size 26 = .ok (.ireturn, 1) := by decide +kernel
theorem dX8_document_0 : decode cX8_document 0 = .ok (.aload_n 0, 1) := by decide +kernel
theorem dX8_document_1 : decode cX8_document 1 = .ok (.iconst 0, 1) := by decide +kernel
theorem dX8_document_2 : decode cX8_document 2 = .ok (.putfield 41, 3) := by decide +kernel
theorem dX8_document_5 : decode cX8_document 5 = .ok (.iload_n 1, 1) := by decide +kernel
theorem dX8_document_6 : decode cX8_document 6 = .ok (.invokestatic 60, 3) := by decide +kernel
theorem dX8_document_9 : decode cX8_document 9 = .ok (.ifCond .eq 28, 3) := by decide +kernel
theorem dX8_document_12 : decode cX8_document 12 = .ok (.iload_n 2, 1) := by decide +kernel
theorem dX8_document_13 : decode cX8_document 13 = .ok (.iconst 0, 1) := by decide +kernel
theorem dX8_document_14 : decode cX8_document 14 = .ok (.aload_n 0, 1) := by decide +kernel
theorem dX8_document_15 : decode cX8_document 15 = .ok (.getfield 7, 3) := by decide +kernel
theorem dX8_document_18 : decode cX8_document 18 = .ok (.iload_n 1, 1) := by decide +kernel
theorem dX8_document_19 : decode cX8_document 19 = .ok (.iaload, 1) := by decide +kernel
theorem dX8_document_20 : decode cX8_document 20 = .ok (.iconst 1, 1) := by decide +kernel
theorem dX8_document_21 : decode cX8_document 21 = .ok (.isub, 1) := by decide +kernel
theorem dX8_document_22 : decode cX8_document 22 = .ok (.invokestatic 45, 3) := by decide +kernel
theorem dX8_document_25 : decode cX8_document 25 = .ok (.ifCond .eq 12, 3) := by decide +kernel
theorem dX8_document_28 : decode cX8_document 28 = .ok (.aload_n 0, 1) := by decide +kernel
theorem dX8_document_29 : decode cX8_document 29 = .ok (.iload_n 1, 1) := by decide +kernel
theorem dX8_document_30 : decode cX8_document 30 = .ok (.iload_n 2, 1) := by decide +kernel
theorem dX8_document_31 : decode cX8_document 31 = .ok (.invokevirtual 56, 3) := by decide +kernel
theorem dX8_document_34 : decode cX8_document 34 = .ok (.goto 8, 3) := by decide +kernel
theorem dX8_document_37 : decode cX8_document 37 = .ok (.aload_n 0, 1) := by decide +kernel
theorem dX8_document_38 : decode cX8_document 38 = .ok (.iconst 1, 1) := by decide +kernel
theorem dX8_document_39 : decode cX8_document 39 = .ok (.invokevirtual 64, 3) := by decide +kernel
theorem dX8_document_42 : decode cX8_document 42 = .ok (.ireturn, 1) := by decide +kernel
theorem dX8_rank_0 : decode cX8_rank 0 = .ok (.aload_n 0, 1) := by decide +kernel
theorem dX8_rank_1 : decode cX8_rank 1 = .ok (.iconst 0, 1) := by decide +kernel
theorem dX8_rank_2 : decode cX8_rank 2 = .ok (.putfield 41, 3) := by decide +kernel
theorem dX8_rank_5 : decode cX8_rank 5 = .ok (.iload_n 1, 1) := by decide +kernel
theorem dX8_rank_6 : decode cX8_rank 6 = .ok (.invokestatic 60, 3) := by decide +kernel
theorem dX8_rank_9 : decode cX8_rank 9 = .ok (.ifCond .ne 9, 3) := by decide +kernel
theorem dX8_rank_12 : decode cX8_rank 12 = .ok (.aload_n 0, 1) := by decide +kernel
theorem dX8_rank_13 : decode cX8_rank 13 = .ok (.iconst 1, 1) := by decide +kernel
theorem dX8_rank_14 : decode cX8_rank 14 = .ok (.invokevirtual 64, 3) := by decide +kernel
theorem dX8_rank_17 : decode cX8_rank 17 = .ok (.ireturn, 1) := by decide +kernel
theorem dX8_rank_18 : decode cX8_rank 18 = .ok (.iload_n 2, 1) := by decide +kernel
theorem dX8_rank_19 : decode cX8_rank 19 = .ok (.iconst 0, 1) := by decide +kernel
theorem dX8_rank_20 : decode cX8_rank 20 = .ok (.sipush 512, 3) := by decide +kernel
theorem dX8_rank_23 : decode cX8_rank 23 = .ok (.invokestatic 45, 3) := by decide +kernel
theorem dX8_rank_26 : decode cX8_rank 26 = .ok (.ifCond .ne 9, 3) := by decide +kernel
theorem dX8_rank_29 : decode cX8_rank 29 = .ok (.aload_n 0, 1) := by decide +kernel
theorem dX8_rank_30 : decode cX8_rank 30 = .ok (.iconst 2, 1) := by decide +kernel
theorem dX8_rank_31 : decode cX8_rank 31 = .ok (.invokevirtual 64, 3) := by decide +kernel
theorem dX8_rank_34 : decode cX8_rank 34 = .ok (.ireturn, 1) := by decide +kernel
theorem dX8_rank_35 : decode cX8_rank 35 = .ok (.iconst 0, 1) := by decide +kernel
theorem dX8_rank_36 : decode cX8_rank 36 = .ok (.istore_n 3, 1) := by decide +kernel
theorem dX8_rank_37 : decode cX8_rank 37 = .ok (.iconst 0, 1) := by decide +kernel
theorem dX8_rank_38 : decode cX8_rank 38 = .ok (.istore 4, 2) := by decide +kernel
theorem dX8_rank_40 : decode cX8_rank 40 = .ok (.iload 4, 2) := by decide +kernel
theorem dX8_rank_42 : decode cX8_rank 42 = .ok (.aload_n 0, 1) := by decide +kernel
theorem dX8_rank_43 : decode cX8_rank 43 = .ok (.getfield 7, 3) := by decide +kernel
theorem dX8_rank_46 : decode cX8_rank 46 = .ok (.iload_n 1, 1) := by decide +kernel
theorem dX8_rank_47 : decode cX8_rank 47 = .ok (.iaload, 1) := by decide +kernel
theorem dX8_rank_48 : decode cX8_rank 48 = .ok (.if_icmp .ge 28, 3) := by decide +kernel
theorem dX8_rank_51 : decode cX8_rank 51 = .ok (.iload_n 3, 1) := by decide +kernel
theorem dX8_rank_52 : decode cX8_rank 52 = .ok (.aload_n 0, 1) := by decide +kernel
theorem dX8_rank_53 : decode cX8_rank 53 = .ok (.iload_n 1, 1) := by decide +kernel
theorem dX8_rank_54 : decode cX8_rank 54 = .ok (.iload 4, 2) := by decide +kernel
theorem dX8_rank_56 : decode cX8_rank 56 = .ok (.invokevirtual 56, 3) := by decide +kernel
theorem dX8_rank_59 : decode cX8_rank 59 = .ok (.iload_n 2, 1) := by decide +kernel
theorem dX8_rank_60 : decode cX8_rank 60 = .ok (.if_icmp .ge 7, 3) := by decide +kernel
theorem dX8_rank_63 : decode cX8_rank 63 = .ok (.iconst 1, 1) := by decide +kernel
theorem dX8_rank_64 : decode cX8_rank 64 = .ok (.goto 4, 3) := by decide +kernel
theorem dX8_rank_67 : decode cX8_rank 67 = .ok (.iconst 0, 1) := by decide +kernel
theorem dX8_rank_68 : decode cX8_rank 68 = .ok (.iadd, 1) := by decide +kernel
theorem dX8_rank_69 : decode cX8_rank 69 = .ok (.istore_n 3, 1) := by decide +kernel
theorem dX8_rank_70 : decode cX8_rank 70 = .ok (.iinc 4 1, 3) := by decide +kernel
theorem dX8_rank_73 : decode cX8_rank 73 = .ok (.goto (-33), 3) := by decide +kernel
theorem dX8_rank_76 : decode cX8_rank 76 = .ok (.iload_n 3, 1) := by decide +kernel
theorem dX8_rank_77 : decode cX8_rank 77 = .ok (.ireturn, 1) := by decide +kernel
theorem dX8_lowBits_0 : decode cX8_lowBits 0 = .ok (.iconst 0, 1) := by decide +kernel
theorem dX8_lowBits_1 : decode cX8_lowBits 1 = .ok (.istore_n 2, 1) := by decide +kernel
theorem dX8_lowBits_2 : decode cX8_lowBits 2 = .ok (.iload_n 0, 1) := by decide +kernel
theorem dX8_lowBits_3 : decode cX8_lowBits 3 = .ok (.iload_n 2, 1) := by decide +kernel
theorem dX8_lowBits_4 : decode cX8_lowBits 4 = .ok (.iconst 1, 1) := by decide +kernel
theorem dX8_lowBits_5 : decode cX8_lowBits 5 = .ok (.iadd, 1) := by decide +kernel
theorem dX8_lowBits_6 : decode cX8_lowBits 6 = .ok (.ishl, 1) := by decide +kernel
theorem dX8_lowBits_7 : decode cX8_lowBits 7 = .ok (.iload_n 1, 1) := by decide +kernel
theorem dX8_lowBits_8 : decode cX8_lowBits 8 = .ok (.if_icmp .gt 9, 3) := by decide +kernel
theorem dX8_lowBits_11 : decode cX8_lowBits 11 = .ok (.iinc 2 1, 3) := by decide +kernel
theorem dX8_lowBits_14 : decode cX8_lowBits 14 = .ok (.goto (-12), 3) := by decide +kernel
theorem dX8_lowBits_17 : decode cX8_lowBits 17 = .ok (.iload_n 2, 1) := by decide +kernel
theorem dX8_lowBits_18 : decode cX8_lowBits 18 = .ok (.ireturn, 1) := by decide +kernel
theorem dX8_sparse_0 : decode cX8_sparse 0 = .ok (.iload_n 0, 1) := by decide +kernel
theorem dX8_sparse_1 : decode cX8_sparse 1 = .ok (.iload_n 1, 1) := by decide +kernel
theorem dX8_sparse_2 : decode cX8_sparse 2 = .ok (.invokestatic 82, 3) := by decide +kernel
theorem dX8_sparse_5 : decode cX8_sparse 5 = .ok (.istore_n 2, 1) := by decide +kernel
theorem dX8_sparse_6 : decode cX8_sparse 6 = .ok (.iload_n 0, 1) := by decide +kernel
theorem dX8_sparse_7 : decode cX8_sparse 7 = .ok (.iload_n 1, 1) := by decide +kernel
theorem dX8_sparse_8 : decode cX8_sparse 8 = .ok (.iconst 1, 1) := by decide +kernel
theorem dX8_sparse_9 : decode cX8_sparse 9 = .ok (.isub, 1) := by decide +kernel
theorem dX8_sparse_10 : decode cX8_sparse 10 = .ok (.iload_n 2, 1) := by decide +kernel
theorem dX8_sparse_11 : decode cX8_sparse 11 = .ok (.ishr, 1) := by decide +kernel
theorem dX8_sparse_12 : decode cX8_sparse 12 = .ok (.iadd, 1) := by decide +kernel
theorem dX8_sparse_13 : decode cX8_sparse 13 = .ok (.iconst 1, 1) := by decide +kernel
theorem dX8_sparse_14 : decode cX8_sparse 14 = .ok (.iadd, 1) := by decide +kernel
theorem dX8_sparse_15 : decode cX8_sparse 15 = .ok (.iload_n 0, 1) := by decide +kernel
theorem dX8_sparse_16 : decode cX8_sparse 16 = .ok (.iload_n 2, 1) := by decide +kernel
theorem dX8_sparse_17 : decode cX8_sparse 17 = .ok (.imul, 1) := by decide +kernel
theorem dX8_sparse_18 : decode cX8_sparse 18 = .ok (.iadd, 1) := by decide +kernel
theorem dX8_sparse_19 : decode cX8_sparse 19 = .ok (.ireturn, 1) := by decide +kernel
theorem dX8_kindOf_0 : decode cX8_kindOf 0 = .ok (.iload_n 0, 1) := by decide +kernel
theorem dX8_kindOf_1 : decode cX8_kindOf 1 = .ok (.iload_n 1, 1) := by decide +kernel
theorem dX8_kindOf_2 : decode cX8_kindOf 2 = .ok (.if_icmp .ne 7, 3) := by decide +kernel
theorem dX8_kindOf_5 : decode cX8_kindOf 5 = .ok (.iconst 0, 1) := by decide +kernel
theorem dX8_kindOf_6 : decode cX8_kindOf 6 = .ok (.goto 17, 3) := by decide +kernel
theorem dX8_kindOf_9 : decode cX8_kindOf 9 = .ok (.iload_n 1, 1) := by decide +kernel
theorem dX8_kindOf_10 : decode cX8_kindOf 10 = .ok (.iload_n 0, 1) := by decide +kernel
theorem dX8_kindOf_11 : decode cX8_kindOf 11 = .ok (.iload_n 1, 1) := by decide +kernel
theorem dX8_kindOf_12 : decode cX8_kindOf 12 = .ok (.invokestatic 85, 3) := by decide +kernel
theorem dX8_kindOf_15 : decode cX8_kindOf 15 = .ok (.if_icmp .gt 7, 3) := by decide +kernel
theorem dX8_kindOf_18 : decode cX8_kindOf 18 = .ok (.iconst 1, 1) := by decide +kernel
theorem dX8_kindOf_19 : decode cX8_kindOf 19 = .ok (.goto 4, 3) := by decide +kernel
theorem dX8_kindOf_22 : decode cX8_kindOf 22 = .ok (.iconst 2, 1) := by decide +kernel
theorem dX8_kindOf_23 : decode cX8_kindOf 23 = .ok (.ireturn, 1) := by decide +kernel
theorem dX8_sizeOf_0 : decode cX8_sizeOf 0 = .ok (.aload_n 0, 1) := by decide +kernel
theorem dX8_sizeOf_1 : decode cX8_sizeOf 1 = .ok (.iload_n 1, 1) := by decide +kernel
theorem dX8_sizeOf_2 : decode cX8_sizeOf 2 = .ok (.iload_n 3, 1) := by decide +kernel
theorem dX8_sizeOf_3 : decode cX8_sizeOf 3 = .ok (.iconst 1, 1) := by decide +kernel
theorem dX8_sizeOf_4 : decode cX8_sizeOf 4 = .ok (.isub, 1) := by decide +kernel
theorem dX8_sizeOf_5 : decode cX8_sizeOf 5 = .ok (.invokevirtual 56, 3) := by decide +kernel
theorem dX8_sizeOf_8 : decode cX8_sizeOf 8 = .ok (.aload_n 0, 1) := by decide +kernel
theorem dX8_sizeOf_9 : decode cX8_sizeOf 9 = .ok (.iload_n 1, 1) := by decide +kernel
theorem dX8_sizeOf_10 : decode cX8_sizeOf 10 = .ok (.iload_n 2, 1) := by decide +kernel
theorem dX8_sizeOf_11 : decode cX8_sizeOf 11 = .ok (.invokevirtual 56, 3) := by decide +kernel
theorem dX8_sizeOf_14 : decode cX8_sizeOf 14 = .ok (.isub, 1) := by decide +kernel
theorem dX8_sizeOf_15 : decode cX8_sizeOf 15 = .ok (.iconst 1, 1) := by decide +kernel
theorem dX8_sizeOf_16 : decode cX8_sizeOf 16 = .ok (.iadd, 1) := by decide +kernel
theorem dX8_sizeOf_17 : decode cX8_sizeOf 17 = .ok (.istore 4, 2) := by decide +kernel
theorem dX8_sizeOf_19 : decode cX8_sizeOf 19 = .ok (.iload_n 3, 1) := by decide +kernel
theorem dX8_sizeOf_20 : decode cX8_sizeOf 20 = .ok (.iload_n 2, 1) := by decide +kernel
theorem dX8_sizeOf_21 : decode cX8_sizeOf 21 = .ok (.isub, 1) := by decide +kernel
theorem dX8_sizeOf_22 : decode cX8_sizeOf 22 = .ok (.iload 4, 2) := by decide +kernel
theorem dX8_sizeOf_24 : decode cX8_sizeOf 24 = .ok (.invokestatic 88, 3) := by decide +kernel
theorem dX8_sizeOf_27 : decode cX8_sizeOf 27 = .ok (.istore 5, 2) := by decide +kernel
theorem dX8_sizeOf_29 : decode cX8_sizeOf 29 = .ok (.bipush 26, 2) := by decide +kernel
theorem dX8_sizeOf_31 : decode cX8_sizeOf 31 = .ok (.iload 5, 2) := by decide +kernel
theorem dX8_sizeOf_33 : decode cX8_sizeOf 33 = .ok (.ifCond .ne 7, 3) := by decide +kernel
theorem dX8_sizeOf_36 : decode cX8_sizeOf 36 = .ok (.iconst 0, 1) := by decide +kernel
theorem dX8_sizeOf_37 : decode cX8_sizeOf 37 = .ok (.goto 22, 3) := by decide +kernel
theorem dX8_sizeOf_40 : decode cX8_sizeOf 40 = .ok (.iload 5, 2) := by decide +kernel
theorem dX8_sizeOf_42 : decode cX8_sizeOf 42 = .ok (.iconst 1, 1) := by decide +kernel
theorem dX8_sizeOf_43 : decode cX8_sizeOf 43 = .ok (.if_icmp .ne 8, 3) := by decide +kernel
theorem dX8_sizeOf_46 : decode cX8_sizeOf 46 = .ok (.iload 4, 2) := by decide +kernel
theorem dX8_sizeOf_48 : decode cX8_sizeOf 48 = .ok (.goto 11, 3) := by decide +kernel
theorem dX8_sizeOf_51 : decode cX8_sizeOf 51 = .ok (.iload_n 3, 1) := by decide +kernel
theorem dX8_sizeOf_52 : decode cX8_sizeOf 52 = .ok (.iload_n 2, 1) := by decide +kernel
theorem dX8_sizeOf_53 : decode cX8_sizeOf 53 = .ok (.isub, 1) := by decide +kernel
theorem dX8_sizeOf_54 : decode cX8_sizeOf 54 = .ok (.iload 4, 2) := by decide +kernel
theorem dX8_sizeOf_56 : decode cX8_sizeOf 56 = .ok (.invokestatic 85, 3) := by decide +kernel
theorem dX8_sizeOf_59 : decode cX8_sizeOf 59 = .ok (.iadd, 1) := by decide +kernel
theorem dX8_sizeOf_60 : decode cX8_sizeOf 60 = .ok (.ireturn, 1) := by decide +kernel
theorem dX8_lay_0 : decode cX8_lay 0 = .ok (.aload_n 0, 1) := by decide +kernel
theorem dX8_lay_1 : decode cX8_lay 1 = .ok (.getfield 22, 3) := by decide +kernel
theorem dX8_lay_4 : decode cX8_lay 4 = .ok (.iload_n 1, 1) := by decide +kernel
theorem dX8_lay_5 : decode cX8_lay 5 = .ok (.baload, 1) := by decide +kernel
theorem dX8_lay_6 : decode cX8_lay 6 = .ok (.ifCond .eq 4, 3) := by decide +kernel
theorem dX8_lay_9 : decode cX8_lay 9 = .ok (.return_, 1) := by decide +kernel
theorem dX8_lay_10 : decode cX8_lay 10 = .ok (.aload_n 0, 1) := by decide +kernel
theorem dX8_lay_11 : decode cX8_lay 11 = .ok (.getfield 22, 3) := by decide +kernel
theorem dX8_lay_14 : decode cX8_lay 14 = .ok (.iload_n 1, 1) := by decide +kernel
theorem dX8_lay_15 : decode cX8_lay 15 = .ok (.iconst 1, 1) := by decide +kernel
theorem dX8_lay_16 : decode cX8_lay 16 = .ok (.bastore, 1) := by decide +kernel
theorem dX8_lay_17 : decode cX8_lay 17 = .ok (.aload_n 0, 1) := by decide +kernel
theorem dX8_lay_18 : decode cX8_lay 18 = .ok (.getfield 7, 3) := by decide +kernel
theorem dX8_lay_21 : decode cX8_lay 21 = .ok (.iload_n 1, 1) := by decide +kernel
theorem dX8_lay_22 : decode cX8_lay 22 = .ok (.iaload, 1) := by decide +kernel
theorem dX8_lay_23 : decode cX8_lay 23 = .ok (.istore_n 2, 1) := by decide +kernel
theorem dX8_lay_24 : decode cX8_lay 24 = .ok (.aload_n 0, 1) := by decide +kernel
theorem dX8_lay_25 : decode cX8_lay 25 = .ok (.getfield 26, 3) := by decide +kernel
theorem dX8_lay_28 : decode cX8_lay 28 = .ok (.iload_n 2, 1) := by decide +kernel
theorem dX8_lay_29 : decode cX8_lay 29 = .ok (.iconst 0, 1) := by decide +kernel
theorem dX8_lay_30 : decode cX8_lay 30 = .ok (.iastore, 1) := by decide +kernel
theorem dX8_lay_31 : decode cX8_lay 31 = .ok (.aload_n 0, 1) := by decide +kernel
theorem dX8_lay_32 : decode cX8_lay 32 = .ok (.getfield 29, 3) := by decide +kernel
theorem dX8_lay_35 : decode cX8_lay 35 = .ok (.iload_n 2, 1) := by decide +kernel
theorem dX8_lay_36 : decode cX8_lay 36 = .ok (.iconst 0, 1) := by decide +kernel
theorem dX8_lay_37 : decode cX8_lay 37 = .ok (.iastore, 1) := by decide +kernel
theorem dX8_lay_38 : decode cX8_lay 38 = .ok (.iload_n 2, 1) := by decide +kernel
theorem dX8_lay_39 : decode cX8_lay 39 = .ok (.iconst 1, 1) := by decide +kernel
theorem dX8_lay_40 : decode cX8_lay 40 = .ok (.isub, 1) := by decide +kernel
theorem dX8_lay_41 : decode cX8_lay 41 = .ok (.istore_n 3, 1) := by decide +kernel
theorem dX8_lay_42 : decode cX8_lay 42 = .ok (.iload_n 3, 1) := by decide +kernel
theorem dX8_lay_43 : decode cX8_lay 43 = .ok (.ifCond .lt 123, 3) := by decide +kernel
theorem dX8_lay_46 : decode cX8_lay 46 = .ok (.aload_n 0, 1) := by decide +kernel
theorem dX8_lay_47 : decode cX8_lay 47 = .ok (.getfield 26, 3) := by decide +kernel
theorem dX8_lay_50 : decode cX8_lay 50 = .ok (.iload_n 3, 1) := by decide +kernel
theorem dX8_lay_51 : decode cX8_lay 51 = .ok (.ldc 91, 2) := by decide +kernel
theorem dX8_lay_53 : decode cX8_lay 53 = .ok (.iastore, 1) := by decide +kernel
theorem dX8_lay_54 : decode cX8_lay 54 = .ok (.iload_n 3, 1) := by decide +kernel
theorem dX8_lay_55 : decode cX8_lay 55 = .ok (.iconst 1, 1) := by decide +kernel
theorem dX8_lay_56 : decode cX8_lay 56 = .ok (.iadd, 1) := by decide +kernel
theorem dX8_lay_57 : decode cX8_lay 57 = .ok (.istore 4, 2) := by decide +kernel
theorem dX8_lay_59 : decode cX8_lay 59 = .ok (.iload 4, 2) := by decide +kernel
theorem dX8_lay_61 : decode cX8_lay 61 = .ok (.iload_n 2, 1) := by decide +kernel
theorem dX8_lay_62 : decode cX8_lay 62 = .ok (.if_icmp .gt 98, 3) := by decide +kernel
theorem dX8_lay_65 : decode cX8_lay 65 = .ok (.aload_n 0, 1) := by decide +kernel
theorem dX8_lay_66 : decode cX8_lay 66 = .ok (.iload_n 1, 1) := by decide +kernel
theorem dX8_lay_67 : decode cX8_lay 67 = .ok (.iload_n 3, 1) := by decide +kernel
theorem dX8_lay_68 : decode cX8_lay 68 = .ok (.iload 4, 2) := by decide +kernel
theorem dX8_lay_70 : decode cX8_lay 70 = .ok (.invokevirtual 92, 3) := by decide +kernel
theorem dX8_lay_73 : decode cX8_lay 73 = .ok (.aload_n 0, 1) := by decide +kernel
theorem dX8_lay_74 : decode cX8_lay 74 = .ok (.getfield 26, 3) := by decide +kernel
theorem dX8_lay_77 : decode cX8_lay 77 = .ok (.iload 4, 2) := by decide +kernel
theorem dX8_lay_79 : decode cX8_lay 79 = .ok (.iaload, 1) := by decide +kernel
theorem dX8_lay_80 : decode cX8_lay 80 = .ok (.iadd, 1) := by decide +kernel
theorem dX8_lay_81 : decode cX8_lay 81 = .ok (.istore 5, 2) := by decide +kernel
theorem dX8_lay_83 : decode cX8_lay 83 = .ok (.iload 5, 2) := by decide +kernel
theorem dX8_lay_85 : decode cX8_lay 85 = .ok (.aload_n 0, 1) := by decide +kernel
theorem dX8_lay_86 : decode cX8_lay 86 = .ok (.getfield 26, 3) := by decide +kernel
theorem dX8_lay_89 : decode cX8_lay 89 = .ok (.iload_n 3, 1) := by decide +kernel
theorem dX8_lay_90 : decode cX8_lay 90 = .ok (.iaload, 1) := by decide +kernel
theorem dX8_lay_91 : decode cX8_lay 91 = .ok (.if_icmp .lt 32, 3) := by decide +kernel
theorem dX8_lay_94 : decode cX8_lay 94 = .ok (.iload 5, 2) := by decide +kernel
theorem dX8_lay_96 : decode cX8_lay 96 = .ok (.aload_n 0, 1) := by decide +kernel
theorem dX8_lay_97 : decode cX8_lay 97 = .ok (.getfield 26, 3) := by decide +kernel
theorem dX8_lay_100 : decode cX8_lay 100 = .ok (.iload_n 3, 1) := by decide +kernel
theorem dX8_lay_101 : decode cX8_lay 101 = .ok (.iaload, 1) := by decide +kernel
theorem dX8_lay_102 : decode cX8_lay 102 = .ok (.if_icmp .ne 52, 3) := by decide +kernel
theorem dX8_lay_105 : decode cX8_lay 105 = .ok (.aload_n 0, 1) := by decide +kernel
theorem dX8_lay_106 : decode cX8_lay 106 = .ok (.getfield 29, 3) := by decide +kernel
theorem dX8_lay_109 : decode cX8_lay 109 = .ok (.iload 4, 2) := by decide +kernel
theorem dX8_lay_111 : decode cX8_lay 111 = .ok (.iaload, 1) := by decide +kernel
theorem dX8_lay_112 : decode cX8_lay 112 = .ok (.iconst 1, 1) := by decide +kernel
theorem dX8_lay_113 : decode cX8_lay 113 = .ok (.iadd, 1) := by decide +kernel
theorem dX8_lay_114 : decode cX8_lay 114 = .ok (.aload_n 0, 1) := by decide +kernel
theorem dX8_lay_115 : decode cX8_lay 115 = .ok (.getfield 29, 3) := by decide +kernel
theorem dX8_lay_118 : decode cX8_lay 118 = .ok (.iload_n 3, 1) := by decide +kernel
theorem dX8_lay_119 : decode cX8_lay 119 = .ok (.iaload, 1) := by decide +kernel
theorem dX8_lay_120 : decode cX8_lay 120 = .ok (.if_icmp .ge 34, 3) := by decide +kernel
theorem dX8_lay_123 : decode cX8_lay 123 = .ok (.aload_n 0, 1) := by decide +kernel
theorem dX8_lay_124 : decode cX8_lay 124 = .ok (.getfield 26, 3) := by decide +kernel
theorem dX8_lay_127 : decode cX8_lay 127 = .ok (.iload_n 3, 1) := by decide +kernel
theorem dX8_lay_128 : decode cX8_lay 128 = .ok (.iload 5, 2) := by decide +kernel
theorem dX8_lay_130 : decode cX8_lay 130 = .ok (.iastore, 1) := by decide +kernel
theorem dX8_lay_131 : decode cX8_lay 131 = .ok (.aload_n 0, 1) := by decide +kernel
theorem dX8_lay_132 : decode cX8_lay 132 = .ok (.getfield 29, 3) := by decide +kernel
theorem dX8_lay_135 : decode cX8_lay 135 = .ok (.iload_n 3, 1) := by decide +kernel
theorem dX8_lay_136 : decode cX8_lay 136 = .ok (.aload_n 0, 1) := by decide +kernel
theorem dX8_lay_137 : decode cX8_lay 137 = .ok (.getfield 29, 3) := by decide +kernel
theorem dX8_lay_140 : decode cX8_lay 140 = .ok (.iload 4, 2) := by decide +kernel
theorem dX8_lay_142 : decode cX8_lay 142 = .ok (.iaload, 1) := by decide +kernel
theorem dX8_lay_143 : decode cX8_lay 143 = .ok (.iconst 1, 1) := by decide +kernel
theorem dX8_lay_144 : decode cX8_lay 144 = .ok (.iadd, 1) := by decide +kernel
theorem dX8_lay_145 : decode cX8_lay 145 = .ok (.iastore, 1) := by decide +kernel
theorem dX8_lay_146 : decode cX8_lay 146 = .ok (.aload_n 0, 1) := by decide +kernel
theorem dX8_lay_147 : decode cX8_lay 147 = .ok (.getfield 32, 3) := by decide +kernel
theorem dX8_lay_150 : decode cX8_lay 150 = .ok (.iload_n 3, 1) := by decide +kernel
theorem dX8_lay_151 : decode cX8_lay 151 = .ok (.iload 4, 2) := by decide +kernel
theorem dX8_lay_153 : decode cX8_lay 153 = .ok (.iastore, 1) := by decide +kernel
theorem dX8_lay_154 : decode cX8_lay 154 = .ok (.iinc 4 1, 3) := by decide +kernel
theorem dX8_lay_157 : decode cX8_lay 157 = .ok (.goto (-98), 3) := by decide +kernel
theorem dX8_lay_160 : decode cX8_lay 160 = .ok (.iinc 3 (-1), 3) := by decide +kernel
theorem dX8_lay_163 : decode cX8_lay 163 = .ok (.goto (-121), 3) := by decide +kernel
theorem dX8_lay_166 : decode cX8_lay 166 = .ok (.bipush 65, 2) := by decide +kernel
theorem dX8_lay_168 : decode cX8_lay 168 = .ok (.iload_n 1, 1) := by decide +kernel
theorem dX8_lay_169 : decode cX8_lay 169 = .ok (.imul, 1) := by decide +kernel
theorem dX8_lay_170 : decode cX8_lay 170 = .ok (.istore_n 3, 1) := by decide +kernel
theorem dX8_lay_171 : decode cX8_lay 171 = .ok (.aload_n 0, 1) := by decide +kernel
theorem dX8_lay_172 : decode cX8_lay 172 = .ok (.getfield 16, 3) := by decide +kernel
theorem dX8_lay_175 : decode cX8_lay 175 = .ok (.iload_n 3, 1) := by decide +kernel
theorem dX8_lay_176 : decode cX8_lay 176 = .ok (.iconst 0, 1) := by decide +kernel
theorem dX8_lay_177 : decode cX8_lay 177 = .ok (.iastore, 1) := by decide +kernel
theorem dX8_lay_178 : decode cX8_lay 178 = .ok (.aload_n 0, 1) := by decide +kernel
theorem dX8_lay_179 : decode cX8_lay 179 = .ok (.getfield 19, 3) := by decide +kernel
theorem dX8_lay_182 : decode cX8_lay 182 = .ok (.iload_n 1, 1) := by decide +kernel
theorem dX8_lay_183 : decode cX8_lay 183 = .ok (.iconst 0, 1) := by decide +kernel
theorem dX8_lay_184 : decode cX8_lay 184 = .ok (.iastore, 1) := by decide +kernel
theorem dX8_lay_185 : decode cX8_lay 185 = .ok (.aload_n 0, 1) := by decide +kernel
theorem dX8_lay_186 : decode cX8_lay 186 = .ok (.getfield 16, 3) := by decide +kernel
theorem dX8_lay_189 : decode cX8_lay 189 = .ok (.iload_n 3, 1) := by decide +kernel
theorem dX8_lay_190 : decode cX8_lay 190 = .ok (.aload_n 0, 1) := by decide +kernel
theorem dX8_lay_191 : decode cX8_lay 191 = .ok (.getfield 19, 3) := by decide +kernel
theorem dX8_lay_194 : decode cX8_lay 194 = .ok (.iload_n 1, 1) := by decide +kernel
theorem dX8_lay_195 : decode cX8_lay 195 = .ok (.iaload, 1) := by decide +kernel
theorem dX8_lay_196 : decode cX8_lay 196 = .ok (.iadd, 1) := by decide +kernel
theorem dX8_lay_197 : decode cX8_lay 197 = .ok (.iaload, 1) := by decide +kernel
theorem dX8_lay_198 : decode cX8_lay 198 = .ok (.iload_n 2, 1) := by decide +kernel
theorem dX8_lay_199 : decode cX8_lay 199 = .ok (.if_icmp .ge 49, 3) := by decide +kernel
theorem dX8_lay_202 : decode cX8_lay 202 = .ok (.aload_n 0, 1) := by decide +kernel
theorem dX8_lay_203 : decode cX8_lay 203 = .ok (.getfield 16, 3) := by decide +kernel
theorem dX8_lay_206 : decode cX8_lay 206 = .ok (.iload_n 3, 1) := by decide +kernel
theorem dX8_lay_207 : decode cX8_lay 207 = .ok (.aload_n 0, 1) := by decide +kernel
theorem dX8_lay_208 : decode cX8_lay 208 = .ok (.getfield 19, 3) := by decide +kernel
theorem dX8_lay_211 : decode cX8_lay 211 = .ok (.iload_n 1, 1) := by decide +kernel
theorem dX8_lay_212 : decode cX8_lay 212 = .ok (.iaload, 1) := by decide +kernel
theorem dX8_lay_213 : decode cX8_lay 213 = .ok (.iadd, 1) := by decide +kernel
theorem dX8_lay_214 : decode cX8_lay 214 = .ok (.iconst 1, 1) := by decide +kernel
theorem dX8_lay_215 : decode cX8_lay 215 = .ok (.iadd, 1) := by decide +kernel
theorem dX8_lay_216 : decode cX8_lay 216 = .ok (.aload_n 0, 1) := by decide +kernel
theorem dX8_lay_217 : decode cX8_lay 217 = .ok (.getfield 32, 3) := by decide +kernel
theorem dX8_lay_220 : decode cX8_lay 220 = .ok (.aload_n 0, 1) := by decide +kernel
theorem dX8_lay_221 : decode cX8_lay 221 = .ok (.getfield 16, 3) := by decide +kernel
theorem dX8_lay_224 : decode cX8_lay 224 = .ok (.iload_n 3, 1) := by decide +kernel
theorem dX8_lay_225 : decode cX8_lay 225 = .ok (.aload_n 0, 1) := by decide +kernel
theorem dX8_lay_226 : decode cX8_lay 226 = .ok (.getfield 19, 3) := by decide +kernel
theorem dX8_lay_229 : decode cX8_lay 229 = .ok (.iload_n 1, 1) := by decide +kernel
theorem dX8_lay_230 : decode cX8_lay 230 = .ok (.iaload, 1) := by decide +kernel
theorem dX8_lay_231 : decode cX8_lay 231 = .ok (.iadd, 1) := by decide +kernel
theorem dX8_lay_232 : decode cX8_lay 232 = .ok (.iaload, 1) := by decide +kernel
theorem dX8_lay_233 : decode cX8_lay 233 = .ok (.iaload, 1) := by decide +kernel
theorem dX8_lay_234 : decode cX8_lay 234 = .ok (.iastore, 1) := by decide +kernel
theorem dX8_lay_235 : decode cX8_lay 235 = .ok (.aload_n 0, 1) := by decide +kernel
theorem dX8_lay_236 : decode cX8_lay 236 = .ok (.getfield 19, 3) := by decide +kernel
theorem dX8_lay_239 : decode cX8_lay 239 = .ok (.iload_n 1, 1) := by decide +kernel
theorem dX8_lay_240 : decode cX8_lay 240 = .ok (.dup2, 1) := by decide +kernel
theorem dX8_lay_241 : decode cX8_lay 241 = .ok (.iaload, 1) := by decide +kernel
theorem dX8_lay_242 : decode cX8_lay 242 = .ok (.iconst 1, 1) := by decide +kernel
theorem dX8_lay_243 : decode cX8_lay 243 = .ok (.iadd, 1) := by decide +kernel
theorem dX8_lay_244 : decode cX8_lay 244 = .ok (.iastore, 1) := by decide +kernel
theorem dX8_lay_245 : decode cX8_lay 245 = .ok (.goto (-60), 3) := by decide +kernel
theorem dX8_lay_248 : decode cX8_lay 248 = .ok (.return_, 1) := by decide +kernel
theorem dX8_beginOf_0 : decode cX8_beginOf 0 = .ok (.aload_n 0, 1) := by decide +kernel
theorem dX8_beginOf_1 : decode cX8_beginOf 1 = .ok (.getfield 16, 3) := by decide +kernel
theorem dX8_beginOf_4 : decode cX8_beginOf 4 = .ok (.bipush 65, 2) := by decide +kernel
theorem dX8_beginOf_6 : decode cX8_beginOf 6 = .ok (.iload_n 1, 1) := by decide +kernel
theorem dX8_beginOf_7 : decode cX8_beginOf 7 = .ok (.imul, 1) := by decide +kernel
theorem dX8_beginOf_8 : decode cX8_beginOf 8 = .ok (.iload_n 2, 1) := by decide +kernel
theorem dX8_beginOf_9 : decode cX8_beginOf 9 = .ok (.iadd, 1) := by decide +kernel
theorem dX8_beginOf_10 : decode cX8_beginOf 10 = .ok (.iaload, 1) := by decide +kernel
theorem dX8_beginOf_11 : decode cX8_beginOf 11 = .ok (.ireturn, 1) := by decide +kernel
theorem dX8_documentsIn_0 : decode cX8_documentsIn 0 = .ok (.aload_n 0, 1) := by decide +kernel
theorem dX8_documentsIn_1 : decode cX8_documentsIn 1 = .ok (.iload_n 1, 1) := by decide +kernel
theorem dX8_documentsIn_2 : decode cX8_documentsIn 2 = .ok (.iload_n 2, 1) := by decide +kernel
theorem dX8_documentsIn_3 : decode cX8_documentsIn 3 = .ok (.iconst 1, 1) := by decide +kernel
theorem dX8_documentsIn_4 : decode cX8_documentsIn 4 = .ok (.iadd, 1) := by decide +kernel
theorem dX8_documentsIn_5 : decode cX8_documentsIn 5 = .ok (.invokevirtual 96, 3) := by decide +kernel
theorem dX8_documentsIn_8 : decode cX8_documentsIn 8 = .ok (.aload_n 0, 1) := by decide +kernel
theorem dX8_documentsIn_9 : decode cX8_documentsIn 9 = .ok (.iload_n 1, 1) := by decide +kernel
theorem dX8_documentsIn_10 : decode cX8_documentsIn 10 = .ok (.iload_n 2, 1) := by decide +kernel
theorem dX8_documentsIn_11 : decode cX8_documentsIn 11 = .ok (.invokevirtual 96, 3) := by decide +kernel
theorem dX8_documentsIn_14 : decode cX8_documentsIn 14 = .ok (.isub, 1) := by decide +kernel
theorem dX8_documentsIn_15 : decode cX8_documentsIn 15 = .ok (.ireturn, 1) := by decide +kernel
theorem dX8_firstIn_0 : decode cX8_firstIn 0 = .ok (.aload_n 0, 1) := by decide +kernel
theorem dX8_firstIn_1 : decode cX8_firstIn 1 = .ok (.iload_n 1, 1) := by decide +kernel
theorem dX8_firstIn_2 : decode cX8_firstIn 2 = .ok (.aload_n 0, 1) := by decide +kernel
theorem dX8_firstIn_3 : decode cX8_firstIn 3 = .ok (.iload_n 1, 1) := by decide +kernel
theorem dX8_firstIn_4 : decode cX8_firstIn 4 = .ok (.iload_n 2, 1) := by decide +kernel
theorem dX8_firstIn_5 : decode cX8_firstIn 5 = .ok (.invokevirtual 96, 3) := by decide +kernel
theorem dX8_firstIn_8 : decode cX8_firstIn 8 = .ok (.invokevirtual 56, 3) := by decide +kernel
theorem dX8_firstIn_11 : decode cX8_firstIn 11 = .ok (.ireturn, 1) := by decide +kernel
theorem dX8_lastIn_0 : decode cX8_lastIn 0 = .ok (.aload_n 0, 1) := by decide +kernel
theorem dX8_lastIn_1 : decode cX8_lastIn 1 = .ok (.iload_n 1, 1) := by decide +kernel
theorem dX8_lastIn_2 : decode cX8_lastIn 2 = .ok (.aload_n 0, 1) := by decide +kernel
theorem dX8_lastIn_3 : decode cX8_lastIn 3 = .ok (.iload_n 1, 1) := by decide +kernel
theorem dX8_lastIn_4 : decode cX8_lastIn 4 = .ok (.iload_n 2, 1) := by decide +kernel
theorem dX8_lastIn_5 : decode cX8_lastIn 5 = .ok (.iconst 1, 1) := by decide +kernel
theorem dX8_lastIn_6 : decode cX8_lastIn 6 = .ok (.iadd, 1) := by decide +kernel
theorem dX8_lastIn_7 : decode cX8_lastIn 7 = .ok (.invokevirtual 96, 3) := by decide +kernel
theorem dX8_lastIn_10 : decode cX8_lastIn 10 = .ok (.iconst 1, 1) := by decide +kernel
theorem dX8_lastIn_11 : decode cX8_lastIn 11 = .ok (.isub, 1) := by decide +kernel
theorem dX8_lastIn_12 : decode cX8_lastIn 12 = .ok (.invokevirtual 56, 3) := by decide +kernel
theorem dX8_lastIn_15 : decode cX8_lastIn 15 = .ok (.ireturn, 1) := by decide +kernel
theorem dX8_widthOf_0 : decode cX8_widthOf 0 = .ok (.aload_n 0, 1) := by decide +kernel
theorem dX8_widthOf_1 : decode cX8_widthOf 1 = .ok (.iload_n 1, 1) := by decide +kernel
theorem dX8_widthOf_2 : decode cX8_widthOf 2 = .ok (.iload_n 2, 1) := by decide +kernel
theorem dX8_widthOf_3 : decode cX8_widthOf 3 = .ok (.invokevirtual 99, 3) := by decide +kernel
theorem dX8_widthOf_6 : decode cX8_widthOf 6 = .ok (.aload_n 0, 1) := by decide +kernel
theorem dX8_widthOf_7 : decode cX8_widthOf 7 = .ok (.iload_n 1, 1) := by decide +kernel
theorem dX8_widthOf_8 : decode cX8_widthOf 8 = .ok (.iload_n 2, 1) := by decide +kernel
theorem dX8_widthOf_9 : decode cX8_widthOf 9 = .ok (.invokevirtual 102, 3) := by decide +kernel
theorem dX8_widthOf_12 : decode cX8_widthOf 12 = .ok (.isub, 1) := by decide +kernel
theorem dX8_widthOf_13 : decode cX8_widthOf 13 = .ok (.iconst 1, 1) := by decide +kernel
theorem dX8_widthOf_14 : decode cX8_widthOf 14 = .ok (.iadd, 1) := by decide +kernel
theorem dX8_widthOf_15 : decode cX8_widthOf 15 = .ok (.ireturn, 1) := by decide +kernel
theorem dX8_kindIn_0 : decode cX8_kindIn 0 = .ok (.aload_n 0, 1) := by decide +kernel
theorem dX8_kindIn_1 : decode cX8_kindIn 1 = .ok (.iload_n 1, 1) := by decide +kernel
theorem dX8_kindIn_2 : decode cX8_kindIn 2 = .ok (.iload_n 2, 1) := by decide +kernel
theorem dX8_kindIn_3 : decode cX8_kindIn 3 = .ok (.invokevirtual 105, 3) := by decide +kernel
theorem dX8_kindIn_6 : decode cX8_kindIn 6 = .ok (.aload_n 0, 1) := by decide +kernel
theorem dX8_kindIn_7 : decode cX8_kindIn 7 = .ok (.iload_n 1, 1) := by decide +kernel
theorem dX8_kindIn_8 : decode cX8_kindIn 8 = .ok (.iload_n 2, 1) := by decide +kernel
theorem dX8_kindIn_9 : decode cX8_kindIn 9 = .ok (.invokevirtual 108, 3) := by decide +kernel
theorem dX8_kindIn_12 : decode cX8_kindIn 12 = .ok (.invokestatic 88, 3) := by decide +kernel
theorem dX8_kindIn_15 : decode cX8_kindIn 15 = .ok (.ireturn, 1) := by decide +kernel
theorem dX8_lowIn_0 : decode cX8_lowIn 0 = .ok (.aload_n 0, 1) := by decide +kernel
theorem dX8_lowIn_1 : decode cX8_lowIn 1 = .ok (.iload_n 1, 1) := by decide +kernel
theorem dX8_lowIn_2 : decode cX8_lowIn 2 = .ok (.iload_n 2, 1) := by decide +kernel
theorem dX8_lowIn_3 : decode cX8_lowIn 3 = .ok (.invokevirtual 111, 3) := by decide +kernel
theorem dX8_lowIn_6 : decode cX8_lowIn 6 = .ok (.iconst 2, 1) := by decide +kernel
theorem dX8_lowIn_7 : decode cX8_lowIn 7 = .ok (.if_icmp .ne 21, 3) := by decide +kernel
theorem dX8_lowIn_10 : decode cX8_lowIn 10 = .ok (.aload_n 0, 1) := by decide +kernel
theorem dX8_lowIn_11 : decode cX8_lowIn 11 = .ok (.iload_n 1, 1) := by decide +kernel
theorem dX8_lowIn_12 : decode cX8_lowIn 12 = .ok (.iload_n 2, 1) := by decide +kernel
theorem dX8_lowIn_13 : decode cX8_lowIn 13 = .ok (.invokevirtual 105, 3) := by decide +kernel
theorem dX8_lowIn_16 : decode cX8_lowIn 16 = .ok (.aload_n 0, 1) := by decide +kernel
theorem dX8_lowIn_17 : decode cX8_lowIn 17 = .ok (.iload_n 1, 1) := by decide +kernel
theorem dX8_lowIn_18 : decode cX8_lowIn 18 = .ok (.iload_n 2, 1) := by decide +kernel
theorem dX8_lowIn_19 : decode cX8_lowIn 19 = .ok (.invokevirtual 108, 3) := by decide +kernel
theorem dX8_lowIn_22 : decode cX8_lowIn 22 = .ok (.invokestatic 82, 3) := by decide +kernel
theorem dX8_lowIn_25 : decode cX8_lowIn 25 = .ok (.goto 4, 3) := by decide +kernel
theorem dX8_lowIn_28 : decode cX8_lowIn 28 = .ok (.iconst 0, 1) := by decide +kernel
theorem dX8_lowIn_29 : decode cX8_lowIn 29 = .ok (.ireturn, 1) := by decide +kernel
theorem dX8_partitions_0 : decode cX8_partitions 0 = .ok (.aload_n 0, 1) := by decide +kernel
theorem dX8_partitions_1 : decode cX8_partitions 1 = .ok (.iconst 0, 1) := by decide +kernel
theorem dX8_partitions_2 : decode cX8_partitions 2 = .ok (.putfield 41, 3) := by decide +kernel
theorem dX8_partitions_5 : decode cX8_partitions 5 = .ok (.iload_n 1, 1) := by decide +kernel
theorem dX8_partitions_6 : decode cX8_partitions 6 = .ok (.invokestatic 60, 3) := by decide +kernel
theorem dX8_partitions_9 : decode cX8_partitions 9 = .ok (.ifCond .ne 9, 3) := by decide +kernel
theorem dX8_partitions_12 : decode cX8_partitions 12 = .ok (.aload_n 0, 1) := by decide +kernel
theorem dX8_partitions_13 : decode cX8_partitions 13 = .ok (.iconst 1, 1) := by decide +kernel
theorem dX8_partitions_14 : decode cX8_partitions 14 = .ok (.invokevirtual 64, 3) := by decide +kernel
theorem dX8_partitions_17 : decode cX8_partitions 17 = .ok (.ireturn, 1) := by decide +kernel
theorem dX8_partitions_18 : decode cX8_partitions 18 = .ok (.aload_n 0, 1) := by decide +kernel
theorem dX8_partitions_19 : decode cX8_partitions 19 = .ok (.iload_n 1, 1) := by decide +kernel
theorem dX8_partitions_20 : decode cX8_partitions 20 = .ok (.invokevirtual 114, 3) := by decide +kernel
theorem dX8_partitions_23 : decode cX8_partitions 23 = .ok (.aload_n 0, 1) := by decide +kernel
theorem dX8_partitions_24 : decode cX8_partitions 24 = .ok (.getfield 19, 3) := by decide +kernel
theorem dX8_partitions_27 : decode cX8_partitions 27 = .ok (.iload_n 1, 1) := by decide +kernel
theorem dX8_partitions_28 : decode cX8_partitions 28 = .ok (.iaload, 1) := by decide +kernel
theorem dX8_partitions_29 : decode cX8_partitions 29 = .ok (.ireturn, 1) := by decide +kernel
theorem dX8_property_0 : decode cX8_property 0 = .ok (.iload_n 3, 1) := by decide +kernel
theorem dX8_property_1 : decode cX8_property 1 = .ok (.tableswitch 83 0 4 #[35, 42, 49, 56, 63], 35) := by decide +kernel
theorem dX8_property_36 : decode cX8_property 36 = .ok (.aload_n 0, 1) := by decide +kernel
theorem dX8_property_37 : decode cX8_property 37 = .ok (.iload_n 1, 1) := by decide +kernel
theorem dX8_property_38 : decode cX8_property 38 = .ok (.iload_n 2, 1) := by decide +kernel
theorem dX8_property_39 : decode cX8_property 39 = .ok (.invokevirtual 111, 3) := by decide +kernel
theorem dX8_property_42 : decode cX8_property 42 = .ok (.ireturn, 1) := by decide +kernel
theorem dX8_property_43 : decode cX8_property 43 = .ok (.aload_n 0, 1) := by decide +kernel
theorem dX8_property_44 : decode cX8_property 44 = .ok (.iload_n 1, 1) := by decide +kernel
theorem dX8_property_45 : decode cX8_property 45 = .ok (.iload_n 2, 1) := by decide +kernel
theorem dX8_property_46 : decode cX8_property 46 = .ok (.invokevirtual 105, 3) := by decide +kernel
theorem dX8_property_49 : decode cX8_property 49 = .ok (.ireturn, 1) := by decide +kernel
theorem dX8_property_50 : decode cX8_property 50 = .ok (.aload_n 0, 1) := by decide +kernel
theorem dX8_property_51 : decode cX8_property 51 = .ok (.iload_n 1, 1) := by decide +kernel
theorem dX8_property_52 : decode cX8_property 52 = .ok (.iload_n 2, 1) := by decide +kernel
theorem dX8_property_53 : decode cX8_property 53 = .ok (.invokevirtual 102, 3) := by decide +kernel
theorem dX8_property_56 : decode cX8_property 56 = .ok (.ireturn, 1) := by decide +kernel
theorem dX8_property_57 : decode cX8_property 57 = .ok (.aload_n 0, 1) := by decide +kernel
theorem dX8_property_58 : decode cX8_property 58 = .ok (.iload_n 1, 1) := by decide +kernel
theorem dX8_property_59 : decode cX8_property 59 = .ok (.iload_n 2, 1) := by decide +kernel
theorem dX8_property_60 : decode cX8_property 60 = .ok (.invokevirtual 99, 3) := by decide +kernel
theorem dX8_property_63 : decode cX8_property 63 = .ok (.ireturn, 1) := by decide +kernel
theorem dX8_property_64 : decode cX8_property 64 = .ok (.aload_n 0, 1) := by decide +kernel
theorem dX8_property_65 : decode cX8_property 65 = .ok (.iload_n 1, 1) := by decide +kernel
theorem dX8_property_66 : decode cX8_property 66 = .ok (.aload_n 0, 1) := by decide +kernel
theorem dX8_property_67 : decode cX8_property 67 = .ok (.iload_n 1, 1) := by decide +kernel
theorem dX8_property_68 : decode cX8_property 68 = .ok (.iload_n 2, 1) := by decide +kernel
theorem dX8_property_69 : decode cX8_property 69 = .ok (.invokevirtual 96, 3) := by decide +kernel
theorem dX8_property_72 : decode cX8_property 72 = .ok (.aload_n 0, 1) := by decide +kernel
theorem dX8_property_73 : decode cX8_property 73 = .ok (.iload_n 1, 1) := by decide +kernel
theorem dX8_property_74 : decode cX8_property 74 = .ok (.iload_n 2, 1) := by decide +kernel
theorem dX8_property_75 : decode cX8_property 75 = .ok (.iconst 1, 1) := by decide +kernel
theorem dX8_property_76 : decode cX8_property 76 = .ok (.iadd, 1) := by decide +kernel
theorem dX8_property_77 : decode cX8_property 77 = .ok (.invokevirtual 96, 3) := by decide +kernel
theorem dX8_property_80 : decode cX8_property 80 = .ok (.invokevirtual 92, 3) := by decide +kernel
theorem dX8_property_83 : decode cX8_property 83 = .ok (.ireturn, 1) := by decide +kernel
theorem dX8_property_84 : decode cX8_property 84 = .ok (.aload_n 0, 1) := by decide +kernel
theorem dX8_property_85 : decode cX8_property 85 = .ok (.iload_n 1, 1) := by decide +kernel
theorem dX8_property_86 : decode cX8_property 86 = .ok (.iload_n 2, 1) := by decide +kernel
theorem dX8_property_87 : decode cX8_property 87 = .ok (.invokevirtual 117, 3) := by decide +kernel
theorem dX8_property_90 : decode cX8_property 90 = .ok (.ireturn, 1) := by decide +kernel
theorem dX8_partition_0 : decode cX8_partition 0 = .ok (.aload_n 0, 1) := by decide +kernel
theorem dX8_partition_1 : decode cX8_partition 1 = .ok (.iconst 0, 1) := by decide +kernel
theorem dX8_partition_2 : decode cX8_partition 2 = .ok (.putfield 41, 3) := by decide +kernel
theorem dX8_partition_5 : decode cX8_partition 5 = .ok (.iload_n 1, 1) := by decide +kernel
theorem dX8_partition_6 : decode cX8_partition 6 = .ok (.invokestatic 60, 3) := by decide +kernel
theorem dX8_partition_9 : decode cX8_partition 9 = .ok (.ifCond .ne 9, 3) := by decide +kernel
theorem dX8_partition_12 : decode cX8_partition 12 = .ok (.aload_n 0, 1) := by decide +kernel
theorem dX8_partition_13 : decode cX8_partition 13 = .ok (.iconst 1, 1) := by decide +kernel
theorem dX8_partition_14 : decode cX8_partition 14 = .ok (.invokevirtual 64, 3) := by decide +kernel
theorem dX8_partition_17 : decode cX8_partition 17 = .ok (.ireturn, 1) := by decide +kernel
theorem dX8_partition_18 : decode cX8_partition 18 = .ok (.aload_n 0, 1) := by decide +kernel
theorem dX8_partition_19 : decode cX8_partition 19 = .ok (.iload_n 1, 1) := by decide +kernel
theorem dX8_partition_20 : decode cX8_partition 20 = .ok (.invokevirtual 114, 3) := by decide +kernel
theorem dX8_partition_23 : decode cX8_partition 23 = .ok (.iload_n 2, 1) := by decide +kernel
theorem dX8_partition_24 : decode cX8_partition 24 = .ok (.iconst 0, 1) := by decide +kernel
theorem dX8_partition_25 : decode cX8_partition 25 = .ok (.aload_n 0, 1) := by decide +kernel
theorem dX8_partition_26 : decode cX8_partition 26 = .ok (.getfield 19, 3) := by decide +kernel
theorem dX8_partition_29 : decode cX8_partition 29 = .ok (.iload_n 1, 1) := by decide +kernel
theorem dX8_partition_30 : decode cX8_partition 30 = .ok (.iaload, 1) := by decide +kernel
theorem dX8_partition_31 : decode cX8_partition 31 = .ok (.iconst 1, 1) := by decide +kernel
theorem dX8_partition_32 : decode cX8_partition 32 = .ok (.isub, 1) := by decide +kernel
theorem dX8_partition_33 : decode cX8_partition 33 = .ok (.invokestatic 45, 3) := by decide +kernel
theorem dX8_partition_36 : decode cX8_partition 36 = .ok (.ifCond .ne 9, 3) := by decide +kernel
theorem dX8_partition_39 : decode cX8_partition 39 = .ok (.aload_n 0, 1) := by decide +kernel
theorem dX8_partition_40 : decode cX8_partition 40 = .ok (.iconst 1, 1) := by decide +kernel
theorem dX8_partition_41 : decode cX8_partition 41 = .ok (.invokevirtual 64, 3) := by decide +kernel
theorem dX8_partition_44 : decode cX8_partition 44 = .ok (.ireturn, 1) := by decide +kernel
theorem dX8_partition_45 : decode cX8_partition 45 = .ok (.iload_n 3, 1) := by decide +kernel
theorem dX8_partition_46 : decode cX8_partition 46 = .ok (.iconst 0, 1) := by decide +kernel
theorem dX8_partition_47 : decode cX8_partition 47 = .ok (.iconst 5, 1) := by decide +kernel
theorem dX8_partition_48 : decode cX8_partition 48 = .ok (.invokestatic 45, 3) := by decide +kernel
theorem dX8_partition_51 : decode cX8_partition 51 = .ok (.ifCond .eq 13, 3) := by decide +kernel
theorem dX8_partition_54 : decode cX8_partition 54 = .ok (.aload_n 0, 1) := by decide +kernel
theorem dX8_partition_55 : decode cX8_partition 55 = .ok (.iload_n 1, 1) := by decide +kernel
theorem dX8_partition_56 : decode cX8_partition 56 = .ok (.iload_n 2, 1) := by decide +kernel
theorem dX8_partition_57 : decode cX8_partition 57 = .ok (.iload_n 3, 1) := by decide +kernel
theorem dX8_partition_58 : decode cX8_partition 58 = .ok (.invokevirtual 120, 3) := by decide +kernel
theorem dX8_partition_61 : decode cX8_partition 61 = .ok (.goto 8, 3) := by decide +kernel
theorem dX8_partition_64 : decode cX8_partition 64 = .ok (.aload_n 0, 1) := by decide +kernel
theorem dX8_partition_65 : decode cX8_partition 65 = .ok (.iconst 2, 1) := by decide +kernel
theorem dX8_partition_66 : decode cX8_partition 66 = .ok (.invokevirtual 64, 3) := by decide +kernel
theorem dX8_partition_69 : decode cX8_partition 69 = .ok (.ireturn, 1) := by decide +kernel
theorem dX8_bitsOf_0 : decode cX8_bitsOf 0 = .ok (.aload_n 0, 1) := by decide +kernel
theorem dX8_bitsOf_1 : decode cX8_bitsOf 1 = .ok (.iload_n 1, 1) := by decide +kernel
theorem dX8_bitsOf_2 : decode cX8_bitsOf 2 = .ok (.invokevirtual 114, 3) := by decide +kernel
theorem dX8_bitsOf_5 : decode cX8_bitsOf 5 = .ok (.iconst 0, 1) := by decide +kernel
theorem dX8_bitsOf_6 : decode cX8_bitsOf 6 = .ok (.istore_n 2, 1) := by decide +kernel
theorem dX8_bitsOf_7 : decode cX8_bitsOf 7 = .ok (.iconst 0, 1) := by decide +kernel
theorem dX8_bitsOf_8 : decode cX8_bitsOf 8 = .ok (.istore_n 3, 1) := by decide +kernel
theorem dX8_bitsOf_9 : decode cX8_bitsOf 9 = .ok (.iload_n 3, 1) := by decide +kernel
theorem dX8_bitsOf_10 : decode cX8_bitsOf 10 = .ok (.aload_n 0, 1) := by decide +kernel
theorem dX8_bitsOf_11 : decode cX8_bitsOf 11 = .ok (.getfield 19, 3) := by decide +kernel
theorem dX8_bitsOf_14 : decode cX8_bitsOf 14 = .ok (.iload_n 1, 1) := by decide +kernel
theorem dX8_bitsOf_15 : decode cX8_bitsOf 15 = .ok (.iaload, 1) := by decide +kernel
theorem dX8_bitsOf_16 : decode cX8_bitsOf 16 = .ok (.if_icmp .ge 19, 3) := by decide +kernel
theorem dX8_bitsOf_19 : decode cX8_bitsOf 19 = .ok (.iload_n 2, 1) := by decide +kernel
theorem dX8_bitsOf_20 : decode cX8_bitsOf 20 = .ok (.aload_n 0, 1) := by decide +kernel
theorem dX8_bitsOf_21 : decode cX8_bitsOf 21 = .ok (.iload_n 1, 1) := by decide +kernel
theorem dX8_bitsOf_22 : decode cX8_bitsOf 22 = .ok (.iload_n 3, 1) := by decide +kernel
theorem dX8_bitsOf_23 : decode cX8_bitsOf 23 = .ok (.iconst 4, 1) := by decide +kernel
theorem dX8_bitsOf_24 : decode cX8_bitsOf 24 = .ok (.invokevirtual 120, 3) := by decide +kernel
theorem dX8_bitsOf_27 : decode cX8_bitsOf 27 = .ok (.iadd, 1) := by decide +kernel
theorem dX8_bitsOf_28 : decode cX8_bitsOf 28 = .ok (.istore_n 2, 1) := by decide +kernel
theorem dX8_bitsOf_29 : decode cX8_bitsOf 29 = .ok (.iinc 3 1, 3) := by decide +kernel
theorem dX8_bitsOf_32 : decode cX8_bitsOf 32 = .ok (.goto (-23), 3) := by decide +kernel
theorem dX8_bitsOf_35 : decode cX8_bitsOf 35 = .ok (.iload_n 2, 1) := by decide +kernel
theorem dX8_bitsOf_36 : decode cX8_bitsOf 36 = .ok (.ireturn, 1) := by decide +kernel
theorem dX8_codeLength_0 : decode cX8_codeLength 0 = .ok (.aload_n 0, 1) := by decide +kernel
theorem dX8_codeLength_1 : decode cX8_codeLength 1 = .ok (.iconst 0, 1) := by decide +kernel
theorem dX8_codeLength_2 : decode cX8_codeLength 2 = .ok (.putfield 41, 3) := by decide +kernel
theorem dX8_codeLength_5 : decode cX8_codeLength 5 = .ok (.iload_n 1, 1) := by decide +kernel
theorem dX8_codeLength_6 : decode cX8_codeLength 6 = .ok (.invokestatic 60, 3) := by decide +kernel
theorem dX8_codeLength_9 : decode cX8_codeLength 9 = .ok (.ifCond .eq 11, 3) := by decide +kernel
theorem dX8_codeLength_12 : decode cX8_codeLength 12 = .ok (.aload_n 0, 1) := by decide +kernel
theorem dX8_codeLength_13 : decode cX8_codeLength 13 = .ok (.iload_n 1, 1) := by decide +kernel
theorem dX8_codeLength_14 : decode cX8_codeLength 14 = .ok (.invokevirtual 123, 3) := by decide +kernel
theorem dX8_codeLength_17 : decode cX8_codeLength 17 = .ok (.goto 8, 3) := by decide +kernel
theorem dX8_codeLength_20 : decode cX8_codeLength 20 = .ok (.aload_n 0, 1) := by decide +kernel
theorem dX8_codeLength_21 : decode cX8_codeLength 21 = .ok (.iconst 1, 1) := by decide +kernel
theorem dX8_codeLength_22 : decode cX8_codeLength 22 = .ok (.invokevirtual 64, 3) := by decide +kernel
theorem dX8_codeLength_25 : decode cX8_codeLength 25 = .ok (.ireturn, 1) := by decide +kernel
theorem dX8_headerBit_0 : decode cX8_headerBit 0 = .ok (.iload_n 3, 1) := by decide +kernel
theorem dX8_headerBit_1 : decode cX8_headerBit 1 = .ok (.iconst 2, 1) := by decide +kernel
theorem dX8_headerBit_2 : decode cX8_headerBit 2 = .ok (.if_icmp .ge 14, 3) := by decide +kernel
theorem dX8_headerBit_5 : decode cX8_headerBit 5 = .ok (.aload_n 0, 1) := by decide +kernel
theorem dX8_headerBit_6 : decode cX8_headerBit 6 = .ok (.iload_n 1, 1) := by decide +kernel
theorem dX8_headerBit_7 : decode cX8_headerBit 7 = .ok (.iload_n 2, 1) := by decide +kernel
theorem dX8_headerBit_8 : decode cX8_headerBit 8 = .ok (.invokevirtual 111, 3) := by decide +kernel
theorem dX8_headerBit_11 : decode cX8_headerBit 11 = .ok (.iload_n 3, 1) := by decide +kernel
theorem dX8_headerBit_12 : decode cX8_headerBit 12 = .ok (.ishr, 1) := by decide +kernel
theorem dX8_headerBit_13 : decode cX8_headerBit 13 = .ok (.goto 57, 3) := by decide +kernel
theorem dX8_headerBit_16 : decode cX8_headerBit 16 = .ok (.iload_n 3, 1) := by decide +kernel
theorem dX8_headerBit_17 : decode cX8_headerBit 17 = .ok (.bipush 8, 2) := by decide +kernel
theorem dX8_headerBit_19 : decode cX8_headerBit 19 = .ok (.if_icmp .ge 18, 3) := by decide +kernel
theorem dX8_headerBit_22 : decode cX8_headerBit 22 = .ok (.aload_n 0, 1) := by decide +kernel
theorem dX8_headerBit_23 : decode cX8_headerBit 23 = .ok (.iload_n 1, 1) := by decide +kernel
theorem dX8_headerBit_24 : decode cX8_headerBit 24 = .ok (.iload_n 2, 1) := by decide +kernel
theorem dX8_headerBit_25 : decode cX8_headerBit 25 = .ok (.invokevirtual 105, 3) := by decide +kernel
theorem dX8_headerBit_28 : decode cX8_headerBit 28 = .ok (.iconst 1, 1) := by decide +kernel
theorem dX8_headerBit_29 : decode cX8_headerBit 29 = .ok (.isub, 1) := by decide +kernel
theorem dX8_headerBit_30 : decode cX8_headerBit 30 = .ok (.iload_n 3, 1) := by decide +kernel
theorem dX8_headerBit_31 : decode cX8_headerBit 31 = .ok (.iconst 2, 1) := by decide +kernel
theorem dX8_headerBit_32 : decode cX8_headerBit 32 = .ok (.isub, 1) := by decide +kernel
theorem dX8_headerBit_33 : decode cX8_headerBit 33 = .ok (.ishr, 1) := by decide +kernel
theorem dX8_headerBit_34 : decode cX8_headerBit 34 = .ok (.goto 36, 3) := by decide +kernel
theorem dX8_headerBit_37 : decode cX8_headerBit 37 = .ok (.iload_n 3, 1) := by decide +kernel
theorem dX8_headerBit_38 : decode cX8_headerBit 38 = .ok (.bipush 17, 2) := by decide +kernel
theorem dX8_headerBit_40 : decode cX8_headerBit 40 = .ok (.if_icmp .ge 17, 3) := by decide +kernel
theorem dX8_headerBit_43 : decode cX8_headerBit 43 = .ok (.aload_n 0, 1) := by decide +kernel
theorem dX8_headerBit_44 : decode cX8_headerBit 44 = .ok (.iload_n 1, 1) := by decide +kernel
theorem dX8_headerBit_45 : decode cX8_headerBit 45 = .ok (.iload_n 2, 1) := by decide +kernel
theorem dX8_headerBit_46 : decode cX8_headerBit 46 = .ok (.invokevirtual 102, 3) := by decide +kernel
theorem dX8_headerBit_49 : decode cX8_headerBit 49 = .ok (.iload_n 3, 1) := by decide +kernel
theorem dX8_headerBit_50 : decode cX8_headerBit 50 = .ok (.bipush 8, 2) := by decide +kernel
theorem dX8_headerBit_52 : decode cX8_headerBit 52 = .ok (.isub, 1) := by decide +kernel
theorem dX8_headerBit_53 : decode cX8_headerBit 53 = .ok (.ishr, 1) := by decide +kernel
theorem dX8_headerBit_54 : decode cX8_headerBit 54 = .ok (.goto 16, 3) := by decide +kernel
theorem dX8_headerBit_57 : decode cX8_headerBit 57 = .ok (.aload_n 0, 1) := by decide +kernel
theorem dX8_headerBit_58 : decode cX8_headerBit 58 = .ok (.iload_n 1, 1) := by decide +kernel
theorem dX8_headerBit_59 : decode cX8_headerBit 59 = .ok (.iload_n 2, 1) := by decide +kernel
theorem dX8_headerBit_60 : decode cX8_headerBit 60 = .ok (.invokevirtual 108, 3) := by decide +kernel
theorem dX8_headerBit_63 : decode cX8_headerBit 63 = .ok (.iconst 1, 1) := by decide +kernel
theorem dX8_headerBit_64 : decode cX8_headerBit 64 = .ok (.isub, 1) := by decide +kernel
theorem dX8_headerBit_65 : decode cX8_headerBit 65 = .ok (.iload_n 3, 1) := by decide +kernel
theorem dX8_headerBit_66 : decode cX8_headerBit 66 = .ok (.bipush 17, 2) := by decide +kernel
theorem dX8_headerBit_68 : decode cX8_headerBit 68 = .ok (.isub, 1) := by decide +kernel
theorem dX8_headerBit_69 : decode cX8_headerBit 69 = .ok (.ishr, 1) := by decide +kernel
theorem dX8_headerBit_70 : decode cX8_headerBit 70 = .ok (.istore 4, 2) := by decide +kernel
theorem dX8_headerBit_72 : decode cX8_headerBit 72 = .ok (.iload 4, 2) := by decide +kernel
theorem dX8_headerBit_74 : decode cX8_headerBit 74 = .ok (.iconst 1, 1) := by decide +kernel
theorem dX8_headerBit_75 : decode cX8_headerBit 75 = .ok (.iand, 1) := by decide +kernel
theorem dX8_headerBit_76 : decode cX8_headerBit 76 = .ok (.ireturn, 1) := by decide +kernel
theorem dX8_bodyBit_0 : decode cX8_bodyBit 0 = .ok (.aload_n 0, 1) := by decide +kernel
theorem dX8_bodyBit_1 : decode cX8_bodyBit 1 = .ok (.iload_n 1, 1) := by decide +kernel
theorem dX8_bodyBit_2 : decode cX8_bodyBit 2 = .ok (.iload_n 2, 1) := by decide +kernel
theorem dX8_bodyBit_3 : decode cX8_bodyBit 3 = .ok (.invokevirtual 102, 3) := by decide +kernel
theorem dX8_bodyBit_6 : decode cX8_bodyBit 6 = .ok (.istore 4, 2) := by decide +kernel
theorem dX8_bodyBit_8 : decode cX8_bodyBit 8 = .ok (.aload_n 0, 1) := by decide +kernel
theorem dX8_bodyBit_9 : decode cX8_bodyBit 9 = .ok (.iload_n 1, 1) := by decide +kernel
theorem dX8_bodyBit_10 : decode cX8_bodyBit 10 = .ok (.iload_n 2, 1) := by decide +kernel
theorem dX8_bodyBit_11 : decode cX8_bodyBit 11 = .ok (.invokevirtual 96, 3) := by decide +kernel
theorem dX8_bodyBit_14 : decode cX8_bodyBit 14 = .ok (.istore 5, 2) := by decide +kernel
theorem dX8_bodyBit_16 : decode cX8_bodyBit 16 = .ok (.aload_n 0, 1) := by decide +kernel
theorem dX8_bodyBit_17 : decode cX8_bodyBit 17 = .ok (.iload_n 1, 1) := by decide +kernel
theorem dX8_bodyBit_18 : decode cX8_bodyBit 18 = .ok (.iload_n 2, 1) := by decide +kernel
theorem dX8_bodyBit_19 : decode cX8_bodyBit 19 = .ok (.invokevirtual 105, 3) := by decide +kernel
theorem dX8_bodyBit_22 : decode cX8_bodyBit 22 = .ok (.istore 6, 2) := by decide +kernel
theorem dX8_bodyBit_24 : decode cX8_bodyBit 24 = .ok (.aload_n 0, 1) := by decide +kernel
theorem dX8_bodyBit_25 : decode cX8_bodyBit 25 = .ok (.iload_n 1, 1) := by decide +kernel
theorem dX8_bodyBit_26 : decode cX8_bodyBit 26 = .ok (.iload_n 2, 1) := by decide +kernel
theorem dX8_bodyBit_27 : decode cX8_bodyBit 27 = .ok (.invokevirtual 117, 3) := by decide +kernel
theorem dX8_bodyBit_30 : decode cX8_bodyBit 30 = .ok (.istore 7, 2) := by decide +kernel
theorem dX8_bodyBit_32 : decode cX8_bodyBit 32 = .ok (.iload 6, 2) := by decide +kernel
theorem dX8_bodyBit_34 : decode cX8_bodyBit 34 = .ok (.aload_n 0, 1) := by decide +kernel
theorem dX8_bodyBit_35 : decode cX8_bodyBit 35 = .ok (.iload_n 1, 1) := by decide +kernel
theorem dX8_bodyBit_36 : decode cX8_bodyBit 36 = .ok (.iload_n 2, 1) := by decide +kernel
theorem dX8_bodyBit_37 : decode cX8_bodyBit 37 = .ok (.invokevirtual 108, 3) := by decide +kernel
theorem dX8_bodyBit_40 : decode cX8_bodyBit 40 = .ok (.iconst 1, 1) := by decide +kernel
theorem dX8_bodyBit_41 : decode cX8_bodyBit 41 = .ok (.isub, 1) := by decide +kernel
theorem dX8_bodyBit_42 : decode cX8_bodyBit 42 = .ok (.iload 7, 2) := by decide +kernel
theorem dX8_bodyBit_44 : decode cX8_bodyBit 44 = .ok (.ishr, 1) := by decide +kernel
theorem dX8_bodyBit_45 : decode cX8_bodyBit 45 = .ok (.iadd, 1) := by decide +kernel
theorem dX8_bodyBit_46 : decode cX8_bodyBit 46 = .ok (.iconst 1, 1) := by decide +kernel
theorem dX8_bodyBit_47 : decode cX8_bodyBit 47 = .ok (.iadd, 1) := by decide +kernel
theorem dX8_bodyBit_48 : decode cX8_bodyBit 48 = .ok (.istore 8, 2) := by decide +kernel
theorem dX8_bodyBit_50 : decode cX8_bodyBit 50 = .ok (.iconst 0, 1) := by decide +kernel
theorem dX8_bodyBit_51 : decode cX8_bodyBit 51 = .ok (.istore 9, 2) := by decide +kernel
theorem dX8_bodyBit_53 : decode cX8_bodyBit 53 = .ok (.aload_n 0, 1) := by decide +kernel
theorem dX8_bodyBit_54 : decode cX8_bodyBit 54 = .ok (.iload_n 1, 1) := by decide +kernel
theorem dX8_bodyBit_55 : decode cX8_bodyBit 55 = .ok (.iload_n 2, 1) := by decide +kernel
theorem dX8_bodyBit_56 : decode cX8_bodyBit 56 = .ok (.invokevirtual 111, 3) := by decide +kernel
theorem dX8_bodyBit_59 : decode cX8_bodyBit 59 = .ok (.iconst 2, 1) := by decide +kernel
theorem dX8_bodyBit_60 : decode cX8_bodyBit 60 = .ok (.if_icmp .ne 38, 3) := by decide +kernel
theorem dX8_bodyBit_63 : decode cX8_bodyBit 63 = .ok (.iload_n 3, 1) := by decide +kernel
theorem dX8_bodyBit_64 : decode cX8_bodyBit 64 = .ok (.iload 8, 2) := by decide +kernel
theorem dX8_bodyBit_66 : decode cX8_bodyBit 66 = .ok (.if_icmp .lt 32, 3) := by decide +kernel
theorem dX8_bodyBit_69 : decode cX8_bodyBit 69 = .ok (.aload_n 0, 1) := by decide +kernel
theorem dX8_bodyBit_70 : decode cX8_bodyBit 70 = .ok (.iload_n 1, 1) := by decide +kernel
theorem dX8_bodyBit_71 : decode cX8_bodyBit 71 = .ok (.iload 5, 2) := by decide +kernel
theorem dX8_bodyBit_73 : decode cX8_bodyBit 73 = .ok (.iload_n 3, 1) := by decide +kernel
theorem dX8_bodyBit_74 : decode cX8_bodyBit 74 = .ok (.iload 8, 2) := by decide +kernel
theorem dX8_bodyBit_76 : decode cX8_bodyBit 76 = .ok (.isub, 1) := by decide +kernel
theorem dX8_bodyBit_77 : decode cX8_bodyBit 77 = .ok (.iload 7, 2) := by decide +kernel
theorem dX8_bodyBit_79 : decode cX8_bodyBit 79 = .ok (.idiv, 1) := by decide +kernel
theorem dX8_bodyBit_80 : decode cX8_bodyBit 80 = .ok (.iadd, 1) := by decide +kernel
theorem dX8_bodyBit_81 : decode cX8_bodyBit 81 = .ok (.invokevirtual 56, 3) := by decide +kernel
theorem dX8_bodyBit_84 : decode cX8_bodyBit 84 = .ok (.iload 4, 2) := by decide +kernel
theorem dX8_bodyBit_86 : decode cX8_bodyBit 86 = .ok (.isub, 1) := by decide +kernel
theorem dX8_bodyBit_87 : decode cX8_bodyBit 87 = .ok (.iload_n 3, 1) := by decide +kernel
theorem dX8_bodyBit_88 : decode cX8_bodyBit 88 = .ok (.iload 8, 2) := by decide +kernel
theorem dX8_bodyBit_90 : decode cX8_bodyBit 90 = .ok (.isub, 1) := by decide +kernel
theorem dX8_bodyBit_91 : decode cX8_bodyBit 91 = .ok (.iload 7, 2) := by decide +kernel
theorem dX8_bodyBit_93 : decode cX8_bodyBit 93 = .ok (.irem, 1) := by decide +kernel
theorem dX8_bodyBit_94 : decode cX8_bodyBit 94 = .ok (.ishr, 1) := by decide +kernel
theorem dX8_bodyBit_95 : decode cX8_bodyBit 95 = .ok (.iconst 1, 1) := by decide +kernel
theorem dX8_bodyBit_96 : decode cX8_bodyBit 96 = .ok (.iand, 1) := by decide +kernel
theorem dX8_bodyBit_97 : decode cX8_bodyBit 97 = .ok (.ireturn, 1) := by decide +kernel
theorem dX8_bodyBit_98 : decode cX8_bodyBit 98 = .ok (.iconst 0, 1) := by decide +kernel
theorem dX8_bodyBit_99 : decode cX8_bodyBit 99 = .ok (.istore 10, 2) := by decide +kernel
theorem dX8_bodyBit_101 : decode cX8_bodyBit 101 = .ok (.iload 10, 2) := by decide +kernel
theorem dX8_bodyBit_103 : decode cX8_bodyBit 103 = .ok (.iload 6, 2) := by decide +kernel
theorem dX8_bodyBit_105 : decode cX8_bodyBit 105 = .ok (.if_icmp .ge 61, 3) := by decide +kernel
theorem dX8_bodyBit_108 : decode cX8_bodyBit 108 = .ok (.aload_n 0, 1) := by decide +kernel
theorem dX8_bodyBit_109 : decode cX8_bodyBit 109 = .ok (.iload_n 1, 1) := by decide +kernel
theorem dX8_bodyBit_110 : decode cX8_bodyBit 110 = .ok (.iload 5, 2) := by decide +kernel
theorem dX8_bodyBit_112 : decode cX8_bodyBit 112 = .ok (.iload 10, 2) := by decide +kernel
theorem dX8_bodyBit_114 : decode cX8_bodyBit 114 = .ok (.iadd, 1) := by decide +kernel
theorem dX8_bodyBit_115 : decode cX8_bodyBit 115 = .ok (.invokevirtual 56, 3) := by decide +kernel
theorem dX8_bodyBit_118 : decode cX8_bodyBit 118 = .ok (.iload 4, 2) := by decide +kernel
theorem dX8_bodyBit_120 : decode cX8_bodyBit 120 = .ok (.isub, 1) := by decide +kernel
theorem dX8_bodyBit_121 : decode cX8_bodyBit 121 = .ok (.istore 11, 2) := by decide +kernel
theorem dX8_bodyBit_123 : decode cX8_bodyBit 123 = .ok (.iload 9, 2) := by decide +kernel
theorem dX8_bodyBit_125 : decode cX8_bodyBit 125 = .ok (.aload_n 0, 1) := by decide +kernel
theorem dX8_bodyBit_126 : decode cX8_bodyBit 126 = .ok (.iload_n 1, 1) := by decide +kernel
theorem dX8_bodyBit_127 : decode cX8_bodyBit 127 = .ok (.iload_n 2, 1) := by decide +kernel
theorem dX8_bodyBit_128 : decode cX8_bodyBit 128 = .ok (.invokevirtual 111, 3) := by decide +kernel
theorem dX8_bodyBit_131 : decode cX8_bodyBit 131 = .ok (.iconst 1, 1) := by decide +kernel
theorem dX8_bodyBit_132 : decode cX8_bodyBit 132 = .ok (.if_icmp .ne 8, 3) := by decide +kernel
theorem dX8_bodyBit_135 : decode cX8_bodyBit 135 = .ok (.iload 11, 2) := by decide +kernel
theorem dX8_bodyBit_137 : decode cX8_bodyBit 137 = .ok (.goto 11, 3) := by decide +kernel
theorem dX8_bodyBit_140 : decode cX8_bodyBit 140 = .ok (.iload 10, 2) := by decide +kernel
theorem dX8_bodyBit_142 : decode cX8_bodyBit 142 = .ok (.iload 11, 2) := by decide +kernel
theorem dX8_bodyBit_144 : decode cX8_bodyBit 144 = .ok (.iload 7, 2) := by decide +kernel
theorem dX8_bodyBit_146 : decode cX8_bodyBit 146 = .ok (.ishr, 1) := by decide +kernel
theorem dX8_bodyBit_147 : decode cX8_bodyBit 147 = .ok (.iadd, 1) := by decide +kernel
theorem dX8_bodyBit_148 : decode cX8_bodyBit 148 = .ok (.iload_n 3, 1) := by decide +kernel
theorem dX8_bodyBit_149 : decode cX8_bodyBit 149 = .ok (.if_icmp .ne 7, 3) := by decide +kernel
theorem dX8_bodyBit_152 : decode cX8_bodyBit 152 = .ok (.iconst 1, 1) := by decide +kernel
theorem dX8_bodyBit_153 : decode cX8_bodyBit 153 = .ok (.goto 4, 3) := by decide +kernel
theorem dX8_bodyBit_156 : decode cX8_bodyBit 156 = .ok (.iconst 0, 1) := by decide +kernel
theorem dX8_bodyBit_157 : decode cX8_bodyBit 157 = .ok (.ior, 1) := by decide +kernel
theorem dX8_bodyBit_158 : decode cX8_bodyBit 158 = .ok (.istore 9, 2) := by decide +kernel
theorem dX8_bodyBit_160 : decode cX8_bodyBit 160 = .ok (.iinc 10 1, 3) := by decide +kernel
theorem dX8_bodyBit_163 : decode cX8_bodyBit 163 = .ok (.goto (-62), 3) := by decide +kernel
theorem dX8_bodyBit_166 : decode cX8_bodyBit 166 = .ok (.iload 9, 2) := by decide +kernel
theorem dX8_bodyBit_168 : decode cX8_bodyBit 168 = .ok (.ireturn, 1) := by decide +kernel
theorem dX8_bitOf_0 : decode cX8_bitOf 0 = .ok (.iload_n 2, 1) := by decide +kernel
theorem dX8_bitOf_1 : decode cX8_bitOf 1 = .ok (.istore_n 3, 1) := by decide +kernel
theorem dX8_bitOf_2 : decode cX8_bitOf 2 = .ok (.iconst 0, 1) := by decide +kernel
theorem dX8_bitOf_3 : decode cX8_bitOf 3 = .ok (.istore 4, 2) := by decide +kernel
theorem dX8_bitOf_5 : decode cX8_bitOf 5 = .ok (.iload_n 3, 1) := by decide +kernel
theorem dX8_bitOf_6 : decode cX8_bitOf 6 = .ok (.aload_n 0, 1) := by decide +kernel
theorem dX8_bitOf_7 : decode cX8_bitOf 7 = .ok (.iload_n 1, 1) := by decide +kernel
theorem dX8_bitOf_8 : decode cX8_bitOf 8 = .ok (.iload 4, 2) := by decide +kernel
theorem dX8_bitOf_10 : decode cX8_bitOf 10 = .ok (.iconst 4, 1) := by decide +kernel
theorem dX8_bitOf_11 : decode cX8_bitOf 11 = .ok (.invokevirtual 120, 3) := by decide +kernel
theorem dX8_bitOf_14 : decode cX8_bitOf 14 = .ok (.if_icmp .lt 20, 3) := by decide +kernel
theorem dX8_bitOf_17 : decode cX8_bitOf 17 = .ok (.iload_n 3, 1) := by decide +kernel
theorem dX8_bitOf_18 : decode cX8_bitOf 18 = .ok (.aload_n 0, 1) := by decide +kernel
theorem dX8_bitOf_19 : decode cX8_bitOf 19 = .ok (.iload_n 1, 1) := by decide +kernel
theorem dX8_bitOf_20 : decode cX8_bitOf 20 = .ok (.iload 4, 2) := by decide +kernel
theorem dX8_bitOf_22 : decode cX8_bitOf 22 = .ok (.iconst 4, 1) := by decide +kernel
theorem dX8_bitOf_23 : decode cX8_bitOf 23 = .ok (.invokevirtual 120, 3) := by decide +kernel
theorem dX8_bitOf_26 : decode cX8_bitOf 26 = .ok (.isub, 1) := by decide +kernel
theorem dX8_bitOf_27 : decode cX8_bitOf 27 = .ok (.istore_n 3, 1) := by decide +kernel
theorem dX8_bitOf_28 : decode cX8_bitOf 28 = .ok (.iinc 4 1, 3) := by decide +kernel
theorem dX8_bitOf_31 : decode cX8_bitOf 31 = .ok (.goto (-26), 3) := by decide +kernel
theorem dX8_bitOf_34 : decode cX8_bitOf 34 = .ok (.iload_n 3, 1) := by decide +kernel
theorem dX8_bitOf_35 : decode cX8_bitOf 35 = .ok (.bipush 26, 2) := by decide +kernel
theorem dX8_bitOf_37 : decode cX8_bitOf 37 = .ok (.if_icmp .ge 14, 3) := by decide +kernel
theorem dX8_bitOf_40 : decode cX8_bitOf 40 = .ok (.aload_n 0, 1) := by decide +kernel
theorem dX8_bitOf_41 : decode cX8_bitOf 41 = .ok (.iload_n 1, 1) := by decide +kernel
theorem dX8_bitOf_42 : decode cX8_bitOf 42 = .ok (.iload 4, 2) := by decide +kernel
theorem dX8_bitOf_44 : decode cX8_bitOf 44 = .ok (.iload_n 3, 1) := by decide +kernel
theorem dX8_bitOf_45 : decode cX8_bitOf 45 = .ok (.invokevirtual 126, 3) := by decide +kernel
theorem dX8_bitOf_48 : decode cX8_bitOf 48 = .ok (.goto 14, 3) := by decide +kernel
theorem dX8_bitOf_51 : decode cX8_bitOf 51 = .ok (.aload_n 0, 1) := by decide +kernel
theorem dX8_bitOf_52 : decode cX8_bitOf 52 = .ok (.iload_n 1, 1) := by decide +kernel
theorem dX8_bitOf_53 : decode cX8_bitOf 53 = .ok (.iload 4, 2) := by decide +kernel
theorem dX8_bitOf_55 : decode cX8_bitOf 55 = .ok (.iload_n 3, 1) := by decide +kernel
theorem dX8_bitOf_56 : decode cX8_bitOf 56 = .ok (.bipush 26, 2) := by decide +kernel
theorem dX8_bitOf_58 : decode cX8_bitOf 58 = .ok (.isub, 1) := by decide +kernel
theorem dX8_bitOf_59 : decode cX8_bitOf 59 = .ok (.invokevirtual 129, 3) := by decide +kernel
theorem dX8_bitOf_62 : decode cX8_bitOf 62 = .ok (.ireturn, 1) := by decide +kernel
theorem dX8_codeBit_0 : decode cX8_codeBit 0 = .ok (.aload_n 0, 1) := by decide +kernel
theorem dX8_codeBit_1 : decode cX8_codeBit 1 = .ok (.iconst 0, 1) := by decide +kernel
theorem dX8_codeBit_2 : decode cX8_codeBit 2 = .ok (.putfield 41, 3) := by decide +kernel
theorem dX8_codeBit_5 : decode cX8_codeBit 5 = .ok (.iload_n 1, 1) := by decide +kernel
theorem dX8_codeBit_6 : decode cX8_codeBit 6 = .ok (.invokestatic 60, 3) := by decide +kernel
theorem dX8_codeBit_9 : decode cX8_codeBit 9 = .ok (.ifCond .eq 27, 3) := by decide +kernel
theorem dX8_codeBit_12 : decode cX8_codeBit 12 = .ok (.iload_n 2, 1) := by decide +kernel
theorem dX8_codeBit_13 : decode cX8_codeBit 13 = .ok (.iconst 0, 1) := by decide +kernel
theorem dX8_codeBit_14 : decode cX8_codeBit 14 = .ok (.aload_n 0, 1) := by decide +kernel
theorem dX8_codeBit_15 : decode cX8_codeBit 15 = .ok (.iload_n 1, 1) := by decide +kernel
theorem dX8_codeBit_16 : decode cX8_codeBit 16 = .ok (.invokevirtual 123, 3) := by decide +kernel
theorem dX8_codeBit_19 : decode cX8_codeBit 19 = .ok (.iconst 1, 1) := by decide +kernel
theorem dX8_codeBit_20 : decode cX8_codeBit 20 = .ok (.isub, 1) := by decide +kernel
theorem dX8_codeBit_21 : decode cX8_codeBit 21 = .ok (.invokestatic 45, 3) := by decide +kernel
theorem dX8_codeBit_24 : decode cX8_codeBit 24 = .ok (.ifCond .eq 12, 3) := by decide +kernel
theorem dX8_codeBit_27 : decode cX8_codeBit 27 = .ok (.aload_n 0, 1) := by decide +kernel
theorem dX8_codeBit_28 : decode cX8_codeBit 28 = .ok (.iload_n 1, 1) := by decide +kernel
theorem dX8_codeBit_29 : decode cX8_codeBit 29 = .ok (.iload_n 2, 1) := by decide +kernel
theorem dX8_codeBit_30 : decode cX8_codeBit 30 = .ok (.invokevirtual 132, 3) := by decide +kernel
theorem dX8_codeBit_33 : decode cX8_codeBit 33 = .ok (.goto 8, 3) := by decide +kernel
theorem dX8_codeBit_36 : decode cX8_codeBit 36 = .ok (.aload_n 0, 1) := by decide +kernel
theorem dX8_codeBit_37 : decode cX8_codeBit 37 = .ok (.iconst 1, 1) := by decide +kernel
theorem dX8_codeBit_38 : decode cX8_codeBit 38 = .ok (.invokevirtual 64, 3) := by decide +kernel
theorem dX8_codeBit_41 : decode cX8_codeBit 41 = .ok (.ireturn, 1) := by decide +kernel
theorem dX8_fixedLength_0 : decode cX8_fixedLength 0 = .ok (.aload_n 0, 1) := by decide +kernel
theorem dX8_fixedLength_1 : decode cX8_fixedLength 1 = .ok (.iconst 0, 1) := by decide +kernel
theorem dX8_fixedLength_2 : decode cX8_fixedLength 2 = .ok (.putfield 41, 3) := by decide +kernel
theorem dX8_fixedLength_5 : decode cX8_fixedLength 5 = .ok (.iload_n 1, 1) := by decide +kernel
theorem dX8_fixedLength_6 : decode cX8_fixedLength 6 = .ok (.invokestatic 60, 3) := by decide +kernel
theorem dX8_fixedLength_9 : decode cX8_fixedLength 9 = .ok (.ifCond .ne 9, 3) := by decide +kernel
theorem dX8_fixedLength_12 : decode cX8_fixedLength 12 = .ok (.aload_n 0, 1) := by decide +kernel
theorem dX8_fixedLength_13 : decode cX8_fixedLength 13 = .ok (.iconst 1, 1) := by decide +kernel
theorem dX8_fixedLength_14 : decode cX8_fixedLength 14 = .ok (.invokevirtual 64, 3) := by decide +kernel
theorem dX8_fixedLength_17 : decode cX8_fixedLength 17 = .ok (.ireturn, 1) := by decide +kernel
theorem dX8_fixedLength_18 : decode cX8_fixedLength 18 = .ok (.iload_n 2, 1) := by decide +kernel
theorem dX8_fixedLength_19 : decode cX8_fixedLength 19 = .ok (.iconst 1, 1) := by decide +kernel
theorem dX8_fixedLength_20 : decode cX8_fixedLength 20 = .ok (.bipush 64, 2) := by decide +kernel
theorem dX8_fixedLength_22 : decode cX8_fixedLength 22 = .ok (.invokestatic 45, 3) := by decide +kernel
theorem dX8_fixedLength_25 : decode cX8_fixedLength 25 = .ok (.ifCond .ne 9, 3) := by decide +kernel
theorem dX8_fixedLength_28 : decode cX8_fixedLength 28 = .ok (.aload_n 0, 1) := by decide +kernel
theorem dX8_fixedLength_29 : decode cX8_fixedLength 29 = .ok (.iconst 2, 1) := by decide +kernel
theorem dX8_fixedLength_30 : decode cX8_fixedLength 30 = .ok (.invokevirtual 64, 3) := by decide +kernel
theorem dX8_fixedLength_33 : decode cX8_fixedLength 33 = .ok (.ireturn, 1) := by decide +kernel
theorem dX8_fixedLength_34 : decode cX8_fixedLength 34 = .ok (.iconst 0, 1) := by decide +kernel
theorem dX8_fixedLength_35 : decode cX8_fixedLength 35 = .ok (.istore_n 3, 1) := by decide +kernel
theorem dX8_fixedLength_36 : decode cX8_fixedLength 36 = .ok (.iconst 0, 1) := by decide +kernel
theorem dX8_fixedLength_37 : decode cX8_fixedLength 37 = .ok (.istore 4, 2) := by decide +kernel
theorem dX8_fixedLength_39 : decode cX8_fixedLength 39 = .ok (.iload 4, 2) := by decide +kernel
theorem dX8_fixedLength_41 : decode cX8_fixedLength 41 = .ok (.aload_n 0, 1) := by decide +kernel
theorem dX8_fixedLength_42 : decode cX8_fixedLength 42 = .ok (.getfield 7, 3) := by decide +kernel
theorem dX8_fixedLength_45 : decode cX8_fixedLength 45 = .ok (.iload_n 1, 1) := by decide +kernel
theorem dX8_fixedLength_46 : decode cX8_fixedLength 46 = .ok (.iaload, 1) := by decide +kernel
theorem dX8_fixedLength_47 : decode cX8_fixedLength 47 = .ok (.if_icmp .ge 48, 3) := by decide +kernel
theorem dX8_fixedLength_50 : decode cX8_fixedLength 50 = .ok (.iload_n 3, 1) := by decide +kernel
theorem dX8_fixedLength_51 : decode cX8_fixedLength 51 = .ok (.aload_n 0, 1) := by decide +kernel
theorem dX8_fixedLength_52 : decode cX8_fixedLength 52 = .ok (.iload_n 1, 1) := by decide +kernel
theorem dX8_fixedLength_53 : decode cX8_fixedLength 53 = .ok (.iload 4, 2) := by decide +kernel
theorem dX8_fixedLength_55 : decode cX8_fixedLength 55 = .ok (.iload 4, 2) := by decide +kernel
theorem dX8_fixedLength_57 : decode cX8_fixedLength 57 = .ok (.iload_n 2, 1) := by decide +kernel
theorem dX8_fixedLength_58 : decode cX8_fixedLength 58 = .ok (.iadd, 1) := by decide +kernel
theorem dX8_fixedLength_59 : decode cX8_fixedLength 59 = .ok (.aload_n 0, 1) := by decide +kernel
theorem dX8_fixedLength_60 : decode cX8_fixedLength 60 = .ok (.getfield 7, 3) := by decide +kernel
theorem dX8_fixedLength_63 : decode cX8_fixedLength 63 = .ok (.iload_n 1, 1) := by decide +kernel
theorem dX8_fixedLength_64 : decode cX8_fixedLength 64 = .ok (.iaload, 1) := by decide +kernel
theorem dX8_fixedLength_65 : decode cX8_fixedLength 65 = .ok (.if_icmp .ge 10, 3) := by decide +kernel
theorem dX8_fixedLength_68 : decode cX8_fixedLength 68 = .ok (.iload 4, 2) := by decide +kernel
theorem dX8_fixedLength_70 : decode cX8_fixedLength 70 = .ok (.iload_n 2, 1) := by decide +kernel
theorem dX8_fixedLength_71 : decode cX8_fixedLength 71 = .ok (.iadd, 1) := by decide +kernel
theorem dX8_fixedLength_72 : decode cX8_fixedLength 72 = .ok (.goto 9, 3) := by decide +kernel
theorem dX8_fixedLength_75 : decode cX8_fixedLength 75 = .ok (.aload_n 0, 1) := by decide +kernel
theorem dX8_fixedLength_76 : decode cX8_fixedLength 76 = .ok (.getfield 7, 3) := by decide +kernel
theorem dX8_fixedLength_79 : decode cX8_fixedLength 79 = .ok (.iload_n 1, 1) := by decide +kernel
theorem dX8_fixedLength_80 : decode cX8_fixedLength 80 = .ok (.iaload, 1) := by decide +kernel
theorem dX8_fixedLength_81 : decode cX8_fixedLength 81 = .ok (.invokevirtual 92, 3) := by decide +kernel
theorem dX8_fixedLength_84 : decode cX8_fixedLength 84 = .ok (.iadd, 1) := by decide +kernel
theorem dX8_fixedLength_85 : decode cX8_fixedLength 85 = .ok (.istore_n 3, 1) := by decide +kernel
theorem dX8_fixedLength_86 : decode cX8_fixedLength 86 = .ok (.iload 4, 2) := by decide +kernel
theorem dX8_fixedLength_88 : decode cX8_fixedLength 88 = .ok (.iload_n 2, 1) := by decide +kernel
theorem dX8_fixedLength_89 : decode cX8_fixedLength 89 = .ok (.iadd, 1) := by decide +kernel
theorem dX8_fixedLength_90 : decode cX8_fixedLength 90 = .ok (.istore 4, 2) := by decide +kernel
theorem dX8_fixedLength_92 : decode cX8_fixedLength 92 = .ok (.goto (-53), 3) := by decide +kernel
theorem dX8_fixedLength_95 : decode cX8_fixedLength 95 = .ok (.iload_n 3, 1) := by decide +kernel
theorem dX8_fixedLength_96 : decode cX8_fixedLength 96 = .ok (.ireturn, 1) := by decide +kernel
theorem dX8_bitsPerDocument_0 : decode cX8_bitsPerDocument 0 = .ok (.aload_n 0, 1) := by decide +kernel
theorem dX8_bitsPerDocument_1 : decode cX8_bitsPerDocument 1 = .ok (.iconst 0, 1) := by decide +kernel
theorem dX8_bitsPerDocument_2 : decode cX8_bitsPerDocument 2 = .ok (.putfield 41, 3) := by decide +kernel
theorem dX8_bitsPerDocument_5 : decode cX8_bitsPerDocument 5 = .ok (.iload_n 1, 1) := by decide +kernel
theorem dX8_bitsPerDocument_6 : decode cX8_bitsPerDocument 6 = .ok (.invokestatic 60, 3) := by decide +kernel
theorem dX8_bitsPerDocument_9 : decode cX8_bitsPerDocument 9 = .ok (.ifCond .ne 10, 3) := by decide +kernel
theorem dX8_bitsPerDocument_12 : decode cX8_bitsPerDocument 12 = .ok (.aload_n 0, 1) := by decide +kernel
theorem dX8_bitsPerDocument_13 : decode cX8_bitsPerDocument 13 = .ok (.iconst 1, 1) := by decide +kernel
theorem dX8_bitsPerDocument_14 : decode cX8_bitsPerDocument 14 = .ok (.invokevirtual 64, 3) := by decide +kernel
theorem dX8_bitsPerDocument_17 : decode cX8_bitsPerDocument 17 = .ok (.i2d, 1) := by decide +kernel
theorem dX8_bitsPerDocument_18 : decode cX8_bitsPerDocument 18 = .ok (.dreturn, 1) := by decide +kernel
theorem dX8_bitsPerDocument_19 : decode cX8_bitsPerDocument 19 = .ok (.aload_n 0, 1) := by decide +kernel
theorem dX8_bitsPerDocument_20 : decode cX8_bitsPerDocument 20 = .ok (.getfield 7, 3) := by decide +kernel
theorem dX8_bitsPerDocument_23 : decode cX8_bitsPerDocument 23 = .ok (.iload_n 1, 1) := by decide +kernel
theorem dX8_bitsPerDocument_24 : decode cX8_bitsPerDocument 24 = .ok (.iaload, 1) := by decide +kernel
theorem dX8_bitsPerDocument_25 : decode cX8_bitsPerDocument 25 = .ok (.ifCond .ne 7, 3) := by decide +kernel
theorem dX8_bitsPerDocument_28 : decode cX8_bitsPerDocument 28 = .ok (.dconst 0, 1) := by decide +kernel
theorem dX8_bitsPerDocument_29 : decode cX8_bitsPerDocument 29 = .ok (.goto 17, 3) := by decide +kernel
theorem dX8_bitsPerDocument_32 : decode cX8_bitsPerDocument 32 = .ok (.aload_n 0, 1) := by decide +kernel
theorem dX8_bitsPerDocument_33 : decode cX8_bitsPerDocument 33 = .ok (.iload_n 1, 1) := by decide +kernel
theorem dX8_bitsPerDocument_34 : decode cX8_bitsPerDocument 34 = .ok (.invokevirtual 123, 3) := by decide +kernel
theorem dX8_bitsPerDocument_37 : decode cX8_bitsPerDocument 37 = .ok (.i2d, 1) := by decide +kernel
theorem dX8_bitsPerDocument_38 : decode cX8_bitsPerDocument 38 = .ok (.aload_n 0, 1) := by decide +kernel
theorem dX8_bitsPerDocument_39 : decode cX8_bitsPerDocument 39 = .ok (.getfield 7, 3) := by decide +kernel
theorem dX8_bitsPerDocument_42 : decode cX8_bitsPerDocument 42 = .ok (.iload_n 1, 1) := by decide +kernel
theorem dX8_bitsPerDocument_43 : decode cX8_bitsPerDocument 43 = .ok (.iaload, 1) := by decide +kernel
theorem dX8_bitsPerDocument_44 : decode cX8_bitsPerDocument 44 = .ok (.i2d, 1) := by decide +kernel
theorem dX8_bitsPerDocument_45 : decode cX8_bitsPerDocument 45 = .ok (.ddiv, 1) := by decide +kernel
theorem dX8_bitsPerDocument_46 : decode cX8_bitsPerDocument 46 = .ok (.dreturn, 1) := by decide +kernel
theorem dX8_readsFor_0 : decode cX8_readsFor 0 = .ok (.aload_n 0, 1) := by decide +kernel
theorem dX8_readsFor_1 : decode cX8_readsFor 1 = .ok (.iload_n 1, 1) := by decide +kernel
theorem dX8_readsFor_2 : decode cX8_readsFor 2 = .ok (.iload_n 2, 1) := by decide +kernel
theorem dX8_readsFor_3 : decode cX8_readsFor 3 = .ok (.invokevirtual 102, 3) := by decide +kernel
theorem dX8_readsFor_6 : decode cX8_readsFor 6 = .ok (.istore 5, 2) := by decide +kernel
theorem dX8_readsFor_8 : decode cX8_readsFor 8 = .ok (.aload_n 0, 1) := by decide +kernel
theorem dX8_readsFor_9 : decode cX8_readsFor 9 = .ok (.iload_n 1, 1) := by decide +kernel
theorem dX8_readsFor_10 : decode cX8_readsFor 10 = .ok (.iload_n 2, 1) := by decide +kernel
theorem dX8_readsFor_11 : decode cX8_readsFor 11 = .ok (.invokevirtual 111, 3) := by decide +kernel
theorem dX8_readsFor_14 : decode cX8_readsFor 14 = .ok (.istore 6, 2) := by decide +kernel
theorem dX8_readsFor_16 : decode cX8_readsFor 16 = .ok (.iload 6, 2) := by decide +kernel
theorem dX8_readsFor_18 : decode cX8_readsFor 18 = .ok (.iconst 2, 1) := by decide +kernel
theorem dX8_readsFor_19 : decode cX8_readsFor 19 = .ok (.if_icmp .ge 36, 3) := by decide +kernel
theorem dX8_readsFor_22 : decode cX8_readsFor 22 = .ok (.iload 6, 2) := by decide +kernel
theorem dX8_readsFor_24 : decode cX8_readsFor 24 = .ok (.ifCond .ne 7, 3) := by decide +kernel
theorem dX8_readsFor_27 : decode cX8_readsFor 27 = .ok (.iconst 0, 1) := by decide +kernel
theorem dX8_readsFor_28 : decode cX8_readsFor 28 = .ok (.goto 26, 3) := by decide +kernel
theorem dX8_readsFor_31 : decode cX8_readsFor 31 = .ok (.aload_n 0, 1) := by decide +kernel
theorem dX8_readsFor_32 : decode cX8_readsFor 32 = .ok (.iload_n 1, 1) := by decide +kernel
theorem dX8_readsFor_33 : decode cX8_readsFor 33 = .ok (.iload 4, 2) := by decide +kernel
theorem dX8_readsFor_35 : decode cX8_readsFor 35 = .ok (.invokevirtual 56, 3) := by decide +kernel
theorem dX8_readsFor_38 : decode cX8_readsFor 38 = .ok (.iload 5, 2) := by decide +kernel
theorem dX8_readsFor_40 : decode cX8_readsFor 40 = .ok (.isub, 1) := by decide +kernel
theorem dX8_readsFor_41 : decode cX8_readsFor 41 = .ok (.bipush 8, 2) := by decide +kernel
theorem dX8_readsFor_43 : decode cX8_readsFor 43 = .ok (.idiv, 1) := by decide +kernel
theorem dX8_readsFor_44 : decode cX8_readsFor 44 = .ok (.iload_n 3, 1) := by decide +kernel
theorem dX8_readsFor_45 : decode cX8_readsFor 45 = .ok (.iload 5, 2) := by decide +kernel
theorem dX8_readsFor_47 : decode cX8_readsFor 47 = .ok (.isub, 1) := by decide +kernel
theorem dX8_readsFor_48 : decode cX8_readsFor 48 = .ok (.bipush 8, 2) := by decide +kernel
theorem dX8_readsFor_50 : decode cX8_readsFor 50 = .ok (.idiv, 1) := by decide +kernel
theorem dX8_readsFor_51 : decode cX8_readsFor 51 = .ok (.isub, 1) := by decide +kernel
theorem dX8_readsFor_52 : decode cX8_readsFor 52 = .ok (.iconst 1, 1) := by decide +kernel
theorem dX8_readsFor_53 : decode cX8_readsFor 53 = .ok (.iadd, 1) := by decide +kernel
theorem dX8_readsFor_54 : decode cX8_readsFor 54 = .ok (.ireturn, 1) := by decide +kernel
theorem dX8_readsFor_55 : decode cX8_readsFor 55 = .ok (.aload_n 0, 1) := by decide +kernel
theorem dX8_readsFor_56 : decode cX8_readsFor 56 = .ok (.iload_n 1, 1) := by decide +kernel
theorem dX8_readsFor_57 : decode cX8_readsFor 57 = .ok (.iload_n 2, 1) := by decide +kernel
theorem dX8_readsFor_58 : decode cX8_readsFor 58 = .ok (.invokevirtual 117, 3) := by decide +kernel
theorem dX8_readsFor_61 : decode cX8_readsFor 61 = .ok (.istore 7, 2) := by decide +kernel
theorem dX8_readsFor_63 : decode cX8_readsFor 63 = .ok (.iconst 1, 1) := by decide +kernel
theorem dX8_readsFor_64 : decode cX8_readsFor 64 = .ok (.istore 8, 2) := by decide +kernel
theorem dX8_readsFor_66 : decode cX8_readsFor 66 = .ok (.aload_n 0, 1) := by decide +kernel
theorem dX8_readsFor_67 : decode cX8_readsFor 67 = .ok (.iload_n 1, 1) := by decide +kernel
theorem dX8_readsFor_68 : decode cX8_readsFor 68 = .ok (.iload_n 2, 1) := by decide +kernel
theorem dX8_readsFor_69 : decode cX8_readsFor 69 = .ok (.invokevirtual 96, 3) := by decide +kernel
theorem dX8_readsFor_72 : decode cX8_readsFor 72 = .ok (.istore 9, 2) := by decide +kernel
theorem dX8_readsFor_74 : decode cX8_readsFor 74 = .ok (.iload 9, 2) := by decide +kernel
theorem dX8_readsFor_76 : decode cX8_readsFor 76 = .ok (.iload 4, 2) := by decide +kernel
theorem dX8_readsFor_78 : decode cX8_readsFor 78 = .ok (.if_icmp .gt 42, 3) := by decide +kernel
theorem dX8_readsFor_81 : decode cX8_readsFor 81 = .ok (.iload 8, 2) := by decide +kernel
theorem dX8_readsFor_83 : decode cX8_readsFor 83 = .ok (.aload_n 0, 1) := by decide +kernel
theorem dX8_readsFor_84 : decode cX8_readsFor 84 = .ok (.iload_n 1, 1) := by decide +kernel
theorem dX8_readsFor_85 : decode cX8_readsFor 85 = .ok (.iload 9, 2) := by decide +kernel
theorem dX8_readsFor_87 : decode cX8_readsFor 87 = .ok (.invokevirtual 56, 3) := by decide +kernel
theorem dX8_readsFor_90 : decode cX8_readsFor 90 = .ok (.iload 5, 2) := by decide +kernel
theorem dX8_readsFor_92 : decode cX8_readsFor 92 = .ok (.isub, 1) := by decide +kernel
theorem dX8_readsFor_93 : decode cX8_readsFor 93 = .ok (.iload 7, 2) := by decide +kernel
theorem dX8_readsFor_95 : decode cX8_readsFor 95 = .ok (.ishr, 1) := by decide +kernel
theorem dX8_readsFor_96 : decode cX8_readsFor 96 = .ok (.iload_n 3, 1) := by decide +kernel
theorem dX8_readsFor_97 : decode cX8_readsFor 97 = .ok (.iload 5, 2) := by decide +kernel
theorem dX8_readsFor_99 : decode cX8_readsFor 99 = .ok (.isub, 1) := by decide +kernel
theorem dX8_readsFor_100 : decode cX8_readsFor 100 = .ok (.iload 7, 2) := by decide +kernel
theorem dX8_readsFor_102 : decode cX8_readsFor 102 = .ok (.ishr, 1) := by decide +kernel
theorem dX8_readsFor_103 : decode cX8_readsFor 103 = .ok (.if_icmp .lt 7, 3) := by decide +kernel
theorem dX8_readsFor_106 : decode cX8_readsFor 106 = .ok (.iconst 1, 1) := by decide +kernel
theorem dX8_readsFor_107 : decode cX8_readsFor 107 = .ok (.goto 4, 3) := by decide +kernel
theorem dX8_readsFor_110 : decode cX8_readsFor 110 = .ok (.iconst 0, 1) := by decide +kernel
theorem dX8_readsFor_111 : decode cX8_readsFor 111 = .ok (.iadd, 1) := by decide +kernel
theorem dX8_readsFor_112 : decode cX8_readsFor 112 = .ok (.istore 8, 2) := by decide +kernel
theorem dX8_readsFor_114 : decode cX8_readsFor 114 = .ok (.iinc 9 1, 3) := by decide +kernel
theorem dX8_readsFor_117 : decode cX8_readsFor 117 = .ok (.goto (-43), 3) := by decide +kernel
theorem dX8_readsFor_120 : decode cX8_readsFor 120 = .ok (.iload 8, 2) := by decide +kernel
theorem dX8_readsFor_122 : decode cX8_readsFor 122 = .ok (.ireturn, 1) := by decide +kernel
theorem dX8_opens_0 : decode cX8_opens 0 = .ok (.aload_n 0, 1) := by decide +kernel
theorem dX8_opens_1 : decode cX8_opens 1 = .ok (.iload_n 1, 1) := by decide +kernel
theorem dX8_opens_2 : decode cX8_opens 2 = .ok (.iload_n 2, 1) := by decide +kernel
theorem dX8_opens_3 : decode cX8_opens 3 = .ok (.invokevirtual 96, 3) := by decide +kernel
theorem dX8_opens_6 : decode cX8_opens 6 = .ok (.istore 4, 2) := by decide +kernel
theorem dX8_opens_8 : decode cX8_opens 8 = .ok (.aload_n 0, 1) := by decide +kernel
theorem dX8_opens_9 : decode cX8_opens 9 = .ok (.iload_n 1, 1) := by decide +kernel
theorem dX8_opens_10 : decode cX8_opens 10 = .ok (.iload 4, 2) := by decide +kernel
theorem dX8_opens_12 : decode cX8_opens 12 = .ok (.invokevirtual 56, 3) := by decide +kernel
theorem dX8_opens_15 : decode cX8_opens 15 = .ok (.iload_n 3, 1) := by decide +kernel
theorem dX8_opens_16 : decode cX8_opens 16 = .ok (.if_icmp .ge 9, 3) := by decide +kernel
theorem dX8_opens_19 : decode cX8_opens 19 = .ok (.iinc 4 1, 3) := by decide +kernel
theorem dX8_opens_22 : decode cX8_opens 22 = .ok (.goto (-14), 3) := by decide +kernel
theorem dX8_opens_25 : decode cX8_opens 25 = .ok (.iconst (-1), 1) := by decide +kernel
theorem dX8_opens_26 : decode cX8_opens 26 = .ok (.istore 5, 2) := by decide +kernel
theorem dX8_opens_28 : decode cX8_opens 28 = .ok (.iconst 0, 1) := by decide +kernel
theorem dX8_opens_29 : decode cX8_opens 29 = .ok (.istore 6, 2) := by decide +kernel
theorem dX8_opens_31 : decode cX8_opens 31 = .ok (.iload 6, 2) := by decide +kernel
theorem dX8_opens_33 : decode cX8_opens 33 = .ok (.aload_n 0, 1) := by decide +kernel
theorem dX8_opens_34 : decode cX8_opens 34 = .ok (.getfield 7, 3) := by decide +kernel
theorem dX8_opens_37 : decode cX8_opens 37 = .ok (.sipush 261, 3) := by decide +kernel
theorem dX8_opens_40 : decode cX8_opens 40 = .ok (.iaload, 1) := by decide +kernel
theorem dX8_opens_41 : decode cX8_opens 41 = .ok (.if_icmp .ge 38, 3) := by decide +kernel
theorem dX8_opens_44 : decode cX8_opens 44 = .ok (.aload_n 0, 1) := by decide +kernel
theorem dX8_opens_45 : decode cX8_opens 45 = .ok (.getfield 7, 3) := by decide +kernel
theorem dX8_opens_48 : decode cX8_opens 48 = .ok (.sipush 262, 3) := by decide +kernel
theorem dX8_opens_51 : decode cX8_opens 51 = .ok (.iload 6, 2) := by decide +kernel
theorem dX8_opens_53 : decode cX8_opens 53 = .ok (.iadd, 1) := by decide +kernel
theorem dX8_opens_54 : decode cX8_opens 54 = .ok (.iaload, 1) := by decide +kernel
theorem dX8_opens_55 : decode cX8_opens 55 = .ok (.bipush 100, 2) := by decide +kernel
theorem dX8_opens_57 : decode cX8_opens 57 = .ok (.iload_n 1, 1) := by decide +kernel
theorem dX8_opens_58 : decode cX8_opens 58 = .ok (.imul, 1) := by decide +kernel
theorem dX8_opens_59 : decode cX8_opens 59 = .ok (.iload_n 2, 1) := by decide +kernel
theorem dX8_opens_60 : decode cX8_opens 60 = .ok (.iadd, 1) := by decide +kernel
theorem dX8_opens_61 : decode cX8_opens 61 = .ok (.if_icmp .ne 8, 3) := by decide +kernel
theorem dX8_opens_64 : decode cX8_opens 64 = .ok (.iload 6, 2) := by decide +kernel
theorem dX8_opens_66 : decode cX8_opens 66 = .ok (.goto 5, 3) := by decide +kernel
theorem dX8_opens_69 : decode cX8_opens 69 = .ok (.iload 5, 2) := by decide +kernel
theorem dX8_opens_71 : decode cX8_opens 71 = .ok (.istore 5, 2) := by decide +kernel
theorem dX8_opens_73 : decode cX8_opens 73 = .ok (.iinc 6 1, 3) := by decide +kernel
theorem dX8_opens_76 : decode cX8_opens 76 = .ok (.goto (-45), 3) := by decide +kernel
theorem dX8_opens_79 : decode cX8_opens 79 = .ok (.iload 5, 2) := by decide +kernel
theorem dX8_opens_81 : decode cX8_opens 81 = .ok (.ifCond .lt 24, 3) := by decide +kernel
theorem dX8_opens_84 : decode cX8_opens 84 = .ok (.aload_n 0, 1) := by decide +kernel
theorem dX8_opens_85 : decode cX8_opens 85 = .ok (.getfield 7, 3) := by decide +kernel
theorem dX8_opens_88 : decode cX8_opens 88 = .ok (.sipush 271, 3) := by decide +kernel
theorem dX8_opens_91 : decode cX8_opens 91 = .ok (.dup2, 1) := by decide +kernel
theorem dX8_opens_92 : decode cX8_opens 92 = .ok (.iaload, 1) := by decide +kernel
theorem dX8_opens_93 : decode cX8_opens 93 = .ok (.iconst 1, 1) := by decide +kernel
theorem dX8_opens_94 : decode cX8_opens 94 = .ok (.iadd, 1) := by decide +kernel
theorem dX8_opens_95 : decode cX8_opens 95 = .ok (.iastore, 1) := by decide +kernel
theorem dX8_opens_96 : decode cX8_opens 96 = .ok (.aload_n 0, 1) := by decide +kernel
theorem dX8_opens_97 : decode cX8_opens 97 = .ok (.iload 5, 2) := by decide +kernel
theorem dX8_opens_99 : decode cX8_opens 99 = .ok (.invokevirtual 52, 3) := by decide +kernel
theorem dX8_opens_102 : decode cX8_opens 102 = .ok (.goto 23, 3) := by decide +kernel
theorem dX8_opens_105 : decode cX8_opens 105 = .ok (.aload_n 0, 1) := by decide +kernel
theorem dX8_opens_106 : decode cX8_opens 106 = .ok (.getfield 7, 3) := by decide +kernel
theorem dX8_opens_109 : decode cX8_opens 109 = .ok (.sipush 270, 3) := by decide +kernel
theorem dX8_opens_112 : decode cX8_opens 112 = .ok (.dup2, 1) := by decide +kernel
theorem dX8_opens_113 : decode cX8_opens 113 = .ok (.iaload, 1) := by decide +kernel
theorem dX8_opens_114 : decode cX8_opens 114 = .ok (.aload_n 0, 1) := by decide +kernel
theorem dX8_opens_115 : decode cX8_opens 115 = .ok (.iload_n 1, 1) := by decide +kernel
theorem dX8_opens_116 : decode cX8_opens 116 = .ok (.iload_n 2, 1) := by decide +kernel
theorem dX8_opens_117 : decode cX8_opens 117 = .ok (.iload_n 3, 1) := by decide +kernel
theorem dX8_opens_118 : decode cX8_opens 118 = .ok (.iload 4, 2) := by decide +kernel
theorem dX8_opens_120 : decode cX8_opens 120 = .ok (.invokevirtual 135, 3) := by decide +kernel
theorem dX8_opens_123 : decode cX8_opens 123 = .ok (.iadd, 1) := by decide +kernel
theorem dX8_opens_124 : decode cX8_opens 124 = .ok (.iastore, 1) := by decide +kernel
theorem dX8_opens_125 : decode cX8_opens 125 = .ok (.aload_n 0, 1) := by decide +kernel
theorem dX8_opens_126 : decode cX8_opens 126 = .ok (.getfield 7, 3) := by decide +kernel
theorem dX8_opens_129 : decode cX8_opens 129 = .ok (.sipush 260, 3) := by decide +kernel
theorem dX8_opens_132 : decode cX8_opens 132 = .ok (.iaload, 1) := by decide +kernel
theorem dX8_opens_133 : decode cX8_opens 133 = .ok (.ifCond .le 62, 3) := by decide +kernel
theorem dX8_opens_136 : decode cX8_opens 136 = .ok (.aload_n 0, 1) := by decide +kernel
theorem dX8_opens_137 : decode cX8_opens 137 = .ok (.getfield 7, 3) := by decide +kernel
theorem dX8_opens_140 : decode cX8_opens 140 = .ok (.sipush 261, 3) := by decide +kernel
theorem dX8_opens_143 : decode cX8_opens 143 = .ok (.iaload, 1) := by decide +kernel
theorem dX8_opens_144 : decode cX8_opens 144 = .ok (.aload_n 0, 1) := by decide +kernel
theorem dX8_opens_145 : decode cX8_opens 145 = .ok (.getfield 7, 3) := by decide +kernel
theorem dX8_opens_148 : decode cX8_opens 148 = .ok (.sipush 260, 3) := by decide +kernel
theorem dX8_opens_151 : decode cX8_opens 151 = .ok (.iaload, 1) := by decide +kernel
theorem dX8_opens_152 : decode cX8_opens 152 = .ok (.if_icmp .ne 8, 3) := by decide +kernel
theorem dX8_opens_155 : decode cX8_opens 155 = .ok (.aload_n 0, 1) := by decide +kernel
theorem dX8_opens_156 : decode cX8_opens 156 = .ok (.iconst 0, 1) := by decide +kernel
theorem dX8_opens_157 : decode cX8_opens 157 = .ok (.invokevirtual 52, 3) := by decide +kernel
theorem dX8_opens_160 : decode cX8_opens 160 = .ok (.aload_n 0, 1) := by decide +kernel
theorem dX8_opens_161 : decode cX8_opens 161 = .ok (.getfield 7, 3) := by decide +kernel
theorem dX8_opens_164 : decode cX8_opens 164 = .ok (.sipush 262, 3) := by decide +kernel
theorem dX8_opens_167 : decode cX8_opens 167 = .ok (.aload_n 0, 1) := by decide +kernel
theorem dX8_opens_168 : decode cX8_opens 168 = .ok (.getfield 7, 3) := by decide +kernel
theorem dX8_opens_171 : decode cX8_opens 171 = .ok (.sipush 261, 3) := by decide +kernel
theorem dX8_opens_174 : decode cX8_opens 174 = .ok (.iaload, 1) := by decide +kernel
theorem dX8_opens_175 : decode cX8_opens 175 = .ok (.iadd, 1) := by decide +kernel
theorem dX8_opens_176 : decode cX8_opens 176 = .ok (.bipush 100, 2) := by decide +kernel
theorem dX8_opens_178 : decode cX8_opens 178 = .ok (.iload_n 1, 1) := by decide +kernel
theorem dX8_opens_179 : decode cX8_opens 179 = .ok (.imul, 1) := by decide +kernel
theorem dX8_opens_180 : decode cX8_opens 180 = .ok (.iload_n 2, 1) := by decide +kernel
theorem dX8_opens_181 : decode cX8_opens 181 = .ok (.iadd, 1) := by decide +kernel
theorem dX8_opens_182 : decode cX8_opens 182 = .ok (.iastore, 1) := by decide +kernel
theorem dX8_opens_183 : decode cX8_opens 183 = .ok (.aload_n 0, 1) := by decide +kernel
theorem dX8_opens_184 : decode cX8_opens 184 = .ok (.getfield 7, 3) := by decide +kernel
theorem dX8_opens_187 : decode cX8_opens 187 = .ok (.sipush 261, 3) := by decide +kernel
theorem dX8_opens_190 : decode cX8_opens 190 = .ok (.dup2, 1) := by decide +kernel
theorem dX8_opens_191 : decode cX8_opens 191 = .ok (.iaload, 1) := by decide +kernel
theorem dX8_opens_192 : decode cX8_opens 192 = .ok (.iconst 1, 1) := by decide +kernel
theorem dX8_opens_193 : decode cX8_opens 193 = .ok (.iadd, 1) := by decide +kernel
theorem dX8_opens_194 : decode cX8_opens 194 = .ok (.iastore, 1) := by decide +kernel
theorem dX8_opens_195 : decode cX8_opens 195 = .ok (.aload_n 0, 1) := by decide +kernel
theorem dX8_opens_196 : decode cX8_opens 196 = .ok (.iload_n 1, 1) := by decide +kernel
theorem dX8_opens_197 : decode cX8_opens 197 = .ok (.iload 4, 2) := by decide +kernel
theorem dX8_opens_199 : decode cX8_opens 199 = .ok (.invokevirtual 56, 3) := by decide +kernel
theorem dX8_opens_202 : decode cX8_opens 202 = .ok (.ireturn, 1) := by decide +kernel
theorem dX8_asks_0 : decode cX8_asks 0 = .ok (.aload_n 0, 1) := by decide +kernel
theorem dX8_asks_1 : decode cX8_asks 1 = .ok (.iload_n 1, 1) := by decide +kernel
theorem dX8_asks_2 : decode cX8_asks 2 = .ok (.invokevirtual 114, 3) := by decide +kernel
theorem dX8_asks_5 : decode cX8_asks 5 = .ok (.iconst 0, 1) := by decide +kernel
theorem dX8_asks_6 : decode cX8_asks 6 = .ok (.istore_n 3, 1) := by decide +kernel
theorem dX8_asks_7 : decode cX8_asks 7 = .ok (.iload_n 3, 1) := by decide +kernel
theorem dX8_asks_8 : decode cX8_asks 8 = .ok (.aload_n 0, 1) := by decide +kernel
theorem dX8_asks_9 : decode cX8_asks 9 = .ok (.getfield 19, 3) := by decide +kernel
theorem dX8_asks_12 : decode cX8_asks 12 = .ok (.iload_n 1, 1) := by decide +kernel
theorem dX8_asks_13 : decode cX8_asks 13 = .ok (.iaload, 1) := by decide +kernel
theorem dX8_asks_14 : decode cX8_asks 14 = .ok (.if_icmp .ge 58, 3) := by decide +kernel
theorem dX8_asks_17 : decode cX8_asks 17 = .ok (.aload_n 0, 1) := by decide +kernel
theorem dX8_asks_18 : decode cX8_asks 18 = .ok (.getfield 7, 3) := by decide +kernel
theorem dX8_asks_21 : decode cX8_asks 21 = .ok (.sipush 270, 3) := by decide +kernel
theorem dX8_asks_24 : decode cX8_asks 24 = .ok (.dup2, 1) := by decide +kernel
theorem dX8_asks_25 : decode cX8_asks 25 = .ok (.iaload, 1) := by decide +kernel
theorem dX8_asks_26 : decode cX8_asks 26 = .ok (.iconst 1, 1) := by decide +kernel
theorem dX8_asks_27 : decode cX8_asks 27 = .ok (.iadd, 1) := by decide +kernel
theorem dX8_asks_28 : decode cX8_asks 28 = .ok (.iastore, 1) := by decide +kernel
theorem dX8_asks_29 : decode cX8_asks 29 = .ok (.aload_n 0, 1) := by decide +kernel
theorem dX8_asks_30 : decode cX8_asks 30 = .ok (.iload_n 1, 1) := by decide +kernel
theorem dX8_asks_31 : decode cX8_asks 31 = .ok (.iload_n 3, 1) := by decide +kernel
theorem dX8_asks_32 : decode cX8_asks 32 = .ok (.invokevirtual 99, 3) := by decide +kernel
theorem dX8_asks_35 : decode cX8_asks 35 = .ok (.iload_n 2, 1) := by decide +kernel
theorem dX8_asks_36 : decode cX8_asks 36 = .ok (.if_icmp .lt 30, 3) := by decide +kernel
theorem dX8_asks_39 : decode cX8_asks 39 = .ok (.iload_n 2, 1) := by decide +kernel
theorem dX8_asks_40 : decode cX8_asks 40 = .ok (.aload_n 0, 1) := by decide +kernel
theorem dX8_asks_41 : decode cX8_asks 41 = .ok (.iload_n 1, 1) := by decide +kernel
theorem dX8_asks_42 : decode cX8_asks 42 = .ok (.iload_n 3, 1) := by decide +kernel
theorem dX8_asks_43 : decode cX8_asks 43 = .ok (.invokevirtual 102, 3) := by decide +kernel
theorem dX8_asks_46 : decode cX8_asks 46 = .ok (.if_icmp .gt 12, 3) := by decide +kernel
theorem dX8_asks_49 : decode cX8_asks 49 = .ok (.aload_n 0, 1) := by decide +kernel
theorem dX8_asks_50 : decode cX8_asks 50 = .ok (.iload_n 1, 1) := by decide +kernel
theorem dX8_asks_51 : decode cX8_asks 51 = .ok (.iload_n 3, 1) := by decide +kernel
theorem dX8_asks_52 : decode cX8_asks 52 = .ok (.invokevirtual 102, 3) := by decide +kernel
theorem dX8_asks_55 : decode cX8_asks 55 = .ok (.goto 10, 3) := by decide +kernel
theorem dX8_asks_58 : decode cX8_asks 58 = .ok (.aload_n 0, 1) := by decide +kernel
theorem dX8_asks_59 : decode cX8_asks 59 = .ok (.iload_n 1, 1) := by decide +kernel
theorem dX8_asks_60 : decode cX8_asks 60 = .ok (.iload_n 3, 1) := by decide +kernel
theorem dX8_asks_61 : decode cX8_asks 61 = .ok (.iload_n 2, 1) := by decide +kernel
theorem dX8_asks_62 : decode cX8_asks 62 = .ok (.invokevirtual 139, 3) := by decide +kernel
theorem dX8_asks_65 : decode cX8_asks 65 = .ok (.ireturn, 1) := by decide +kernel
theorem dX8_asks_66 : decode cX8_asks 66 = .ok (.iinc 3 1, 3) := by decide +kernel
theorem dX8_asks_69 : decode cX8_asks 69 = .ok (.goto (-62), 3) := by decide +kernel
theorem dX8_asks_72 : decode cX8_asks 72 = .ok (.iconst (-1), 1) := by decide +kernel
theorem dX8_asks_73 : decode cX8_asks 73 = .ok (.ireturn, 1) := by decide +kernel
theorem dX8_nextAtLeast_0 : decode cX8_nextAtLeast 0 = .ok (.aload_n 0, 1) := by decide +kernel
theorem dX8_nextAtLeast_1 : decode cX8_nextAtLeast 1 = .ok (.iconst 0, 1) := by decide +kernel
theorem dX8_nextAtLeast_2 : decode cX8_nextAtLeast 2 = .ok (.putfield 41, 3) := by decide +kernel
theorem dX8_nextAtLeast_5 : decode cX8_nextAtLeast 5 = .ok (.iload_n 1, 1) := by decide +kernel
theorem dX8_nextAtLeast_6 : decode cX8_nextAtLeast 6 = .ok (.invokestatic 60, 3) := by decide +kernel
theorem dX8_nextAtLeast_9 : decode cX8_nextAtLeast 9 = .ok (.ifCond .ne 9, 3) := by decide +kernel
theorem dX8_nextAtLeast_12 : decode cX8_nextAtLeast 12 = .ok (.aload_n 0, 1) := by decide +kernel
theorem dX8_nextAtLeast_13 : decode cX8_nextAtLeast 13 = .ok (.iconst 1, 1) := by decide +kernel
theorem dX8_nextAtLeast_14 : decode cX8_nextAtLeast 14 = .ok (.invokevirtual 64, 3) := by decide +kernel
theorem dX8_nextAtLeast_17 : decode cX8_nextAtLeast 17 = .ok (.ireturn, 1) := by decide +kernel
theorem dX8_nextAtLeast_18 : decode cX8_nextAtLeast 18 = .ok (.iload_n 2, 1) := by decide +kernel
theorem dX8_nextAtLeast_19 : decode cX8_nextAtLeast 19 = .ok (.iconst 0, 1) := by decide +kernel
theorem dX8_nextAtLeast_20 : decode cX8_nextAtLeast 20 = .ok (.sipush 511, 3) := by decide +kernel
theorem dX8_nextAtLeast_23 : decode cX8_nextAtLeast 23 = .ok (.invokestatic 45, 3) := by decide +kernel
theorem dX8_nextAtLeast_26 : decode cX8_nextAtLeast 26 = .ok (.ifCond .ne 9, 3) := by decide +kernel
theorem dX8_nextAtLeast_29 : decode cX8_nextAtLeast 29 = .ok (.aload_n 0, 1) := by decide +kernel
theorem dX8_nextAtLeast_30 : decode cX8_nextAtLeast 30 = .ok (.iconst 2, 1) := by decide +kernel
theorem dX8_nextAtLeast_31 : decode cX8_nextAtLeast 31 = .ok (.invokevirtual 64, 3) := by decide +kernel
theorem dX8_nextAtLeast_34 : decode cX8_nextAtLeast 34 = .ok (.ireturn, 1) := by decide +kernel
theorem dX8_nextAtLeast_35 : decode cX8_nextAtLeast 35 = .ok (.aload_n 0, 1) := by decide +kernel
theorem dX8_nextAtLeast_36 : decode cX8_nextAtLeast 36 = .ok (.invokevirtual 72, 3) := by decide +kernel
theorem dX8_nextAtLeast_39 : decode cX8_nextAtLeast 39 = .ok (.aload_n 0, 1) := by decide +kernel
theorem dX8_nextAtLeast_40 : decode cX8_nextAtLeast 40 = .ok (.iload_n 1, 1) := by decide +kernel
theorem dX8_nextAtLeast_41 : decode cX8_nextAtLeast 41 = .ok (.iload_n 2, 1) := by decide +kernel
theorem dX8_nextAtLeast_42 : decode cX8_nextAtLeast 42 = .ok (.invokevirtual 142, 3) := by decide +kernel
theorem dX8_nextAtLeast_45 : decode cX8_nextAtLeast 45 = .ok (.ireturn, 1) := by decide +kernel
theorem dX8_meets_0 : decode cX8_meets 0 = .ok (.iconst 0, 1) := by decide +kernel
theorem dX8_meets_1 : decode cX8_meets 1 = .ok (.istore_n 2, 1) := by decide +kernel
theorem dX8_meets_2 : decode cX8_meets 2 = .ok (.iconst 0, 1) := by decide +kernel
theorem dX8_meets_3 : decode cX8_meets 3 = .ok (.istore_n 3, 1) := by decide +kernel
theorem dX8_meets_4 : decode cX8_meets 4 = .ok (.iload_n 3, 1) := by decide +kernel
theorem dX8_meets_5 : decode cX8_meets 5 = .ok (.sipush 260, 3) := by decide +kernel
theorem dX8_meets_8 : decode cX8_meets 8 = .ok (.if_icmp .ge 48, 3) := by decide +kernel
theorem dX8_meets_11 : decode cX8_meets 11 = .ok (.iload_n 3, 1) := by decide +kernel
theorem dX8_meets_12 : decode cX8_meets 12 = .ok (.iconst 4, 1) := by decide +kernel
theorem dX8_meets_13 : decode cX8_meets 13 = .ok (.irem, 1) := by decide +kernel
theorem dX8_meets_14 : decode cX8_meets 14 = .ok (.istore 4, 2) := by decide +kernel
theorem dX8_meets_16 : decode cX8_meets 16 = .ok (.iload_n 1, 1) := by decide +kernel
theorem dX8_meets_17 : decode cX8_meets 17 = .ok (.iload 4, 2) := by decide +kernel
theorem dX8_meets_19 : decode cX8_meets 19 = .ok (.ishr, 1) := by decide +kernel
theorem dX8_meets_20 : decode cX8_meets 20 = .ok (.iconst 1, 1) := by decide +kernel
theorem dX8_meets_21 : decode cX8_meets 21 = .ok (.iand, 1) := by decide +kernel
theorem dX8_meets_22 : decode cX8_meets 22 = .ok (.iconst 1, 1) := by decide +kernel
theorem dX8_meets_23 : decode cX8_meets 23 = .ok (.if_icmp .ne 27, 3) := by decide +kernel
theorem dX8_meets_26 : decode cX8_meets 26 = .ok (.aload_n 0, 1) := by decide +kernel
theorem dX8_meets_27 : decode cX8_meets 27 = .ok (.getfield 7, 3) := by decide +kernel
theorem dX8_meets_30 : decode cX8_meets 30 = .ok (.iload 4, 2) := by decide +kernel
theorem dX8_meets_32 : decode cX8_meets 32 = .ok (.iaload, 1) := by decide +kernel
theorem dX8_meets_33 : decode cX8_meets 33 = .ok (.iload_n 3, 1) := by decide +kernel
theorem dX8_meets_34 : decode cX8_meets 34 = .ok (.iconst 4, 1) := by decide +kernel
theorem dX8_meets_35 : decode cX8_meets 35 = .ok (.idiv, 1) := by decide +kernel
theorem dX8_meets_36 : decode cX8_meets 36 = .ok (.if_icmp .ne 14, 3) := by decide +kernel
theorem dX8_meets_39 : decode cX8_meets 39 = .ok (.aload_n 0, 1) := by decide +kernel
theorem dX8_meets_40 : decode cX8_meets 40 = .ok (.getfield 38, 3) := by decide +kernel
theorem dX8_meets_43 : decode cX8_meets 43 = .ok (.iload_n 2, 1) := by decide +kernel
theorem dX8_meets_44 : decode cX8_meets 44 = .ok (.iload 4, 2) := by decide +kernel
theorem dX8_meets_46 : decode cX8_meets 46 = .ok (.iastore, 1) := by decide +kernel
theorem dX8_meets_47 : decode cX8_meets 47 = .ok (.iinc 2 1, 3) := by decide +kernel
theorem dX8_meets_50 : decode cX8_meets 50 = .ok (.iinc 3 1, 3) := by decide +kernel
theorem dX8_meets_53 : decode cX8_meets 53 = .ok (.goto (-49), 3) := by decide +kernel
theorem dX8_meets_56 : decode cX8_meets 56 = .ok (.iconst 0, 1) := by decide +kernel
theorem dX8_meets_57 : decode cX8_meets 57 = .ok (.istore_n 3, 1) := by decide +kernel
theorem dX8_meets_58 : decode cX8_meets 58 = .ok (.aload_n 0, 1) := by decide +kernel
theorem dX8_meets_59 : decode cX8_meets 59 = .ok (.aload_n 0, 1) := by decide +kernel
theorem dX8_meets_60 : decode cX8_meets 60 = .ok (.getfield 38, 3) := by decide +kernel
theorem dX8_meets_63 : decode cX8_meets 63 = .ok (.iconst 0, 1) := by decide +kernel
theorem dX8_meets_64 : decode cX8_meets 64 = .ok (.iaload, 1) := by decide +kernel
theorem dX8_meets_65 : decode cX8_meets 65 = .ok (.iconst 0, 1) := by decide +kernel
theorem dX8_meets_66 : decode cX8_meets 66 = .ok (.invokevirtual 142, 3) := by decide +kernel
theorem dX8_meets_69 : decode cX8_meets 69 = .ok (.istore 4, 2) := by decide +kernel
theorem dX8_meets_71 : decode cX8_meets 71 = .ok (.iload 4, 2) := by decide +kernel
theorem dX8_meets_73 : decode cX8_meets 73 = .ok (.iconst (-1), 1) := by decide +kernel
theorem dX8_meets_74 : decode cX8_meets 74 = .ok (.if_icmp .eq 120, 3) := by decide +kernel
theorem dX8_meets_77 : decode cX8_meets 77 = .ok (.iload 4, 2) := by decide +kernel
theorem dX8_meets_79 : decode cX8_meets 79 = .ok (.istore 5, 2) := by decide +kernel
theorem dX8_meets_81 : decode cX8_meets 81 = .ok (.iconst 1, 1) := by decide +kernel
theorem dX8_meets_82 : decode cX8_meets 82 = .ok (.istore 6, 2) := by decide +kernel
theorem dX8_meets_84 : decode cX8_meets 84 = .ok (.iload 6, 2) := by decide +kernel
theorem dX8_meets_86 : decode cX8_meets 86 = .ok (.iload_n 2, 1) := by decide +kernel
theorem dX8_meets_87 : decode cX8_meets 87 = .ok (.if_icmp .ge 31, 3) := by decide +kernel
theorem dX8_meets_90 : decode cX8_meets 90 = .ok (.iload 5, 2) := by decide +kernel
theorem dX8_meets_92 : decode cX8_meets 92 = .ok (.iload 4, 2) := by decide +kernel
theorem dX8_meets_94 : decode cX8_meets 94 = .ok (.if_icmp .ne 24, 3) := by decide +kernel
theorem dX8_meets_97 : decode cX8_meets 97 = .ok (.aload_n 0, 1) := by decide +kernel
theorem dX8_meets_98 : decode cX8_meets 98 = .ok (.aload_n 0, 1) := by decide +kernel
theorem dX8_meets_99 : decode cX8_meets 99 = .ok (.getfield 38, 3) := by decide +kernel
theorem dX8_meets_102 : decode cX8_meets 102 = .ok (.iload 6, 2) := by decide +kernel
theorem dX8_meets_104 : decode cX8_meets 104 = .ok (.iaload, 1) := by decide +kernel
theorem dX8_meets_105 : decode cX8_meets 105 = .ok (.iload 4, 2) := by decide +kernel
theorem dX8_meets_107 : decode cX8_meets 107 = .ok (.invokevirtual 142, 3) := by decide +kernel
theorem dX8_meets_110 : decode cX8_meets 110 = .ok (.istore 5, 2) := by decide +kernel
theorem dX8_meets_112 : decode cX8_meets 112 = .ok (.iinc 6 1, 3) := by decide +kernel
theorem dX8_meets_115 : decode cX8_meets 115 = .ok (.goto (-31), 3) := by decide +kernel
theorem dX8_meets_118 : decode cX8_meets 118 = .ok (.iload 5, 2) := by decide +kernel
theorem dX8_meets_120 : decode cX8_meets 120 = .ok (.iload 4, 2) := by decide +kernel
theorem dX8_meets_122 : decode cX8_meets 122 = .ok (.if_icmp .ne 45, 3) := by decide +kernel
theorem dX8_meets_125 : decode cX8_meets 125 = .ok (.aload_n 0, 1) := by decide +kernel
theorem dX8_meets_126 : decode cX8_meets 126 = .ok (.getfield 35, 3) := by decide +kernel
theorem dX8_meets_129 : decode cX8_meets 129 = .ok (.iload_n 3, 1) := by decide +kernel
theorem dX8_meets_130 : decode cX8_meets 130 = .ok (.iload 4, 2) := by decide +kernel
theorem dX8_meets_132 : decode cX8_meets 132 = .ok (.iastore, 1) := by decide +kernel
theorem dX8_meets_133 : decode cX8_meets 133 = .ok (.iinc 3 1, 3) := by decide +kernel
theorem dX8_meets_136 : decode cX8_meets 136 = .ok (.iload 4, 2) := by decide +kernel
theorem dX8_meets_138 : decode cX8_meets 138 = .ok (.sipush 511, 3) := by decide +kernel
theorem dX8_meets_141 : decode cX8_meets 141 = .ok (.if_icmp .ne 7, 3) := by decide +kernel
theorem dX8_meets_144 : decode cX8_meets 144 = .ok (.iconst (-1), 1) := by decide +kernel
theorem dX8_meets_145 : decode cX8_meets 145 = .ok (.goto 17, 3) := by decide +kernel
theorem dX8_meets_148 : decode cX8_meets 148 = .ok (.aload_n 0, 1) := by decide +kernel
theorem dX8_meets_149 : decode cX8_meets 149 = .ok (.aload_n 0, 1) := by decide +kernel
theorem dX8_meets_150 : decode cX8_meets 150 = .ok (.getfield 38, 3) := by decide +kernel
theorem dX8_meets_153 : decode cX8_meets 153 = .ok (.iconst 0, 1) := by decide +kernel
theorem dX8_meets_154 : decode cX8_meets 154 = .ok (.iaload, 1) := by decide +kernel
theorem dX8_meets_155 : decode cX8_meets 155 = .ok (.iload 4, 2) := by decide +kernel
theorem dX8_meets_157 : decode cX8_meets 157 = .ok (.iconst 1, 1) := by decide +kernel
theorem dX8_meets_158 : decode cX8_meets 158 = .ok (.iadd, 1) := by decide +kernel
theorem dX8_meets_159 : decode cX8_meets 159 = .ok (.invokevirtual 142, 3) := by decide +kernel
theorem dX8_meets_162 : decode cX8_meets 162 = .ok (.istore 4, 2) := by decide +kernel
theorem dX8_meets_164 : decode cX8_meets 164 = .ok (.goto 27, 3) := by decide +kernel
theorem dX8_meets_167 : decode cX8_meets 167 = .ok (.iload 5, 2) := by decide +kernel
theorem dX8_meets_169 : decode cX8_meets 169 = .ok (.iconst (-1), 1) := by decide +kernel
theorem dX8_meets_170 : decode cX8_meets 170 = .ok (.if_icmp .ne 7, 3) := by decide +kernel
theorem dX8_meets_173 : decode cX8_meets 173 = .ok (.iconst (-1), 1) := by decide +kernel
theorem dX8_meets_174 : decode cX8_meets 174 = .ok (.goto 15, 3) := by decide +kernel
theorem dX8_meets_177 : decode cX8_meets 177 = .ok (.aload_n 0, 1) := by decide +kernel
theorem dX8_meets_178 : decode cX8_meets 178 = .ok (.aload_n 0, 1) := by decide +kernel
theorem dX8_meets_179 : decode cX8_meets 179 = .ok (.getfield 38, 3) := by decide +kernel
theorem dX8_meets_182 : decode cX8_meets 182 = .ok (.iconst 0, 1) := by decide +kernel
theorem dX8_meets_183 : decode cX8_meets 183 = .ok (.iaload, 1) := by decide +kernel
theorem dX8_meets_184 : decode cX8_meets 184 = .ok (.iload 5, 2) := by decide +kernel
theorem dX8_meets_186 : decode cX8_meets 186 = .ok (.invokevirtual 142, 3) := by decide +kernel
theorem dX8_meets_189 : decode cX8_meets 189 = .ok (.istore 4, 2) := by decide +kernel
theorem dX8_meets_191 : decode cX8_meets 191 = .ok (.goto (-120), 3) := by decide +kernel
theorem dX8_meets_194 : decode cX8_meets 194 = .ok (.iload_n 3, 1) := by decide +kernel
theorem dX8_meets_195 : decode cX8_meets 195 = .ok (.ireturn, 1) := by decide +kernel
theorem dX8_isSet_0 : decode cX8_isSet 0 = .ok (.iload_n 0, 1) := by decide +kernel
theorem dX8_isSet_1 : decode cX8_isSet 1 = .ok (.iconst 1, 1) := by decide +kernel
theorem dX8_isSet_2 : decode cX8_isSet 2 = .ok (.bipush 15, 2) := by decide +kernel
theorem dX8_isSet_4 : decode cX8_isSet 4 = .ok (.invokestatic 45, 3) := by decide +kernel
theorem dX8_isSet_7 : decode cX8_isSet 7 = .ok (.ireturn, 1) := by decide +kernel
theorem dX8_countIntersection_0 : decode cX8_countIntersection 0 = .ok (.aload_n 0, 1) := by decide +kernel
theorem dX8_countIntersection_1 : decode cX8_countIntersection 1 = .ok (.iconst 0, 1) := by decide +kernel
theorem dX8_countIntersection_2 : decode cX8_countIntersection 2 = .ok (.putfield 41, 3) := by decide +kernel
theorem dX8_countIntersection_5 : decode cX8_countIntersection 5 = .ok (.iload_n 1, 1) := by decide +kernel
theorem dX8_countIntersection_6 : decode cX8_countIntersection 6 = .ok (.invokestatic 145, 3) := by decide +kernel
theorem dX8_countIntersection_9 : decode cX8_countIntersection 9 = .ok (.ifCond .ne 9, 3) := by decide +kernel
theorem dX8_countIntersection_12 : decode cX8_countIntersection 12 = .ok (.aload_n 0, 1) := by decide +kernel
theorem dX8_countIntersection_13 : decode cX8_countIntersection 13 = .ok (.iconst 1, 1) := by decide +kernel
theorem dX8_countIntersection_14 : decode cX8_countIntersection 14 = .ok (.invokevirtual 64, 3) := by decide +kernel
theorem dX8_countIntersection_17 : decode cX8_countIntersection 17 = .ok (.ireturn, 1) := by decide +kernel
theorem dX8_countIntersection_18 : decode cX8_countIntersection 18 = .ok (.aload_n 0, 1) := by decide +kernel
theorem dX8_countIntersection_19 : decode cX8_countIntersection 19 = .ok (.invokevirtual 72, 3) := by decide +kernel
theorem dX8_countIntersection_22 : decode cX8_countIntersection 22 = .ok (.aload_n 0, 1) := by decide +kernel
theorem dX8_countIntersection_23 : decode cX8_countIntersection 23 = .ok (.iload_n 1, 1) := by decide +kernel
theorem dX8_countIntersection_24 : decode cX8_countIntersection 24 = .ok (.invokevirtual 148, 3) := by decide +kernel
theorem dX8_countIntersection_27 : decode cX8_countIntersection 27 = .ok (.ireturn, 1) := by decide +kernel
theorem dX8_writes_0 : decode cX8_writes 0 = .ok (.aload_n 0, 1) := by decide +kernel
theorem dX8_writes_1 : decode cX8_writes 1 = .ok (.iload_n 1, 1) := by decide +kernel
theorem dX8_writes_2 : decode cX8_writes 2 = .ok (.invokevirtual 75, 3) := by decide +kernel
theorem dX8_writes_5 : decode cX8_writes 5 = .ok (.aload_n 0, 1) := by decide +kernel
theorem dX8_writes_6 : decode cX8_writes 6 = .ok (.getfield 7, 3) := by decide +kernel
theorem dX8_writes_9 : decode cX8_writes 9 = .ok (.iload_n 1, 1) := by decide +kernel
theorem dX8_writes_10 : decode cX8_writes 10 = .ok (.iconst 0, 1) := by decide +kernel
theorem dX8_writes_11 : decode cX8_writes 11 = .ok (.iastore, 1) := by decide +kernel
theorem dX8_writes_12 : decode cX8_writes 12 = .ok (.iconst 0, 1) := by decide +kernel
theorem dX8_writes_13 : decode cX8_writes 13 = .ok (.istore_n 3, 1) := by decide +kernel
theorem dX8_writes_14 : decode cX8_writes 14 = .ok (.iload_n 3, 1) := by decide +kernel
theorem dX8_writes_15 : decode cX8_writes 15 = .ok (.iload_n 2, 1) := by decide +kernel
theorem dX8_writes_16 : decode cX8_writes 16 = .ok (.if_icmp .ge 20, 3) := by decide +kernel
theorem dX8_writes_19 : decode cX8_writes 19 = .ok (.aload_n 0, 1) := by decide +kernel
theorem dX8_writes_20 : decode cX8_writes 20 = .ok (.iload_n 1, 1) := by decide +kernel
theorem dX8_writes_21 : decode cX8_writes 21 = .ok (.aload_n 0, 1) := by decide +kernel
theorem dX8_writes_22 : decode cX8_writes 22 = .ok (.getfield 35, 3) := by decide +kernel
theorem dX8_writes_25 : decode cX8_writes 25 = .ok (.iload_n 3, 1) := by decide +kernel
theorem dX8_writes_26 : decode cX8_writes 26 = .ok (.iaload, 1) := by decide +kernel
theorem dX8_writes_27 : decode cX8_writes 27 = .ok (.invokevirtual 78, 3) := by decide +kernel
theorem dX8_writes_30 : decode cX8_writes 30 = .ok (.iinc 3 1, 3) := by decide +kernel
theorem dX8_writes_33 : decode cX8_writes 33 = .ok (.goto (-19), 3) := by decide +kernel
theorem dX8_writes_36 : decode cX8_writes 36 = .ok (.iload_n 2, 1) := by decide +kernel
theorem dX8_writes_37 : decode cX8_writes 37 = .ok (.ireturn, 1) := by decide +kernel
theorem dX8_intersect_0 : decode cX8_intersect 0 = .ok (.aload_n 0, 1) := by decide +kernel
theorem dX8_intersect_1 : decode cX8_intersect 1 = .ok (.iconst 0, 1) := by decide +kernel
theorem dX8_intersect_2 : decode cX8_intersect 2 = .ok (.putfield 41, 3) := by decide +kernel
theorem dX8_intersect_5 : decode cX8_intersect 5 = .ok (.iload_n 1, 1) := by decide +kernel
theorem dX8_intersect_6 : decode cX8_intersect 6 = .ok (.invokestatic 145, 3) := by decide +kernel
theorem dX8_intersect_9 : decode cX8_intersect 9 = .ok (.ifCond .ne 9, 3) := by decide +kernel
theorem dX8_intersect_12 : decode cX8_intersect 12 = .ok (.aload_n 0, 1) := by decide +kernel
theorem dX8_intersect_13 : decode cX8_intersect 13 = .ok (.iconst 1, 1) := by decide +kernel
theorem dX8_intersect_14 : decode cX8_intersect 14 = .ok (.invokevirtual 64, 3) := by decide +kernel
theorem dX8_intersect_17 : decode cX8_intersect 17 = .ok (.ireturn, 1) := by decide +kernel
theorem dX8_intersect_18 : decode cX8_intersect 18 = .ok (.iload_n 2, 1) := by decide +kernel
theorem dX8_intersect_19 : decode cX8_intersect 19 = .ok (.invokestatic 60, 3) := by decide +kernel
theorem dX8_intersect_22 : decode cX8_intersect 22 = .ok (.ifCond .ne 9, 3) := by decide +kernel
theorem dX8_intersect_25 : decode cX8_intersect 25 = .ok (.aload_n 0, 1) := by decide +kernel
theorem dX8_intersect_26 : decode cX8_intersect 26 = .ok (.iconst 2, 1) := by decide +kernel
theorem dX8_intersect_27 : decode cX8_intersect 27 = .ok (.invokevirtual 64, 3) := by decide +kernel
theorem dX8_intersect_30 : decode cX8_intersect 30 = .ok (.ireturn, 1) := by decide +kernel
theorem dX8_intersect_31 : decode cX8_intersect 31 = .ok (.aload_n 0, 1) := by decide +kernel
theorem dX8_intersect_32 : decode cX8_intersect 32 = .ok (.invokevirtual 72, 3) := by decide +kernel
theorem dX8_intersect_35 : decode cX8_intersect 35 = .ok (.aload_n 0, 1) := by decide +kernel
theorem dX8_intersect_36 : decode cX8_intersect 36 = .ok (.iload_n 2, 1) := by decide +kernel
theorem dX8_intersect_37 : decode cX8_intersect 37 = .ok (.aload_n 0, 1) := by decide +kernel
theorem dX8_intersect_38 : decode cX8_intersect 38 = .ok (.iload_n 1, 1) := by decide +kernel
theorem dX8_intersect_39 : decode cX8_intersect 39 = .ok (.invokevirtual 148, 3) := by decide +kernel
theorem dX8_intersect_42 : decode cX8_intersect 42 = .ok (.invokevirtual 151, 3) := by decide +kernel
theorem dX8_intersect_45 : decode cX8_intersect 45 = .ok (.ireturn, 1) := by decide +kernel
theorem dX8_has_0 : decode cX8_has 0 = .ok (.iconst 0, 1) := by decide +kernel
theorem dX8_has_1 : decode cX8_has 1 = .ok (.istore_n 3, 1) := by decide +kernel
theorem dX8_has_2 : decode cX8_has 2 = .ok (.iconst 0, 1) := by decide +kernel
theorem dX8_has_3 : decode cX8_has 3 = .ok (.istore 4, 2) := by decide +kernel
theorem dX8_has_5 : decode cX8_has 5 = .ok (.iload 4, 2) := by decide +kernel
theorem dX8_has_7 : decode cX8_has 7 = .ok (.aload_n 0, 1) := by decide +kernel
theorem dX8_has_8 : decode cX8_has 8 = .ok (.getfield 7, 3) := by decide +kernel
theorem dX8_has_11 : decode cX8_has 11 = .ok (.iload_n 1, 1) := by decide +kernel
theorem dX8_has_12 : decode cX8_has 12 = .ok (.iaload, 1) := by decide +kernel
theorem dX8_has_13 : decode cX8_has 13 = .ok (.if_icmp .ge 30, 3) := by decide +kernel
theorem dX8_has_16 : decode cX8_has 16 = .ok (.iload_n 3, 1) := by decide +kernel
theorem dX8_has_17 : decode cX8_has 17 = .ok (.ifCond .ne 14, 3) := by decide +kernel
theorem dX8_has_20 : decode cX8_has 20 = .ok (.aload_n 0, 1) := by decide +kernel
theorem dX8_has_21 : decode cX8_has 21 = .ok (.iload_n 1, 1) := by decide +kernel
theorem dX8_has_22 : decode cX8_has 22 = .ok (.iload 4, 2) := by decide +kernel
theorem dX8_has_24 : decode cX8_has 24 = .ok (.invokevirtual 56, 3) := by decide +kernel
theorem dX8_has_27 : decode cX8_has 27 = .ok (.iload_n 2, 1) := by decide +kernel
theorem dX8_has_28 : decode cX8_has 28 = .ok (.if_icmp .ne 7, 3) := by decide +kernel
theorem dX8_has_31 : decode cX8_has 31 = .ok (.iconst 1, 1) := by decide +kernel
theorem dX8_has_32 : decode cX8_has 32 = .ok (.goto 4, 3) := by decide +kernel
theorem dX8_has_35 : decode cX8_has 35 = .ok (.iconst 0, 1) := by decide +kernel
theorem dX8_has_36 : decode cX8_has 36 = .ok (.istore_n 3, 1) := by decide +kernel
theorem dX8_has_37 : decode cX8_has 37 = .ok (.iinc 4 1, 3) := by decide +kernel
theorem dX8_has_40 : decode cX8_has 40 = .ok (.goto (-35), 3) := by decide +kernel
theorem dX8_has_43 : decode cX8_has 43 = .ok (.iload_n 3, 1) := by decide +kernel
theorem dX8_has_44 : decode cX8_has 44 = .ok (.ireturn, 1) := by decide +kernel
theorem dX8_unite_0 : decode cX8_unite 0 = .ok (.aload_n 0, 1) := by decide +kernel
theorem dX8_unite_1 : decode cX8_unite 1 = .ok (.iconst 0, 1) := by decide +kernel
theorem dX8_unite_2 : decode cX8_unite 2 = .ok (.putfield 41, 3) := by decide +kernel
theorem dX8_unite_5 : decode cX8_unite 5 = .ok (.iload_n 1, 1) := by decide +kernel
theorem dX8_unite_6 : decode cX8_unite 6 = .ok (.invokestatic 60, 3) := by decide +kernel
theorem dX8_unite_9 : decode cX8_unite 9 = .ok (.ifCond .eq 17, 3) := by decide +kernel
theorem dX8_unite_12 : decode cX8_unite 12 = .ok (.iload_n 2, 1) := by decide +kernel
theorem dX8_unite_13 : decode cX8_unite 13 = .ok (.invokestatic 60, 3) := by decide +kernel
theorem dX8_unite_16 : decode cX8_unite 16 = .ok (.ifCond .eq 10, 3) := by decide +kernel
theorem dX8_unite_19 : decode cX8_unite 19 = .ok (.iload_n 3, 1) := by decide +kernel
theorem dX8_unite_20 : decode cX8_unite 20 = .ok (.invokestatic 60, 3) := by decide +kernel
theorem dX8_unite_23 : decode cX8_unite 23 = .ok (.ifCond .ne 9, 3) := by decide +kernel
theorem dX8_unite_26 : decode cX8_unite 26 = .ok (.aload_n 0, 1) := by decide +kernel
theorem dX8_unite_27 : decode cX8_unite 27 = .ok (.iconst 1, 1) := by decide +kernel
theorem dX8_unite_28 : decode cX8_unite 28 = .ok (.invokevirtual 64, 3) := by decide +kernel
theorem dX8_unite_31 : decode cX8_unite 31 = .ok (.ireturn, 1) := by decide +kernel
theorem dX8_unite_32 : decode cX8_unite 32 = .ok (.iconst 0, 1) := by decide +kernel
theorem dX8_unite_33 : decode cX8_unite 33 = .ok (.istore 4, 2) := by decide +kernel
theorem dX8_unite_35 : decode cX8_unite 35 = .ok (.iconst 0, 1) := by decide +kernel
theorem dX8_unite_36 : decode cX8_unite 36 = .ok (.istore 5, 2) := by decide +kernel
theorem dX8_unite_38 : decode cX8_unite 38 = .ok (.iload 5, 2) := by decide +kernel
theorem dX8_unite_40 : decode cX8_unite 40 = .ok (.sipush 511, 3) := by decide +kernel
theorem dX8_unite_43 : decode cX8_unite 43 = .ok (.if_icmp .gt 41, 3) := by decide +kernel
theorem dX8_unite_46 : decode cX8_unite 46 = .ok (.aload_n 0, 1) := by decide +kernel
theorem dX8_unite_47 : decode cX8_unite 47 = .ok (.iload_n 1, 1) := by decide +kernel
theorem dX8_unite_48 : decode cX8_unite 48 = .ok (.iload 5, 2) := by decide +kernel
theorem dX8_unite_50 : decode cX8_unite 50 = .ok (.invokevirtual 154, 3) := by decide +kernel
theorem dX8_unite_53 : decode cX8_unite 53 = .ok (.ifCond .ne 13, 3) := by decide +kernel
theorem dX8_unite_56 : decode cX8_unite 56 = .ok (.aload_n 0, 1) := by decide +kernel
theorem dX8_unite_57 : decode cX8_unite 57 = .ok (.iload_n 2, 1) := by decide +kernel
theorem dX8_unite_58 : decode cX8_unite 58 = .ok (.iload 5, 2) := by decide +kernel
theorem dX8_unite_60 : decode cX8_unite 60 = .ok (.invokevirtual 154, 3) := by decide +kernel
theorem dX8_unite_63 : decode cX8_unite 63 = .ok (.ifCond .eq 15, 3) := by decide +kernel
theorem dX8_unite_66 : decode cX8_unite 66 = .ok (.aload_n 0, 1) := by decide +kernel
theorem dX8_unite_67 : decode cX8_unite 67 = .ok (.getfield 35, 3) := by decide +kernel
theorem dX8_unite_70 : decode cX8_unite 70 = .ok (.iload 4, 2) := by decide +kernel
theorem dX8_unite_72 : decode cX8_unite 72 = .ok (.iload 5, 2) := by decide +kernel
theorem dX8_unite_74 : decode cX8_unite 74 = .ok (.iastore, 1) := by decide +kernel
theorem dX8_unite_75 : decode cX8_unite 75 = .ok (.iinc 4 1, 3) := by decide +kernel
theorem dX8_unite_78 : decode cX8_unite 78 = .ok (.iinc 5 1, 3) := by decide +kernel
theorem dX8_unite_81 : decode cX8_unite 81 = .ok (.goto (-43), 3) := by decide +kernel
theorem dX8_unite_84 : decode cX8_unite 84 = .ok (.iload 4, 2) := by decide +kernel
theorem dX8_unite_86 : decode cX8_unite 86 = .ok (.bipush 64, 2) := by decide +kernel
theorem dX8_unite_88 : decode cX8_unite 88 = .ok (.if_icmp .le 9, 3) := by decide +kernel
theorem dX8_unite_91 : decode cX8_unite 91 = .ok (.aload_n 0, 1) := by decide +kernel
theorem dX8_unite_92 : decode cX8_unite 92 = .ok (.iconst 2, 1) := by decide +kernel
theorem dX8_unite_93 : decode cX8_unite 93 = .ok (.invokevirtual 64, 3) := by decide +kernel
theorem dX8_unite_96 : decode cX8_unite 96 = .ok (.ireturn, 1) := by decide +kernel
theorem dX8_unite_97 : decode cX8_unite 97 = .ok (.aload_n 0, 1) := by decide +kernel
theorem dX8_unite_98 : decode cX8_unite 98 = .ok (.invokevirtual 72, 3) := by decide +kernel
theorem dX8_unite_101 : decode cX8_unite 101 = .ok (.aload_n 0, 1) := by decide +kernel
theorem dX8_unite_102 : decode cX8_unite 102 = .ok (.iload_n 3, 1) := by decide +kernel
theorem dX8_unite_103 : decode cX8_unite 103 = .ok (.iload 4, 2) := by decide +kernel
theorem dX8_unite_105 : decode cX8_unite 105 = .ok (.invokevirtual 151, 3) := by decide +kernel
theorem dX8_unite_108 : decode cX8_unite 108 = .ok (.ireturn, 1) := by decide +kernel
theorem dX8_subtract_0 : decode cX8_subtract 0 = .ok (.aload_n 0, 1) := by decide +kernel
theorem dX8_subtract_1 : decode cX8_subtract 1 = .ok (.iconst 0, 1) := by decide +kernel
theorem dX8_subtract_2 : decode cX8_subtract 2 = .ok (.putfield 41, 3) := by decide +kernel
theorem dX8_subtract_5 : decode cX8_subtract 5 = .ok (.iload_n 1, 1) := by decide +kernel
theorem dX8_subtract_6 : decode cX8_subtract 6 = .ok (.invokestatic 60, 3) := by decide +kernel
theorem dX8_subtract_9 : decode cX8_subtract 9 = .ok (.ifCond .eq 17, 3) := by decide +kernel
theorem dX8_subtract_12 : decode cX8_subtract 12 = .ok (.iload_n 2, 1) := by decide +kernel
theorem dX8_subtract_13 : decode cX8_subtract 13 = .ok (.invokestatic 60, 3) := by decide +kernel
theorem dX8_subtract_16 : decode cX8_subtract 16 = .ok (.ifCond .eq 10, 3) := by decide +kernel
theorem dX8_subtract_19 : decode cX8_subtract 19 = .ok (.iload_n 3, 1) := by decide +kernel
theorem dX8_subtract_20 : decode cX8_subtract 20 = .ok (.invokestatic 60, 3) := by decide +kernel
theorem dX8_subtract_23 : decode cX8_subtract 23 = .ok (.ifCond .ne 9, 3) := by decide +kernel
theorem dX8_subtract_26 : decode cX8_subtract 26 = .ok (.aload_n 0, 1) := by decide +kernel
theorem dX8_subtract_27 : decode cX8_subtract 27 = .ok (.iconst 1, 1) := by decide +kernel
theorem dX8_subtract_28 : decode cX8_subtract 28 = .ok (.invokevirtual 64, 3) := by decide +kernel
theorem dX8_subtract_31 : decode cX8_subtract 31 = .ok (.ireturn, 1) := by decide +kernel
theorem dX8_subtract_32 : decode cX8_subtract 32 = .ok (.iconst 0, 1) := by decide +kernel
theorem dX8_subtract_33 : decode cX8_subtract 33 = .ok (.istore 4, 2) := by decide +kernel
theorem dX8_subtract_35 : decode cX8_subtract 35 = .ok (.iconst 0, 1) := by decide +kernel
theorem dX8_subtract_36 : decode cX8_subtract 36 = .ok (.istore 5, 2) := by decide +kernel
theorem dX8_subtract_38 : decode cX8_subtract 38 = .ok (.iload 5, 2) := by decide +kernel
theorem dX8_subtract_40 : decode cX8_subtract 40 = .ok (.aload_n 0, 1) := by decide +kernel
theorem dX8_subtract_41 : decode cX8_subtract 41 = .ok (.getfield 7, 3) := by decide +kernel
theorem dX8_subtract_44 : decode cX8_subtract 44 = .ok (.iload_n 1, 1) := by decide +kernel
theorem dX8_subtract_45 : decode cX8_subtract 45 = .ok (.iaload, 1) := by decide +kernel
theorem dX8_subtract_46 : decode cX8_subtract 46 = .ok (.if_icmp .ge 41, 3) := by decide +kernel
theorem dX8_subtract_49 : decode cX8_subtract 49 = .ok (.aload_n 0, 1) := by decide +kernel
theorem dX8_subtract_50 : decode cX8_subtract 50 = .ok (.iload_n 2, 1) := by decide +kernel
theorem dX8_subtract_51 : decode cX8_subtract 51 = .ok (.aload_n 0, 1) := by decide +kernel
theorem dX8_subtract_52 : decode cX8_subtract 52 = .ok (.iload_n 1, 1) := by decide +kernel
theorem dX8_subtract_53 : decode cX8_subtract 53 = .ok (.iload 5, 2) := by decide +kernel
theorem dX8_subtract_55 : decode cX8_subtract 55 = .ok (.invokevirtual 56, 3) := by decide +kernel
theorem dX8_subtract_58 : decode cX8_subtract 58 = .ok (.invokevirtual 154, 3) := by decide +kernel
theorem dX8_subtract_61 : decode cX8_subtract 61 = .ok (.ifCond .ne 20, 3) := by decide +kernel
theorem dX8_subtract_64 : decode cX8_subtract 64 = .ok (.aload_n 0, 1) := by decide +kernel
theorem dX8_subtract_65 : decode cX8_subtract 65 = .ok (.getfield 35, 3) := by decide +kernel
theorem dX8_subtract_68 : decode cX8_subtract 68 = .ok (.iload 4, 2) := by decide +kernel
theorem dX8_subtract_70 : decode cX8_subtract 70 = .ok (.aload_n 0, 1) := by decide +kernel
theorem dX8_subtract_71 : decode cX8_subtract 71 = .ok (.iload_n 1, 1) := by decide +kernel
theorem dX8_subtract_72 : decode cX8_subtract 72 = .ok (.iload 5, 2) := by decide +kernel
theorem dX8_subtract_74 : decode cX8_subtract 74 = .ok (.invokevirtual 56, 3) := by decide +kernel
theorem dX8_subtract_77 : decode cX8_subtract 77 = .ok (.iastore, 1) := by decide +kernel
theorem dX8_subtract_78 : decode cX8_subtract 78 = .ok (.iinc 4 1, 3) := by decide +kernel
theorem dX8_subtract_81 : decode cX8_subtract 81 = .ok (.iinc 5 1, 3) := by decide +kernel
theorem dX8_subtract_84 : decode cX8_subtract 84 = .ok (.goto (-46), 3) := by decide +kernel
theorem dX8_subtract_87 : decode cX8_subtract 87 = .ok (.aload_n 0, 1) := by decide +kernel
theorem dX8_subtract_88 : decode cX8_subtract 88 = .ok (.invokevirtual 72, 3) := by decide +kernel
theorem dX8_subtract_91 : decode cX8_subtract 91 = .ok (.aload_n 0, 1) := by decide +kernel
theorem dX8_subtract_92 : decode cX8_subtract 92 = .ok (.iload_n 3, 1) := by decide +kernel
theorem dX8_subtract_93 : decode cX8_subtract 93 = .ok (.iload 4, 2) := by decide +kernel
theorem dX8_subtract_95 : decode cX8_subtract 95 = .ok (.invokevirtual 151, 3) := by decide +kernel
theorem dX8_subtract_98 : decode cX8_subtract 98 = .ok (.ireturn, 1) := by decide +kernel
theorem dX8_reads_0 : decode cX8_reads 0 = .ok (.aload_n 0, 1) := by decide +kernel
theorem dX8_reads_1 : decode cX8_reads 1 = .ok (.iconst 0, 1) := by decide +kernel
theorem dX8_reads_2 : decode cX8_reads 2 = .ok (.putfield 41, 3) := by decide +kernel
theorem dX8_reads_5 : decode cX8_reads 5 = .ok (.aload_n 0, 1) := by decide +kernel
theorem dX8_reads_6 : decode cX8_reads 6 = .ok (.getfield 7, 3) := by decide +kernel
theorem dX8_reads_9 : decode cX8_reads 9 = .ok (.sipush 270, 3) := by decide +kernel
theorem dX8_reads_12 : decode cX8_reads 12 = .ok (.iaload, 1) := by decide +kernel
theorem dX8_reads_13 : decode cX8_reads 13 = .ok (.ireturn, 1) := by decide +kernel
theorem dX8_hits_0 : decode cX8_hits 0 = .ok (.aload_n 0, 1) := by decide +kernel
theorem dX8_hits_1 : decode cX8_hits 1 = .ok (.iconst 0, 1) := by decide +kernel
theorem dX8_hits_2 : decode cX8_hits 2 = .ok (.putfield 41, 3) := by decide +kernel
theorem dX8_hits_5 : decode cX8_hits 5 = .ok (.aload_n 0, 1) := by decide +kernel
theorem dX8_hits_6 : decode cX8_hits 6 = .ok (.getfield 7, 3) := by decide +kernel
theorem dX8_hits_9 : decode cX8_hits 9 = .ok (.sipush 271, 3) := by decide +kernel
theorem dX8_hits_12 : decode cX8_hits 12 = .ok (.iaload, 1) := by decide +kernel
theorem dX8_hits_13 : decode cX8_hits 13 = .ok (.ireturn, 1) := by decide +kernel
theorem dX8_setCapacity_0 : decode cX8_setCapacity 0 = .ok (.aload_n 0, 1) := by decide +kernel
theorem dX8_setCapacity_1 : decode cX8_setCapacity 1 = .ok (.iconst 0, 1) := by decide +kernel
theorem dX8_setCapacity_2 : decode cX8_setCapacity 2 = .ok (.putfield 41, 3) := by decide +kernel
theorem dX8_setCapacity_5 : decode cX8_setCapacity 5 = .ok (.iload_n 1, 1) := by decide +kernel
theorem dX8_setCapacity_6 : decode cX8_setCapacity 6 = .ok (.iconst 0, 1) := by decide +kernel
theorem dX8_setCapacity_7 : decode cX8_setCapacity 7 = .ok (.bipush 8, 2) := by decide +kernel
theorem dX8_setCapacity_9 : decode cX8_setCapacity 9 = .ok (.invokestatic 45, 3) := by decide +kernel
theorem dX8_setCapacity_12 : decode cX8_setCapacity 12 = .ok (.ifCond .ne 9, 3) := by decide +kernel
theorem dX8_setCapacity_15 : decode cX8_setCapacity 15 = .ok (.aload_n 0, 1) := by decide +kernel
theorem dX8_setCapacity_16 : decode cX8_setCapacity 16 = .ok (.iconst 1, 1) := by decide +kernel
theorem dX8_setCapacity_17 : decode cX8_setCapacity 17 = .ok (.invokevirtual 64, 3) := by decide +kernel
theorem dX8_setCapacity_20 : decode cX8_setCapacity 20 = .ok (.ireturn, 1) := by decide +kernel
theorem dX8_setCapacity_21 : decode cX8_setCapacity 21 = .ok (.aload_n 0, 1) := by decide +kernel
theorem dX8_setCapacity_22 : decode cX8_setCapacity 22 = .ok (.invokevirtual 72, 3) := by decide +kernel
theorem dX8_setCapacity_25 : decode cX8_setCapacity 25 = .ok (.aload_n 0, 1) := by decide +kernel
theorem dX8_setCapacity_26 : decode cX8_setCapacity 26 = .ok (.getfield 7, 3) := by decide +kernel
theorem dX8_setCapacity_29 : decode cX8_setCapacity 29 = .ok (.sipush 260, 3) := by decide +kernel
theorem dX8_setCapacity_32 : decode cX8_setCapacity 32 = .ok (.iaload, 1) := by decide +kernel
theorem dX8_setCapacity_33 : decode cX8_setCapacity 33 = .ok (.istore_n 2, 1) := by decide +kernel
theorem dX8_setCapacity_34 : decode cX8_setCapacity 34 = .ok (.aload_n 0, 1) := by decide +kernel
theorem dX8_setCapacity_35 : decode cX8_setCapacity 35 = .ok (.getfield 7, 3) := by decide +kernel
theorem dX8_setCapacity_38 : decode cX8_setCapacity 38 = .ok (.sipush 260, 3) := by decide +kernel
theorem dX8_setCapacity_41 : decode cX8_setCapacity 41 = .ok (.iload_n 1, 1) := by decide +kernel
theorem dX8_setCapacity_42 : decode cX8_setCapacity 42 = .ok (.iastore, 1) := by decide +kernel
theorem dX8_setCapacity_43 : decode cX8_setCapacity 43 = .ok (.aload_n 0, 1) := by decide +kernel
theorem dX8_setCapacity_44 : decode cX8_setCapacity 44 = .ok (.getfield 7, 3) := by decide +kernel
theorem dX8_setCapacity_47 : decode cX8_setCapacity 47 = .ok (.sipush 261, 3) := by decide +kernel
theorem dX8_setCapacity_50 : decode cX8_setCapacity 50 = .ok (.iaload, 1) := by decide +kernel
theorem dX8_setCapacity_51 : decode cX8_setCapacity 51 = .ok (.iload_n 1, 1) := by decide +kernel
theorem dX8_setCapacity_52 : decode cX8_setCapacity 52 = .ok (.if_icmp .le 11, 3) := by decide +kernel
theorem dX8_setCapacity_55 : decode cX8_setCapacity 55 = .ok (.aload_n 0, 1) := by decide +kernel
theorem dX8_setCapacity_56 : decode cX8_setCapacity 56 = .ok (.iconst 0, 1) := by decide +kernel
theorem dX8_setCapacity_57 : decode cX8_setCapacity 57 = .ok (.invokevirtual 52, 3) := by decide +kernel
theorem dX8_setCapacity_60 : decode cX8_setCapacity 60 = .ok (.goto (-17), 3) := by decide +kernel
theorem dX8_setCapacity_63 : decode cX8_setCapacity 63 = .ok (.iload_n 2, 1) := by decide +kernel
theorem dX8_setCapacity_64 : decode cX8_setCapacity 64 = .ok (.ireturn, 1) := by decide +kernel
theorem dX8_cached_0 : decode cX8_cached 0 = .ok (.aload_n 0, 1) := by decide +kernel
theorem dX8_cached_1 : decode cX8_cached 1 = .ok (.iconst 0, 1) := by decide +kernel
theorem dX8_cached_2 : decode cX8_cached 2 = .ok (.putfield 41, 3) := by decide +kernel
theorem dX8_cached_5 : decode cX8_cached 5 = .ok (.aload_n 0, 1) := by decide +kernel
theorem dX8_cached_6 : decode cX8_cached 6 = .ok (.getfield 7, 3) := by decide +kernel
theorem dX8_cached_9 : decode cX8_cached 9 = .ok (.sipush 261, 3) := by decide +kernel
theorem dX8_cached_12 : decode cX8_cached 12 = .ok (.iaload, 1) := by decide +kernel
theorem dX8_cached_13 : decode cX8_cached 13 = .ok (.ireturn, 1) := by decide +kernel
theorem dX8_cachedAt_0 : decode cX8_cachedAt 0 = .ok (.aload_n 0, 1) := by decide +kernel
theorem dX8_cachedAt_1 : decode cX8_cachedAt 1 = .ok (.iconst 0, 1) := by decide +kernel
theorem dX8_cachedAt_2 : decode cX8_cachedAt 2 = .ok (.putfield 41, 3) := by decide +kernel
theorem dX8_cachedAt_5 : decode cX8_cachedAt 5 = .ok (.iload_n 1, 1) := by decide +kernel
theorem dX8_cachedAt_6 : decode cX8_cachedAt 6 = .ok (.iconst 0, 1) := by decide +kernel
theorem dX8_cachedAt_7 : decode cX8_cachedAt 7 = .ok (.aload_n 0, 1) := by decide +kernel
theorem dX8_cachedAt_8 : decode cX8_cachedAt 8 = .ok (.getfield 7, 3) := by decide +kernel
theorem dX8_cachedAt_11 : decode cX8_cachedAt 11 = .ok (.sipush 261, 3) := by decide +kernel
theorem dX8_cachedAt_14 : decode cX8_cachedAt 14 = .ok (.iaload, 1) := by decide +kernel
theorem dX8_cachedAt_15 : decode cX8_cachedAt 15 = .ok (.iconst 1, 1) := by decide +kernel
theorem dX8_cachedAt_16 : decode cX8_cachedAt 16 = .ok (.isub, 1) := by decide +kernel
theorem dX8_cachedAt_17 : decode cX8_cachedAt 17 = .ok (.invokestatic 45, 3) := by decide +kernel
theorem dX8_cachedAt_20 : decode cX8_cachedAt 20 = .ok (.ifCond .eq 16, 3) := by decide +kernel
theorem dX8_cachedAt_23 : decode cX8_cachedAt 23 = .ok (.aload_n 0, 1) := by decide +kernel
theorem dX8_cachedAt_24 : decode cX8_cachedAt 24 = .ok (.getfield 7, 3) := by decide +kernel
theorem dX8_cachedAt_27 : decode cX8_cachedAt 27 = .ok (.sipush 262, 3) := by decide +kernel
theorem dX8_cachedAt_30 : decode cX8_cachedAt 30 = .ok (.iload_n 1, 1) := by decide +kernel
theorem dX8_cachedAt_31 : decode cX8_cachedAt 31 = .ok (.iadd, 1) := by decide +kernel
theorem dX8_cachedAt_32 : decode cX8_cachedAt 32 = .ok (.iaload, 1) := by decide +kernel
theorem dX8_cachedAt_33 : decode cX8_cachedAt 33 = .ok (.goto 8, 3) := by decide +kernel
theorem dX8_cachedAt_36 : decode cX8_cachedAt 36 = .ok (.aload_n 0, 1) := by decide +kernel
theorem dX8_cachedAt_37 : decode cX8_cachedAt 37 = .ok (.iconst 1, 1) := by decide +kernel
theorem dX8_cachedAt_38 : decode cX8_cachedAt 38 = .ok (.invokevirtual 64, 3) := by decide +kernel
theorem dX8_cachedAt_41 : decode cX8_cachedAt 41 = .ok (.ireturn, 1) := by decide +kernel
theorem dX8_undo_0 : decode cX8_undo 0 = .ok (.aload_n 0, 1) := by decide +kernel
theorem dX8_undo_1 : decode cX8_undo 1 = .ok (.iconst 0, 1) := by decide +kernel
theorem dX8_undo_2 : decode cX8_undo 2 = .ok (.putfield 41, 3) := by decide +kernel
theorem dX8_undo_5 : decode cX8_undo 5 = .ok (.aload_n 0, 1) := by decide +kernel
theorem dX8_undo_6 : decode cX8_undo 6 = .ok (.getfield 49, 3) := by decide +kernel
theorem dX8_undo_9 : decode cX8_undo 9 = .ok (.ifCond .ne 9, 3) := by decide +kernel
theorem dX8_undo_12 : decode cX8_undo 12 = .ok (.aload_n 0, 1) := by decide +kernel
theorem dX8_undo_13 : decode cX8_undo 13 = .ok (.iconst 1, 1) := by decide +kernel
theorem dX8_undo_14 : decode cX8_undo 14 = .ok (.invokevirtual 64, 3) := by decide +kernel
theorem dX8_undo_17 : decode cX8_undo 17 = .ok (.ireturn, 1) := by decide +kernel
theorem dX8_undo_18 : decode cX8_undo 18 = .ok (.aload_n 0, 1) := by decide +kernel
theorem dX8_undo_19 : decode cX8_undo 19 = .ok (.dup, 1) := by decide +kernel
theorem dX8_undo_20 : decode cX8_undo 20 = .ok (.getfield 49, 3) := by decide +kernel
theorem dX8_undo_23 : decode cX8_undo 23 = .ok (.iconst 1, 1) := by decide +kernel
theorem dX8_undo_24 : decode cX8_undo 24 = .ok (.isub, 1) := by decide +kernel
theorem dX8_undo_25 : decode cX8_undo 25 = .ok (.putfield 49, 3) := by decide +kernel
theorem dX8_undo_28 : decode cX8_undo 28 = .ok (.iconst 0, 1) := by decide +kernel
theorem dX8_undo_29 : decode cX8_undo 29 = .ok (.istore_n 1, 1) := by decide +kernel
theorem dX8_undo_30 : decode cX8_undo 30 = .ok (.iload_n 1, 1) := by decide +kernel
theorem dX8_undo_31 : decode cX8_undo 31 = .ok (.sipush 272, 3) := by decide +kernel
theorem dX8_undo_34 : decode cX8_undo 34 = .ok (.if_icmp .ge 30, 3) := by decide +kernel
theorem dX8_undo_37 : decode cX8_undo 37 = .ok (.aload_n 0, 1) := by decide +kernel
theorem dX8_undo_38 : decode cX8_undo 38 = .ok (.getfield 7, 3) := by decide +kernel
theorem dX8_undo_41 : decode cX8_undo 41 = .ok (.iload_n 1, 1) := by decide +kernel
theorem dX8_undo_42 : decode cX8_undo 42 = .ok (.aload_n 0, 1) := by decide +kernel
theorem dX8_undo_43 : decode cX8_undo 43 = .ok (.getfield 13, 3) := by decide +kernel
theorem dX8_undo_46 : decode cX8_undo 46 = .ok (.sipush 272, 3) := by decide +kernel
theorem dX8_undo_49 : decode cX8_undo 49 = .ok (.aload_n 0, 1) := by decide +kernel
theorem dX8_undo_50 : decode cX8_undo 50 = .ok (.getfield 49, 3) := by decide +kernel
theorem dX8_undo_53 : decode cX8_undo 53 = .ok (.imul, 1) := by decide +kernel
theorem dX8_undo_54 : decode cX8_undo 54 = .ok (.iload_n 1, 1) := by decide +kernel
theorem dX8_undo_55 : decode cX8_undo 55 = .ok (.iadd, 1) := by decide +kernel
theorem dX8_undo_56 : decode cX8_undo 56 = .ok (.iaload, 1) := by decide +kernel
theorem dX8_undo_57 : decode cX8_undo 57 = .ok (.iastore, 1) := by decide +kernel
theorem dX8_undo_58 : decode cX8_undo 58 = .ok (.iinc 1 1, 3) := by decide +kernel
theorem dX8_undo_61 : decode cX8_undo 61 = .ok (.goto (-31), 3) := by decide +kernel
theorem dX8_undo_64 : decode cX8_undo 64 = .ok (.iconst 0, 1) := by decide +kernel
theorem dX8_undo_65 : decode cX8_undo 65 = .ok (.istore_n 1, 1) := by decide +kernel
theorem dX8_undo_66 : decode cX8_undo 66 = .ok (.iload_n 1, 1) := by decide +kernel
theorem dX8_undo_67 : decode cX8_undo 67 = .ok (.iconst 4, 1) := by decide +kernel
theorem dX8_undo_68 : decode cX8_undo 68 = .ok (.if_icmp .ge 16, 3) := by decide +kernel
theorem dX8_undo_71 : decode cX8_undo 71 = .ok (.aload_n 0, 1) := by decide +kernel
theorem dX8_undo_72 : decode cX8_undo 72 = .ok (.getfield 22, 3) := by decide +kernel
theorem dX8_undo_75 : decode cX8_undo 75 = .ok (.iload_n 1, 1) := by decide +kernel
theorem dX8_undo_76 : decode cX8_undo 76 = .ok (.iconst 0, 1) := by decide +kernel
theorem dX8_undo_77 : decode cX8_undo 77 = .ok (.bastore, 1) := by decide +kernel
theorem dX8_undo_78 : decode cX8_undo 78 = .ok (.iinc 1 1, 3) := by decide +kernel
theorem dX8_undo_81 : decode cX8_undo 81 = .ok (.goto (-15), 3) := by decide +kernel
theorem dX8_undo_84 : decode cX8_undo 84 = .ok (.aload_n 0, 1) := by decide +kernel
theorem dX8_undo_85 : decode cX8_undo 85 = .ok (.getfield 49, 3) := by decide +kernel
theorem dX8_undo_88 : decode cX8_undo 88 = .ok (.ireturn, 1) := by decide +kernel
theorem dX8_mixed_0 : decode cX8_mixed 0 = .ok (.ldc2_w 157, 3) := by decide +kernel
theorem dX8_mixed_3 : decode cX8_mixed 3 = .ok (.lload_n 0, 1) := by decide +kernel
theorem dX8_mixed_4 : decode cX8_mixed 4 = .ok (.lmul, 1) := by decide +kernel
theorem dX8_mixed_5 : decode cX8_mixed 5 = .ok (.lload_n 2, 1) := by decide +kernel
theorem dX8_mixed_6 : decode cX8_mixed 6 = .ok (.ladd, 1) := by decide +kernel
theorem dX8_mixed_7 : decode cX8_mixed 7 = .ok (.lreturn, 1) := by decide +kernel
theorem dX8_digest_0 : decode cX8_digest 0 = .ok (.aload_n 0, 1) := by decide +kernel
theorem dX8_digest_1 : decode cX8_digest 1 = .ok (.iconst 0, 1) := by decide +kernel
theorem dX8_digest_2 : decode cX8_digest 2 = .ok (.putfield 41, 3) := by decide +kernel
theorem dX8_digest_5 : decode cX8_digest 5 = .ok (.ldc2_w 159, 3) := by decide +kernel
theorem dX8_digest_8 : decode cX8_digest 8 = .ok (.lstore_n 1, 1) := by decide +kernel
theorem dX8_digest_9 : decode cX8_digest 9 = .ok (.iconst 0, 1) := by decide +kernel
theorem dX8_digest_10 : decode cX8_digest 10 = .ok (.istore_n 3, 1) := by decide +kernel
theorem dX8_digest_11 : decode cX8_digest 11 = .ok (.iload_n 3, 1) := by decide +kernel
theorem dX8_digest_12 : decode cX8_digest 12 = .ok (.iconst 4, 1) := by decide +kernel
theorem dX8_digest_13 : decode cX8_digest 13 = .ok (.if_icmp .ge 151, 3) := by decide +kernel
theorem dX8_digest_16 : decode cX8_digest 16 = .ok (.lload_n 1, 1) := by decide +kernel
theorem dX8_digest_17 : decode cX8_digest 17 = .ok (.aload_n 0, 1) := by decide +kernel
theorem dX8_digest_18 : decode cX8_digest 18 = .ok (.getfield 7, 3) := by decide +kernel
theorem dX8_digest_21 : decode cX8_digest 21 = .ok (.iload_n 3, 1) := by decide +kernel
theorem dX8_digest_22 : decode cX8_digest 22 = .ok (.iaload, 1) := by decide +kernel
theorem dX8_digest_23 : decode cX8_digest 23 = .ok (.i2l, 1) := by decide +kernel
theorem dX8_digest_24 : decode cX8_digest 24 = .ok (.invokestatic 161, 3) := by decide +kernel
theorem dX8_digest_27 : decode cX8_digest 27 = .ok (.lstore_n 1, 1) := by decide +kernel
theorem dX8_digest_28 : decode cX8_digest 28 = .ok (.iconst 0, 1) := by decide +kernel
theorem dX8_digest_29 : decode cX8_digest 29 = .ok (.istore 4, 2) := by decide +kernel
theorem dX8_digest_31 : decode cX8_digest 31 = .ok (.iload 4, 2) := by decide +kernel
theorem dX8_digest_33 : decode cX8_digest 33 = .ok (.aload_n 0, 1) := by decide +kernel
theorem dX8_digest_34 : decode cX8_digest 34 = .ok (.getfield 7, 3) := by decide +kernel
theorem dX8_digest_37 : decode cX8_digest 37 = .ok (.iload_n 3, 1) := by decide +kernel
theorem dX8_digest_38 : decode cX8_digest 38 = .ok (.iaload, 1) := by decide +kernel
theorem dX8_digest_39 : decode cX8_digest 39 = .ok (.if_icmp .ge 22, 3) := by decide +kernel
theorem dX8_digest_42 : decode cX8_digest 42 = .ok (.lload_n 1, 1) := by decide +kernel
theorem dX8_digest_43 : decode cX8_digest 43 = .ok (.aload_n 0, 1) := by decide +kernel
theorem dX8_digest_44 : decode cX8_digest 44 = .ok (.iload_n 3, 1) := by decide +kernel
theorem dX8_digest_45 : decode cX8_digest 45 = .ok (.iload 4, 2) := by decide +kernel
theorem dX8_digest_47 : decode cX8_digest 47 = .ok (.invokevirtual 56, 3) := by decide +kernel
theorem dX8_digest_50 : decode cX8_digest 50 = .ok (.i2l, 1) := by decide +kernel
theorem dX8_digest_51 : decode cX8_digest 51 = .ok (.invokestatic 161, 3) := by decide +kernel
theorem dX8_digest_54 : decode cX8_digest 54 = .ok (.lstore_n 1, 1) := by decide +kernel
theorem dX8_digest_55 : decode cX8_digest 55 = .ok (.iinc 4 1, 3) := by decide +kernel
theorem dX8_digest_58 : decode cX8_digest 58 = .ok (.goto (-27), 3) := by decide +kernel
theorem dX8_digest_61 : decode cX8_digest 61 = .ok (.aload_n 0, 1) := by decide +kernel
theorem dX8_digest_62 : decode cX8_digest 62 = .ok (.iload_n 3, 1) := by decide +kernel
theorem dX8_digest_63 : decode cX8_digest 63 = .ok (.invokevirtual 114, 3) := by decide +kernel
theorem dX8_digest_66 : decode cX8_digest 66 = .ok (.lload_n 1, 1) := by decide +kernel
theorem dX8_digest_67 : decode cX8_digest 67 = .ok (.aload_n 0, 1) := by decide +kernel
theorem dX8_digest_68 : decode cX8_digest 68 = .ok (.getfield 19, 3) := by decide +kernel
theorem dX8_digest_71 : decode cX8_digest 71 = .ok (.iload_n 3, 1) := by decide +kernel
theorem dX8_digest_72 : decode cX8_digest 72 = .ok (.iaload, 1) := by decide +kernel
theorem dX8_digest_73 : decode cX8_digest 73 = .ok (.i2l, 1) := by decide +kernel
theorem dX8_digest_74 : decode cX8_digest 74 = .ok (.invokestatic 161, 3) := by decide +kernel
theorem dX8_digest_77 : decode cX8_digest 77 = .ok (.lstore_n 1, 1) := by decide +kernel
theorem dX8_digest_78 : decode cX8_digest 78 = .ok (.iconst 0, 1) := by decide +kernel
theorem dX8_digest_79 : decode cX8_digest 79 = .ok (.istore 4, 2) := by decide +kernel
theorem dX8_digest_81 : decode cX8_digest 81 = .ok (.iload 4, 2) := by decide +kernel
theorem dX8_digest_83 : decode cX8_digest 83 = .ok (.bipush 6, 2) := by decide +kernel
theorem dX8_digest_85 : decode cX8_digest 85 = .ok (.aload_n 0, 1) := by decide +kernel
theorem dX8_digest_86 : decode cX8_digest 86 = .ok (.getfield 19, 3) := by decide +kernel
theorem dX8_digest_89 : decode cX8_digest 89 = .ok (.iload_n 3, 1) := by decide +kernel
theorem dX8_digest_90 : decode cX8_digest 90 = .ok (.iaload, 1) := by decide +kernel
theorem dX8_digest_91 : decode cX8_digest 91 = .ok (.imul, 1) := by decide +kernel
theorem dX8_digest_92 : decode cX8_digest 92 = .ok (.if_icmp .ge 30, 3) := by decide +kernel
theorem dX8_digest_95 : decode cX8_digest 95 = .ok (.lload_n 1, 1) := by decide +kernel
theorem dX8_digest_96 : decode cX8_digest 96 = .ok (.aload_n 0, 1) := by decide +kernel
theorem dX8_digest_97 : decode cX8_digest 97 = .ok (.iload_n 3, 1) := by decide +kernel
theorem dX8_digest_98 : decode cX8_digest 98 = .ok (.iload 4, 2) := by decide +kernel
theorem dX8_digest_100 : decode cX8_digest 100 = .ok (.bipush 6, 2) := by decide +kernel
theorem dX8_digest_102 : decode cX8_digest 102 = .ok (.idiv, 1) := by decide +kernel
theorem dX8_digest_103 : decode cX8_digest 103 = .ok (.iload 4, 2) := by decide +kernel
theorem dX8_digest_105 : decode cX8_digest 105 = .ok (.bipush 6, 2) := by decide +kernel
theorem dX8_digest_107 : decode cX8_digest 107 = .ok (.irem, 1) := by decide +kernel
theorem dX8_digest_108 : decode cX8_digest 108 = .ok (.invokevirtual 120, 3) := by decide +kernel
theorem dX8_digest_111 : decode cX8_digest 111 = .ok (.i2l, 1) := by decide +kernel
theorem dX8_digest_112 : decode cX8_digest 112 = .ok (.invokestatic 161, 3) := by decide +kernel
theorem dX8_digest_115 : decode cX8_digest 115 = .ok (.lstore_n 1, 1) := by decide +kernel
theorem dX8_digest_116 : decode cX8_digest 116 = .ok (.iinc 4 1, 3) := by decide +kernel
theorem dX8_digest_119 : decode cX8_digest 119 = .ok (.goto (-38), 3) := by decide +kernel
theorem dX8_digest_122 : decode cX8_digest 122 = .ok (.aload_n 0, 1) := by decide +kernel
theorem dX8_digest_123 : decode cX8_digest 123 = .ok (.iload_n 3, 1) := by decide +kernel
theorem dX8_digest_124 : decode cX8_digest 124 = .ok (.invokevirtual 123, 3) := by decide +kernel
theorem dX8_digest_127 : decode cX8_digest 127 = .ok (.istore 4, 2) := by decide +kernel
theorem dX8_digest_129 : decode cX8_digest 129 = .ok (.iconst 0, 1) := by decide +kernel
theorem dX8_digest_130 : decode cX8_digest 130 = .ok (.istore 5, 2) := by decide +kernel
theorem dX8_digest_132 : decode cX8_digest 132 = .ok (.iload 5, 2) := by decide +kernel
theorem dX8_digest_134 : decode cX8_digest 134 = .ok (.iload 4, 2) := by decide +kernel
theorem dX8_digest_136 : decode cX8_digest 136 = .ok (.if_icmp .ge 22, 3) := by decide +kernel
theorem dX8_digest_139 : decode cX8_digest 139 = .ok (.lload_n 1, 1) := by decide +kernel
theorem dX8_digest_140 : decode cX8_digest 140 = .ok (.aload_n 0, 1) := by decide +kernel
theorem dX8_digest_141 : decode cX8_digest 141 = .ok (.iload_n 3, 1) := by decide +kernel
theorem dX8_digest_142 : decode cX8_digest 142 = .ok (.iload 5, 2) := by decide +kernel
theorem dX8_digest_144 : decode cX8_digest 144 = .ok (.invokevirtual 132, 3) := by decide +kernel
theorem dX8_digest_147 : decode cX8_digest 147 = .ok (.i2l, 1) := by decide +kernel
theorem dX8_digest_148 : decode cX8_digest 148 = .ok (.invokestatic 161, 3) := by decide +kernel
theorem dX8_digest_151 : decode cX8_digest 151 = .ok (.lstore_n 1, 1) := by decide +kernel
theorem dX8_digest_152 : decode cX8_digest 152 = .ok (.iinc 5 1, 3) := by decide +kernel
theorem dX8_digest_155 : decode cX8_digest 155 = .ok (.goto (-23), 3) := by decide +kernel
theorem dX8_digest_158 : decode cX8_digest 158 = .ok (.iinc 3 1, 3) := by decide +kernel
theorem dX8_digest_161 : decode cX8_digest 161 = .ok (.goto (-150), 3) := by decide +kernel
theorem dX8_digest_164 : decode cX8_digest 164 = .ok (.lload_n 1, 1) := by decide +kernel
theorem dX8_digest_165 : decode cX8_digest 165 = .ok (.aload_n 0, 1) := by decide +kernel
theorem dX8_digest_166 : decode cX8_digest 166 = .ok (.getfield 7, 3) := by decide +kernel
theorem dX8_digest_169 : decode cX8_digest 169 = .ok (.sipush 260, 3) := by decide +kernel
theorem dX8_digest_172 : decode cX8_digest 172 = .ok (.iaload, 1) := by decide +kernel
theorem dX8_digest_173 : decode cX8_digest 173 = .ok (.i2l, 1) := by decide +kernel
theorem dX8_digest_174 : decode cX8_digest 174 = .ok (.invokestatic 161, 3) := by decide +kernel
theorem dX8_digest_177 : decode cX8_digest 177 = .ok (.aload_n 0, 1) := by decide +kernel
theorem dX8_digest_178 : decode cX8_digest 178 = .ok (.getfield 7, 3) := by decide +kernel
theorem dX8_digest_181 : decode cX8_digest 181 = .ok (.sipush 261, 3) := by decide +kernel
theorem dX8_digest_184 : decode cX8_digest 184 = .ok (.iaload, 1) := by decide +kernel
theorem dX8_digest_185 : decode cX8_digest 185 = .ok (.i2l, 1) := by decide +kernel
theorem dX8_digest_186 : decode cX8_digest 186 = .ok (.invokestatic 161, 3) := by decide +kernel
theorem dX8_digest_189 : decode cX8_digest 189 = .ok (.lstore_n 1, 1) := by decide +kernel
theorem dX8_digest_190 : decode cX8_digest 190 = .ok (.iconst 0, 1) := by decide +kernel
theorem dX8_digest_191 : decode cX8_digest 191 = .ok (.istore_n 3, 1) := by decide +kernel
theorem dX8_digest_192 : decode cX8_digest 192 = .ok (.iload_n 3, 1) := by decide +kernel
theorem dX8_digest_193 : decode cX8_digest 193 = .ok (.aload_n 0, 1) := by decide +kernel
theorem dX8_digest_194 : decode cX8_digest 194 = .ok (.getfield 7, 3) := by decide +kernel
theorem dX8_digest_197 : decode cX8_digest 197 = .ok (.sipush 261, 3) := by decide +kernel
theorem dX8_digest_200 : decode cX8_digest 200 = .ok (.iaload, 1) := by decide +kernel
theorem dX8_digest_201 : decode cX8_digest 201 = .ok (.if_icmp .ge 25, 3) := by decide +kernel
theorem dX8_digest_204 : decode cX8_digest 204 = .ok (.lload_n 1, 1) := by decide +kernel
theorem dX8_digest_205 : decode cX8_digest 205 = .ok (.aload_n 0, 1) := by decide +kernel
theorem dX8_digest_206 : decode cX8_digest 206 = .ok (.getfield 7, 3) := by decide +kernel
theorem dX8_digest_209 : decode cX8_digest 209 = .ok (.sipush 262, 3) := by decide +kernel
theorem dX8_digest_212 : decode cX8_digest 212 = .ok (.iload_n 3, 1) := by decide +kernel
theorem dX8_digest_213 : decode cX8_digest 213 = .ok (.iadd, 1) := by decide +kernel
theorem dX8_digest_214 : decode cX8_digest 214 = .ok (.iaload, 1) := by decide +kernel
theorem dX8_digest_215 : decode cX8_digest 215 = .ok (.i2l, 1) := by decide +kernel
theorem dX8_digest_216 : decode cX8_digest 216 = .ok (.invokestatic 161, 3) := by decide +kernel
theorem dX8_digest_219 : decode cX8_digest 219 = .ok (.lstore_n 1, 1) := by decide +kernel
theorem dX8_digest_220 : decode cX8_digest 220 = .ok (.iinc 3 1, 3) := by decide +kernel
theorem dX8_digest_223 : decode cX8_digest 223 = .ok (.goto (-31), 3) := by decide +kernel
theorem dX8_digest_226 : decode cX8_digest 226 = .ok (.lload_n 1, 1) := by decide +kernel
theorem dX8_digest_227 : decode cX8_digest 227 = .ok (.aload_n 0, 1) := by decide +kernel
theorem dX8_digest_228 : decode cX8_digest 228 = .ok (.getfield 7, 3) := by decide +kernel
theorem dX8_digest_231 : decode cX8_digest 231 = .ok (.sipush 270, 3) := by decide +kernel
theorem dX8_digest_234 : decode cX8_digest 234 = .ok (.iaload, 1) := by decide +kernel
theorem dX8_digest_235 : decode cX8_digest 235 = .ok (.i2l, 1) := by decide +kernel
theorem dX8_digest_236 : decode cX8_digest 236 = .ok (.invokestatic 161, 3) := by decide +kernel
theorem dX8_digest_239 : decode cX8_digest 239 = .ok (.aload_n 0, 1) := by decide +kernel
theorem dX8_digest_240 : decode cX8_digest 240 = .ok (.getfield 7, 3) := by decide +kernel
theorem dX8_digest_243 : decode cX8_digest 243 = .ok (.sipush 271, 3) := by decide +kernel
theorem dX8_digest_246 : decode cX8_digest 246 = .ok (.iaload, 1) := by decide +kernel
theorem dX8_digest_247 : decode cX8_digest 247 = .ok (.i2l, 1) := by decide +kernel
theorem dX8_digest_248 : decode cX8_digest 248 = .ok (.invokestatic 161, 3) := by decide +kernel
theorem dX8_digest_251 : decode cX8_digest 251 = .ok (.aload_n 0, 1) := by decide +kernel
theorem dX8_digest_252 : decode cX8_digest 252 = .ok (.getfield 49, 3) := by decide +kernel
theorem dX8_digest_255 : decode cX8_digest 255 = .ok (.i2l, 1) := by decide +kernel
theorem dX8_digest_256 : decode cX8_digest 256 = .ok (.invokestatic 161, 3) := by decide +kernel
theorem dX8_digest_259 : decode cX8_digest 259 = .ok (.lreturn, 1) := by decide +kernel
